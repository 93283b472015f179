theorem wm_2014 : Cond.code yX12_between cX12_between 3 (some .int) ∈ kWS := kws_at 2014 (by decide +kernel) (by decide +kernel)
theorem wm_2011 : Cond.methodLink RX12 343 yX12_between ∈ kWS := kws_at 2011 (by decide +kernel) (by decide +kernel)
theorem wm_s89 : Cond.selects RX12 yX12_between yX12_between ∈ kWS := kws_sel 89 (by decide +kernel) (by decide +kernel)
theorem wm_2013 : Cond.instanceMethod yX12_between ∈ kWS := kws_at 2013 (by decide +kernel) (by decide +kernel)
theorem lk_VRX12_343 : kLV RX12 343 yX12_between (Cond.code yX12_between cX12_between 3 (some .int)) 2 := ⟨wm_2011, wm_2013, wm_s89, wm_12, wm_2014, ⟨by decide +kernel, by decide +kernel, by decide +kernel⟩⟩
theorem n_L36 : (36 : Int32).toInt = 36 := by decide
theorem n_L216 : (216 : Int32).toInt = 216 := by decide
theorem n_L1296 : (1296 : Int32).toInt = 1296 := by decide
theorem n_L7776 : (7776 : Int32).toInt = 7776 := by decide
theorem wm_2010 : Cond.code yX12_roundOf cX12_roundOf 9 (some .int) ∈ kWS := kws_at 2010 (by decide +kernel) (by decide +kernel)
theorem wm_2007 : Cond.methodLink RX12 340 yX12_roundOf ∈ kWS := kws_at 2007 (by decide +kernel) (by decide +kernel)
theorem wm_s88 : Cond.selects RX12 yX12_roundOf yX12_roundOf ∈ kWS := kws_sel 88 (by decide +kernel) (by decide +kernel)
theorem wm_2009 : Cond.instanceMethod yX12_roundOf ∈ kWS := kws_at 2009 (by decide +kernel) (by decide +kernel)
theorem lk_VRX12_340 : kLV RX12 340 yX12_roundOf (Cond.code yX12_roundOf cX12_roundOf 9 (some .int)) 2 := ⟨wm_2007, wm_2009, wm_s88, wm_12, wm_2010, ⟨by decide +kernel, by decide +kernel, by decide +kernel⟩⟩
theorem n_L46656 : (46656 : Int32).toInt = 46656 := by decide
theorem dX12_between_0 : decode cX12_between 0 = .ok (.iload_n 1, 1) := by decide +kernel
theorem dX12_between_1 : decode cX12_between 1 = .ok (.iload_n 2, 1) := by decide +kernel
theorem dX12_between_2 : decode cX12_between 2 = .ok (.if_icmp .ne 7, 3) := by decide +kernel
theorem dX12_between_5 : decode cX12_between 5 = .ok (.iconst 0, 1) := by decide +kernel
theorem dX12_between_6 : decode cX12_between 6 = .ok (.goto 58, 3) := by decide +kernel
theorem dX12_between_9 : decode cX12_between 9 = .ok (.aload_n 0, 1) := by decide +kernel
theorem dX12_between_10 : decode cX12_between 10 = .ok (.getfield 28, 3) := by decide +kernel
theorem dX12_between_13 : decode cX12_between 13 = .ok (.iconst 1, 1) := by decide +kernel
theorem dX12_between_14 : decode cX12_between 14 = .ok (.iaload, 1) := by decide +kernel
theorem dX12_between_15 : decode cX12_between 15 = .ok (.aload_n 0, 1) := by decide +kernel
theorem dX12_between_16 : decode cX12_between 16 = .ok (.getfield 46, 3) := by decide +kernel
theorem dX12_between_19 : decode cX12_between 19 = .ok (.iload_n 1, 1) := by decide +kernel
theorem dX12_between_20 : decode cX12_between 20 = .ok (.aaload, 1) := by decide +kernel
theorem dX12_between_21 : decode cX12_between 21 = .ok (.iconst 0, 1) := by decide +kernel
theorem dX12_between_22 : decode cX12_between 22 = .ok (.iaload, 1) := by decide +kernel
theorem dX12_between_23 : decode cX12_between 23 = .ok (.aload_n 0, 1) := by decide +kernel
theorem dX12_between_24 : decode cX12_between 24 = .ok (.getfield 46, 3) := by decide +kernel
theorem dX12_between_27 : decode cX12_between 27 = .ok (.iload_n 2, 1) := by decide +kernel
theorem dX12_between_28 : decode cX12_between 28 = .ok (.aaload, 1) := by decide +kernel
theorem dX12_between_29 : decode cX12_between 29 = .ok (.iconst 0, 1) := by decide +kernel
theorem dX12_between_30 : decode cX12_between 30 = .ok (.iaload, 1) := by decide +kernel
theorem dX12_between_31 : decode cX12_between 31 = .ok (.isub, 1) := by decide +kernel
theorem dX12_between_32 : decode cX12_between 32 = .ok (.invokestatic 223, 3) := by decide +kernel
theorem dX12_between_35 : decode cX12_between 35 = .ok (.aload_n 0, 1) := by decide +kernel
theorem dX12_between_36 : decode cX12_between 36 = .ok (.getfield 46, 3) := by decide +kernel
theorem dX12_between_39 : decode cX12_between 39 = .ok (.iload_n 1, 1) := by decide +kernel
theorem dX12_between_40 : decode cX12_between 40 = .ok (.aaload, 1) := by decide +kernel
theorem dX12_between_41 : decode cX12_between 41 = .ok (.iconst 1, 1) := by decide +kernel
theorem dX12_between_42 : decode cX12_between 42 = .ok (.iaload, 1) := by decide +kernel
theorem dX12_between_43 : decode cX12_between 43 = .ok (.aload_n 0, 1) := by decide +kernel
theorem dX12_between_44 : decode cX12_between 44 = .ok (.getfield 46, 3) := by decide +kernel
theorem dX12_between_47 : decode cX12_between 47 = .ok (.iload_n 2, 1) := by decide +kernel
theorem dX12_between_48 : decode cX12_between 48 = .ok (.aaload, 1) := by decide +kernel
theorem dX12_between_49 : decode cX12_between 49 = .ok (.iconst 1, 1) := by decide +kernel
theorem dX12_between_50 : decode cX12_between 50 = .ok (.iaload, 1) := by decide +kernel
theorem dX12_between_51 : decode cX12_between 51 = .ok (.isub, 1) := by decide +kernel
theorem dX12_between_52 : decode cX12_between 52 = .ok (.invokestatic 223, 3) := by decide +kernel
theorem dX12_between_55 : decode cX12_between 55 = .ok (.iadd, 1) := by decide +kernel
theorem dX12_between_56 : decode cX12_between 56 = .ok (.aload_n 0, 1) := by decide +kernel
theorem dX12_between_57 : decode cX12_between 57 = .ok (.getfield 28, 3) := by decide +kernel
theorem dX12_between_60 : decode cX12_between 60 = .ok (.iconst 2, 1) := by decide +kernel
theorem dX12_between_61 : decode cX12_between 61 = .ok (.iaload, 1) := by decide +kernel
theorem dX12_between_62 : decode cX12_between 62 = .ok (.idiv, 1) := by decide +kernel
theorem dX12_between_63 : decode cX12_between 63 = .ok (.iadd, 1) := by decide +kernel
theorem dX12_between_64 : decode cX12_between 64 = .ok (.ireturn, 1) := by decide +kernel
theorem dX12_roundOf_0 : decode cX12_roundOf 0 = .ok (.iconst 0, 1) := by decide +kernel
theorem dX12_roundOf_1 : decode cX12_roundOf 1 = .ok (.istore_n 3, 1) := by decide +kernel
theorem dX12_roundOf_2 : decode cX12_roundOf 2 = .ok (.iconst 0, 1) := by decide +kernel
theorem dX12_roundOf_3 : decode cX12_roundOf 3 = .ok (.istore 4, 2) := by decide +kernel
theorem dX12_roundOf_5 : decode cX12_roundOf 5 = .ok (.iload_n 1, 1) := by decide +kernel
theorem dX12_roundOf_6 : decode cX12_roundOf 6 = .ok (.iload_n 2, 1) := by decide +kernel
theorem dX12_roundOf_7 : decode cX12_roundOf 7 = .ok (.bipush 6, 2) := by decide +kernel
theorem dX12_roundOf_9 : decode cX12_roundOf 9 = .ok (.idiv, 1) := by decide +kernel
theorem dX12_roundOf_10 : decode cX12_roundOf 10 = .ok (.idiv, 1) := by decide +kernel
theorem dX12_roundOf_11 : decode cX12_roundOf 11 = .ok (.istore 5, 2) := by decide +kernel
theorem dX12_roundOf_13 : decode cX12_roundOf 13 = .ok (.iload 5, 2) := by decide +kernel
theorem dX12_roundOf_15 : decode cX12_roundOf 15 = .ok (.istore 6, 2) := by decide +kernel
theorem dX12_roundOf_17 : decode cX12_roundOf 17 = .ok (.iload_n 2, 1) := by decide +kernel
theorem dX12_roundOf_18 : decode cX12_roundOf 18 = .ok (.bipush 6, 2) := by decide +kernel
theorem dX12_roundOf_20 : decode cX12_roundOf 20 = .ok (.idiv, 1) := by decide +kernel
theorem dX12_roundOf_21 : decode cX12_roundOf 21 = .ok (.istore 7, 2) := by decide +kernel
theorem dX12_roundOf_23 : decode cX12_roundOf 23 = .ok (.iload 7, 2) := by decide +kernel
theorem dX12_roundOf_25 : decode cX12_roundOf 25 = .ok (.ifCond .le 67, 3) := by decide +kernel
theorem dX12_roundOf_28 : decode cX12_roundOf 28 = .ok (.iload_n 1, 1) := by decide +kernel
theorem dX12_roundOf_29 : decode cX12_roundOf 29 = .ok (.iload 7, 2) := by decide +kernel
theorem dX12_roundOf_31 : decode cX12_roundOf 31 = .ok (.idiv, 1) := by decide +kernel
theorem dX12_roundOf_32 : decode cX12_roundOf 32 = .ok (.bipush 6, 2) := by decide +kernel
theorem dX12_roundOf_34 : decode cX12_roundOf 34 = .ok (.irem, 1) := by decide +kernel
theorem dX12_roundOf_35 : decode cX12_roundOf 35 = .ok (.istore 8, 2) := by decide +kernel
theorem dX12_roundOf_37 : decode cX12_roundOf 37 = .ok (.iload 8, 2) := by decide +kernel
theorem dX12_roundOf_39 : decode cX12_roundOf 39 = .ok (.aload_n 0, 1) := by decide +kernel
theorem dX12_roundOf_40 : decode cX12_roundOf 40 = .ok (.getfield 197, 3) := by decide +kernel
theorem dX12_roundOf_43 : decode cX12_roundOf 43 = .ok (.if_icmp .ge 13, 3) := by decide +kernel
theorem dX12_roundOf_46 : decode cX12_roundOf 46 = .ok (.iload_n 3, 1) := by decide +kernel
theorem dX12_roundOf_47 : decode cX12_roundOf 47 = .ok (.iload 8, 2) := by decide +kernel
theorem dX12_roundOf_49 : decode cX12_roundOf 49 = .ok (.ishr, 1) := by decide +kernel
theorem dX12_roundOf_50 : decode cX12_roundOf 50 = .ok (.iconst 1, 1) := by decide +kernel
theorem dX12_roundOf_51 : decode cX12_roundOf 51 = .ok (.iand, 1) := by decide +kernel
theorem dX12_roundOf_52 : decode cX12_roundOf 52 = .ok (.iconst 1, 1) := by decide +kernel
theorem dX12_roundOf_53 : decode cX12_roundOf 53 = .ok (.if_icmp .ne 5, 3) := by decide +kernel
theorem dX12_roundOf_56 : decode cX12_roundOf 56 = .ok (.iconst (-1), 1) := by decide +kernel
theorem dX12_roundOf_57 : decode cX12_roundOf 57 = .ok (.ireturn, 1) := by decide +kernel
theorem dX12_roundOf_58 : decode cX12_roundOf 58 = .ok (.iload_n 3, 1) := by decide +kernel
theorem dX12_roundOf_59 : decode cX12_roundOf 59 = .ok (.iconst 1, 1) := by decide +kernel
theorem dX12_roundOf_60 : decode cX12_roundOf 60 = .ok (.iload 8, 2) := by decide +kernel
theorem dX12_roundOf_62 : decode cX12_roundOf 62 = .ok (.ishl, 1) := by decide +kernel
theorem dX12_roundOf_63 : decode cX12_roundOf 63 = .ok (.ior, 1) := by decide +kernel
theorem dX12_roundOf_64 : decode cX12_roundOf 64 = .ok (.istore_n 3, 1) := by decide +kernel
theorem dX12_roundOf_65 : decode cX12_roundOf 65 = .ok (.iload 4, 2) := by decide +kernel
theorem dX12_roundOf_67 : decode cX12_roundOf 67 = .ok (.aload_n 0, 1) := by decide +kernel
theorem dX12_roundOf_68 : decode cX12_roundOf 68 = .ok (.iload 6, 2) := by decide +kernel
theorem dX12_roundOf_70 : decode cX12_roundOf 70 = .ok (.iload 8, 2) := by decide +kernel
theorem dX12_roundOf_72 : decode cX12_roundOf 72 = .ok (.invokevirtual 343, 3) := by decide +kernel
theorem dX12_roundOf_75 : decode cX12_roundOf 75 = .ok (.iadd, 1) := by decide +kernel
theorem dX12_roundOf_76 : decode cX12_roundOf 76 = .ok (.istore 4, 2) := by decide +kernel
theorem dX12_roundOf_78 : decode cX12_roundOf 78 = .ok (.iload 8, 2) := by decide +kernel
theorem dX12_roundOf_80 : decode cX12_roundOf 80 = .ok (.istore 6, 2) := by decide +kernel
theorem dX12_roundOf_82 : decode cX12_roundOf 82 = .ok (.iload 7, 2) := by decide +kernel
theorem dX12_roundOf_84 : decode cX12_roundOf 84 = .ok (.bipush 6, 2) := by decide +kernel
theorem dX12_roundOf_86 : decode cX12_roundOf 86 = .ok (.idiv, 1) := by decide +kernel
theorem dX12_roundOf_87 : decode cX12_roundOf 87 = .ok (.istore 7, 2) := by decide +kernel
theorem dX12_roundOf_89 : decode cX12_roundOf 89 = .ok (.goto (-66), 3) := by decide +kernel
theorem dX12_roundOf_92 : decode cX12_roundOf 92 = .ok (.iload 4, 2) := by decide +kernel
theorem dX12_roundOf_94 : decode cX12_roundOf 94 = .ok (.aload_n 0, 1) := by decide +kernel
theorem dX12_roundOf_95 : decode cX12_roundOf 95 = .ok (.iload 6, 2) := by decide +kernel
theorem dX12_roundOf_97 : decode cX12_roundOf 97 = .ok (.iload 5, 2) := by decide +kernel
theorem dX12_roundOf_99 : decode cX12_roundOf 99 = .ok (.invokevirtual 343, 3) := by decide +kernel
theorem dX12_roundOf_102 : decode cX12_roundOf 102 = .ok (.iadd, 1) := by decide +kernel
theorem dX12_roundOf_103 : decode cX12_roundOf 103 = .ok (.ireturn, 1) := by decide +kernel
theorem dX12_placed_0 : decode cX12_placed 0 = .ok (.aload_n 0, 1) := by decide +kernel
theorem dX12_placed_1 : decode cX12_placed 1 = .ok (.iconst 0, 1) := by decide +kernel
theorem dX12_placed_2 : decode cX12_placed 2 = .ok (.putfield 87, 3) := by decide +kernel
theorem dX12_placed_5 : decode cX12_placed 5 = .ok (.aload_n 0, 1) := by decide +kernel
theorem dX12_placed_6 : decode cX12_placed 6 = .ok (.iload_n 1, 1) := by decide +kernel
theorem dX12_placed_7 : decode cX12_placed 7 = .ok (.iconst 0, 1) := by decide +kernel
theorem dX12_placed_8 : decode cX12_placed 8 = .ok (.iconst 1, 1) := by decide +kernel
theorem dX12_placed_9 : decode cX12_placed 9 = .ok (.invokestatic 124, 3) := by decide +kernel
theorem dX12_placed_12 : decode cX12_placed 12 = .ok (.ifCond .ne 7, 3) := by decide +kernel
theorem dX12_placed_15 : decode cX12_placed 15 = .ok (.iconst 1, 1) := by decide +kernel
theorem dX12_placed_16 : decode cX12_placed 16 = .ok (.goto 4, 3) := by decide +kernel
theorem dX12_placed_19 : decode cX12_placed 19 = .ok (.iconst 0, 1) := by decide +kernel
theorem dX12_placed_20 : decode cX12_placed 20 = .ok (.iconst 1, 1) := by decide +kernel
theorem dX12_placed_21 : decode cX12_placed 21 = .ok (.invokevirtual 169, 3) := by decide +kernel
theorem dX12_placed_24 : decode cX12_placed 24 = .ok (.ifCond .eq 5, 3) := by decide +kernel
theorem dX12_placed_27 : decode cX12_placed 27 = .ok (.iconst 0, 1) := by decide +kernel
theorem dX12_placed_28 : decode cX12_placed 28 = .ok (.ireturn, 1) := by decide +kernel
theorem dX12_placed_29 : decode cX12_placed 29 = .ok (.aload_n 0, 1) := by decide +kernel
theorem dX12_placed_30 : decode cX12_placed 30 = .ok (.getfield 197, 3) := by decide +kernel
theorem dX12_placed_33 : decode cX12_placed 33 = .ok (.ifCond .eq 16, 3) := by decide +kernel
theorem dX12_placed_36 : decode cX12_placed 36 = .ok (.aload_n 0, 1) := by decide +kernel
theorem dX12_placed_37 : decode cX12_placed 37 = .ok (.getfield 197, 3) := by decide +kernel
theorem dX12_placed_40 : decode cX12_placed 40 = .ok (.aload_n 0, 1) := by decide +kernel
theorem dX12_placed_41 : decode cX12_placed 41 = .ok (.getfield 28, 3) := by decide +kernel
theorem dX12_placed_44 : decode cX12_placed 44 = .ok (.iconst 0, 1) := by decide +kernel
theorem dX12_placed_45 : decode cX12_placed 45 = .ok (.iaload, 1) := by decide +kernel
theorem dX12_placed_46 : decode cX12_placed 46 = .ok (.if_icmp .le 5, 3) := by decide +kernel
theorem dX12_placed_49 : decode cX12_placed 49 = .ok (.iconst (-1), 1) := by decide +kernel
theorem dX12_placed_50 : decode cX12_placed 50 = .ok (.ireturn, 1) := by decide +kernel
theorem dX12_placed_51 : decode cX12_placed 51 = .ok (.iconst 1, 1) := by decide +kernel
theorem dX12_placed_52 : decode cX12_placed 52 = .ok (.istore_n 2, 1) := by decide +kernel
theorem dX12_placed_53 : decode cX12_placed 53 = .ok (.iconst (-1), 1) := by decide +kernel
theorem dX12_placed_54 : decode cX12_placed 54 = .ok (.istore_n 3, 1) := by decide +kernel
theorem dX12_placed_55 : decode cX12_placed 55 = .ok (.iconst 0, 1) := by decide +kernel
theorem dX12_placed_56 : decode cX12_placed 56 = .ok (.istore 4, 2) := by decide +kernel
theorem dX12_placed_58 : decode cX12_placed 58 = .ok (.iconst 0, 1) := by decide +kernel
theorem dX12_placed_59 : decode cX12_placed 59 = .ok (.istore 5, 2) := by decide +kernel
theorem dX12_placed_61 : decode cX12_placed 61 = .ok (.iload 5, 2) := by decide +kernel
theorem dX12_placed_63 : decode cX12_placed 63 = .ok (.aload_n 0, 1) := by decide +kernel
theorem dX12_placed_64 : decode cX12_placed 64 = .ok (.getfield 197, 3) := by decide +kernel
theorem dX12_placed_67 : decode cX12_placed 67 = .ok (.if_icmp .ge 14, 3) := by decide +kernel
theorem dX12_placed_70 : decode cX12_placed 70 = .ok (.iload_n 2, 1) := by decide +kernel
theorem dX12_placed_71 : decode cX12_placed 71 = .ok (.bipush 6, 2) := by decide +kernel
theorem dX12_placed_73 : decode cX12_placed 73 = .ok (.imul, 1) := by decide +kernel
theorem dX12_placed_74 : decode cX12_placed 74 = .ok (.istore_n 2, 1) := by decide +kernel
theorem dX12_placed_75 : decode cX12_placed 75 = .ok (.iinc 5 1, 3) := by decide +kernel
theorem dX12_placed_78 : decode cX12_placed 78 = .ok (.goto (-17), 3) := by decide +kernel
theorem dX12_placed_81 : decode cX12_placed 81 = .ok (.iconst 0, 1) := by decide +kernel
theorem dX12_placed_82 : decode cX12_placed 82 = .ok (.istore 5, 2) := by decide +kernel
theorem dX12_placed_84 : decode cX12_placed 84 = .ok (.iload 5, 2) := by decide +kernel
theorem dX12_placed_86 : decode cX12_placed 86 = .ok (.iload_n 2, 1) := by decide +kernel
theorem dX12_placed_87 : decode cX12_placed 87 = .ok (.if_icmp .ge 46, 3) := by decide +kernel
theorem dX12_placed_90 : decode cX12_placed 90 = .ok (.aload_n 0, 1) := by decide +kernel
theorem dX12_placed_91 : decode cX12_placed 91 = .ok (.iload 5, 2) := by decide +kernel
theorem dX12_placed_93 : decode cX12_placed 93 = .ok (.iload_n 2, 1) := by decide +kernel
theorem dX12_placed_94 : decode cX12_placed 94 = .ok (.invokevirtual 340, 3) := by decide +kernel
theorem dX12_placed_97 : decode cX12_placed 97 = .ok (.istore 6, 2) := by decide +kernel
theorem dX12_placed_99 : decode cX12_placed 99 = .ok (.iload 6, 2) := by decide +kernel
theorem dX12_placed_101 : decode cX12_placed 101 = .ok (.iconst (-1), 1) := by decide +kernel
theorem dX12_placed_102 : decode cX12_placed 102 = .ok (.if_icmp .eq 25, 3) := by decide +kernel
theorem dX12_placed_105 : decode cX12_placed 105 = .ok (.iload_n 3, 1) := by decide +kernel
theorem dX12_placed_106 : decode cX12_placed 106 = .ok (.iconst (-1), 1) := by decide +kernel
theorem dX12_placed_107 : decode cX12_placed 107 = .ok (.if_icmp .eq 13, 3) := by decide +kernel
theorem dX12_placed_110 : decode cX12_placed 110 = .ok (.iload 6, 2) := by decide +kernel
theorem dX12_placed_112 : decode cX12_placed 112 = .ok (.iload 4, 2) := by decide +kernel
theorem dX12_placed_114 : decode cX12_placed 114 = .ok (.if_icmp .lt 6, 3) := by decide +kernel
theorem dX12_placed_117 : decode cX12_placed 117 = .ok (.goto 10, 3) := by decide +kernel
theorem dX12_placed_120 : decode cX12_placed 120 = .ok (.iload 5, 2) := by decide +kernel
theorem dX12_placed_122 : decode cX12_placed 122 = .ok (.istore_n 3, 1) := by decide +kernel
theorem dX12_placed_123 : decode cX12_placed 123 = .ok (.iload 6, 2) := by decide +kernel
theorem dX12_placed_125 : decode cX12_placed 125 = .ok (.istore 4, 2) := by decide +kernel
theorem dX12_placed_127 : decode cX12_placed 127 = .ok (.iinc 5 1, 3) := by decide +kernel
theorem dX12_placed_130 : decode cX12_placed 130 = .ok (.goto (-46), 3) := by decide +kernel
theorem dX12_placed_133 : decode cX12_placed 133 = .ok (.iload_n 1, 1) := by decide +kernel
theorem dX12_placed_134 : decode cX12_placed 134 = .ok (.ifCond .ne 8, 3) := by decide +kernel
theorem dX12_placed_137 : decode cX12_placed 137 = .ok (.iload 4, 2) := by decide +kernel
theorem dX12_placed_139 : decode cX12_placed 139 = .ok (.goto 4, 3) := by decide +kernel
theorem dX12_placed_142 : decode cX12_placed 142 = .ok (.iload_n 3, 1) := by decide +kernel
theorem dX12_placed_143 : decode cX12_placed 143 = .ok (.ireturn, 1) := by decide +kernel
set_option maxHeartbeats 4000000 in
set_option maxRecDepth 100000 in
/-- the reference: between -/
theorem m_between (l : Launch) (hl0 : l.stackTraces = false) (D : va_G) (cy : Nat → ClassId) (sa : Nat → Nat) (da da_fed da_readBody da_body da_readMany da_many da_without da_did da_done da_bed da_passing da_spot da_kept da_aside da_ran da_who da_cap da_w da_laid da_cries da_holds da_came da_least da_firstTo : Nat) (d_thrown d_tape d_size d_place d_at d_fault d_faultAt d_clauses d_now d_mindAt d_way d_harm d_worth d_passes d_passings d_spots d_images d_spare d_whoMany d_drifted d_seed d_steps d_roundFrom d_roundMany d_numberAt b0 b1 : Int32) (df_many : Nat → Int32) (dF_spot : Nat → Nat → Int32) (h_d_tape : 0 ≤ d_tape.toInt ∧ d_tape.toInt ≤ 500) (h_d_size : 0 ≤ d_size.toInt ∧ d_size.toInt ≤ 500) (h_d_at : 0 ≤ d_at.toInt ∧ d_at.toInt ≤ 500) (h_d_clauses : 0 ≤ d_clauses.toInt ∧ d_clauses.toInt ≤ 40) (h_d_now : 0 ≤ d_now.toInt ∧ d_now.toInt ≤ 480) (h_d_mindAt : 0 ≤ d_mindAt.toInt ∧ d_mindAt.toInt ≤ 8) (h_d_passings : 0 ≤ d_passings.toInt ∧ d_passings.toInt ≤ 30) (h_d_spots : 0 ≤ d_spots.toInt ∧ d_spots.toInt ≤ 6) (h_d_images : 0 ≤ d_images.toInt ∧ d_images.toInt ≤ 3) (h_d_whoMany : 0 ≤ d_whoMany.toInt ∧ d_whoMany.toInt ≤ 4) (hx_df_many : (0 ≤ (df_many 0).toInt ∧ (df_many 0).toInt ≤ 9) ∧ (0 ≤ (df_many 1).toInt ∧ (df_many 1).toInt ≤ 9) ∧ (0 ≤ (df_many 2).toInt ∧ (df_many 2).toInt ≤ 30) ∧ (0 ≤ (df_many 3).toInt ∧ (df_many 3).toInt ≤ 480) ∧ (((df_many 0).toInt = 0 ∧ (df_many 3).toInt = 0) ∨ 1 ≤ (df_many 2).toInt)) (hc_dF_spot_0 : ∀ b, b < 6 → 0 ≤ (dF_spot b 0).toInt ∧ (dF_spot b 0).toInt ≤ 15) (hc_dF_spot_1 : ∀ b, b < 6 → 0 ≤ (dF_spot b 1).toInt ∧ (dF_spot b 1).toInt ≤ 15) (h_b0 : 0 ≤ b0.toInt ∧ b0.toInt ≤ 5) (h_b1 : 0 ≤ b1.toInt ∧ b1.toInt ≤ 5) (hm2 : 1 ≤ (df_many 2).toInt) (sz : Nat) : Met l yX12_between (Cond.code yX12_between cX12_between 3 (some .int) :: kWS) ({ frames := 11, cells := 0, slots := 0, locals := 360 }) (kPre D cy sa [.ref da, .int b0, .int b1] [(da, .inr (13, [.int d_thrown, .int d_tape, .int d_size, .int d_place, .int d_at, .int d_fault, .int d_faultAt, .int d_clauses, .ref da_fed, .ref da_readBody, .ref da_body, .ref da_readMany, .ref da_many, .ref da_without, .ref da_did, .ref da_done, .ref da_bed, .int d_now, .int d_mindAt, .int d_way, .int d_harm, .int d_worth, .int d_passes, .int d_passings, .int d_spots, .int d_images, .ref da_passing, .ref da_spot, .ref da_kept, .ref da_aside, .int d_spare, .ref da_ran, .ref da_who, .ref da_cap, .ref da_w, .ref da_laid, .int d_whoMany, .int d_drifted, .int d_seed, .ref da_cries, .ref da_holds, .ref da_came, .ref da_least, .ref da_firstTo, .int d_steps, .int d_roundFrom, .int d_roundMany, .int d_numberAt])), (da_many, .inl (cy 0, 5, .inl df_many)), (da_spot, .inl (cy 5, 6, .inr (.inr (.inr (.inr (fun i => if i < 6 then some (da_spot + 1 + i) else none)))))), ((da_spot + 1 + 0), .inl (cy 0, 2, .inl ((dF_spot 0)))), ((da_spot + 1 + 1), .inl (cy 0, 2, .inl ((dF_spot 1)))), ((da_spot + 1 + 2), .inl (cy 0, 2, .inl ((dF_spot 2)))), ((da_spot + 1 + 3), .inl (cy 0, 2, .inl ((dF_spot 3)))), ((da_spot + 1 + 4), .inl (cy 0, 2, .inl ((dF_spot 4)))), ((da_spot + 1 + 5), .inl (cy 0, 2, .inl ((dF_spot 5))))] sz) (va_Qi (fun (r : Int32) (u : Unit) => (0 ≤ r.toInt ∧ r.toInt ≤ 39)) (kB D (va_A [(da, .inr (13, [.int d_thrown, .int d_tape, .int d_size, .int d_place, .int d_at, .int d_fault, .int d_faultAt, .int d_clauses, .ref da_fed, .ref da_readBody, .ref da_body, .ref da_readMany, .ref da_many, .ref da_without, .ref da_did, .ref da_done, .ref da_bed, .int d_now, .int d_mindAt, .int d_way, .int d_harm, .int d_worth, .int d_passes, .int d_passings, .int d_spots, .int d_images, .ref da_passing, .ref da_spot, .ref da_kept, .ref da_aside, .int d_spare, .ref da_ran, .ref da_who, .ref da_cap, .ref da_w, .ref da_laid, .int d_whoMany, .int d_drifted, .int d_seed, .ref da_cries, .ref da_holds, .ref da_came, .ref da_least, .ref da_firstTo, .int d_steps, .int d_roundFrom, .int d_roundMany, .int d_numberAt])), (da_many, .inl (cy 0, 5, .inl df_many)), (da_spot, .inl (cy 5, 6, .inr (.inr (.inr (.inr (fun i => if i < 6 then some (da_spot + 1 + i) else none)))))), ((da_spot + 1 + 0), .inl (cy 0, 2, .inl ((dF_spot 0)))), ((da_spot + 1 + 1), .inl (cy 0, 2, .inl ((dF_spot 1)))), ((da_spot + 1 + 2), .inl (cy 0, 2, .inl ((dF_spot 2)))), ((da_spot + 1 + 3), .inl (cy 0, 2, .inl ((dF_spot 3)))), ((da_spot + 1 + 4), .inl (cy 0, 2, .inl ((dF_spot 4)))), ((da_spot + 1 + 5), .inl (cy 0, 2, .inl ((dF_spot 5))))] sz) (fun (u : Unit) => [(da, .inr (13, [.int d_thrown, .int d_tape, .int d_size, .int d_place, .int d_at, .int d_fault, .int d_faultAt, .int d_clauses, .ref da_fed, .ref da_readBody, .ref da_body, .ref da_readMany, .ref da_many, .ref da_without, .ref da_did, .ref da_done, .ref da_bed, .int d_now, .int d_mindAt, .int d_way, .int d_harm, .int d_worth, .int d_passes, .int d_passings, .int d_spots, .int d_images, .ref da_passing, .ref da_spot, .ref da_kept, .ref da_aside, .int d_spare, .ref da_ran, .ref da_who, .ref da_cap, .ref da_w, .ref da_laid, .int d_whoMany, .int d_drifted, .int d_seed, .ref da_cries, .ref da_holds, .ref da_came, .ref da_least, .ref da_firstTo, .int d_steps, .int d_roundFrom, .int d_roundMany, .int d_numberAt])), (da_many, .inl (cy 0, 5, .inl df_many)), (da_spot, .inl (cy 5, 6, .inr (.inr (.inr (.inr (fun i => if i < 6 then some (da_spot + 1 + i) else none)))))), ((da_spot + 1 + 0), .inl (cy 0, 2, .inl ((dF_spot 0)))), ((da_spot + 1 + 1), .inl (cy 0, 2, .inl ((dF_spot 1)))), ((da_spot + 1 + 2), .inl (cy 0, 2, .inl ((dF_spot 2)))), ((da_spot + 1 + 3), .inl (cy 0, 2, .inl ((dF_spot 3)))), ((da_spot + 1 + 4), .inl (cy 0, 2, .inl ((dF_spot 4)))), ((da_spot + 1 + 5), .inl (cy 0, 2, .inl ((dF_spot 5))))])) (va_A [(da, .inr (13, [.int d_thrown, .int d_tape, .int d_size, .int d_place, .int d_at, .int d_fault, .int d_faultAt, .int d_clauses, .ref da_fed, .ref da_readBody, .ref da_body, .ref da_readMany, .ref da_many, .ref da_without, .ref da_did, .ref da_done, .ref da_bed, .int d_now, .int d_mindAt, .int d_way, .int d_harm, .int d_worth, .int d_passes, .int d_passings, .int d_spots, .int d_images, .ref da_passing, .ref da_spot, .ref da_kept, .ref da_aside, .int d_spare, .ref da_ran, .ref da_who, .ref da_cap, .ref da_w, .ref da_laid, .int d_whoMany, .int d_drifted, .int d_seed, .ref da_cries, .ref da_holds, .ref da_came, .ref da_least, .ref da_firstTo, .int d_steps, .int d_roundFrom, .int d_roundMany, .int d_numberAt])), (da_many, .inl (cy 0, 5, .inl df_many)), (da_spot, .inl (cy 5, 6, .inr (.inr (.inr (.inr (fun i => if i < 6 then some (da_spot + 1 + i) else none)))))), ((da_spot + 1 + 0), .inl (cy 0, 2, .inl ((dF_spot 0)))), ((da_spot + 1 + 1), .inl (cy 0, 2, .inl ((dF_spot 1)))), ((da_spot + 1 + 2), .inl (cy 0, 2, .inl ((dF_spot 2)))), ((da_spot + 1 + 3), .inl (cy 0, 2, .inl ((dF_spot 3)))), ((da_spot + 1 + 4), .inl (cy 0, 2, .inl ((dF_spot 4)))), ((da_spot + 1 + 5), .inl (cy 0, 2, .inl ((dF_spot 5))))] sz)) 0 0 (va_A [(da, .inr (13, [.int d_thrown, .int d_tape, .int d_size, .int d_place, .int d_at, .int d_fault, .int d_faultAt, .int d_clauses, .ref da_fed, .ref da_readBody, .ref da_body, .ref da_readMany, .ref da_many, .ref da_without, .ref da_did, .ref da_done, .ref da_bed, .int d_now, .int d_mindAt, .int d_way, .int d_harm, .int d_worth, .int d_passes, .int d_passings, .int d_spots, .int d_images, .ref da_passing, .ref da_spot, .ref da_kept, .ref da_aside, .int d_spare, .ref da_ran, .ref da_who, .ref da_cap, .ref da_w, .ref da_laid, .int d_whoMany, .int d_drifted, .int d_seed, .ref da_cries, .ref da_holds, .ref da_came, .ref da_least, .ref da_firstTo, .int d_steps, .int d_roundFrom, .int d_roundMany, .int d_numberAt])), (da_many, .inl (cy 0, 5, .inl df_many)), (da_spot, .inl (cy 5, 6, .inr (.inr (.inr (.inr (fun i => if i < 6 then some (da_spot + 1 + i) else none)))))), ((da_spot + 1 + 0), .inl (cy 0, 2, .inl ((dF_spot 0)))), ((da_spot + 1 + 1), .inl (cy 0, 2, .inl ((dF_spot 1)))), ((da_spot + 1 + 2), .inl (cy 0, 2, .inl ((dF_spot 2)))), ((da_spot + 1 + 3), .inl (cy 0, 2, .inl ((dF_spot 3)))), ((da_spot + 1 + 4), .inl (cy 0, 2, .inl ((dF_spot 4)))), ((da_spot + 1 + 5), .inl (cy 0, 2, .inl ((dF_spot 5))))] sz) := by
  refine k_ofW (y := yX12_between) (cc := cX12_between) (maxL := 3) (ret := (some .int)) (av := [.ref da, .int b0, .int b1]) (ws := [(da, .inr (13, [.int d_thrown, .int d_tape, .int d_size, .int d_place, .int d_at, .int d_fault, .int d_faultAt, .int d_clauses, .ref da_fed, .ref da_readBody, .ref da_body, .ref da_readMany, .ref da_many, .ref da_without, .ref da_did, .ref da_done, .ref da_bed, .int d_now, .int d_mindAt, .int d_way, .int d_harm, .int d_worth, .int d_passes, .int d_passings, .int d_spots, .int d_images, .ref da_passing, .ref da_spot, .ref da_kept, .ref da_aside, .int d_spare, .ref da_ran, .ref da_who, .ref da_cap, .ref da_w, .ref da_laid, .int d_whoMany, .int d_drifted, .int d_seed, .ref da_cries, .ref da_holds, .ref da_came, .ref da_least, .ref da_firstTo, .int d_steps, .int d_roundFrom, .int d_roundMany, .int d_numberAt])), (da_many, .inl (cy 0, 5, .inl df_many)), (da_spot, .inl (cy 5, 6, .inr (.inr (.inr (.inr (fun i => if i < 6 then some (da_spot + 1 + i) else none)))))), ((da_spot + 1 + 0), .inl (cy 0, 2, .inl ((dF_spot 0)))), ((da_spot + 1 + 1), .inl (cy 0, 2, .inl ((dF_spot 1)))), ((da_spot + 1 + 2), .inl (cy 0, 2, .inl ((dF_spot 2)))), ((da_spot + 1 + 3), .inl (cy 0, 2, .inl ((dF_spot 3)))), ((da_spot + 1 + 4), .inl (cy 0, 2, .inl ((dF_spot 4)))), ((da_spot + 1 + 5), .inl (cy 0, 2, .inl ((dF_spot 5))))]) (Qc := fun A => (va_Qi (fun (r : Int32) (u : Unit) => (0 ≤ r.toInt ∧ r.toInt ≤ 39)) (kB D A (fun (u : Unit) => [(da, .inr (13, [.int d_thrown, .int d_tape, .int d_size, .int d_place, .int d_at, .int d_fault, .int d_faultAt, .int d_clauses, .ref da_fed, .ref da_readBody, .ref da_body, .ref da_readMany, .ref da_many, .ref da_without, .ref da_did, .ref da_done, .ref da_bed, .int d_now, .int d_mindAt, .int d_way, .int d_harm, .int d_worth, .int d_passes, .int d_passings, .int d_spots, .int d_images, .ref da_passing, .ref da_spot, .ref da_kept, .ref da_aside, .int d_spare, .ref da_ran, .ref da_who, .ref da_cap, .ref da_w, .ref da_laid, .int d_whoMany, .int d_drifted, .int d_seed, .ref da_cries, .ref da_holds, .ref da_came, .ref da_least, .ref da_firstTo, .int d_steps, .int d_roundFrom, .int d_roundMany, .int d_numberAt])), (da_many, .inl (cy 0, 5, .inl df_many)), (da_spot, .inl (cy 5, 6, .inr (.inr (.inr (.inr (fun i => if i < 6 then some (da_spot + 1 + i) else none)))))), ((da_spot + 1 + 0), .inl (cy 0, 2, .inl ((dF_spot 0)))), ((da_spot + 1 + 1), .inl (cy 0, 2, .inl ((dF_spot 1)))), ((da_spot + 1 + 2), .inl (cy 0, 2, .inl ((dF_spot 2)))), ((da_spot + 1 + 3), .inl (cy 0, 2, .inl ((dF_spot 3)))), ((da_spot + 1 + 4), .inl (cy 0, 2, .inl ((dF_spot 4)))), ((da_spot + 1 + 5), .inl (cy 0, 2, .inl ((dF_spot 5))))])) A)) (by decide) (Nat.le_of_ble_eq_true rfl) ?_
  intro p e s m below meth c ls A E hA hP hD hG hS hl
  obtain ⟨Q0, hQ0⟩ : ∃ Q0 : State → Prop, Q0 = MQ below (va_Qi (fun (r : Int32) (u : Unit) => (0 ≤ r.toInt ∧ r.toInt ≤ 39)) (kB D A (fun (u : Unit) => [(da, .inr (13, [.int d_thrown, .int d_tape, .int d_size, .int d_place, .int d_at, .int d_fault, .int d_faultAt, .int d_clauses, .ref da_fed, .ref da_readBody, .ref da_body, .ref da_readMany, .ref da_many, .ref da_without, .ref da_did, .ref da_done, .ref da_bed, .int d_now, .int d_mindAt, .int d_way, .int d_harm, .int d_worth, .int d_passes, .int d_passings, .int d_spots, .int d_images, .ref da_passing, .ref da_spot, .ref da_kept, .ref da_aside, .int d_spare, .ref da_ran, .ref da_who, .ref da_cap, .ref da_w, .ref da_laid, .int d_whoMany, .int d_drifted, .int d_seed, .ref da_cries, .ref da_holds, .ref da_came, .ref da_least, .ref da_firstTo, .int d_steps, .int d_roundFrom, .int d_roundMany, .int d_numberAt])), (da_many, .inl (cy 0, 5, .inl df_many)), (da_spot, .inl (cy 5, 6, .inr (.inr (.inr (.inr (fun i => if i < 6 then some (da_spot + 1 + i) else none)))))), ((da_spot + 1 + 0), .inl (cy 0, 2, .inl ((dF_spot 0)))), ((da_spot + 1 + 1), .inl (cy 0, 2, .inl ((dF_spot 1)))), ((da_spot + 1 + 2), .inl (cy 0, 2, .inl ((dF_spot 2)))), ((da_spot + 1 + 3), .inl (cy 0, 2, .inl ((dF_spot 3)))), ((da_spot + 1 + 4), .inl (cy 0, 2, .inl ((dF_spot 4)))), ((da_spot + 1 + 5), .inl (cy 0, 2, .inl ((dF_spot 5))))])) A) ([.ref da, .int b0, .int b1] : List Value).toArray s 0 0 A := ⟨_, rfl⟩
  rw [← hQ0]
  obtain ⟨hx, hb, hml, hown, hts, hr, hlk, hnm⟩ := id E
  have hown : s.vm.findClass RX12 = some m.cls := hown
  have hl : lv_has ls 3 [(0, .ref da), (1, .int b0), (2, .int b1)] := hl
  obtain ⟨H, hH⟩ : ∃ H, H = s.heap := ⟨_, rfl⟩
  have hP : va_P D vwCl [(da, .inr (13, [.int d_thrown, .int d_tape, .int d_size, .int d_place, .int d_at, .int d_fault, .int d_faultAt, .int d_clauses, .ref da_fed, .ref da_readBody, .ref da_body, .ref da_readMany, .ref da_many, .ref da_without, .ref da_did, .ref da_done, .ref da_bed, .int d_now, .int d_mindAt, .int d_way, .int d_harm, .int d_worth, .int d_passes, .int d_passings, .int d_spots, .int d_images, .ref da_passing, .ref da_spot, .ref da_kept, .ref da_aside, .int d_spare, .ref da_ran, .ref da_who, .ref da_cap, .ref da_w, .ref da_laid, .int d_whoMany, .int d_drifted, .int d_seed, .ref da_cries, .ref da_holds, .ref da_came, .ref da_least, .ref da_firstTo, .int d_steps, .int d_roundFrom, .int d_roundMany, .int d_numberAt])), (da_many, .inl (cy 0, 5, .inl df_many)), (da_spot, .inl (cy 5, 6, .inr (.inr (.inr (.inr (fun i => if i < 6 then some (da_spot + 1 + i) else none)))))), ((da_spot + 1 + 0), .inl (cy 0, 2, .inl ((dF_spot 0)))), ((da_spot + 1 + 1), .inl (cy 0, 2, .inl ((dF_spot 1)))), ((da_spot + 1 + 2), .inl (cy 0, 2, .inl ((dF_spot 2)))), ((da_spot + 1 + 3), .inl (cy 0, 2, .inl ((dF_spot 3)))), ((da_spot + 1 + 4), .inl (cy 0, 2, .inl ((dF_spot 4)))), ((da_spot + 1 + 5), .inl (cy 0, 2, .inl ((dF_spot 5))))] H := by rw [hH]; exact hP
  have hS : va_S A s.heap H [] := by rw [hH]; exact va_S.rf
  rw [← hH]
  clear hH
  obtain ⟨locs, hlocs⟩ : ∃ locs : List Loc, locs = [] := ⟨_, rfl⟩
  rw [← hlocs] at hS ⊢
  refine lv_iload_n hx hb dX12_between_0 rfl (lv_at hl 1 rfl) ?_
  refine lv_iload_n hx hb dX12_between_1 rfl (lv_at hl 2 rfl) ?_
  refine lv_icmp_ne (tgt := 9) hx hb dX12_between_2 (by decide) (fun c1q => ?_) (fun c1q => ?_)
  · simp only [k_lt, k_le, k_eq, ne_eq, ge_iff_le, gt_iff_lt] at c1q
    refine lv_aload_n hx hb dX12_between_9 rfl (lv_at hl 0 rfl) ?_
    refine va_get (D := D) (ci := 13) (v := .ref da_many) (C := RX12) (T := TX12) (N := 48) hx hb hts kin_RX12 hown hG.1 hP 0 rfl rfl 12 (by decide) (hts _ wm_1531) (fun _ h9 => h9) rfl dX12_between_10 ?_
    refine lv_iconst (v := 1) hx hb dX12_between_13 (by decide) ?_
    refine va_iald hx hb hG.1 hP 1 0 rfl rfl (by unfold vp_in; decide) dX12_between_14 ?_
    refine lv_topi (fun x2q ex2q => ?_)
    have rx2q : x2q.toInt = (df_many 1).toInt := by rw [ex2q]; rfl
    refine lv_aload_n hx hb dX12_between_15 rfl (lv_at hl 0 rfl) ?_
    refine va_get (D := D) (ci := 13) (v := .ref da_spot) (C := RX12) (T := TX12) (N := 48) hx hb hts kin_RX12 hown hG.1 hP 0 rfl rfl 27 (by decide) (hts _ wm_1546) (fun _ h9 => h9) rfl dX12_between_16 ?_
    refine lv_iload_n hx hb dX12_between_19 rfl (lv_at hl 1 rfl) ?_
    refine k_aldA hx hb hG.1 hP 2 rfl (n_in (by omega) (by omega)) dX12_between_20 ?_
    refine W.eq (g2 := F0 m 21 ls [.ref (da_spot + 1 + (b0 : Int32).toNatClampNeg), .int x2q]) (by rw [if_pos (show (b0 : Int32).toNatClampNeg < 6 from n_lt (by omega) (by omega))]; rfl) ?_
    refine lv_iconst (v := 0) hx hb dX12_between_21 (by decide) ?_
    have hw3q : ∀ k, k < 6 → ([(da, .inr (13, [.int d_thrown, .int d_tape, .int d_size, .int d_place, .int d_at, .int d_fault, .int d_faultAt, .int d_clauses, .ref da_fed, .ref da_readBody, .ref da_body, .ref da_readMany, .ref da_many, .ref da_without, .ref da_did, .ref da_done, .ref da_bed, .int d_now, .int d_mindAt, .int d_way, .int d_harm, .int d_worth, .int d_passes, .int d_passings, .int d_spots, .int d_images, .ref da_passing, .ref da_spot, .ref da_kept, .ref da_aside, .int d_spare, .ref da_ran, .ref da_who, .ref da_cap, .ref da_w, .ref da_laid, .int d_whoMany, .int d_drifted, .int d_seed, .ref da_cries, .ref da_holds, .ref da_came, .ref da_least, .ref da_firstTo, .int d_steps, .int d_roundFrom, .int d_roundMany, .int d_numberAt])), (da_many, .inl (cy 0, 5, .inl df_many)), (da_spot, .inl (cy 5, 6, .inr (.inr (.inr (.inr (fun i => if i < 6 then some (da_spot + 1 + i) else none)))))), ((da_spot + 1 + 0), .inl (cy 0, 2, .inl ((dF_spot 0)))), ((da_spot + 1 + 1), .inl (cy 0, 2, .inl ((dF_spot 1)))), ((da_spot + 1 + 2), .inl (cy 0, 2, .inl ((dF_spot 2)))), ((da_spot + 1 + 3), .inl (cy 0, 2, .inl ((dF_spot 3)))), ((da_spot + 1 + 4), .inl (cy 0, 2, .inl ((dF_spot 4)))), ((da_spot + 1 + 5), .inl (cy 0, 2, .inl ((dF_spot 5))))] : va_W)[3 + k]? = some (da_spot + 1 + k, .inl (cy 0, 2, .inl (dF_spot k))) := by intro k hk; rcases (show k = 0 ∨ k = 1 ∨ k = 2 ∨ k = 3 ∨ k = 4 ∨ k = 5 by omega) with rfl | rfl | rfl | rfl | rfl | rfl <;> rfl
    refine va_iald hx hb hG.1 hP (3 + (b0 : Int32).toNatClampNeg) 0 (hw3q _ (n_lt (by omega) (by omega))) rfl (by unfold vp_in; decide) dX12_between_22 ?_
    refine lv_topi (fun x4q ex4q => ?_)
    have rx4q : 0 ≤ x4q.toInt ∧ x4q.toInt ≤ 15 := by rw [ex4q]; exact hc_dF_spot_0 _ (n_lt (by omega) (by omega))
    refine lv_aload_n hx hb dX12_between_23 rfl (lv_at hl 0 rfl) ?_
    refine va_get (D := D) (ci := 13) (v := .ref da_spot) (C := RX12) (T := TX12) (N := 48) hx hb hts kin_RX12 hown hG.1 hP 0 rfl rfl 27 (by decide) (hts _ wm_1546) (fun _ h9 => h9) rfl dX12_between_24 ?_
    refine lv_iload_n hx hb dX12_between_27 rfl (lv_at hl 2 rfl) ?_
    refine k_aldA hx hb hG.1 hP 2 rfl (n_in (by omega) (by omega)) dX12_between_28 ?_
    refine W.eq (g2 := F0 m 29 ls [.ref (da_spot + 1 + (b1 : Int32).toNatClampNeg), .int x4q, .int x2q]) (by rw [if_pos (show (b1 : Int32).toNatClampNeg < 6 from n_lt (by omega) (by omega))]; rfl) ?_
    refine lv_iconst (v := 0) hx hb dX12_between_29 (by decide) ?_
    have hw5q : ∀ k, k < 6 → ([(da, .inr (13, [.int d_thrown, .int d_tape, .int d_size, .int d_place, .int d_at, .int d_fault, .int d_faultAt, .int d_clauses, .ref da_fed, .ref da_readBody, .ref da_body, .ref da_readMany, .ref da_many, .ref da_without, .ref da_did, .ref da_done, .ref da_bed, .int d_now, .int d_mindAt, .int d_way, .int d_harm, .int d_worth, .int d_passes, .int d_passings, .int d_spots, .int d_images, .ref da_passing, .ref da_spot, .ref da_kept, .ref da_aside, .int d_spare, .ref da_ran, .ref da_who, .ref da_cap, .ref da_w, .ref da_laid, .int d_whoMany, .int d_drifted, .int d_seed, .ref da_cries, .ref da_holds, .ref da_came, .ref da_least, .ref da_firstTo, .int d_steps, .int d_roundFrom, .int d_roundMany, .int d_numberAt])), (da_many, .inl (cy 0, 5, .inl df_many)), (da_spot, .inl (cy 5, 6, .inr (.inr (.inr (.inr (fun i => if i < 6 then some (da_spot + 1 + i) else none)))))), ((da_spot + 1 + 0), .inl (cy 0, 2, .inl ((dF_spot 0)))), ((da_spot + 1 + 1), .inl (cy 0, 2, .inl ((dF_spot 1)))), ((da_spot + 1 + 2), .inl (cy 0, 2, .inl ((dF_spot 2)))), ((da_spot + 1 + 3), .inl (cy 0, 2, .inl ((dF_spot 3)))), ((da_spot + 1 + 4), .inl (cy 0, 2, .inl ((dF_spot 4)))), ((da_spot + 1 + 5), .inl (cy 0, 2, .inl ((dF_spot 5))))] : va_W)[3 + k]? = some (da_spot + 1 + k, .inl (cy 0, 2, .inl (dF_spot k))) := by intro k hk; rcases (show k = 0 ∨ k = 1 ∨ k = 2 ∨ k = 3 ∨ k = 4 ∨ k = 5 by omega) with rfl | rfl | rfl | rfl | rfl | rfl <;> rfl
    refine va_iald hx hb hG.1 hP (3 + (b1 : Int32).toNatClampNeg) 0 (hw5q _ (n_lt (by omega) (by omega))) rfl (by unfold vp_in; decide) dX12_between_30 ?_
    refine lv_topi (fun x6q ex6q => ?_)
    have rx6q : 0 ≤ x6q.toInt ∧ x6q.toInt ≤ 15 := by rw [ex6q]; exact hc_dF_spot_0 _ (n_lt (by omega) (by omega))
    refine lv_isub hx hb dX12_between_31 ?_
    refine lv_topi (fun x7q ex7q => ?_)
    have rx7q := n_sub ex7q (a := x4q.toInt) (b := x6q.toInt) rfl rfl (by omega) (by omega)
    refine k_cali [0, 1, 2, 3, 4, 5, 6, 7, 8] (⟨hP, hD, hG, hS, hA, rfl, rfl⟩ : kAt D cy sa A s H _ _ [] []) (wr := [(da, .inr (13, [.int d_thrown, .int d_tape, .int d_size, .int d_place, .int d_at, .int d_fault, .int d_faultAt, .int d_clauses, .ref da_fed, .ref da_readBody, .ref da_body, .ref da_readMany, .ref da_many, .ref da_without, .ref da_did, .ref da_done, .ref da_bed, .int d_now, .int d_mindAt, .int d_way, .int d_harm, .int d_worth, .int d_passes, .int d_passings, .int d_spots, .int d_images, .ref da_passing, .ref da_spot, .ref da_kept, .ref da_aside, .int d_spare, .ref da_ran, .ref da_who, .ref da_cap, .ref da_w, .ref da_laid, .int d_whoMany, .int d_drifted, .int d_seed, .ref da_cries, .ref da_holds, .ref da_came, .ref da_least, .ref da_firstTo, .int d_steps, .int d_roundFrom, .int d_roundMany, .int d_numberAt])), (da_many, .inl (cy 0, 5, .inl df_many)), (da_spot, .inl (cy 5, 6, .inr (.inr (.inr (.inr (fun i => if i < 6 then some (da_spot + 1 + i) else none)))))), ((da_spot + 1 + 0), .inl (cy 0, 2, .inl ((dF_spot 0)))), ((da_spot + 1 + 1), .inl (cy 0, 2, .inl ((dF_spot 1)))), ((da_spot + 1 + 2), .inl (cy 0, 2, .inl ((dF_spot 2)))), ((da_spot + 1 + 3), .inl (cy 0, 2, .inl ((dF_spot 3)))), ((da_spot + 1 + 4), .inl (cy 0, 2, .inl ((dF_spot 4)))), ((da_spot + 1 + 5), .inl (cy 0, 2, .inl ((dF_spot 5))))]) rfl rfl (by decide) (k_runS (As := [.int x7q]) (rest := [.int x2q]) E lk_SRX12_223 (m_amount l hl0 D cy sa x7q ⟨by omega, by omega⟩ H.size) (⟨hP, hD, hG, hS, hA, rfl, rfl⟩ : kAt D cy sa A s H _ _ [] []) hl.1 rfl rfl ⟨rfl, rfl, ⟨Nat.le_of_ble_eq_true rfl, Nat.le_of_ble_eq_true rfl⟩, ⟨Nat.le_of_ble_eq_true rfl, Nat.le_of_ble_eq_true rfl⟩, Nat.le_of_ble_eq_true rfl⟩ dX12_between_32) (fun r8q u9q H locs hwu9q hP hD hS => ?_)
    have hP : va_P D vwCl [(da, .inr (13, [.int d_thrown, .int d_tape, .int d_size, .int d_place, .int d_at, .int d_fault, .int d_faultAt, .int d_clauses, .ref da_fed, .ref da_readBody, .ref da_body, .ref da_readMany, .ref da_many, .ref da_without, .ref da_did, .ref da_done, .ref da_bed, .int d_now, .int d_mindAt, .int d_way, .int d_harm, .int d_worth, .int d_passes, .int d_passings, .int d_spots, .int d_images, .ref da_passing, .ref da_spot, .ref da_kept, .ref da_aside, .int d_spare, .ref da_ran, .ref da_who, .ref da_cap, .ref da_w, .ref da_laid, .int d_whoMany, .int d_drifted, .int d_seed, .ref da_cries, .ref da_holds, .ref da_came, .ref da_least, .ref da_firstTo, .int d_steps, .int d_roundFrom, .int d_roundMany, .int d_numberAt])), (da_many, .inl (cy 0, 5, .inl df_many)), (da_spot, .inl (cy 5, 6, .inr (.inr (.inr (.inr (fun i => if i < 6 then some (da_spot + 1 + i) else none)))))), ((da_spot + 1 + 0), .inl (cy 0, 2, .inl ((dF_spot 0)))), ((da_spot + 1 + 1), .inl (cy 0, 2, .inl ((dF_spot 1)))), ((da_spot + 1 + 2), .inl (cy 0, 2, .inl ((dF_spot 2)))), ((da_spot + 1 + 3), .inl (cy 0, 2, .inl ((dF_spot 3)))), ((da_spot + 1 + 4), .inl (cy 0, 2, .inl ((dF_spot 4)))), ((da_spot + 1 + 5), .inl (cy 0, 2, .inl ((dF_spot 5))))] H := hP
    have hD : va_D A [(da, .inr (13, [.int d_thrown, .int d_tape, .int d_size, .int d_place, .int d_at, .int d_fault, .int d_faultAt, .int d_clauses, .ref da_fed, .ref da_readBody, .ref da_body, .ref da_readMany, .ref da_many, .ref da_without, .ref da_did, .ref da_done, .ref da_bed, .int d_now, .int d_mindAt, .int d_way, .int d_harm, .int d_worth, .int d_passes, .int d_passings, .int d_spots, .int d_images, .ref da_passing, .ref da_spot, .ref da_kept, .ref da_aside, .int d_spare, .ref da_ran, .ref da_who, .ref da_cap, .ref da_w, .ref da_laid, .int d_whoMany, .int d_drifted, .int d_seed, .ref da_cries, .ref da_holds, .ref da_came, .ref da_least, .ref da_firstTo, .int d_steps, .int d_roundFrom, .int d_roundMany, .int d_numberAt])), (da_many, .inl (cy 0, 5, .inl df_many)), (da_spot, .inl (cy 5, 6, .inr (.inr (.inr (.inr (fun i => if i < 6 then some (da_spot + 1 + i) else none)))))), ((da_spot + 1 + 0), .inl (cy 0, 2, .inl ((dF_spot 0)))), ((da_spot + 1 + 1), .inl (cy 0, 2, .inl ((dF_spot 1)))), ((da_spot + 1 + 2), .inl (cy 0, 2, .inl ((dF_spot 2)))), ((da_spot + 1 + 3), .inl (cy 0, 2, .inl ((dF_spot 3)))), ((da_spot + 1 + 4), .inl (cy 0, 2, .inl ((dF_spot 4)))), ((da_spot + 1 + 5), .inl (cy 0, 2, .inl ((dF_spot 5))))] := hD
    have p10q := hwu9q
    refine lv_aload_n hx hb dX12_between_35 rfl (lv_at hl 0 rfl) ?_
    refine va_get (D := D) (ci := 13) (v := .ref da_spot) (C := RX12) (T := TX12) (N := 48) hx hb hts kin_RX12 hown hG.1 hP 0 rfl rfl 27 (by decide) (hts _ wm_1546) (fun _ h9 => h9) rfl dX12_between_36 ?_
    refine lv_iload_n hx hb dX12_between_39 rfl (lv_at hl 1 rfl) ?_
    refine k_aldA hx hb hG.1 hP 2 rfl (n_in (by omega) (by omega)) dX12_between_40 ?_
    refine W.eq (g2 := F0 m 41 ls [.ref (da_spot + 1 + (b0 : Int32).toNatClampNeg), .int r8q, .int x2q]) (by rw [if_pos (show (b0 : Int32).toNatClampNeg < 6 from n_lt (by omega) (by omega))]; rfl) ?_
    refine lv_iconst (v := 1) hx hb dX12_between_41 (by decide) ?_
    have hw11q : ∀ k, k < 6 → ([(da, .inr (13, [.int d_thrown, .int d_tape, .int d_size, .int d_place, .int d_at, .int d_fault, .int d_faultAt, .int d_clauses, .ref da_fed, .ref da_readBody, .ref da_body, .ref da_readMany, .ref da_many, .ref da_without, .ref da_did, .ref da_done, .ref da_bed, .int d_now, .int d_mindAt, .int d_way, .int d_harm, .int d_worth, .int d_passes, .int d_passings, .int d_spots, .int d_images, .ref da_passing, .ref da_spot, .ref da_kept, .ref da_aside, .int d_spare, .ref da_ran, .ref da_who, .ref da_cap, .ref da_w, .ref da_laid, .int d_whoMany, .int d_drifted, .int d_seed, .ref da_cries, .ref da_holds, .ref da_came, .ref da_least, .ref da_firstTo, .int d_steps, .int d_roundFrom, .int d_roundMany, .int d_numberAt])), (da_many, .inl (cy 0, 5, .inl df_many)), (da_spot, .inl (cy 5, 6, .inr (.inr (.inr (.inr (fun i => if i < 6 then some (da_spot + 1 + i) else none)))))), ((da_spot + 1 + 0), .inl (cy 0, 2, .inl ((dF_spot 0)))), ((da_spot + 1 + 1), .inl (cy 0, 2, .inl ((dF_spot 1)))), ((da_spot + 1 + 2), .inl (cy 0, 2, .inl ((dF_spot 2)))), ((da_spot + 1 + 3), .inl (cy 0, 2, .inl ((dF_spot 3)))), ((da_spot + 1 + 4), .inl (cy 0, 2, .inl ((dF_spot 4)))), ((da_spot + 1 + 5), .inl (cy 0, 2, .inl ((dF_spot 5))))] : va_W)[3 + k]? = some (da_spot + 1 + k, .inl (cy 0, 2, .inl (dF_spot k))) := by intro k hk; rcases (show k = 0 ∨ k = 1 ∨ k = 2 ∨ k = 3 ∨ k = 4 ∨ k = 5 by omega) with rfl | rfl | rfl | rfl | rfl | rfl <;> rfl
    refine va_iald hx hb hG.1 hP (3 + (b0 : Int32).toNatClampNeg) 0 (hw11q _ (n_lt (by omega) (by omega))) rfl (by unfold vp_in; decide) dX12_between_42 ?_
    refine lv_topi (fun x12q ex12q => ?_)
    have rx12q : 0 ≤ x12q.toInt ∧ x12q.toInt ≤ 15 := by rw [ex12q]; exact hc_dF_spot_1 _ (n_lt (by omega) (by omega))
    refine lv_aload_n hx hb dX12_between_43 rfl (lv_at hl 0 rfl) ?_
    refine va_get (D := D) (ci := 13) (v := .ref da_spot) (C := RX12) (T := TX12) (N := 48) hx hb hts kin_RX12 hown hG.1 hP 0 rfl rfl 27 (by decide) (hts _ wm_1546) (fun _ h9 => h9) rfl dX12_between_44 ?_
    refine lv_iload_n hx hb dX12_between_47 rfl (lv_at hl 2 rfl) ?_
    refine k_aldA hx hb hG.1 hP 2 rfl (n_in (by omega) (by omega)) dX12_between_48 ?_
    refine W.eq (g2 := F0 m 49 ls [.ref (da_spot + 1 + (b1 : Int32).toNatClampNeg), .int x12q, .int r8q, .int x2q]) (by rw [if_pos (show (b1 : Int32).toNatClampNeg < 6 from n_lt (by omega) (by omega))]; rfl) ?_
    refine lv_iconst (v := 1) hx hb dX12_between_49 (by decide) ?_
    have hw13q : ∀ k, k < 6 → ([(da, .inr (13, [.int d_thrown, .int d_tape, .int d_size, .int d_place, .int d_at, .int d_fault, .int d_faultAt, .int d_clauses, .ref da_fed, .ref da_readBody, .ref da_body, .ref da_readMany, .ref da_many, .ref da_without, .ref da_did, .ref da_done, .ref da_bed, .int d_now, .int d_mindAt, .int d_way, .int d_harm, .int d_worth, .int d_passes, .int d_passings, .int d_spots, .int d_images, .ref da_passing, .ref da_spot, .ref da_kept, .ref da_aside, .int d_spare, .ref da_ran, .ref da_who, .ref da_cap, .ref da_w, .ref da_laid, .int d_whoMany, .int d_drifted, .int d_seed, .ref da_cries, .ref da_holds, .ref da_came, .ref da_least, .ref da_firstTo, .int d_steps, .int d_roundFrom, .int d_roundMany, .int d_numberAt])), (da_many, .inl (cy 0, 5, .inl df_many)), (da_spot, .inl (cy 5, 6, .inr (.inr (.inr (.inr (fun i => if i < 6 then some (da_spot + 1 + i) else none)))))), ((da_spot + 1 + 0), .inl (cy 0, 2, .inl ((dF_spot 0)))), ((da_spot + 1 + 1), .inl (cy 0, 2, .inl ((dF_spot 1)))), ((da_spot + 1 + 2), .inl (cy 0, 2, .inl ((dF_spot 2)))), ((da_spot + 1 + 3), .inl (cy 0, 2, .inl ((dF_spot 3)))), ((da_spot + 1 + 4), .inl (cy 0, 2, .inl ((dF_spot 4)))), ((da_spot + 1 + 5), .inl (cy 0, 2, .inl ((dF_spot 5))))] : va_W)[3 + k]? = some (da_spot + 1 + k, .inl (cy 0, 2, .inl (dF_spot k))) := by intro k hk; rcases (show k = 0 ∨ k = 1 ∨ k = 2 ∨ k = 3 ∨ k = 4 ∨ k = 5 by omega) with rfl | rfl | rfl | rfl | rfl | rfl <;> rfl
    refine va_iald hx hb hG.1 hP (3 + (b1 : Int32).toNatClampNeg) 0 (hw13q _ (n_lt (by omega) (by omega))) rfl (by unfold vp_in; decide) dX12_between_50 ?_
    refine lv_topi (fun x14q ex14q => ?_)
    have rx14q : 0 ≤ x14q.toInt ∧ x14q.toInt ≤ 15 := by rw [ex14q]; exact hc_dF_spot_1 _ (n_lt (by omega) (by omega))
    refine lv_isub hx hb dX12_between_51 ?_
    refine lv_topi (fun x15q ex15q => ?_)
    have rx15q := n_sub ex15q (a := x12q.toInt) (b := x14q.toInt) rfl rfl (by omega) (by omega)
    refine k_cali [0, 1, 2, 3, 4, 5, 6, 7, 8] (⟨hP, hD, hG, hS, hA, rfl, rfl⟩ : kAt D cy sa A s H _ _ [] []) (wr := [(da, .inr (13, [.int d_thrown, .int d_tape, .int d_size, .int d_place, .int d_at, .int d_fault, .int d_faultAt, .int d_clauses, .ref da_fed, .ref da_readBody, .ref da_body, .ref da_readMany, .ref da_many, .ref da_without, .ref da_did, .ref da_done, .ref da_bed, .int d_now, .int d_mindAt, .int d_way, .int d_harm, .int d_worth, .int d_passes, .int d_passings, .int d_spots, .int d_images, .ref da_passing, .ref da_spot, .ref da_kept, .ref da_aside, .int d_spare, .ref da_ran, .ref da_who, .ref da_cap, .ref da_w, .ref da_laid, .int d_whoMany, .int d_drifted, .int d_seed, .ref da_cries, .ref da_holds, .ref da_came, .ref da_least, .ref da_firstTo, .int d_steps, .int d_roundFrom, .int d_roundMany, .int d_numberAt])), (da_many, .inl (cy 0, 5, .inl df_many)), (da_spot, .inl (cy 5, 6, .inr (.inr (.inr (.inr (fun i => if i < 6 then some (da_spot + 1 + i) else none)))))), ((da_spot + 1 + 0), .inl (cy 0, 2, .inl ((dF_spot 0)))), ((da_spot + 1 + 1), .inl (cy 0, 2, .inl ((dF_spot 1)))), ((da_spot + 1 + 2), .inl (cy 0, 2, .inl ((dF_spot 2)))), ((da_spot + 1 + 3), .inl (cy 0, 2, .inl ((dF_spot 3)))), ((da_spot + 1 + 4), .inl (cy 0, 2, .inl ((dF_spot 4)))), ((da_spot + 1 + 5), .inl (cy 0, 2, .inl ((dF_spot 5))))]) rfl rfl (by decide) (k_runS (As := [.int x15q]) (rest := [.int r8q, .int x2q]) E lk_SRX12_223 (m_amount l hl0 D cy sa x15q ⟨by omega, by omega⟩ H.size) (⟨hP, hD, hG, hS, hA, rfl, rfl⟩ : kAt D cy sa A s H _ _ [] []) hl.1 rfl rfl ⟨rfl, rfl, ⟨Nat.le_of_ble_eq_true rfl, Nat.le_of_ble_eq_true rfl⟩, ⟨Nat.le_of_ble_eq_true rfl, Nat.le_of_ble_eq_true rfl⟩, Nat.le_of_ble_eq_true rfl⟩ dX12_between_52) (fun r16q u17q H locs hwu17q hP hD hS => ?_)
    have hP : va_P D vwCl [(da, .inr (13, [.int d_thrown, .int d_tape, .int d_size, .int d_place, .int d_at, .int d_fault, .int d_faultAt, .int d_clauses, .ref da_fed, .ref da_readBody, .ref da_body, .ref da_readMany, .ref da_many, .ref da_without, .ref da_did, .ref da_done, .ref da_bed, .int d_now, .int d_mindAt, .int d_way, .int d_harm, .int d_worth, .int d_passes, .int d_passings, .int d_spots, .int d_images, .ref da_passing, .ref da_spot, .ref da_kept, .ref da_aside, .int d_spare, .ref da_ran, .ref da_who, .ref da_cap, .ref da_w, .ref da_laid, .int d_whoMany, .int d_drifted, .int d_seed, .ref da_cries, .ref da_holds, .ref da_came, .ref da_least, .ref da_firstTo, .int d_steps, .int d_roundFrom, .int d_roundMany, .int d_numberAt])), (da_many, .inl (cy 0, 5, .inl df_many)), (da_spot, .inl (cy 5, 6, .inr (.inr (.inr (.inr (fun i => if i < 6 then some (da_spot + 1 + i) else none)))))), ((da_spot + 1 + 0), .inl (cy 0, 2, .inl ((dF_spot 0)))), ((da_spot + 1 + 1), .inl (cy 0, 2, .inl ((dF_spot 1)))), ((da_spot + 1 + 2), .inl (cy 0, 2, .inl ((dF_spot 2)))), ((da_spot + 1 + 3), .inl (cy 0, 2, .inl ((dF_spot 3)))), ((da_spot + 1 + 4), .inl (cy 0, 2, .inl ((dF_spot 4)))), ((da_spot + 1 + 5), .inl (cy 0, 2, .inl ((dF_spot 5))))] H := hP
    have hD : va_D A [(da, .inr (13, [.int d_thrown, .int d_tape, .int d_size, .int d_place, .int d_at, .int d_fault, .int d_faultAt, .int d_clauses, .ref da_fed, .ref da_readBody, .ref da_body, .ref da_readMany, .ref da_many, .ref da_without, .ref da_did, .ref da_done, .ref da_bed, .int d_now, .int d_mindAt, .int d_way, .int d_harm, .int d_worth, .int d_passes, .int d_passings, .int d_spots, .int d_images, .ref da_passing, .ref da_spot, .ref da_kept, .ref da_aside, .int d_spare, .ref da_ran, .ref da_who, .ref da_cap, .ref da_w, .ref da_laid, .int d_whoMany, .int d_drifted, .int d_seed, .ref da_cries, .ref da_holds, .ref da_came, .ref da_least, .ref da_firstTo, .int d_steps, .int d_roundFrom, .int d_roundMany, .int d_numberAt])), (da_many, .inl (cy 0, 5, .inl df_many)), (da_spot, .inl (cy 5, 6, .inr (.inr (.inr (.inr (fun i => if i < 6 then some (da_spot + 1 + i) else none)))))), ((da_spot + 1 + 0), .inl (cy 0, 2, .inl ((dF_spot 0)))), ((da_spot + 1 + 1), .inl (cy 0, 2, .inl ((dF_spot 1)))), ((da_spot + 1 + 2), .inl (cy 0, 2, .inl ((dF_spot 2)))), ((da_spot + 1 + 3), .inl (cy 0, 2, .inl ((dF_spot 3)))), ((da_spot + 1 + 4), .inl (cy 0, 2, .inl ((dF_spot 4)))), ((da_spot + 1 + 5), .inl (cy 0, 2, .inl ((dF_spot 5))))] := hD
    have p18q := hwu17q
    refine lv_iadd hx hb dX12_between_55 ?_
    refine lv_topi (fun x19q ex19q => ?_)
    have rx19q := n_add ex19q (a := r8q.toInt) (b := r16q.toInt) rfl rfl (by omega) (by omega)
    refine lv_aload_n hx hb dX12_between_56 rfl (lv_at hl 0 rfl) ?_
    refine va_get (D := D) (ci := 13) (v := .ref da_many) (C := RX12) (T := TX12) (N := 48) hx hb hts kin_RX12 hown hG.1 hP 0 rfl rfl 12 (by decide) (hts _ wm_1531) (fun _ h9 => h9) rfl dX12_between_57 ?_
    refine lv_iconst (v := 2) hx hb dX12_between_60 (by decide) ?_
    refine va_iald hx hb hG.1 hP 1 0 rfl rfl (by unfold vp_in; decide) dX12_between_61 ?_
    refine lv_topi (fun x20q ex20q => ?_)
    have rx20q : x20q.toInt = (df_many 2).toInt := by rw [ex20q]; rfl
    refine lv_idiv hx hb dX12_between_62 (n_ne (by omega)) ?_
    refine lv_topi (fun x21q ex21q => ?_)
    have rx21q := n_divR ex21q (by omega) (by omega)
    refine lv_iadd hx hb dX12_between_63 ?_
    refine lv_topi (fun x22q ex22q => ?_)
    have rx22q := n_add ex22q (a := x2q.toInt) (b := x21q.toInt) rfl rfl (by omega) (by omega)
    rw [hQ0]
    exact k_iret () hx hb hr hlk ((show 0 ≤ x22q.toInt ∧ x22q.toInt ≤ 39 by omega)) (hP.sub [0, 1, 2, 3, 4, 5, 6, 7, 8] rfl) (hD.sub [0, 1, 2, 3, 4, 5, 6, 7, 8] (by decide) rfl) hS (by decide) (by decide) dX12_between_64
  · simp only [k_lt, k_le, k_eq, ne_eq, ge_iff_le, gt_iff_lt] at c1q
    refine lv_iconst (v := 0) hx hb dX12_between_5 (by decide) ?_
    refine lv_goto (tgt := 64) hx hb dX12_between_6 (by decide) ?_
    rw [hQ0]
    exact k_iret () hx hb hr hlk ((by show 0 ≤ (0 : Int32).toInt ∧ (0 : Int32).toInt ≤ 39; rw [n_L0]; omega)) (hP.sub [0, 1, 2, 3, 4, 5, 6, 7, 8] rfl) (hD.sub [0, 1, 2, 3, 4, 5, 6, 7, 8] (by decide) rfl) hS (by decide) (by decide) dX12_between_64

set_option maxHeartbeats 4000000 in
set_option maxRecDepth 100000 in
/-- the reference: roundOf -/
theorem m_roundOf (l : Launch) (hl0 : l.stackTraces = false) (D : va_G) (cy : Nat → ClassId) (sa : Nat → Nat) (da da_fed da_readBody da_body da_readMany da_many da_without da_did da_done da_bed da_passing da_spot da_kept da_aside da_ran da_who da_cap da_w da_laid da_cries da_holds da_came da_least da_firstTo : Nat) (d_thrown d_tape d_size d_place d_at d_fault d_faultAt d_clauses d_now d_mindAt d_way d_harm d_worth d_passes d_passings d_spots d_images d_spare d_whoMany d_drifted d_seed d_steps d_roundFrom d_roundMany d_numberAt v0 a0 : Int32) (df_many : Nat → Int32) (dF_spot : Nat → Nat → Int32) (h_d_tape : 0 ≤ d_tape.toInt ∧ d_tape.toInt ≤ 500) (h_d_size : 0 ≤ d_size.toInt ∧ d_size.toInt ≤ 500) (h_d_at : 0 ≤ d_at.toInt ∧ d_at.toInt ≤ 500) (h_d_clauses : 0 ≤ d_clauses.toInt ∧ d_clauses.toInt ≤ 40) (h_d_now : 0 ≤ d_now.toInt ∧ d_now.toInt ≤ 480) (h_d_mindAt : 0 ≤ d_mindAt.toInt ∧ d_mindAt.toInt ≤ 8) (h_d_passings : 0 ≤ d_passings.toInt ∧ d_passings.toInt ≤ 30) (h_d_spots : 0 ≤ d_spots.toInt ∧ d_spots.toInt ≤ 6) (h_d_images : 0 ≤ d_images.toInt ∧ d_images.toInt ≤ 3) (h_d_whoMany : 0 ≤ d_whoMany.toInt ∧ d_whoMany.toInt ≤ 4) (hx_df_many : (0 ≤ (df_many 0).toInt ∧ (df_many 0).toInt ≤ 9) ∧ (0 ≤ (df_many 1).toInt ∧ (df_many 1).toInt ≤ 9) ∧ (0 ≤ (df_many 2).toInt ∧ (df_many 2).toInt ≤ 30) ∧ (0 ≤ (df_many 3).toInt ∧ (df_many 3).toInt ≤ 480) ∧ (((df_many 0).toInt = 0 ∧ (df_many 3).toInt = 0) ∨ 1 ≤ (df_many 2).toInt)) (hc_dF_spot_0 : ∀ b, b < 6 → 0 ≤ (dF_spot b 0).toInt ∧ (dF_spot b 0).toInt ≤ 15) (hc_dF_spot_1 : ∀ b, b < 6 → 0 ≤ (dF_spot b 1).toInt ∧ (dF_spot b 1).toInt ≤ 15) (h_v0 : 0 ≤ v0.toInt ∧ v0.toInt ≤ 46655) (hm2 : 1 ≤ (df_many 2).toInt) (hva : (a0.toInt = 6 ∧ v0.toInt < 6) ∨ (a0.toInt = 36 ∧ v0.toInt < 36) ∨ (a0.toInt = 216 ∧ v0.toInt < 216) ∨ (a0.toInt = 1296 ∧ v0.toInt < 1296) ∨ (a0.toInt = 7776 ∧ v0.toInt < 7776) ∨ (a0.toInt = 46656 ∧ v0.toInt < 46656)) (sz : Nat) : Met l yX12_roundOf (Cond.code yX12_roundOf cX12_roundOf 9 (some .int) :: kWS) ({ frames := 12, cells := 0, slots := 0, locals := 420 }) (kPre D cy sa [.ref da, .int v0, .int a0] [(da, .inr (13, [.int d_thrown, .int d_tape, .int d_size, .int d_place, .int d_at, .int d_fault, .int d_faultAt, .int d_clauses, .ref da_fed, .ref da_readBody, .ref da_body, .ref da_readMany, .ref da_many, .ref da_without, .ref da_did, .ref da_done, .ref da_bed, .int d_now, .int d_mindAt, .int d_way, .int d_harm, .int d_worth, .int d_passes, .int d_passings, .int d_spots, .int d_images, .ref da_passing, .ref da_spot, .ref da_kept, .ref da_aside, .int d_spare, .ref da_ran, .ref da_who, .ref da_cap, .ref da_w, .ref da_laid, .int d_whoMany, .int d_drifted, .int d_seed, .ref da_cries, .ref da_holds, .ref da_came, .ref da_least, .ref da_firstTo, .int d_steps, .int d_roundFrom, .int d_roundMany, .int d_numberAt])), (da_many, .inl (cy 0, 5, .inl df_many)), (da_spot, .inl (cy 5, 6, .inr (.inr (.inr (.inr (fun i => if i < 6 then some (da_spot + 1 + i) else none)))))), ((da_spot + 1 + 0), .inl (cy 0, 2, .inl ((dF_spot 0)))), ((da_spot + 1 + 1), .inl (cy 0, 2, .inl ((dF_spot 1)))), ((da_spot + 1 + 2), .inl (cy 0, 2, .inl ((dF_spot 2)))), ((da_spot + 1 + 3), .inl (cy 0, 2, .inl ((dF_spot 3)))), ((da_spot + 1 + 4), .inl (cy 0, 2, .inl ((dF_spot 4)))), ((da_spot + 1 + 5), .inl (cy 0, 2, .inl ((dF_spot 5))))] sz) (va_Qi (fun (r : Int32) (u : Unit) => True) (kB D (va_A [(da, .inr (13, [.int d_thrown, .int d_tape, .int d_size, .int d_place, .int d_at, .int d_fault, .int d_faultAt, .int d_clauses, .ref da_fed, .ref da_readBody, .ref da_body, .ref da_readMany, .ref da_many, .ref da_without, .ref da_did, .ref da_done, .ref da_bed, .int d_now, .int d_mindAt, .int d_way, .int d_harm, .int d_worth, .int d_passes, .int d_passings, .int d_spots, .int d_images, .ref da_passing, .ref da_spot, .ref da_kept, .ref da_aside, .int d_spare, .ref da_ran, .ref da_who, .ref da_cap, .ref da_w, .ref da_laid, .int d_whoMany, .int d_drifted, .int d_seed, .ref da_cries, .ref da_holds, .ref da_came, .ref da_least, .ref da_firstTo, .int d_steps, .int d_roundFrom, .int d_roundMany, .int d_numberAt])), (da_many, .inl (cy 0, 5, .inl df_many)), (da_spot, .inl (cy 5, 6, .inr (.inr (.inr (.inr (fun i => if i < 6 then some (da_spot + 1 + i) else none)))))), ((da_spot + 1 + 0), .inl (cy 0, 2, .inl ((dF_spot 0)))), ((da_spot + 1 + 1), .inl (cy 0, 2, .inl ((dF_spot 1)))), ((da_spot + 1 + 2), .inl (cy 0, 2, .inl ((dF_spot 2)))), ((da_spot + 1 + 3), .inl (cy 0, 2, .inl ((dF_spot 3)))), ((da_spot + 1 + 4), .inl (cy 0, 2, .inl ((dF_spot 4)))), ((da_spot + 1 + 5), .inl (cy 0, 2, .inl ((dF_spot 5))))] sz) (fun (u : Unit) => [(da, .inr (13, [.int d_thrown, .int d_tape, .int d_size, .int d_place, .int d_at, .int d_fault, .int d_faultAt, .int d_clauses, .ref da_fed, .ref da_readBody, .ref da_body, .ref da_readMany, .ref da_many, .ref da_without, .ref da_did, .ref da_done, .ref da_bed, .int d_now, .int d_mindAt, .int d_way, .int d_harm, .int d_worth, .int d_passes, .int d_passings, .int d_spots, .int d_images, .ref da_passing, .ref da_spot, .ref da_kept, .ref da_aside, .int d_spare, .ref da_ran, .ref da_who, .ref da_cap, .ref da_w, .ref da_laid, .int d_whoMany, .int d_drifted, .int d_seed, .ref da_cries, .ref da_holds, .ref da_came, .ref da_least, .ref da_firstTo, .int d_steps, .int d_roundFrom, .int d_roundMany, .int d_numberAt])), (da_many, .inl (cy 0, 5, .inl df_many)), (da_spot, .inl (cy 5, 6, .inr (.inr (.inr (.inr (fun i => if i < 6 then some (da_spot + 1 + i) else none)))))), ((da_spot + 1 + 0), .inl (cy 0, 2, .inl ((dF_spot 0)))), ((da_spot + 1 + 1), .inl (cy 0, 2, .inl ((dF_spot 1)))), ((da_spot + 1 + 2), .inl (cy 0, 2, .inl ((dF_spot 2)))), ((da_spot + 1 + 3), .inl (cy 0, 2, .inl ((dF_spot 3)))), ((da_spot + 1 + 4), .inl (cy 0, 2, .inl ((dF_spot 4)))), ((da_spot + 1 + 5), .inl (cy 0, 2, .inl ((dF_spot 5))))])) (va_A [(da, .inr (13, [.int d_thrown, .int d_tape, .int d_size, .int d_place, .int d_at, .int d_fault, .int d_faultAt, .int d_clauses, .ref da_fed, .ref da_readBody, .ref da_body, .ref da_readMany, .ref da_many, .ref da_without, .ref da_did, .ref da_done, .ref da_bed, .int d_now, .int d_mindAt, .int d_way, .int d_harm, .int d_worth, .int d_passes, .int d_passings, .int d_spots, .int d_images, .ref da_passing, .ref da_spot, .ref da_kept, .ref da_aside, .int d_spare, .ref da_ran, .ref da_who, .ref da_cap, .ref da_w, .ref da_laid, .int d_whoMany, .int d_drifted, .int d_seed, .ref da_cries, .ref da_holds, .ref da_came, .ref da_least, .ref da_firstTo, .int d_steps, .int d_roundFrom, .int d_roundMany, .int d_numberAt])), (da_many, .inl (cy 0, 5, .inl df_many)), (da_spot, .inl (cy 5, 6, .inr (.inr (.inr (.inr (fun i => if i < 6 then some (da_spot + 1 + i) else none)))))), ((da_spot + 1 + 0), .inl (cy 0, 2, .inl ((dF_spot 0)))), ((da_spot + 1 + 1), .inl (cy 0, 2, .inl ((dF_spot 1)))), ((da_spot + 1 + 2), .inl (cy 0, 2, .inl ((dF_spot 2)))), ((da_spot + 1 + 3), .inl (cy 0, 2, .inl ((dF_spot 3)))), ((da_spot + 1 + 4), .inl (cy 0, 2, .inl ((dF_spot 4)))), ((da_spot + 1 + 5), .inl (cy 0, 2, .inl ((dF_spot 5))))] sz)) 0 0 (va_A [(da, .inr (13, [.int d_thrown, .int d_tape, .int d_size, .int d_place, .int d_at, .int d_fault, .int d_faultAt, .int d_clauses, .ref da_fed, .ref da_readBody, .ref da_body, .ref da_readMany, .ref da_many, .ref da_without, .ref da_did, .ref da_done, .ref da_bed, .int d_now, .int d_mindAt, .int d_way, .int d_harm, .int d_worth, .int d_passes, .int d_passings, .int d_spots, .int d_images, .ref da_passing, .ref da_spot, .ref da_kept, .ref da_aside, .int d_spare, .ref da_ran, .ref da_who, .ref da_cap, .ref da_w, .ref da_laid, .int d_whoMany, .int d_drifted, .int d_seed, .ref da_cries, .ref da_holds, .ref da_came, .ref da_least, .ref da_firstTo, .int d_steps, .int d_roundFrom, .int d_roundMany, .int d_numberAt])), (da_many, .inl (cy 0, 5, .inl df_many)), (da_spot, .inl (cy 5, 6, .inr (.inr (.inr (.inr (fun i => if i < 6 then some (da_spot + 1 + i) else none)))))), ((da_spot + 1 + 0), .inl (cy 0, 2, .inl ((dF_spot 0)))), ((da_spot + 1 + 1), .inl (cy 0, 2, .inl ((dF_spot 1)))), ((da_spot + 1 + 2), .inl (cy 0, 2, .inl ((dF_spot 2)))), ((da_spot + 1 + 3), .inl (cy 0, 2, .inl ((dF_spot 3)))), ((da_spot + 1 + 4), .inl (cy 0, 2, .inl ((dF_spot 4)))), ((da_spot + 1 + 5), .inl (cy 0, 2, .inl ((dF_spot 5))))] sz) := by
  refine k_ofW (y := yX12_roundOf) (cc := cX12_roundOf) (maxL := 9) (ret := (some .int)) (av := [.ref da, .int v0, .int a0]) (ws := [(da, .inr (13, [.int d_thrown, .int d_tape, .int d_size, .int d_place, .int d_at, .int d_fault, .int d_faultAt, .int d_clauses, .ref da_fed, .ref da_readBody, .ref da_body, .ref da_readMany, .ref da_many, .ref da_without, .ref da_did, .ref da_done, .ref da_bed, .int d_now, .int d_mindAt, .int d_way, .int d_harm, .int d_worth, .int d_passes, .int d_passings, .int d_spots, .int d_images, .ref da_passing, .ref da_spot, .ref da_kept, .ref da_aside, .int d_spare, .ref da_ran, .ref da_who, .ref da_cap, .ref da_w, .ref da_laid, .int d_whoMany, .int d_drifted, .int d_seed, .ref da_cries, .ref da_holds, .ref da_came, .ref da_least, .ref da_firstTo, .int d_steps, .int d_roundFrom, .int d_roundMany, .int d_numberAt])), (da_many, .inl (cy 0, 5, .inl df_many)), (da_spot, .inl (cy 5, 6, .inr (.inr (.inr (.inr (fun i => if i < 6 then some (da_spot + 1 + i) else none)))))), ((da_spot + 1 + 0), .inl (cy 0, 2, .inl ((dF_spot 0)))), ((da_spot + 1 + 1), .inl (cy 0, 2, .inl ((dF_spot 1)))), ((da_spot + 1 + 2), .inl (cy 0, 2, .inl ((dF_spot 2)))), ((da_spot + 1 + 3), .inl (cy 0, 2, .inl ((dF_spot 3)))), ((da_spot + 1 + 4), .inl (cy 0, 2, .inl ((dF_spot 4)))), ((da_spot + 1 + 5), .inl (cy 0, 2, .inl ((dF_spot 5))))]) (Qc := fun A => (va_Qi (fun (r : Int32) (u : Unit) => True) (kB D A (fun (u : Unit) => [(da, .inr (13, [.int d_thrown, .int d_tape, .int d_size, .int d_place, .int d_at, .int d_fault, .int d_faultAt, .int d_clauses, .ref da_fed, .ref da_readBody, .ref da_body, .ref da_readMany, .ref da_many, .ref da_without, .ref da_did, .ref da_done, .ref da_bed, .int d_now, .int d_mindAt, .int d_way, .int d_harm, .int d_worth, .int d_passes, .int d_passings, .int d_spots, .int d_images, .ref da_passing, .ref da_spot, .ref da_kept, .ref da_aside, .int d_spare, .ref da_ran, .ref da_who, .ref da_cap, .ref da_w, .ref da_laid, .int d_whoMany, .int d_drifted, .int d_seed, .ref da_cries, .ref da_holds, .ref da_came, .ref da_least, .ref da_firstTo, .int d_steps, .int d_roundFrom, .int d_roundMany, .int d_numberAt])), (da_many, .inl (cy 0, 5, .inl df_many)), (da_spot, .inl (cy 5, 6, .inr (.inr (.inr (.inr (fun i => if i < 6 then some (da_spot + 1 + i) else none)))))), ((da_spot + 1 + 0), .inl (cy 0, 2, .inl ((dF_spot 0)))), ((da_spot + 1 + 1), .inl (cy 0, 2, .inl ((dF_spot 1)))), ((da_spot + 1 + 2), .inl (cy 0, 2, .inl ((dF_spot 2)))), ((da_spot + 1 + 3), .inl (cy 0, 2, .inl ((dF_spot 3)))), ((da_spot + 1 + 4), .inl (cy 0, 2, .inl ((dF_spot 4)))), ((da_spot + 1 + 5), .inl (cy 0, 2, .inl ((dF_spot 5))))])) A)) (by decide) (Nat.le_of_ble_eq_true rfl) ?_
  intro p e s m below meth c ls A E hA hP hD hG hS hl
  obtain ⟨Q0, hQ0⟩ : ∃ Q0 : State → Prop, Q0 = MQ below (va_Qi (fun (r : Int32) (u : Unit) => True) (kB D A (fun (u : Unit) => [(da, .inr (13, [.int d_thrown, .int d_tape, .int d_size, .int d_place, .int d_at, .int d_fault, .int d_faultAt, .int d_clauses, .ref da_fed, .ref da_readBody, .ref da_body, .ref da_readMany, .ref da_many, .ref da_without, .ref da_did, .ref da_done, .ref da_bed, .int d_now, .int d_mindAt, .int d_way, .int d_harm, .int d_worth, .int d_passes, .int d_passings, .int d_spots, .int d_images, .ref da_passing, .ref da_spot, .ref da_kept, .ref da_aside, .int d_spare, .ref da_ran, .ref da_who, .ref da_cap, .ref da_w, .ref da_laid, .int d_whoMany, .int d_drifted, .int d_seed, .ref da_cries, .ref da_holds, .ref da_came, .ref da_least, .ref da_firstTo, .int d_steps, .int d_roundFrom, .int d_roundMany, .int d_numberAt])), (da_many, .inl (cy 0, 5, .inl df_many)), (da_spot, .inl (cy 5, 6, .inr (.inr (.inr (.inr (fun i => if i < 6 then some (da_spot + 1 + i) else none)))))), ((da_spot + 1 + 0), .inl (cy 0, 2, .inl ((dF_spot 0)))), ((da_spot + 1 + 1), .inl (cy 0, 2, .inl ((dF_spot 1)))), ((da_spot + 1 + 2), .inl (cy 0, 2, .inl ((dF_spot 2)))), ((da_spot + 1 + 3), .inl (cy 0, 2, .inl ((dF_spot 3)))), ((da_spot + 1 + 4), .inl (cy 0, 2, .inl ((dF_spot 4)))), ((da_spot + 1 + 5), .inl (cy 0, 2, .inl ((dF_spot 5))))])) A) ([.ref da, .int v0, .int a0] : List Value).toArray s 0 0 A := ⟨_, rfl⟩
  rw [← hQ0]
  obtain ⟨hx, hb, hml, hown, hts, hr, hlk, hnm⟩ := id E
  have hown : s.vm.findClass RX12 = some m.cls := hown
  have hl : lv_has ls 9 [(0, .ref da), (1, .int v0), (2, .int a0)] := hl
  have g_a0 := k_rng a0
  obtain ⟨H, hH⟩ : ∃ H, H = s.heap := ⟨_, rfl⟩
  have hP : va_P D vwCl [(da, .inr (13, [.int d_thrown, .int d_tape, .int d_size, .int d_place, .int d_at, .int d_fault, .int d_faultAt, .int d_clauses, .ref da_fed, .ref da_readBody, .ref da_body, .ref da_readMany, .ref da_many, .ref da_without, .ref da_did, .ref da_done, .ref da_bed, .int d_now, .int d_mindAt, .int d_way, .int d_harm, .int d_worth, .int d_passes, .int d_passings, .int d_spots, .int d_images, .ref da_passing, .ref da_spot, .ref da_kept, .ref da_aside, .int d_spare, .ref da_ran, .ref da_who, .ref da_cap, .ref da_w, .ref da_laid, .int d_whoMany, .int d_drifted, .int d_seed, .ref da_cries, .ref da_holds, .ref da_came, .ref da_least, .ref da_firstTo, .int d_steps, .int d_roundFrom, .int d_roundMany, .int d_numberAt])), (da_many, .inl (cy 0, 5, .inl df_many)), (da_spot, .inl (cy 5, 6, .inr (.inr (.inr (.inr (fun i => if i < 6 then some (da_spot + 1 + i) else none)))))), ((da_spot + 1 + 0), .inl (cy 0, 2, .inl ((dF_spot 0)))), ((da_spot + 1 + 1), .inl (cy 0, 2, .inl ((dF_spot 1)))), ((da_spot + 1 + 2), .inl (cy 0, 2, .inl ((dF_spot 2)))), ((da_spot + 1 + 3), .inl (cy 0, 2, .inl ((dF_spot 3)))), ((da_spot + 1 + 4), .inl (cy 0, 2, .inl ((dF_spot 4)))), ((da_spot + 1 + 5), .inl (cy 0, 2, .inl ((dF_spot 5))))] H := by rw [hH]; exact hP
  have hS : va_S A s.heap H [] := by rw [hH]; exact va_S.rf
  rw [← hH]
  clear hH
  obtain ⟨locs, hlocs⟩ : ∃ locs : List Loc, locs = [] := ⟨_, rfl⟩
  rw [← hlocs] at hS ⊢
  rcases hva with ⟨h9, h8⟩ | ⟨h9, h8⟩ | ⟨h9, h8⟩ | ⟨h9, h8⟩ | ⟨h9, h8⟩ | ⟨h9, h8⟩
  · obtain rfl : a0 = 6 := Int32.toInt_inj.mp (h9.trans (by decide))
    refine lv_iconst (v := 0) hx hb dX12_roundOf_0 (by decide) ?_
    refine lv_istore_n (lv' := [(3, .int 0), (0, .ref da), (1, .int v0), (2, .int 6)]) hx hb dX12_roundOf_1 rfl hl (by decide) rfl (fun ls hl => ?_)
    refine lv_iconst (v := 0) hx hb dX12_roundOf_2 (by decide) ?_
    refine lv_istore (lv' := [(4, .int 0), (3, .int 0), (0, .ref da), (1, .int v0), (2, .int 6)]) hx hb dX12_roundOf_3 hl (by decide) rfl (fun ls hl => ?_)
    refine lv_iload_n hx hb dX12_roundOf_5 rfl (lv_at hl 3 rfl) ?_
    refine lv_iload_n hx hb dX12_roundOf_6 rfl (lv_at hl 4 rfl) ?_
    refine lv_bipush (v := 6) hx hb dX12_roundOf_7 (by decide) ?_
    refine lv_idiv hx hb dX12_roundOf_9 (by decide) ?_
    refine lv_topi (fun x1q ex1q => ?_)
    obtain rfl : x1q = 1 := ex1q.trans (by decide)
    refine lv_idiv hx hb dX12_roundOf_10 (by decide) ?_
    refine lv_topi (fun x2q ex2q => ?_)
    have rx2q := n_div ex2q (a := v0.toInt) (b := 1) rfl n_L1 (by omega) (by omega)
    refine lv_istore (lv' := [(5, .int x2q), (4, .int 0), (3, .int 0), (0, .ref da), (1, .int v0), (2, .int 6)]) hx hb dX12_roundOf_11 hl (by decide) rfl (fun ls hl => ?_)
    refine lv_iload hx hb dX12_roundOf_13 (lv_at hl 0 rfl) ?_
    refine lv_istore (lv' := [(6, .int x2q), (5, .int x2q), (4, .int 0), (3, .int 0), (0, .ref da), (1, .int v0), (2, .int 6)]) hx hb dX12_roundOf_15 hl (by decide) rfl (fun ls hl => ?_)
    refine lv_iload_n hx hb dX12_roundOf_17 rfl (lv_at hl 6 rfl) ?_
    refine lv_bipush (v := 6) hx hb dX12_roundOf_18 (by decide) ?_
    refine lv_idiv hx hb dX12_roundOf_20 (by decide) ?_
    refine lv_topi (fun x3q ex3q => ?_)
    obtain rfl : x3q = 1 := ex3q.trans (by decide)
    refine lv_istore (lv' := [(7, .int 1), (6, .int x2q), (5, .int x2q), (4, .int 0), (3, .int 0), (0, .ref da), (1, .int v0), (2, .int 6)]) hx hb dX12_roundOf_21 hl (by decide) rfl (fun ls hl => ?_)
    refine lv_iload hx hb dX12_roundOf_23 (lv_at hl 0 rfl) ?_
    refine lv_if_le (tgt := 92) hx hb dX12_roundOf_25 (by decide) (fun h => absurd h (by decide)) (fun _ => ?_)
    refine lv_iload_n hx hb dX12_roundOf_28 rfl (lv_at hl 6 rfl) ?_
    refine lv_iload hx hb dX12_roundOf_29 (lv_at hl 0 rfl) ?_
    refine lv_idiv hx hb dX12_roundOf_31 (by decide) ?_
    refine lv_topi (fun x4q ex4q => ?_)
    have rx4q := n_div ex4q (a := v0.toInt) (b := 1) rfl n_L1 (by omega) (by omega)
    refine lv_bipush (v := 6) hx hb dX12_roundOf_32 (by decide) ?_
    refine lv_irem hx hb dX12_roundOf_34 (by decide) ?_
    refine lv_topi (fun x5q ex5q => ?_)
    have rx5q := n_mod ex5q (a := x4q.toInt) (b := 6) rfl n_L6 (by omega) (by omega)
    refine lv_istore (lv' := [(8, .int x5q), (7, .int 1), (6, .int x2q), (5, .int x2q), (4, .int 0), (3, .int 0), (0, .ref da), (1, .int v0), (2, .int 6)]) hx hb dX12_roundOf_35 hl (by decide) rfl (fun ls hl => ?_)
    refine lv_iload hx hb dX12_roundOf_37 (lv_at hl 0 rfl) ?_
    refine lv_aload_n hx hb dX12_roundOf_39 rfl (lv_at hl 6 rfl) ?_
    refine va_get (D := D) (ci := 13) (v := .int d_spots) (C := RX12) (T := TX12) (N := 48) hx hb hts kin_RX12 hown hG.1 hP 0 rfl rfl 24 (by decide) (hts _ wm_1543) (fun _ h9 => h9) rfl dX12_roundOf_40 ?_
    refine lv_icmp_ge (tgt := 56) hx hb dX12_roundOf_43 (by decide) (fun c6q => ?_) (fun c6q => ?_)
    · simp only [k_lt, k_le, k_eq, ne_eq, ge_iff_le, gt_iff_lt] at c6q
      refine lv_iconst (v := (-1)) hx hb dX12_roundOf_56 (by decide) ?_
      rw [hQ0]
      exact k_iret () hx hb hr hlk (trivial) (hP.sub [0, 1, 2, 3, 4, 5, 6, 7, 8] rfl) (hD.sub [0, 1, 2, 3, 4, 5, 6, 7, 8] (by decide) rfl) hS (by decide) (by decide) dX12_roundOf_57
    · simp only [k_lt, k_le, k_eq, ne_eq, ge_iff_le, gt_iff_lt] at c6q
      refine lv_iload_n hx hb dX12_roundOf_46 rfl (lv_at hl 5 rfl) ?_
      refine lv_iload hx hb dX12_roundOf_47 (lv_at hl 0 rfl) ?_
      refine lv_ishr hx hb dX12_roundOf_49 ?_
      refine lv_topi (fun x7q ex7q => ?_)
      refine lv_iconst (v := 1) hx hb dX12_roundOf_50 (by decide) ?_
      refine lv_iand hx hb dX12_roundOf_51 ?_
      refine lv_topi (fun x8q ex8q => ?_)
      have rx8q := n_and ex8q (b := 1) n_L1 (by omega)
      refine lv_iconst (v := 1) hx hb dX12_roundOf_52 (by decide) ?_
      refine lv_icmp_ne (tgt := 58) hx hb dX12_roundOf_53 (by decide) (fun c9q => ?_) (fun c9q => ?_)
      · simp only [k_lt, k_le, k_eq, ne_eq, ge_iff_le, gt_iff_lt, n_L1] at c9q
        refine lv_iload_n hx hb dX12_roundOf_58 rfl (lv_at hl 5 rfl) ?_
        refine lv_iconst (v := 1) hx hb dX12_roundOf_59 (by decide) ?_
        refine lv_iload hx hb dX12_roundOf_60 (lv_at hl 0 rfl) ?_
        refine lv_ishl hx hb dX12_roundOf_62 ?_
        refine lv_topi (fun x10q ex10q => ?_)
        refine lv_ior hx hb dX12_roundOf_63 ?_
        refine lv_topi (fun x11q ex11q => ?_)
        refine lv_istore_n (lv' := [(3, .int x11q), (8, .int x5q), (7, .int 1), (6, .int x2q), (5, .int x2q), (4, .int 0), (0, .ref da), (1, .int v0), (2, .int 6)]) hx hb dX12_roundOf_64 rfl hl (by decide) rfl (fun ls hl => ?_)
        refine lv_iload hx hb dX12_roundOf_65 (lv_at hl 5 rfl) ?_
        refine lv_aload_n hx hb dX12_roundOf_67 rfl (lv_at hl 6 rfl) ?_
        refine lv_iload hx hb dX12_roundOf_68 (lv_at hl 3 rfl) ?_
        refine lv_iload hx hb dX12_roundOf_70 (lv_at hl 1 rfl) ?_
        refine k_cali [] (⟨hP, hD, hG, hS, hA, rfl, rfl⟩ : kAt D cy sa A s H _ _ [(da, .inr (13, [.int d_thrown, .int d_tape, .int d_size, .int d_place, .int d_at, .int d_fault, .int d_faultAt, .int d_clauses, .ref da_fed, .ref da_readBody, .ref da_body, .ref da_readMany, .ref da_many, .ref da_without, .ref da_did, .ref da_done, .ref da_bed, .int d_now, .int d_mindAt, .int d_way, .int d_harm, .int d_worth, .int d_passes, .int d_passings, .int d_spots, .int d_images, .ref da_passing, .ref da_spot, .ref da_kept, .ref da_aside, .int d_spare, .ref da_ran, .ref da_who, .ref da_cap, .ref da_w, .ref da_laid, .int d_whoMany, .int d_drifted, .int d_seed, .ref da_cries, .ref da_holds, .ref da_came, .ref da_least, .ref da_firstTo, .int d_steps, .int d_roundFrom, .int d_roundMany, .int d_numberAt])), (da_many, .inl (cy 0, 5, .inl df_many)), (da_spot, .inl (cy 5, 6, .inr (.inr (.inr (.inr (fun i => if i < 6 then some (da_spot + 1 + i) else none)))))), ((da_spot + 1 + 0), .inl (cy 0, 2, .inl ((dF_spot 0)))), ((da_spot + 1 + 1), .inl (cy 0, 2, .inl ((dF_spot 1)))), ((da_spot + 1 + 2), .inl (cy 0, 2, .inl ((dF_spot 2)))), ((da_spot + 1 + 3), .inl (cy 0, 2, .inl ((dF_spot 3)))), ((da_spot + 1 + 4), .inl (cy 0, 2, .inl ((dF_spot 4)))), ((da_spot + 1 + 5), .inl (cy 0, 2, .inl ((dF_spot 5))))] [0, 1, 2, 3, 4, 5, 6, 7, 8]) (wr := []) rfl rfl (by decide) (k_runV 13 0 (As := [.int x2q, .int x5q]) (rest := [.int 0]) E lk_VRX12_343 rfl rfl rfl (m_between l hl0 D cy sa da da_fed da_readBody da_body da_readMany da_many da_without da_did da_done da_bed da_passing da_spot da_kept da_aside da_ran da_who da_cap da_w da_laid da_cries da_holds da_came da_least da_firstTo d_thrown d_tape d_size d_place d_at d_fault d_faultAt d_clauses d_now d_mindAt d_way d_harm d_worth d_passes d_passings d_spots d_images d_spare d_whoMany d_drifted d_seed d_steps d_roundFrom d_roundMany d_numberAt x2q x5q df_many dF_spot ⟨by omega, by omega⟩ ⟨by omega, by omega⟩ ⟨by omega, by omega⟩ ⟨by omega, by omega⟩ ⟨by omega, by omega⟩ ⟨by omega, by omega⟩ ⟨by omega, by omega⟩ ⟨by omega, by omega⟩ ⟨by omega, by omega⟩ ⟨by omega, by omega⟩ (by assumption) (by assumption) (by assumption) ⟨by omega, by omega⟩ ⟨by omega, by omega⟩ (by omega) H.size) (⟨hP, hD, hG, hS, hA, rfl, rfl⟩ : kAt D cy sa A s H _ _ [(da, .inr (13, [.int d_thrown, .int d_tape, .int d_size, .int d_place, .int d_at, .int d_fault, .int d_faultAt, .int d_clauses, .ref da_fed, .ref da_readBody, .ref da_body, .ref da_readMany, .ref da_many, .ref da_without, .ref da_did, .ref da_done, .ref da_bed, .int d_now, .int d_mindAt, .int d_way, .int d_harm, .int d_worth, .int d_passes, .int d_passings, .int d_spots, .int d_images, .ref da_passing, .ref da_spot, .ref da_kept, .ref da_aside, .int d_spare, .ref da_ran, .ref da_who, .ref da_cap, .ref da_w, .ref da_laid, .int d_whoMany, .int d_drifted, .int d_seed, .ref da_cries, .ref da_holds, .ref da_came, .ref da_least, .ref da_firstTo, .int d_steps, .int d_roundFrom, .int d_roundMany, .int d_numberAt])), (da_many, .inl (cy 0, 5, .inl df_many)), (da_spot, .inl (cy 5, 6, .inr (.inr (.inr (.inr (fun i => if i < 6 then some (da_spot + 1 + i) else none)))))), ((da_spot + 1 + 0), .inl (cy 0, 2, .inl ((dF_spot 0)))), ((da_spot + 1 + 1), .inl (cy 0, 2, .inl ((dF_spot 1)))), ((da_spot + 1 + 2), .inl (cy 0, 2, .inl ((dF_spot 2)))), ((da_spot + 1 + 3), .inl (cy 0, 2, .inl ((dF_spot 3)))), ((da_spot + 1 + 4), .inl (cy 0, 2, .inl ((dF_spot 4)))), ((da_spot + 1 + 5), .inl (cy 0, 2, .inl ((dF_spot 5))))] [0, 1, 2, 3, 4, 5, 6, 7, 8]) hl.1 rfl rfl ⟨rfl, rfl, ⟨Nat.le_of_ble_eq_true rfl, Nat.le_of_ble_eq_true rfl⟩, ⟨Nat.le_of_ble_eq_true rfl, Nat.le_of_ble_eq_true rfl⟩, Nat.le_of_ble_eq_true rfl⟩ dX12_roundOf_72) (fun r12q u13q H locs hwu13q hP hD hS => ?_)
        have hP : va_P D vwCl [(da, .inr (13, [.int d_thrown, .int d_tape, .int d_size, .int d_place, .int d_at, .int d_fault, .int d_faultAt, .int d_clauses, .ref da_fed, .ref da_readBody, .ref da_body, .ref da_readMany, .ref da_many, .ref da_without, .ref da_did, .ref da_done, .ref da_bed, .int d_now, .int d_mindAt, .int d_way, .int d_harm, .int d_worth, .int d_passes, .int d_passings, .int d_spots, .int d_images, .ref da_passing, .ref da_spot, .ref da_kept, .ref da_aside, .int d_spare, .ref da_ran, .ref da_who, .ref da_cap, .ref da_w, .ref da_laid, .int d_whoMany, .int d_drifted, .int d_seed, .ref da_cries, .ref da_holds, .ref da_came, .ref da_least, .ref da_firstTo, .int d_steps, .int d_roundFrom, .int d_roundMany, .int d_numberAt])), (da_many, .inl (cy 0, 5, .inl df_many)), (da_spot, .inl (cy 5, 6, .inr (.inr (.inr (.inr (fun i => if i < 6 then some (da_spot + 1 + i) else none)))))), ((da_spot + 1 + 0), .inl (cy 0, 2, .inl ((dF_spot 0)))), ((da_spot + 1 + 1), .inl (cy 0, 2, .inl ((dF_spot 1)))), ((da_spot + 1 + 2), .inl (cy 0, 2, .inl ((dF_spot 2)))), ((da_spot + 1 + 3), .inl (cy 0, 2, .inl ((dF_spot 3)))), ((da_spot + 1 + 4), .inl (cy 0, 2, .inl ((dF_spot 4)))), ((da_spot + 1 + 5), .inl (cy 0, 2, .inl ((dF_spot 5))))] H := hP
        have hD : va_D A [(da, .inr (13, [.int d_thrown, .int d_tape, .int d_size, .int d_place, .int d_at, .int d_fault, .int d_faultAt, .int d_clauses, .ref da_fed, .ref da_readBody, .ref da_body, .ref da_readMany, .ref da_many, .ref da_without, .ref da_did, .ref da_done, .ref da_bed, .int d_now, .int d_mindAt, .int d_way, .int d_harm, .int d_worth, .int d_passes, .int d_passings, .int d_spots, .int d_images, .ref da_passing, .ref da_spot, .ref da_kept, .ref da_aside, .int d_spare, .ref da_ran, .ref da_who, .ref da_cap, .ref da_w, .ref da_laid, .int d_whoMany, .int d_drifted, .int d_seed, .ref da_cries, .ref da_holds, .ref da_came, .ref da_least, .ref da_firstTo, .int d_steps, .int d_roundFrom, .int d_roundMany, .int d_numberAt])), (da_many, .inl (cy 0, 5, .inl df_many)), (da_spot, .inl (cy 5, 6, .inr (.inr (.inr (.inr (fun i => if i < 6 then some (da_spot + 1 + i) else none)))))), ((da_spot + 1 + 0), .inl (cy 0, 2, .inl ((dF_spot 0)))), ((da_spot + 1 + 1), .inl (cy 0, 2, .inl ((dF_spot 1)))), ((da_spot + 1 + 2), .inl (cy 0, 2, .inl ((dF_spot 2)))), ((da_spot + 1 + 3), .inl (cy 0, 2, .inl ((dF_spot 3)))), ((da_spot + 1 + 4), .inl (cy 0, 2, .inl ((dF_spot 4)))), ((da_spot + 1 + 5), .inl (cy 0, 2, .inl ((dF_spot 5))))] := hD
        have p14q := hwu13q
        refine lv_iadd hx hb dX12_roundOf_75 ?_
        refine lv_topi (fun x15q ex15q => ?_)
        have rx15q := n_add ex15q (a := 0) (b := r12q.toInt) n_L0 rfl (by omega) (by omega)
        refine lv_istore (lv' := [(4, .int x15q), (3, .int x11q), (8, .int x5q), (7, .int 1), (6, .int x2q), (5, .int x2q), (0, .ref da), (1, .int v0), (2, .int 6)]) hx hb dX12_roundOf_76 hl (by decide) rfl (fun ls hl => ?_)
        refine lv_iload hx hb dX12_roundOf_78 (lv_at hl 2 rfl) ?_
        refine lv_istore (lv' := [(6, .int x5q), (4, .int x15q), (3, .int x11q), (8, .int x5q), (7, .int 1), (5, .int x2q), (0, .ref da), (1, .int v0), (2, .int 6)]) hx hb dX12_roundOf_80 hl (by decide) rfl (fun ls hl => ?_)
        refine lv_iload hx hb dX12_roundOf_82 (lv_at hl 4 rfl) ?_
        refine lv_bipush (v := 6) hx hb dX12_roundOf_84 (by decide) ?_
        refine lv_idiv hx hb dX12_roundOf_86 (by decide) ?_
        refine lv_topi (fun x16q ex16q => ?_)
        obtain rfl : x16q = 0 := ex16q.trans (by decide)
        refine lv_istore (lv' := [(7, .int 0), (6, .int x5q), (4, .int x15q), (3, .int x11q), (8, .int x5q), (5, .int x2q), (0, .ref da), (1, .int v0), (2, .int 6)]) hx hb dX12_roundOf_87 hl (by decide) rfl (fun ls hl => ?_)
        refine lv_goto (tgt := 23) hx hb dX12_roundOf_89 (by decide) ?_
        refine lv_iload hx hb dX12_roundOf_23 (lv_at hl 0 rfl) ?_
        refine lv_if_le (tgt := 92) hx hb dX12_roundOf_25 (by decide) (fun _ => ?_) (fun h => absurd (by decide) h)
        refine lv_iload hx hb dX12_roundOf_92 (lv_at hl 2 rfl) ?_
        refine lv_aload_n hx hb dX12_roundOf_94 rfl (lv_at hl 6 rfl) ?_
        refine lv_iload hx hb dX12_roundOf_95 (lv_at hl 1 rfl) ?_
        refine lv_iload hx hb dX12_roundOf_97 (lv_at hl 5 rfl) ?_
        refine k_cali [] (⟨hP, hD, hG, hS, hA, rfl, rfl⟩ : kAt D cy sa A s H _ _ [(da, .inr (13, [.int d_thrown, .int d_tape, .int d_size, .int d_place, .int d_at, .int d_fault, .int d_faultAt, .int d_clauses, .ref da_fed, .ref da_readBody, .ref da_body, .ref da_readMany, .ref da_many, .ref da_without, .ref da_did, .ref da_done, .ref da_bed, .int d_now, .int d_mindAt, .int d_way, .int d_harm, .int d_worth, .int d_passes, .int d_passings, .int d_spots, .int d_images, .ref da_passing, .ref da_spot, .ref da_kept, .ref da_aside, .int d_spare, .ref da_ran, .ref da_who, .ref da_cap, .ref da_w, .ref da_laid, .int d_whoMany, .int d_drifted, .int d_seed, .ref da_cries, .ref da_holds, .ref da_came, .ref da_least, .ref da_firstTo, .int d_steps, .int d_roundFrom, .int d_roundMany, .int d_numberAt])), (da_many, .inl (cy 0, 5, .inl df_many)), (da_spot, .inl (cy 5, 6, .inr (.inr (.inr (.inr (fun i => if i < 6 then some (da_spot + 1 + i) else none)))))), ((da_spot + 1 + 0), .inl (cy 0, 2, .inl ((dF_spot 0)))), ((da_spot + 1 + 1), .inl (cy 0, 2, .inl ((dF_spot 1)))), ((da_spot + 1 + 2), .inl (cy 0, 2, .inl ((dF_spot 2)))), ((da_spot + 1 + 3), .inl (cy 0, 2, .inl ((dF_spot 3)))), ((da_spot + 1 + 4), .inl (cy 0, 2, .inl ((dF_spot 4)))), ((da_spot + 1 + 5), .inl (cy 0, 2, .inl ((dF_spot 5))))] [0, 1, 2, 3, 4, 5, 6, 7, 8]) (wr := []) rfl rfl (by decide) (k_runV 13 0 (As := [.int x5q, .int x2q]) (rest := [.int x15q]) E lk_VRX12_343 rfl rfl rfl (m_between l hl0 D cy sa da da_fed da_readBody da_body da_readMany da_many da_without da_did da_done da_bed da_passing da_spot da_kept da_aside da_ran da_who da_cap da_w da_laid da_cries da_holds da_came da_least da_firstTo d_thrown d_tape d_size d_place d_at d_fault d_faultAt d_clauses d_now d_mindAt d_way d_harm d_worth d_passes d_passings d_spots d_images d_spare d_whoMany d_drifted d_seed d_steps d_roundFrom d_roundMany d_numberAt x5q x2q df_many dF_spot ⟨by omega, by omega⟩ ⟨by omega, by omega⟩ ⟨by omega, by omega⟩ ⟨by omega, by omega⟩ ⟨by omega, by omega⟩ ⟨by omega, by omega⟩ ⟨by omega, by omega⟩ ⟨by omega, by omega⟩ ⟨by omega, by omega⟩ ⟨by omega, by omega⟩ (by assumption) (by assumption) (by assumption) ⟨by omega, by omega⟩ ⟨by omega, by omega⟩ (by omega) H.size) (⟨hP, hD, hG, hS, hA, rfl, rfl⟩ : kAt D cy sa A s H _ _ [(da, .inr (13, [.int d_thrown, .int d_tape, .int d_size, .int d_place, .int d_at, .int d_fault, .int d_faultAt, .int d_clauses, .ref da_fed, .ref da_readBody, .ref da_body, .ref da_readMany, .ref da_many, .ref da_without, .ref da_did, .ref da_done, .ref da_bed, .int d_now, .int d_mindAt, .int d_way, .int d_harm, .int d_worth, .int d_passes, .int d_passings, .int d_spots, .int d_images, .ref da_passing, .ref da_spot, .ref da_kept, .ref da_aside, .int d_spare, .ref da_ran, .ref da_who, .ref da_cap, .ref da_w, .ref da_laid, .int d_whoMany, .int d_drifted, .int d_seed, .ref da_cries, .ref da_holds, .ref da_came, .ref da_least, .ref da_firstTo, .int d_steps, .int d_roundFrom, .int d_roundMany, .int d_numberAt])), (da_many, .inl (cy 0, 5, .inl df_many)), (da_spot, .inl (cy 5, 6, .inr (.inr (.inr (.inr (fun i => if i < 6 then some (da_spot + 1 + i) else none)))))), ((da_spot + 1 + 0), .inl (cy 0, 2, .inl ((dF_spot 0)))), ((da_spot + 1 + 1), .inl (cy 0, 2, .inl ((dF_spot 1)))), ((da_spot + 1 + 2), .inl (cy 0, 2, .inl ((dF_spot 2)))), ((da_spot + 1 + 3), .inl (cy 0, 2, .inl ((dF_spot 3)))), ((da_spot + 1 + 4), .inl (cy 0, 2, .inl ((dF_spot 4)))), ((da_spot + 1 + 5), .inl (cy 0, 2, .inl ((dF_spot 5))))] [0, 1, 2, 3, 4, 5, 6, 7, 8]) hl.1 rfl rfl ⟨rfl, rfl, ⟨Nat.le_of_ble_eq_true rfl, Nat.le_of_ble_eq_true rfl⟩, ⟨Nat.le_of_ble_eq_true rfl, Nat.le_of_ble_eq_true rfl⟩, Nat.le_of_ble_eq_true rfl⟩ dX12_roundOf_99) (fun r17q u18q H locs hwu18q hP hD hS => ?_)
        have hP : va_P D vwCl [(da, .inr (13, [.int d_thrown, .int d_tape, .int d_size, .int d_place, .int d_at, .int d_fault, .int d_faultAt, .int d_clauses, .ref da_fed, .ref da_readBody, .ref da_body, .ref da_readMany, .ref da_many, .ref da_without, .ref da_did, .ref da_done, .ref da_bed, .int d_now, .int d_mindAt, .int d_way, .int d_harm, .int d_worth, .int d_passes, .int d_passings, .int d_spots, .int d_images, .ref da_passing, .ref da_spot, .ref da_kept, .ref da_aside, .int d_spare, .ref da_ran, .ref da_who, .ref da_cap, .ref da_w, .ref da_laid, .int d_whoMany, .int d_drifted, .int d_seed, .ref da_cries, .ref da_holds, .ref da_came, .ref da_least, .ref da_firstTo, .int d_steps, .int d_roundFrom, .int d_roundMany, .int d_numberAt])), (da_many, .inl (cy 0, 5, .inl df_many)), (da_spot, .inl (cy 5, 6, .inr (.inr (.inr (.inr (fun i => if i < 6 then some (da_spot + 1 + i) else none)))))), ((da_spot + 1 + 0), .inl (cy 0, 2, .inl ((dF_spot 0)))), ((da_spot + 1 + 1), .inl (cy 0, 2, .inl ((dF_spot 1)))), ((da_spot + 1 + 2), .inl (cy 0, 2, .inl ((dF_spot 2)))), ((da_spot + 1 + 3), .inl (cy 0, 2, .inl ((dF_spot 3)))), ((da_spot + 1 + 4), .inl (cy 0, 2, .inl ((dF_spot 4)))), ((da_spot + 1 + 5), .inl (cy 0, 2, .inl ((dF_spot 5))))] H := hP
        have hD : va_D A [(da, .inr (13, [.int d_thrown, .int d_tape, .int d_size, .int d_place, .int d_at, .int d_fault, .int d_faultAt, .int d_clauses, .ref da_fed, .ref da_readBody, .ref da_body, .ref da_readMany, .ref da_many, .ref da_without, .ref da_did, .ref da_done, .ref da_bed, .int d_now, .int d_mindAt, .int d_way, .int d_harm, .int d_worth, .int d_passes, .int d_passings, .int d_spots, .int d_images, .ref da_passing, .ref da_spot, .ref da_kept, .ref da_aside, .int d_spare, .ref da_ran, .ref da_who, .ref da_cap, .ref da_w, .ref da_laid, .int d_whoMany, .int d_drifted, .int d_seed, .ref da_cries, .ref da_holds, .ref da_came, .ref da_least, .ref da_firstTo, .int d_steps, .int d_roundFrom, .int d_roundMany, .int d_numberAt])), (da_many, .inl (cy 0, 5, .inl df_many)), (da_spot, .inl (cy 5, 6, .inr (.inr (.inr (.inr (fun i => if i < 6 then some (da_spot + 1 + i) else none)))))), ((da_spot + 1 + 0), .inl (cy 0, 2, .inl ((dF_spot 0)))), ((da_spot + 1 + 1), .inl (cy 0, 2, .inl ((dF_spot 1)))), ((da_spot + 1 + 2), .inl (cy 0, 2, .inl ((dF_spot 2)))), ((da_spot + 1 + 3), .inl (cy 0, 2, .inl ((dF_spot 3)))), ((da_spot + 1 + 4), .inl (cy 0, 2, .inl ((dF_spot 4)))), ((da_spot + 1 + 5), .inl (cy 0, 2, .inl ((dF_spot 5))))] := hD
        have p19q := hwu18q
        refine lv_iadd hx hb dX12_roundOf_102 ?_
        refine lv_topi (fun x20q ex20q => ?_)
        have rx20q := n_add ex20q (a := x15q.toInt) (b := r17q.toInt) rfl rfl (by omega) (by omega)
        rw [hQ0]
        exact k_iret () hx hb hr hlk (trivial) (hP.sub [0, 1, 2, 3, 4, 5, 6, 7, 8] rfl) (hD.sub [0, 1, 2, 3, 4, 5, 6, 7, 8] (by decide) rfl) hS (by decide) (by decide) dX12_roundOf_103
      · simp only [k_lt, k_le, k_eq, ne_eq, ge_iff_le, gt_iff_lt, n_L1] at c9q
        refine lv_iconst (v := (-1)) hx hb dX12_roundOf_56 (by decide) ?_
        rw [hQ0]
        exact k_iret () hx hb hr hlk (trivial) (hP.sub [0, 1, 2, 3, 4, 5, 6, 7, 8] rfl) (hD.sub [0, 1, 2, 3, 4, 5, 6, 7, 8] (by decide) rfl) hS (by decide) (by decide) dX12_roundOf_57
  · obtain rfl : a0 = 36 := Int32.toInt_inj.mp (h9.trans (by decide))
    refine lv_iconst (v := 0) hx hb dX12_roundOf_0 (by decide) ?_
    refine lv_istore_n (lv' := [(3, .int 0), (0, .ref da), (1, .int v0), (2, .int 36)]) hx hb dX12_roundOf_1 rfl hl (by decide) rfl (fun ls hl => ?_)
    refine lv_iconst (v := 0) hx hb dX12_roundOf_2 (by decide) ?_
    refine lv_istore (lv' := [(4, .int 0), (3, .int 0), (0, .ref da), (1, .int v0), (2, .int 36)]) hx hb dX12_roundOf_3 hl (by decide) rfl (fun ls hl => ?_)
    refine lv_iload_n hx hb dX12_roundOf_5 rfl (lv_at hl 3 rfl) ?_
    refine lv_iload_n hx hb dX12_roundOf_6 rfl (lv_at hl 4 rfl) ?_
    refine lv_bipush (v := 6) hx hb dX12_roundOf_7 (by decide) ?_
    refine lv_idiv hx hb dX12_roundOf_9 (by decide) ?_
    refine lv_topi (fun x21q ex21q => ?_)
    obtain rfl : x21q = 6 := ex21q.trans (by decide)
    refine lv_idiv hx hb dX12_roundOf_10 (by decide) ?_
    refine lv_topi (fun x22q ex22q => ?_)
    have rx22q := n_div ex22q (a := v0.toInt) (b := 6) rfl n_L6 (by omega) (by omega)
    refine lv_istore (lv' := [(5, .int x22q), (4, .int 0), (3, .int 0), (0, .ref da), (1, .int v0), (2, .int 36)]) hx hb dX12_roundOf_11 hl (by decide) rfl (fun ls hl => ?_)
    refine lv_iload hx hb dX12_roundOf_13 (lv_at hl 0 rfl) ?_
    refine lv_istore (lv' := [(6, .int x22q), (5, .int x22q), (4, .int 0), (3, .int 0), (0, .ref da), (1, .int v0), (2, .int 36)]) hx hb dX12_roundOf_15 hl (by decide) rfl (fun ls hl => ?_)
    refine lv_iload_n hx hb dX12_roundOf_17 rfl (lv_at hl 6 rfl) ?_
    refine lv_bipush (v := 6) hx hb dX12_roundOf_18 (by decide) ?_
    refine lv_idiv hx hb dX12_roundOf_20 (by decide) ?_
    refine lv_topi (fun x23q ex23q => ?_)
    obtain rfl : x23q = 6 := ex23q.trans (by decide)
    refine lv_istore (lv' := [(7, .int 6), (6, .int x22q), (5, .int x22q), (4, .int 0), (3, .int 0), (0, .ref da), (1, .int v0), (2, .int 36)]) hx hb dX12_roundOf_21 hl (by decide) rfl (fun ls hl => ?_)
    refine lv_iload hx hb dX12_roundOf_23 (lv_at hl 0 rfl) ?_
    refine lv_if_le (tgt := 92) hx hb dX12_roundOf_25 (by decide) (fun h => absurd h (by decide)) (fun _ => ?_)
    refine lv_iload_n hx hb dX12_roundOf_28 rfl (lv_at hl 6 rfl) ?_
    refine lv_iload hx hb dX12_roundOf_29 (lv_at hl 0 rfl) ?_
    refine lv_idiv hx hb dX12_roundOf_31 (by decide) ?_
    refine lv_topi (fun x24q ex24q => ?_)
    have rx24q := n_div ex24q (a := v0.toInt) (b := 6) rfl n_L6 (by omega) (by omega)
    refine lv_bipush (v := 6) hx hb dX12_roundOf_32 (by decide) ?_
    refine lv_irem hx hb dX12_roundOf_34 (by decide) ?_
    refine lv_topi (fun x25q ex25q => ?_)
    have rx25q := n_mod ex25q (a := x24q.toInt) (b := 6) rfl n_L6 (by omega) (by omega)
    refine lv_istore (lv' := [(8, .int x25q), (7, .int 6), (6, .int x22q), (5, .int x22q), (4, .int 0), (3, .int 0), (0, .ref da), (1, .int v0), (2, .int 36)]) hx hb dX12_roundOf_35 hl (by decide) rfl (fun ls hl => ?_)
    refine lv_iload hx hb dX12_roundOf_37 (lv_at hl 0 rfl) ?_
    refine lv_aload_n hx hb dX12_roundOf_39 rfl (lv_at hl 6 rfl) ?_
    refine va_get (D := D) (ci := 13) (v := .int d_spots) (C := RX12) (T := TX12) (N := 48) hx hb hts kin_RX12 hown hG.1 hP 0 rfl rfl 24 (by decide) (hts _ wm_1543) (fun _ h9 => h9) rfl dX12_roundOf_40 ?_
    refine lv_icmp_ge (tgt := 56) hx hb dX12_roundOf_43 (by decide) (fun c26q => ?_) (fun c26q => ?_)
    · simp only [k_lt, k_le, k_eq, ne_eq, ge_iff_le, gt_iff_lt] at c26q
      refine lv_iconst (v := (-1)) hx hb dX12_roundOf_56 (by decide) ?_
      rw [hQ0]
      exact k_iret () hx hb hr hlk (trivial) (hP.sub [0, 1, 2, 3, 4, 5, 6, 7, 8] rfl) (hD.sub [0, 1, 2, 3, 4, 5, 6, 7, 8] (by decide) rfl) hS (by decide) (by decide) dX12_roundOf_57
    · simp only [k_lt, k_le, k_eq, ne_eq, ge_iff_le, gt_iff_lt] at c26q
      refine lv_iload_n hx hb dX12_roundOf_46 rfl (lv_at hl 5 rfl) ?_
      refine lv_iload hx hb dX12_roundOf_47 (lv_at hl 0 rfl) ?_
      refine lv_ishr hx hb dX12_roundOf_49 ?_
      refine lv_topi (fun x27q ex27q => ?_)
      refine lv_iconst (v := 1) hx hb dX12_roundOf_50 (by decide) ?_
      refine lv_iand hx hb dX12_roundOf_51 ?_
      refine lv_topi (fun x28q ex28q => ?_)
      have rx28q := n_and ex28q (b := 1) n_L1 (by omega)
      refine lv_iconst (v := 1) hx hb dX12_roundOf_52 (by decide) ?_
      refine lv_icmp_ne (tgt := 58) hx hb dX12_roundOf_53 (by decide) (fun c29q => ?_) (fun c29q => ?_)
      · simp only [k_lt, k_le, k_eq, ne_eq, ge_iff_le, gt_iff_lt, n_L1] at c29q
        refine lv_iload_n hx hb dX12_roundOf_58 rfl (lv_at hl 5 rfl) ?_
        refine lv_iconst (v := 1) hx hb dX12_roundOf_59 (by decide) ?_
        refine lv_iload hx hb dX12_roundOf_60 (lv_at hl 0 rfl) ?_
        refine lv_ishl hx hb dX12_roundOf_62 ?_
        refine lv_topi (fun x30q ex30q => ?_)
        refine lv_ior hx hb dX12_roundOf_63 ?_
        refine lv_topi (fun x31q ex31q => ?_)
        refine lv_istore_n (lv' := [(3, .int x31q), (8, .int x25q), (7, .int 6), (6, .int x22q), (5, .int x22q), (4, .int 0), (0, .ref da), (1, .int v0), (2, .int 36)]) hx hb dX12_roundOf_64 rfl hl (by decide) rfl (fun ls hl => ?_)
        refine lv_iload hx hb dX12_roundOf_65 (lv_at hl 5 rfl) ?_
        refine lv_aload_n hx hb dX12_roundOf_67 rfl (lv_at hl 6 rfl) ?_
        refine lv_iload hx hb dX12_roundOf_68 (lv_at hl 3 rfl) ?_
        refine lv_iload hx hb dX12_roundOf_70 (lv_at hl 1 rfl) ?_
        refine k_cali [] (⟨hP, hD, hG, hS, hA, rfl, rfl⟩ : kAt D cy sa A s H _ _ [(da, .inr (13, [.int d_thrown, .int d_tape, .int d_size, .int d_place, .int d_at, .int d_fault, .int d_faultAt, .int d_clauses, .ref da_fed, .ref da_readBody, .ref da_body, .ref da_readMany, .ref da_many, .ref da_without, .ref da_did, .ref da_done, .ref da_bed, .int d_now, .int d_mindAt, .int d_way, .int d_harm, .int d_worth, .int d_passes, .int d_passings, .int d_spots, .int d_images, .ref da_passing, .ref da_spot, .ref da_kept, .ref da_aside, .int d_spare, .ref da_ran, .ref da_who, .ref da_cap, .ref da_w, .ref da_laid, .int d_whoMany, .int d_drifted, .int d_seed, .ref da_cries, .ref da_holds, .ref da_came, .ref da_least, .ref da_firstTo, .int d_steps, .int d_roundFrom, .int d_roundMany, .int d_numberAt])), (da_many, .inl (cy 0, 5, .inl df_many)), (da_spot, .inl (cy 5, 6, .inr (.inr (.inr (.inr (fun i => if i < 6 then some (da_spot + 1 + i) else none)))))), ((da_spot + 1 + 0), .inl (cy 0, 2, .inl ((dF_spot 0)))), ((da_spot + 1 + 1), .inl (cy 0, 2, .inl ((dF_spot 1)))), ((da_spot + 1 + 2), .inl (cy 0, 2, .inl ((dF_spot 2)))), ((da_spot + 1 + 3), .inl (cy 0, 2, .inl ((dF_spot 3)))), ((da_spot + 1 + 4), .inl (cy 0, 2, .inl ((dF_spot 4)))), ((da_spot + 1 + 5), .inl (cy 0, 2, .inl ((dF_spot 5))))] [0, 1, 2, 3, 4, 5, 6, 7, 8]) (wr := []) rfl rfl (by decide) (k_runV 13 0 (As := [.int x22q, .int x25q]) (rest := [.int 0]) E lk_VRX12_343 rfl rfl rfl (m_between l hl0 D cy sa da da_fed da_readBody da_body da_readMany da_many da_without da_did da_done da_bed da_passing da_spot da_kept da_aside da_ran da_who da_cap da_w da_laid da_cries da_holds da_came da_least da_firstTo d_thrown d_tape d_size d_place d_at d_fault d_faultAt d_clauses d_now d_mindAt d_way d_harm d_worth d_passes d_passings d_spots d_images d_spare d_whoMany d_drifted d_seed d_steps d_roundFrom d_roundMany d_numberAt x22q x25q df_many dF_spot ⟨by omega, by omega⟩ ⟨by omega, by omega⟩ ⟨by omega, by omega⟩ ⟨by omega, by omega⟩ ⟨by omega, by omega⟩ ⟨by omega, by omega⟩ ⟨by omega, by omega⟩ ⟨by omega, by omega⟩ ⟨by omega, by omega⟩ ⟨by omega, by omega⟩ (by assumption) (by assumption) (by assumption) ⟨by omega, by omega⟩ ⟨by omega, by omega⟩ (by omega) H.size) (⟨hP, hD, hG, hS, hA, rfl, rfl⟩ : kAt D cy sa A s H _ _ [(da, .inr (13, [.int d_thrown, .int d_tape, .int d_size, .int d_place, .int d_at, .int d_fault, .int d_faultAt, .int d_clauses, .ref da_fed, .ref da_readBody, .ref da_body, .ref da_readMany, .ref da_many, .ref da_without, .ref da_did, .ref da_done, .ref da_bed, .int d_now, .int d_mindAt, .int d_way, .int d_harm, .int d_worth, .int d_passes, .int d_passings, .int d_spots, .int d_images, .ref da_passing, .ref da_spot, .ref da_kept, .ref da_aside, .int d_spare, .ref da_ran, .ref da_who, .ref da_cap, .ref da_w, .ref da_laid, .int d_whoMany, .int d_drifted, .int d_seed, .ref da_cries, .ref da_holds, .ref da_came, .ref da_least, .ref da_firstTo, .int d_steps, .int d_roundFrom, .int d_roundMany, .int d_numberAt])), (da_many, .inl (cy 0, 5, .inl df_many)), (da_spot, .inl (cy 5, 6, .inr (.inr (.inr (.inr (fun i => if i < 6 then some (da_spot + 1 + i) else none)))))), ((da_spot + 1 + 0), .inl (cy 0, 2, .inl ((dF_spot 0)))), ((da_spot + 1 + 1), .inl (cy 0, 2, .inl ((dF_spot 1)))), ((da_spot + 1 + 2), .inl (cy 0, 2, .inl ((dF_spot 2)))), ((da_spot + 1 + 3), .inl (cy 0, 2, .inl ((dF_spot 3)))), ((da_spot + 1 + 4), .inl (cy 0, 2, .inl ((dF_spot 4)))), ((da_spot + 1 + 5), .inl (cy 0, 2, .inl ((dF_spot 5))))] [0, 1, 2, 3, 4, 5, 6, 7, 8]) hl.1 rfl rfl ⟨rfl, rfl, ⟨Nat.le_of_ble_eq_true rfl, Nat.le_of_ble_eq_true rfl⟩, ⟨Nat.le_of_ble_eq_true rfl, Nat.le_of_ble_eq_true rfl⟩, Nat.le_of_ble_eq_true rfl⟩ dX12_roundOf_72) (fun r32q u33q H locs hwu33q hP hD hS => ?_)
        have hP : va_P D vwCl [(da, .inr (13, [.int d_thrown, .int d_tape, .int d_size, .int d_place, .int d_at, .int d_fault, .int d_faultAt, .int d_clauses, .ref da_fed, .ref da_readBody, .ref da_body, .ref da_readMany, .ref da_many, .ref da_without, .ref da_did, .ref da_done, .ref da_bed, .int d_now, .int d_mindAt, .int d_way, .int d_harm, .int d_worth, .int d_passes, .int d_passings, .int d_spots, .int d_images, .ref da_passing, .ref da_spot, .ref da_kept, .ref da_aside, .int d_spare, .ref da_ran, .ref da_who, .ref da_cap, .ref da_w, .ref da_laid, .int d_whoMany, .int d_drifted, .int d_seed, .ref da_cries, .ref da_holds, .ref da_came, .ref da_least, .ref da_firstTo, .int d_steps, .int d_roundFrom, .int d_roundMany, .int d_numberAt])), (da_many, .inl (cy 0, 5, .inl df_many)), (da_spot, .inl (cy 5, 6, .inr (.inr (.inr (.inr (fun i => if i < 6 then some (da_spot + 1 + i) else none)))))), ((da_spot + 1 + 0), .inl (cy 0, 2, .inl ((dF_spot 0)))), ((da_spot + 1 + 1), .inl (cy 0, 2, .inl ((dF_spot 1)))), ((da_spot + 1 + 2), .inl (cy 0, 2, .inl ((dF_spot 2)))), ((da_spot + 1 + 3), .inl (cy 0, 2, .inl ((dF_spot 3)))), ((da_spot + 1 + 4), .inl (cy 0, 2, .inl ((dF_spot 4)))), ((da_spot + 1 + 5), .inl (cy 0, 2, .inl ((dF_spot 5))))] H := hP
        have hD : va_D A [(da, .inr (13, [.int d_thrown, .int d_tape, .int d_size, .int d_place, .int d_at, .int d_fault, .int d_faultAt, .int d_clauses, .ref da_fed, .ref da_readBody, .ref da_body, .ref da_readMany, .ref da_many, .ref da_without, .ref da_did, .ref da_done, .ref da_bed, .int d_now, .int d_mindAt, .int d_way, .int d_harm, .int d_worth, .int d_passes, .int d_passings, .int d_spots, .int d_images, .ref da_passing, .ref da_spot, .ref da_kept, .ref da_aside, .int d_spare, .ref da_ran, .ref da_who, .ref da_cap, .ref da_w, .ref da_laid, .int d_whoMany, .int d_drifted, .int d_seed, .ref da_cries, .ref da_holds, .ref da_came, .ref da_least, .ref da_firstTo, .int d_steps, .int d_roundFrom, .int d_roundMany, .int d_numberAt])), (da_many, .inl (cy 0, 5, .inl df_many)), (da_spot, .inl (cy 5, 6, .inr (.inr (.inr (.inr (fun i => if i < 6 then some (da_spot + 1 + i) else none)))))), ((da_spot + 1 + 0), .inl (cy 0, 2, .inl ((dF_spot 0)))), ((da_spot + 1 + 1), .inl (cy 0, 2, .inl ((dF_spot 1)))), ((da_spot + 1 + 2), .inl (cy 0, 2, .inl ((dF_spot 2)))), ((da_spot + 1 + 3), .inl (cy 0, 2, .inl ((dF_spot 3)))), ((da_spot + 1 + 4), .inl (cy 0, 2, .inl ((dF_spot 4)))), ((da_spot + 1 + 5), .inl (cy 0, 2, .inl ((dF_spot 5))))] := hD
        have p34q := hwu33q
        refine lv_iadd hx hb dX12_roundOf_75 ?_
        refine lv_topi (fun x35q ex35q => ?_)
        have rx35q := n_add ex35q (a := 0) (b := r32q.toInt) n_L0 rfl (by omega) (by omega)
        refine lv_istore (lv' := [(4, .int x35q), (3, .int x31q), (8, .int x25q), (7, .int 6), (6, .int x22q), (5, .int x22q), (0, .ref da), (1, .int v0), (2, .int 36)]) hx hb dX12_roundOf_76 hl (by decide) rfl (fun ls hl => ?_)
        refine lv_iload hx hb dX12_roundOf_78 (lv_at hl 2 rfl) ?_
        refine lv_istore (lv' := [(6, .int x25q), (4, .int x35q), (3, .int x31q), (8, .int x25q), (7, .int 6), (5, .int x22q), (0, .ref da), (1, .int v0), (2, .int 36)]) hx hb dX12_roundOf_80 hl (by decide) rfl (fun ls hl => ?_)
        refine lv_iload hx hb dX12_roundOf_82 (lv_at hl 4 rfl) ?_
        refine lv_bipush (v := 6) hx hb dX12_roundOf_84 (by decide) ?_
        refine lv_idiv hx hb dX12_roundOf_86 (by decide) ?_
        refine lv_topi (fun x36q ex36q => ?_)
        obtain rfl : x36q = 1 := ex36q.trans (by decide)
        refine lv_istore (lv' := [(7, .int 1), (6, .int x25q), (4, .int x35q), (3, .int x31q), (8, .int x25q), (5, .int x22q), (0, .ref da), (1, .int v0), (2, .int 36)]) hx hb dX12_roundOf_87 hl (by decide) rfl (fun ls hl => ?_)
        refine lv_goto (tgt := 23) hx hb dX12_roundOf_89 (by decide) ?_
        refine lv_iload hx hb dX12_roundOf_23 (lv_at hl 0 rfl) ?_
        refine lv_if_le (tgt := 92) hx hb dX12_roundOf_25 (by decide) (fun h => absurd h (by decide)) (fun _ => ?_)
        refine lv_iload_n hx hb dX12_roundOf_28 rfl (lv_at hl 7 rfl) ?_
        refine lv_iload hx hb dX12_roundOf_29 (lv_at hl 0 rfl) ?_
        refine lv_idiv hx hb dX12_roundOf_31 (by decide) ?_
        refine lv_topi (fun x37q ex37q => ?_)
        have rx37q := n_div ex37q (a := v0.toInt) (b := 1) rfl n_L1 (by omega) (by omega)
        refine lv_bipush (v := 6) hx hb dX12_roundOf_32 (by decide) ?_
        refine lv_irem hx hb dX12_roundOf_34 (by decide) ?_
        refine lv_topi (fun x38q ex38q => ?_)
        have rx38q := n_mod ex38q (a := x37q.toInt) (b := 6) rfl n_L6 (by omega) (by omega)
        refine lv_istore (lv' := [(8, .int x38q), (7, .int 1), (6, .int x25q), (4, .int x35q), (3, .int x31q), (5, .int x22q), (0, .ref da), (1, .int v0), (2, .int 36)]) hx hb dX12_roundOf_35 hl (by decide) rfl (fun ls hl => ?_)
        refine lv_iload hx hb dX12_roundOf_37 (lv_at hl 0 rfl) ?_
        refine lv_aload_n hx hb dX12_roundOf_39 rfl (lv_at hl 6 rfl) ?_
        refine va_get (D := D) (ci := 13) (v := .int d_spots) (C := RX12) (T := TX12) (N := 48) hx hb hts kin_RX12 hown hG.1 hP 0 rfl rfl 24 (by decide) (hts _ wm_1543) (fun _ h9 => h9) rfl dX12_roundOf_40 ?_
        refine lv_icmp_ge (tgt := 56) hx hb dX12_roundOf_43 (by decide) (fun c39q => ?_) (fun c39q => ?_)
        · simp only [k_lt, k_le, k_eq, ne_eq, ge_iff_le, gt_iff_lt] at c39q
          refine lv_iconst (v := (-1)) hx hb dX12_roundOf_56 (by decide) ?_
          rw [hQ0]
          exact k_iret () hx hb hr hlk (trivial) (hP.sub [0, 1, 2, 3, 4, 5, 6, 7, 8] rfl) (hD.sub [0, 1, 2, 3, 4, 5, 6, 7, 8] (by decide) rfl) hS (by decide) (by decide) dX12_roundOf_57
        · simp only [k_lt, k_le, k_eq, ne_eq, ge_iff_le, gt_iff_lt] at c39q
          refine lv_iload_n hx hb dX12_roundOf_46 rfl (lv_at hl 4 rfl) ?_
          refine lv_iload hx hb dX12_roundOf_47 (lv_at hl 0 rfl) ?_
          refine lv_ishr hx hb dX12_roundOf_49 ?_
          refine lv_topi (fun x40q ex40q => ?_)
          refine lv_iconst (v := 1) hx hb dX12_roundOf_50 (by decide) ?_
          refine lv_iand hx hb dX12_roundOf_51 ?_
          refine lv_topi (fun x41q ex41q => ?_)
          have rx41q := n_and ex41q (b := 1) n_L1 (by omega)
          refine lv_iconst (v := 1) hx hb dX12_roundOf_52 (by decide) ?_
          refine lv_icmp_ne (tgt := 58) hx hb dX12_roundOf_53 (by decide) (fun c42q => ?_) (fun c42q => ?_)
          · simp only [k_lt, k_le, k_eq, ne_eq, ge_iff_le, gt_iff_lt, n_L1] at c42q
            refine lv_iload_n hx hb dX12_roundOf_58 rfl (lv_at hl 4 rfl) ?_
            refine lv_iconst (v := 1) hx hb dX12_roundOf_59 (by decide) ?_
            refine lv_iload hx hb dX12_roundOf_60 (lv_at hl 0 rfl) ?_
            refine lv_ishl hx hb dX12_roundOf_62 ?_
            refine lv_topi (fun x43q ex43q => ?_)
            refine lv_ior hx hb dX12_roundOf_63 ?_
            refine lv_topi (fun x44q ex44q => ?_)
            refine lv_istore_n (lv' := [(3, .int x44q), (8, .int x38q), (7, .int 1), (6, .int x25q), (4, .int x35q), (5, .int x22q), (0, .ref da), (1, .int v0), (2, .int 36)]) hx hb dX12_roundOf_64 rfl hl (by decide) rfl (fun ls hl => ?_)
            refine lv_iload hx hb dX12_roundOf_65 (lv_at hl 4 rfl) ?_
            refine lv_aload_n hx hb dX12_roundOf_67 rfl (lv_at hl 6 rfl) ?_
            refine lv_iload hx hb dX12_roundOf_68 (lv_at hl 3 rfl) ?_
            refine lv_iload hx hb dX12_roundOf_70 (lv_at hl 1 rfl) ?_
            refine k_cali [] (⟨hP, hD, hG, hS, hA, rfl, rfl⟩ : kAt D cy sa A s H _ _ [(da, .inr (13, [.int d_thrown, .int d_tape, .int d_size, .int d_place, .int d_at, .int d_fault, .int d_faultAt, .int d_clauses, .ref da_fed, .ref da_readBody, .ref da_body, .ref da_readMany, .ref da_many, .ref da_without, .ref da_did, .ref da_done, .ref da_bed, .int d_now, .int d_mindAt, .int d_way, .int d_harm, .int d_worth, .int d_passes, .int d_passings, .int d_spots, .int d_images, .ref da_passing, .ref da_spot, .ref da_kept, .ref da_aside, .int d_spare, .ref da_ran, .ref da_who, .ref da_cap, .ref da_w, .ref da_laid, .int d_whoMany, .int d_drifted, .int d_seed, .ref da_cries, .ref da_holds, .ref da_came, .ref da_least, .ref da_firstTo, .int d_steps, .int d_roundFrom, .int d_roundMany, .int d_numberAt])), (da_many, .inl (cy 0, 5, .inl df_many)), (da_spot, .inl (cy 5, 6, .inr (.inr (.inr (.inr (fun i => if i < 6 then some (da_spot + 1 + i) else none)))))), ((da_spot + 1 + 0), .inl (cy 0, 2, .inl ((dF_spot 0)))), ((da_spot + 1 + 1), .inl (cy 0, 2, .inl ((dF_spot 1)))), ((da_spot + 1 + 2), .inl (cy 0, 2, .inl ((dF_spot 2)))), ((da_spot + 1 + 3), .inl (cy 0, 2, .inl ((dF_spot 3)))), ((da_spot + 1 + 4), .inl (cy 0, 2, .inl ((dF_spot 4)))), ((da_spot + 1 + 5), .inl (cy 0, 2, .inl ((dF_spot 5))))] [0, 1, 2, 3, 4, 5, 6, 7, 8]) (wr := []) rfl rfl (by decide) (k_runV 13 0 (As := [.int x25q, .int x38q]) (rest := [.int x35q]) E lk_VRX12_343 rfl rfl rfl (m_between l hl0 D cy sa da da_fed da_readBody da_body da_readMany da_many da_without da_did da_done da_bed da_passing da_spot da_kept da_aside da_ran da_who da_cap da_w da_laid da_cries da_holds da_came da_least da_firstTo d_thrown d_tape d_size d_place d_at d_fault d_faultAt d_clauses d_now d_mindAt d_way d_harm d_worth d_passes d_passings d_spots d_images d_spare d_whoMany d_drifted d_seed d_steps d_roundFrom d_roundMany d_numberAt x25q x38q df_many dF_spot ⟨by omega, by omega⟩ ⟨by omega, by omega⟩ ⟨by omega, by omega⟩ ⟨by omega, by omega⟩ ⟨by omega, by omega⟩ ⟨by omega, by omega⟩ ⟨by omega, by omega⟩ ⟨by omega, by omega⟩ ⟨by omega, by omega⟩ ⟨by omega, by omega⟩ (by assumption) (by assumption) (by assumption) ⟨by omega, by omega⟩ ⟨by omega, by omega⟩ (by omega) H.size) (⟨hP, hD, hG, hS, hA, rfl, rfl⟩ : kAt D cy sa A s H _ _ [(da, .inr (13, [.int d_thrown, .int d_tape, .int d_size, .int d_place, .int d_at, .int d_fault, .int d_faultAt, .int d_clauses, .ref da_fed, .ref da_readBody, .ref da_body, .ref da_readMany, .ref da_many, .ref da_without, .ref da_did, .ref da_done, .ref da_bed, .int d_now, .int d_mindAt, .int d_way, .int d_harm, .int d_worth, .int d_passes, .int d_passings, .int d_spots, .int d_images, .ref da_passing, .ref da_spot, .ref da_kept, .ref da_aside, .int d_spare, .ref da_ran, .ref da_who, .ref da_cap, .ref da_w, .ref da_laid, .int d_whoMany, .int d_drifted, .int d_seed, .ref da_cries, .ref da_holds, .ref da_came, .ref da_least, .ref da_firstTo, .int d_steps, .int d_roundFrom, .int d_roundMany, .int d_numberAt])), (da_many, .inl (cy 0, 5, .inl df_many)), (da_spot, .inl (cy 5, 6, .inr (.inr (.inr (.inr (fun i => if i < 6 then some (da_spot + 1 + i) else none)))))), ((da_spot + 1 + 0), .inl (cy 0, 2, .inl ((dF_spot 0)))), ((da_spot + 1 + 1), .inl (cy 0, 2, .inl ((dF_spot 1)))), ((da_spot + 1 + 2), .inl (cy 0, 2, .inl ((dF_spot 2)))), ((da_spot + 1 + 3), .inl (cy 0, 2, .inl ((dF_spot 3)))), ((da_spot + 1 + 4), .inl (cy 0, 2, .inl ((dF_spot 4)))), ((da_spot + 1 + 5), .inl (cy 0, 2, .inl ((dF_spot 5))))] [0, 1, 2, 3, 4, 5, 6, 7, 8]) hl.1 rfl rfl ⟨rfl, rfl, ⟨Nat.le_of_ble_eq_true rfl, Nat.le_of_ble_eq_true rfl⟩, ⟨Nat.le_of_ble_eq_true rfl, Nat.le_of_ble_eq_true rfl⟩, Nat.le_of_ble_eq_true rfl⟩ dX12_roundOf_72) (fun r45q u46q H locs hwu46q hP hD hS => ?_)
            have hP : va_P D vwCl [(da, .inr (13, [.int d_thrown, .int d_tape, .int d_size, .int d_place, .int d_at, .int d_fault, .int d_faultAt, .int d_clauses, .ref da_fed, .ref da_readBody, .ref da_body, .ref da_readMany, .ref da_many, .ref da_without, .ref da_did, .ref da_done, .ref da_bed, .int d_now, .int d_mindAt, .int d_way, .int d_harm, .int d_worth, .int d_passes, .int d_passings, .int d_spots, .int d_images, .ref da_passing, .ref da_spot, .ref da_kept, .ref da_aside, .int d_spare, .ref da_ran, .ref da_who, .ref da_cap, .ref da_w, .ref da_laid, .int d_whoMany, .int d_drifted, .int d_seed, .ref da_cries, .ref da_holds, .ref da_came, .ref da_least, .ref da_firstTo, .int d_steps, .int d_roundFrom, .int d_roundMany, .int d_numberAt])), (da_many, .inl (cy 0, 5, .inl df_many)), (da_spot, .inl (cy 5, 6, .inr (.inr (.inr (.inr (fun i => if i < 6 then some (da_spot + 1 + i) else none)))))), ((da_spot + 1 + 0), .inl (cy 0, 2, .inl ((dF_spot 0)))), ((da_spot + 1 + 1), .inl (cy 0, 2, .inl ((dF_spot 1)))), ((da_spot + 1 + 2), .inl (cy 0, 2, .inl ((dF_spot 2)))), ((da_spot + 1 + 3), .inl (cy 0, 2, .inl ((dF_spot 3)))), ((da_spot + 1 + 4), .inl (cy 0, 2, .inl ((dF_spot 4)))), ((da_spot + 1 + 5), .inl (cy 0, 2, .inl ((dF_spot 5))))] H := hP
            have hD : va_D A [(da, .inr (13, [.int d_thrown, .int d_tape, .int d_size, .int d_place, .int d_at, .int d_fault, .int d_faultAt, .int d_clauses, .ref da_fed, .ref da_readBody, .ref da_body, .ref da_readMany, .ref da_many, .ref da_without, .ref da_did, .ref da_done, .ref da_bed, .int d_now, .int d_mindAt, .int d_way, .int d_harm, .int d_worth, .int d_passes, .int d_passings, .int d_spots, .int d_images, .ref da_passing, .ref da_spot, .ref da_kept, .ref da_aside, .int d_spare, .ref da_ran, .ref da_who, .ref da_cap, .ref da_w, .ref da_laid, .int d_whoMany, .int d_drifted, .int d_seed, .ref da_cries, .ref da_holds, .ref da_came, .ref da_least, .ref da_firstTo, .int d_steps, .int d_roundFrom, .int d_roundMany, .int d_numberAt])), (da_many, .inl (cy 0, 5, .inl df_many)), (da_spot, .inl (cy 5, 6, .inr (.inr (.inr (.inr (fun i => if i < 6 then some (da_spot + 1 + i) else none)))))), ((da_spot + 1 + 0), .inl (cy 0, 2, .inl ((dF_spot 0)))), ((da_spot + 1 + 1), .inl (cy 0, 2, .inl ((dF_spot 1)))), ((da_spot + 1 + 2), .inl (cy 0, 2, .inl ((dF_spot 2)))), ((da_spot + 1 + 3), .inl (cy 0, 2, .inl ((dF_spot 3)))), ((da_spot + 1 + 4), .inl (cy 0, 2, .inl ((dF_spot 4)))), ((da_spot + 1 + 5), .inl (cy 0, 2, .inl ((dF_spot 5))))] := hD
            have p47q := hwu46q
            refine lv_iadd hx hb dX12_roundOf_75 ?_
            refine lv_topi (fun x48q ex48q => ?_)
            have rx48q := n_add ex48q (a := x35q.toInt) (b := r45q.toInt) rfl rfl (by omega) (by omega)
            refine lv_istore (lv' := [(4, .int x48q), (3, .int x44q), (8, .int x38q), (7, .int 1), (6, .int x25q), (5, .int x22q), (0, .ref da), (1, .int v0), (2, .int 36)]) hx hb dX12_roundOf_76 hl (by decide) rfl (fun ls hl => ?_)
            refine lv_iload hx hb dX12_roundOf_78 (lv_at hl 2 rfl) ?_
            refine lv_istore (lv' := [(6, .int x38q), (4, .int x48q), (3, .int x44q), (8, .int x38q), (7, .int 1), (5, .int x22q), (0, .ref da), (1, .int v0), (2, .int 36)]) hx hb dX12_roundOf_80 hl (by decide) rfl (fun ls hl => ?_)
            refine lv_iload hx hb dX12_roundOf_82 (lv_at hl 4 rfl) ?_
            refine lv_bipush (v := 6) hx hb dX12_roundOf_84 (by decide) ?_
            refine lv_idiv hx hb dX12_roundOf_86 (by decide) ?_
            refine lv_topi (fun x49q ex49q => ?_)
            obtain rfl : x49q = 0 := ex49q.trans (by decide)
            refine lv_istore (lv' := [(7, .int 0), (6, .int x38q), (4, .int x48q), (3, .int x44q), (8, .int x38q), (5, .int x22q), (0, .ref da), (1, .int v0), (2, .int 36)]) hx hb dX12_roundOf_87 hl (by decide) rfl (fun ls hl => ?_)
            refine lv_goto (tgt := 23) hx hb dX12_roundOf_89 (by decide) ?_
            refine lv_iload hx hb dX12_roundOf_23 (lv_at hl 0 rfl) ?_
            refine lv_if_le (tgt := 92) hx hb dX12_roundOf_25 (by decide) (fun _ => ?_) (fun h => absurd (by decide) h)
            refine lv_iload hx hb dX12_roundOf_92 (lv_at hl 2 rfl) ?_
            refine lv_aload_n hx hb dX12_roundOf_94 rfl (lv_at hl 6 rfl) ?_
            refine lv_iload hx hb dX12_roundOf_95 (lv_at hl 1 rfl) ?_
            refine lv_iload hx hb dX12_roundOf_97 (lv_at hl 5 rfl) ?_
            refine k_cali [] (⟨hP, hD, hG, hS, hA, rfl, rfl⟩ : kAt D cy sa A s H _ _ [(da, .inr (13, [.int d_thrown, .int d_tape, .int d_size, .int d_place, .int d_at, .int d_fault, .int d_faultAt, .int d_clauses, .ref da_fed, .ref da_readBody, .ref da_body, .ref da_readMany, .ref da_many, .ref da_without, .ref da_did, .ref da_done, .ref da_bed, .int d_now, .int d_mindAt, .int d_way, .int d_harm, .int d_worth, .int d_passes, .int d_passings, .int d_spots, .int d_images, .ref da_passing, .ref da_spot, .ref da_kept, .ref da_aside, .int d_spare, .ref da_ran, .ref da_who, .ref da_cap, .ref da_w, .ref da_laid, .int d_whoMany, .int d_drifted, .int d_seed, .ref da_cries, .ref da_holds, .ref da_came, .ref da_least, .ref da_firstTo, .int d_steps, .int d_roundFrom, .int d_roundMany, .int d_numberAt])), (da_many, .inl (cy 0, 5, .inl df_many)), (da_spot, .inl (cy 5, 6, .inr (.inr (.inr (.inr (fun i => if i < 6 then some (da_spot + 1 + i) else none)))))), ((da_spot + 1 + 0), .inl (cy 0, 2, .inl ((dF_spot 0)))), ((da_spot + 1 + 1), .inl (cy 0, 2, .inl ((dF_spot 1)))), ((da_spot + 1 + 2), .inl (cy 0, 2, .inl ((dF_spot 2)))), ((da_spot + 1 + 3), .inl (cy 0, 2, .inl ((dF_spot 3)))), ((da_spot + 1 + 4), .inl (cy 0, 2, .inl ((dF_spot 4)))), ((da_spot + 1 + 5), .inl (cy 0, 2, .inl ((dF_spot 5))))] [0, 1, 2, 3, 4, 5, 6, 7, 8]) (wr := []) rfl rfl (by decide) (k_runV 13 0 (As := [.int x38q, .int x22q]) (rest := [.int x48q]) E lk_VRX12_343 rfl rfl rfl (m_between l hl0 D cy sa da da_fed da_readBody da_body da_readMany da_many da_without da_did da_done da_bed da_passing da_spot da_kept da_aside da_ran da_who da_cap da_w da_laid da_cries da_holds da_came da_least da_firstTo d_thrown d_tape d_size d_place d_at d_fault d_faultAt d_clauses d_now d_mindAt d_way d_harm d_worth d_passes d_passings d_spots d_images d_spare d_whoMany d_drifted d_seed d_steps d_roundFrom d_roundMany d_numberAt x38q x22q df_many dF_spot ⟨by omega, by omega⟩ ⟨by omega, by omega⟩ ⟨by omega, by omega⟩ ⟨by omega, by omega⟩ ⟨by omega, by omega⟩ ⟨by omega, by omega⟩ ⟨by omega, by omega⟩ ⟨by omega, by omega⟩ ⟨by omega, by omega⟩ ⟨by omega, by omega⟩ (by assumption) (by assumption) (by assumption) ⟨by omega, by omega⟩ ⟨by omega, by omega⟩ (by omega) H.size) (⟨hP, hD, hG, hS, hA, rfl, rfl⟩ : kAt D cy sa A s H _ _ [(da, .inr (13, [.int d_thrown, .int d_tape, .int d_size, .int d_place, .int d_at, .int d_fault, .int d_faultAt, .int d_clauses, .ref da_fed, .ref da_readBody, .ref da_body, .ref da_readMany, .ref da_many, .ref da_without, .ref da_did, .ref da_done, .ref da_bed, .int d_now, .int d_mindAt, .int d_way, .int d_harm, .int d_worth, .int d_passes, .int d_passings, .int d_spots, .int d_images, .ref da_passing, .ref da_spot, .ref da_kept, .ref da_aside, .int d_spare, .ref da_ran, .ref da_who, .ref da_cap, .ref da_w, .ref da_laid, .int d_whoMany, .int d_drifted, .int d_seed, .ref da_cries, .ref da_holds, .ref da_came, .ref da_least, .ref da_firstTo, .int d_steps, .int d_roundFrom, .int d_roundMany, .int d_numberAt])), (da_many, .inl (cy 0, 5, .inl df_many)), (da_spot, .inl (cy 5, 6, .inr (.inr (.inr (.inr (fun i => if i < 6 then some (da_spot + 1 + i) else none)))))), ((da_spot + 1 + 0), .inl (cy 0, 2, .inl ((dF_spot 0)))), ((da_spot + 1 + 1), .inl (cy 0, 2, .inl ((dF_spot 1)))), ((da_spot + 1 + 2), .inl (cy 0, 2, .inl ((dF_spot 2)))), ((da_spot + 1 + 3), .inl (cy 0, 2, .inl ((dF_spot 3)))), ((da_spot + 1 + 4), .inl (cy 0, 2, .inl ((dF_spot 4)))), ((da_spot + 1 + 5), .inl (cy 0, 2, .inl ((dF_spot 5))))] [0, 1, 2, 3, 4, 5, 6, 7, 8]) hl.1 rfl rfl ⟨rfl, rfl, ⟨Nat.le_of_ble_eq_true rfl, Nat.le_of_ble_eq_true rfl⟩, ⟨Nat.le_of_ble_eq_true rfl, Nat.le_of_ble_eq_true rfl⟩, Nat.le_of_ble_eq_true rfl⟩ dX12_roundOf_99) (fun r50q u51q H locs hwu51q hP hD hS => ?_)
            have hP : va_P D vwCl [(da, .inr (13, [.int d_thrown, .int d_tape, .int d_size, .int d_place, .int d_at, .int d_fault, .int d_faultAt, .int d_clauses, .ref da_fed, .ref da_readBody, .ref da_body, .ref da_readMany, .ref da_many, .ref da_without, .ref da_did, .ref da_done, .ref da_bed, .int d_now, .int d_mindAt, .int d_way, .int d_harm, .int d_worth, .int d_passes, .int d_passings, .int d_spots, .int d_images, .ref da_passing, .ref da_spot, .ref da_kept, .ref da_aside, .int d_spare, .ref da_ran, .ref da_who, .ref da_cap, .ref da_w, .ref da_laid, .int d_whoMany, .int d_drifted, .int d_seed, .ref da_cries, .ref da_holds, .ref da_came, .ref da_least, .ref da_firstTo, .int d_steps, .int d_roundFrom, .int d_roundMany, .int d_numberAt])), (da_many, .inl (cy 0, 5, .inl df_many)), (da_spot, .inl (cy 5, 6, .inr (.inr (.inr (.inr (fun i => if i < 6 then some (da_spot + 1 + i) else none)))))), ((da_spot + 1 + 0), .inl (cy 0, 2, .inl ((dF_spot 0)))), ((da_spot + 1 + 1), .inl (cy 0, 2, .inl ((dF_spot 1)))), ((da_spot + 1 + 2), .inl (cy 0, 2, .inl ((dF_spot 2)))), ((da_spot + 1 + 3), .inl (cy 0, 2, .inl ((dF_spot 3)))), ((da_spot + 1 + 4), .inl (cy 0, 2, .inl ((dF_spot 4)))), ((da_spot + 1 + 5), .inl (cy 0, 2, .inl ((dF_spot 5))))] H := hP
            have hD : va_D A [(da, .inr (13, [.int d_thrown, .int d_tape, .int d_size, .int d_place, .int d_at, .int d_fault, .int d_faultAt, .int d_clauses, .ref da_fed, .ref da_readBody, .ref da_body, .ref da_readMany, .ref da_many, .ref da_without, .ref da_did, .ref da_done, .ref da_bed, .int d_now, .int d_mindAt, .int d_way, .int d_harm, .int d_worth, .int d_passes, .int d_passings, .int d_spots, .int d_images, .ref da_passing, .ref da_spot, .ref da_kept, .ref da_aside, .int d_spare, .ref da_ran, .ref da_who, .ref da_cap, .ref da_w, .ref da_laid, .int d_whoMany, .int d_drifted, .int d_seed, .ref da_cries, .ref da_holds, .ref da_came, .ref da_least, .ref da_firstTo, .int d_steps, .int d_roundFrom, .int d_roundMany, .int d_numberAt])), (da_many, .inl (cy 0, 5, .inl df_many)), (da_spot, .inl (cy 5, 6, .inr (.inr (.inr (.inr (fun i => if i < 6 then some (da_spot + 1 + i) else none)))))), ((da_spot + 1 + 0), .inl (cy 0, 2, .inl ((dF_spot 0)))), ((da_spot + 1 + 1), .inl (cy 0, 2, .inl ((dF_spot 1)))), ((da_spot + 1 + 2), .inl (cy 0, 2, .inl ((dF_spot 2)))), ((da_spot + 1 + 3), .inl (cy 0, 2, .inl ((dF_spot 3)))), ((da_spot + 1 + 4), .inl (cy 0, 2, .inl ((dF_spot 4)))), ((da_spot + 1 + 5), .inl (cy 0, 2, .inl ((dF_spot 5))))] := hD
            have p52q := hwu51q
            refine lv_iadd hx hb dX12_roundOf_102 ?_
            refine lv_topi (fun x53q ex53q => ?_)
            have rx53q := n_add ex53q (a := x48q.toInt) (b := r50q.toInt) rfl rfl (by omega) (by omega)
            rw [hQ0]
            exact k_iret () hx hb hr hlk (trivial) (hP.sub [0, 1, 2, 3, 4, 5, 6, 7, 8] rfl) (hD.sub [0, 1, 2, 3, 4, 5, 6, 7, 8] (by decide) rfl) hS (by decide) (by decide) dX12_roundOf_103
          · simp only [k_lt, k_le, k_eq, ne_eq, ge_iff_le, gt_iff_lt, n_L1] at c42q
            refine lv_iconst (v := (-1)) hx hb dX12_roundOf_56 (by decide) ?_
            rw [hQ0]
            exact k_iret () hx hb hr hlk (trivial) (hP.sub [0, 1, 2, 3, 4, 5, 6, 7, 8] rfl) (hD.sub [0, 1, 2, 3, 4, 5, 6, 7, 8] (by decide) rfl) hS (by decide) (by decide) dX12_roundOf_57
      · simp only [k_lt, k_le, k_eq, ne_eq, ge_iff_le, gt_iff_lt, n_L1] at c29q
        refine lv_iconst (v := (-1)) hx hb dX12_roundOf_56 (by decide) ?_
        rw [hQ0]
        exact k_iret () hx hb hr hlk (trivial) (hP.sub [0, 1, 2, 3, 4, 5, 6, 7, 8] rfl) (hD.sub [0, 1, 2, 3, 4, 5, 6, 7, 8] (by decide) rfl) hS (by decide) (by decide) dX12_roundOf_57
  · obtain rfl : a0 = 216 := Int32.toInt_inj.mp (h9.trans (by decide))
    refine lv_iconst (v := 0) hx hb dX12_roundOf_0 (by decide) ?_
    refine lv_istore_n (lv' := [(3, .int 0), (0, .ref da), (1, .int v0), (2, .int 216)]) hx hb dX12_roundOf_1 rfl hl (by decide) rfl (fun ls hl => ?_)
    refine lv_iconst (v := 0) hx hb dX12_roundOf_2 (by decide) ?_
    refine lv_istore (lv' := [(4, .int 0), (3, .int 0), (0, .ref da), (1, .int v0), (2, .int 216)]) hx hb dX12_roundOf_3 hl (by decide) rfl (fun ls hl => ?_)
    refine lv_iload_n hx hb dX12_roundOf_5 rfl (lv_at hl 3 rfl) ?_
    refine lv_iload_n hx hb dX12_roundOf_6 rfl (lv_at hl 4 rfl) ?_
    refine lv_bipush (v := 6) hx hb dX12_roundOf_7 (by decide) ?_
    refine lv_idiv hx hb dX12_roundOf_9 (by decide) ?_
    refine lv_topi (fun x54q ex54q => ?_)
    obtain rfl : x54q = 36 := ex54q.trans (by decide)
    refine lv_idiv hx hb dX12_roundOf_10 (by decide) ?_
    refine lv_topi (fun x55q ex55q => ?_)
    have rx55q := n_div ex55q (a := v0.toInt) (b := 36) rfl n_L36 (by omega) (by omega)
    refine lv_istore (lv' := [(5, .int x55q), (4, .int 0), (3, .int 0), (0, .ref da), (1, .int v0), (2, .int 216)]) hx hb dX12_roundOf_11 hl (by decide) rfl (fun ls hl => ?_)
    refine lv_iload hx hb dX12_roundOf_13 (lv_at hl 0 rfl) ?_
    refine lv_istore (lv' := [(6, .int x55q), (5, .int x55q), (4, .int 0), (3, .int 0), (0, .ref da), (1, .int v0), (2, .int 216)]) hx hb dX12_roundOf_15 hl (by decide) rfl (fun ls hl => ?_)
    refine lv_iload_n hx hb dX12_roundOf_17 rfl (lv_at hl 6 rfl) ?_
    refine lv_bipush (v := 6) hx hb dX12_roundOf_18 (by decide) ?_
    refine lv_idiv hx hb dX12_roundOf_20 (by decide) ?_
    refine lv_topi (fun x56q ex56q => ?_)
    obtain rfl : x56q = 36 := ex56q.trans (by decide)
    refine lv_istore (lv' := [(7, .int 36), (6, .int x55q), (5, .int x55q), (4, .int 0), (3, .int 0), (0, .ref da), (1, .int v0), (2, .int 216)]) hx hb dX12_roundOf_21 hl (by decide) rfl (fun ls hl => ?_)
    refine lv_iload hx hb dX12_roundOf_23 (lv_at hl 0 rfl) ?_
    refine lv_if_le (tgt := 92) hx hb dX12_roundOf_25 (by decide) (fun h => absurd h (by decide)) (fun _ => ?_)
    refine lv_iload_n hx hb dX12_roundOf_28 rfl (lv_at hl 6 rfl) ?_
    refine lv_iload hx hb dX12_roundOf_29 (lv_at hl 0 rfl) ?_
    refine lv_idiv hx hb dX12_roundOf_31 (by decide) ?_
    refine lv_topi (fun x57q ex57q => ?_)
    have rx57q := n_div ex57q (a := v0.toInt) (b := 36) rfl n_L36 (by omega) (by omega)
    refine lv_bipush (v := 6) hx hb dX12_roundOf_32 (by decide) ?_
    refine lv_irem hx hb dX12_roundOf_34 (by decide) ?_
    refine lv_topi (fun x58q ex58q => ?_)
    have rx58q := n_mod ex58q (a := x57q.toInt) (b := 6) rfl n_L6 (by omega) (by omega)
    refine lv_istore (lv' := [(8, .int x58q), (7, .int 36), (6, .int x55q), (5, .int x55q), (4, .int 0), (3, .int 0), (0, .ref da), (1, .int v0), (2, .int 216)]) hx hb dX12_roundOf_35 hl (by decide) rfl (fun ls hl => ?_)
    refine lv_iload hx hb dX12_roundOf_37 (lv_at hl 0 rfl) ?_
    refine lv_aload_n hx hb dX12_roundOf_39 rfl (lv_at hl 6 rfl) ?_
    refine va_get (D := D) (ci := 13) (v := .int d_spots) (C := RX12) (T := TX12) (N := 48) hx hb hts kin_RX12 hown hG.1 hP 0 rfl rfl 24 (by decide) (hts _ wm_1543) (fun _ h9 => h9) rfl dX12_roundOf_40 ?_
    refine lv_icmp_ge (tgt := 56) hx hb dX12_roundOf_43 (by decide) (fun c59q => ?_) (fun c59q => ?_)
    · simp only [k_lt, k_le, k_eq, ne_eq, ge_iff_le, gt_iff_lt] at c59q
      refine lv_iconst (v := (-1)) hx hb dX12_roundOf_56 (by decide) ?_
      rw [hQ0]
      exact k_iret () hx hb hr hlk (trivial) (hP.sub [0, 1, 2, 3, 4, 5, 6, 7, 8] rfl) (hD.sub [0, 1, 2, 3, 4, 5, 6, 7, 8] (by decide) rfl) hS (by decide) (by decide) dX12_roundOf_57
    · simp only [k_lt, k_le, k_eq, ne_eq, ge_iff_le, gt_iff_lt] at c59q
      refine lv_iload_n hx hb dX12_roundOf_46 rfl (lv_at hl 5 rfl) ?_
      refine lv_iload hx hb dX12_roundOf_47 (lv_at hl 0 rfl) ?_
      refine lv_ishr hx hb dX12_roundOf_49 ?_
      refine lv_topi (fun x60q ex60q => ?_)
      refine lv_iconst (v := 1) hx hb dX12_roundOf_50 (by decide) ?_
      refine lv_iand hx hb dX12_roundOf_51 ?_
      refine lv_topi (fun x61q ex61q => ?_)
      have rx61q := n_and ex61q (b := 1) n_L1 (by omega)
      refine lv_iconst (v := 1) hx hb dX12_roundOf_52 (by decide) ?_
      refine lv_icmp_ne (tgt := 58) hx hb dX12_roundOf_53 (by decide) (fun c62q => ?_) (fun c62q => ?_)
      · simp only [k_lt, k_le, k_eq, ne_eq, ge_iff_le, gt_iff_lt, n_L1] at c62q
        refine lv_iload_n hx hb dX12_roundOf_58 rfl (lv_at hl 5 rfl) ?_
        refine lv_iconst (v := 1) hx hb dX12_roundOf_59 (by decide) ?_
        refine lv_iload hx hb dX12_roundOf_60 (lv_at hl 0 rfl) ?_
        refine lv_ishl hx hb dX12_roundOf_62 ?_
        refine lv_topi (fun x63q ex63q => ?_)
        refine lv_ior hx hb dX12_roundOf_63 ?_
        refine lv_topi (fun x64q ex64q => ?_)
        refine lv_istore_n (lv' := [(3, .int x64q), (8, .int x58q), (7, .int 36), (6, .int x55q), (5, .int x55q), (4, .int 0), (0, .ref da), (1, .int v0), (2, .int 216)]) hx hb dX12_roundOf_64 rfl hl (by decide) rfl (fun ls hl => ?_)
        refine lv_iload hx hb dX12_roundOf_65 (lv_at hl 5 rfl) ?_
        refine lv_aload_n hx hb dX12_roundOf_67 rfl (lv_at hl 6 rfl) ?_
        refine lv_iload hx hb dX12_roundOf_68 (lv_at hl 3 rfl) ?_
        refine lv_iload hx hb dX12_roundOf_70 (lv_at hl 1 rfl) ?_
        refine k_cali [] (⟨hP, hD, hG, hS, hA, rfl, rfl⟩ : kAt D cy sa A s H _ _ [(da, .inr (13, [.int d_thrown, .int d_tape, .int d_size, .int d_place, .int d_at, .int d_fault, .int d_faultAt, .int d_clauses, .ref da_fed, .ref da_readBody, .ref da_body, .ref da_readMany, .ref da_many, .ref da_without, .ref da_did, .ref da_done, .ref da_bed, .int d_now, .int d_mindAt, .int d_way, .int d_harm, .int d_worth, .int d_passes, .int d_passings, .int d_spots, .int d_images, .ref da_passing, .ref da_spot, .ref da_kept, .ref da_aside, .int d_spare, .ref da_ran, .ref da_who, .ref da_cap, .ref da_w, .ref da_laid, .int d_whoMany, .int d_drifted, .int d_seed, .ref da_cries, .ref da_holds, .ref da_came, .ref da_least, .ref da_firstTo, .int d_steps, .int d_roundFrom, .int d_roundMany, .int d_numberAt])), (da_many, .inl (cy 0, 5, .inl df_many)), (da_spot, .inl (cy 5, 6, .inr (.inr (.inr (.inr (fun i => if i < 6 then some (da_spot + 1 + i) else none)))))), ((da_spot + 1 + 0), .inl (cy 0, 2, .inl ((dF_spot 0)))), ((da_spot + 1 + 1), .inl (cy 0, 2, .inl ((dF_spot 1)))), ((da_spot + 1 + 2), .inl (cy 0, 2, .inl ((dF_spot 2)))), ((da_spot + 1 + 3), .inl (cy 0, 2, .inl ((dF_spot 3)))), ((da_spot + 1 + 4), .inl (cy 0, 2, .inl ((dF_spot 4)))), ((da_spot + 1 + 5), .inl (cy 0, 2, .inl ((dF_spot 5))))] [0, 1, 2, 3, 4, 5, 6, 7, 8]) (wr := []) rfl rfl (by decide) (k_runV 13 0 (As := [.int x55q, .int x58q]) (rest := [.int 0]) E lk_VRX12_343 rfl rfl rfl (m_between l hl0 D cy sa da da_fed da_readBody da_body da_readMany da_many da_without da_did da_done da_bed da_passing da_spot da_kept da_aside da_ran da_who da_cap da_w da_laid da_cries da_holds da_came da_least da_firstTo d_thrown d_tape d_size d_place d_at d_fault d_faultAt d_clauses d_now d_mindAt d_way d_harm d_worth d_passes d_passings d_spots d_images d_spare d_whoMany d_drifted d_seed d_steps d_roundFrom d_roundMany d_numberAt x55q x58q df_many dF_spot ⟨by omega, by omega⟩ ⟨by omega, by omega⟩ ⟨by omega, by omega⟩ ⟨by omega, by omega⟩ ⟨by omega, by omega⟩ ⟨by omega, by omega⟩ ⟨by omega, by omega⟩ ⟨by omega, by omega⟩ ⟨by omega, by omega⟩ ⟨by omega, by omega⟩ (by assumption) (by assumption) (by assumption) ⟨by omega, by omega⟩ ⟨by omega, by omega⟩ (by omega) H.size) (⟨hP, hD, hG, hS, hA, rfl, rfl⟩ : kAt D cy sa A s H _ _ [(da, .inr (13, [.int d_thrown, .int d_tape, .int d_size, .int d_place, .int d_at, .int d_fault, .int d_faultAt, .int d_clauses, .ref da_fed, .ref da_readBody, .ref da_body, .ref da_readMany, .ref da_many, .ref da_without, .ref da_did, .ref da_done, .ref da_bed, .int d_now, .int d_mindAt, .int d_way, .int d_harm, .int d_worth, .int d_passes, .int d_passings, .int d_spots, .int d_images, .ref da_passing, .ref da_spot, .ref da_kept, .ref da_aside, .int d_spare, .ref da_ran, .ref da_who, .ref da_cap, .ref da_w, .ref da_laid, .int d_whoMany, .int d_drifted, .int d_seed, .ref da_cries, .ref da_holds, .ref da_came, .ref da_least, .ref da_firstTo, .int d_steps, .int d_roundFrom, .int d_roundMany, .int d_numberAt])), (da_many, .inl (cy 0, 5, .inl df_many)), (da_spot, .inl (cy 5, 6, .inr (.inr (.inr (.inr (fun i => if i < 6 then some (da_spot + 1 + i) else none)))))), ((da_spot + 1 + 0), .inl (cy 0, 2, .inl ((dF_spot 0)))), ((da_spot + 1 + 1), .inl (cy 0, 2, .inl ((dF_spot 1)))), ((da_spot + 1 + 2), .inl (cy 0, 2, .inl ((dF_spot 2)))), ((da_spot + 1 + 3), .inl (cy 0, 2, .inl ((dF_spot 3)))), ((da_spot + 1 + 4), .inl (cy 0, 2, .inl ((dF_spot 4)))), ((da_spot + 1 + 5), .inl (cy 0, 2, .inl ((dF_spot 5))))] [0, 1, 2, 3, 4, 5, 6, 7, 8]) hl.1 rfl rfl ⟨rfl, rfl, ⟨Nat.le_of_ble_eq_true rfl, Nat.le_of_ble_eq_true rfl⟩, ⟨Nat.le_of_ble_eq_true rfl, Nat.le_of_ble_eq_true rfl⟩, Nat.le_of_ble_eq_true rfl⟩ dX12_roundOf_72) (fun r65q u66q H locs hwu66q hP hD hS => ?_)
        have hP : va_P D vwCl [(da, .inr (13, [.int d_thrown, .int d_tape, .int d_size, .int d_place, .int d_at, .int d_fault, .int d_faultAt, .int d_clauses, .ref da_fed, .ref da_readBody, .ref da_body, .ref da_readMany, .ref da_many, .ref da_without, .ref da_did, .ref da_done, .ref da_bed, .int d_now, .int d_mindAt, .int d_way, .int d_harm, .int d_worth, .int d_passes, .int d_passings, .int d_spots, .int d_images, .ref da_passing, .ref da_spot, .ref da_kept, .ref da_aside, .int d_spare, .ref da_ran, .ref da_who, .ref da_cap, .ref da_w, .ref da_laid, .int d_whoMany, .int d_drifted, .int d_seed, .ref da_cries, .ref da_holds, .ref da_came, .ref da_least, .ref da_firstTo, .int d_steps, .int d_roundFrom, .int d_roundMany, .int d_numberAt])), (da_many, .inl (cy 0, 5, .inl df_many)), (da_spot, .inl (cy 5, 6, .inr (.inr (.inr (.inr (fun i => if i < 6 then some (da_spot + 1 + i) else none)))))), ((da_spot + 1 + 0), .inl (cy 0, 2, .inl ((dF_spot 0)))), ((da_spot + 1 + 1), .inl (cy 0, 2, .inl ((dF_spot 1)))), ((da_spot + 1 + 2), .inl (cy 0, 2, .inl ((dF_spot 2)))), ((da_spot + 1 + 3), .inl (cy 0, 2, .inl ((dF_spot 3)))), ((da_spot + 1 + 4), .inl (cy 0, 2, .inl ((dF_spot 4)))), ((da_spot + 1 + 5), .inl (cy 0, 2, .inl ((dF_spot 5))))] H := hP
        have hD : va_D A [(da, .inr (13, [.int d_thrown, .int d_tape, .int d_size, .int d_place, .int d_at, .int d_fault, .int d_faultAt, .int d_clauses, .ref da_fed, .ref da_readBody, .ref da_body, .ref da_readMany, .ref da_many, .ref da_without, .ref da_did, .ref da_done, .ref da_bed, .int d_now, .int d_mindAt, .int d_way, .int d_harm, .int d_worth, .int d_passes, .int d_passings, .int d_spots, .int d_images, .ref da_passing, .ref da_spot, .ref da_kept, .ref da_aside, .int d_spare, .ref da_ran, .ref da_who, .ref da_cap, .ref da_w, .ref da_laid, .int d_whoMany, .int d_drifted, .int d_seed, .ref da_cries, .ref da_holds, .ref da_came, .ref da_least, .ref da_firstTo, .int d_steps, .int d_roundFrom, .int d_roundMany, .int d_numberAt])), (da_many, .inl (cy 0, 5, .inl df_many)), (da_spot, .inl (cy 5, 6, .inr (.inr (.inr (.inr (fun i => if i < 6 then some (da_spot + 1 + i) else none)))))), ((da_spot + 1 + 0), .inl (cy 0, 2, .inl ((dF_spot 0)))), ((da_spot + 1 + 1), .inl (cy 0, 2, .inl ((dF_spot 1)))), ((da_spot + 1 + 2), .inl (cy 0, 2, .inl ((dF_spot 2)))), ((da_spot + 1 + 3), .inl (cy 0, 2, .inl ((dF_spot 3)))), ((da_spot + 1 + 4), .inl (cy 0, 2, .inl ((dF_spot 4)))), ((da_spot + 1 + 5), .inl (cy 0, 2, .inl ((dF_spot 5))))] := hD
        have p67q := hwu66q
        refine lv_iadd hx hb dX12_roundOf_75 ?_
        refine lv_topi (fun x68q ex68q => ?_)
        have rx68q := n_add ex68q (a := 0) (b := r65q.toInt) n_L0 rfl (by omega) (by omega)
        refine lv_istore (lv' := [(4, .int x68q), (3, .int x64q), (8, .int x58q), (7, .int 36), (6, .int x55q), (5, .int x55q), (0, .ref da), (1, .int v0), (2, .int 216)]) hx hb dX12_roundOf_76 hl (by decide) rfl (fun ls hl => ?_)
        refine lv_iload hx hb dX12_roundOf_78 (lv_at hl 2 rfl) ?_
        refine lv_istore (lv' := [(6, .int x58q), (4, .int x68q), (3, .int x64q), (8, .int x58q), (7, .int 36), (5, .int x55q), (0, .ref da), (1, .int v0), (2, .int 216)]) hx hb dX12_roundOf_80 hl (by decide) rfl (fun ls hl => ?_)
        refine lv_iload hx hb dX12_roundOf_82 (lv_at hl 4 rfl) ?_
        refine lv_bipush (v := 6) hx hb dX12_roundOf_84 (by decide) ?_
        refine lv_idiv hx hb dX12_roundOf_86 (by decide) ?_
        refine lv_topi (fun x69q ex69q => ?_)
        obtain rfl : x69q = 6 := ex69q.trans (by decide)
        refine lv_istore (lv' := [(7, .int 6), (6, .int x58q), (4, .int x68q), (3, .int x64q), (8, .int x58q), (5, .int x55q), (0, .ref da), (1, .int v0), (2, .int 216)]) hx hb dX12_roundOf_87 hl (by decide) rfl (fun ls hl => ?_)
        refine lv_goto (tgt := 23) hx hb dX12_roundOf_89 (by decide) ?_
        refine lv_iload hx hb dX12_roundOf_23 (lv_at hl 0 rfl) ?_
        refine lv_if_le (tgt := 92) hx hb dX12_roundOf_25 (by decide) (fun h => absurd h (by decide)) (fun _ => ?_)
        refine lv_iload_n hx hb dX12_roundOf_28 rfl (lv_at hl 7 rfl) ?_
        refine lv_iload hx hb dX12_roundOf_29 (lv_at hl 0 rfl) ?_
        refine lv_idiv hx hb dX12_roundOf_31 (by decide) ?_
        refine lv_topi (fun x70q ex70q => ?_)
        have rx70q := n_div ex70q (a := v0.toInt) (b := 6) rfl n_L6 (by omega) (by omega)
        refine lv_bipush (v := 6) hx hb dX12_roundOf_32 (by decide) ?_
        refine lv_irem hx hb dX12_roundOf_34 (by decide) ?_
        refine lv_topi (fun x71q ex71q => ?_)
        have rx71q := n_mod ex71q (a := x70q.toInt) (b := 6) rfl n_L6 (by omega) (by omega)
        refine lv_istore (lv' := [(8, .int x71q), (7, .int 6), (6, .int x58q), (4, .int x68q), (3, .int x64q), (5, .int x55q), (0, .ref da), (1, .int v0), (2, .int 216)]) hx hb dX12_roundOf_35 hl (by decide) rfl (fun ls hl => ?_)
        refine lv_iload hx hb dX12_roundOf_37 (lv_at hl 0 rfl) ?_
        refine lv_aload_n hx hb dX12_roundOf_39 rfl (lv_at hl 6 rfl) ?_
        refine va_get (D := D) (ci := 13) (v := .int d_spots) (C := RX12) (T := TX12) (N := 48) hx hb hts kin_RX12 hown hG.1 hP 0 rfl rfl 24 (by decide) (hts _ wm_1543) (fun _ h9 => h9) rfl dX12_roundOf_40 ?_
        refine lv_icmp_ge (tgt := 56) hx hb dX12_roundOf_43 (by decide) (fun c72q => ?_) (fun c72q => ?_)
        · simp only [k_lt, k_le, k_eq, ne_eq, ge_iff_le, gt_iff_lt] at c72q
          refine lv_iconst (v := (-1)) hx hb dX12_roundOf_56 (by decide) ?_
          rw [hQ0]
          exact k_iret () hx hb hr hlk (trivial) (hP.sub [0, 1, 2, 3, 4, 5, 6, 7, 8] rfl) (hD.sub [0, 1, 2, 3, 4, 5, 6, 7, 8] (by decide) rfl) hS (by decide) (by decide) dX12_roundOf_57
        · simp only [k_lt, k_le, k_eq, ne_eq, ge_iff_le, gt_iff_lt] at c72q
          refine lv_iload_n hx hb dX12_roundOf_46 rfl (lv_at hl 4 rfl) ?_
          refine lv_iload hx hb dX12_roundOf_47 (lv_at hl 0 rfl) ?_
          refine lv_ishr hx hb dX12_roundOf_49 ?_
          refine lv_topi (fun x73q ex73q => ?_)
          refine lv_iconst (v := 1) hx hb dX12_roundOf_50 (by decide) ?_
          refine lv_iand hx hb dX12_roundOf_51 ?_
          refine lv_topi (fun x74q ex74q => ?_)
          have rx74q := n_and ex74q (b := 1) n_L1 (by omega)
          refine lv_iconst (v := 1) hx hb dX12_roundOf_52 (by decide) ?_
          refine lv_icmp_ne (tgt := 58) hx hb dX12_roundOf_53 (by decide) (fun c75q => ?_) (fun c75q => ?_)
          · simp only [k_lt, k_le, k_eq, ne_eq, ge_iff_le, gt_iff_lt, n_L1] at c75q
            refine lv_iload_n hx hb dX12_roundOf_58 rfl (lv_at hl 4 rfl) ?_
            refine lv_iconst (v := 1) hx hb dX12_roundOf_59 (by decide) ?_
            refine lv_iload hx hb dX12_roundOf_60 (lv_at hl 0 rfl) ?_
            refine lv_ishl hx hb dX12_roundOf_62 ?_
            refine lv_topi (fun x76q ex76q => ?_)
            refine lv_ior hx hb dX12_roundOf_63 ?_
            refine lv_topi (fun x77q ex77q => ?_)
            refine lv_istore_n (lv' := [(3, .int x77q), (8, .int x71q), (7, .int 6), (6, .int x58q), (4, .int x68q), (5, .int x55q), (0, .ref da), (1, .int v0), (2, .int 216)]) hx hb dX12_roundOf_64 rfl hl (by decide) rfl (fun ls hl => ?_)
            refine lv_iload hx hb dX12_roundOf_65 (lv_at hl 4 rfl) ?_
            refine lv_aload_n hx hb dX12_roundOf_67 rfl (lv_at hl 6 rfl) ?_
            refine lv_iload hx hb dX12_roundOf_68 (lv_at hl 3 rfl) ?_
            refine lv_iload hx hb dX12_roundOf_70 (lv_at hl 1 rfl) ?_
            refine k_cali [] (⟨hP, hD, hG, hS, hA, rfl, rfl⟩ : kAt D cy sa A s H _ _ [(da, .inr (13, [.int d_thrown, .int d_tape, .int d_size, .int d_place, .int d_at, .int d_fault, .int d_faultAt, .int d_clauses, .ref da_fed, .ref da_readBody, .ref da_body, .ref da_readMany, .ref da_many, .ref da_without, .ref da_did, .ref da_done, .ref da_bed, .int d_now, .int d_mindAt, .int d_way, .int d_harm, .int d_worth, .int d_passes, .int d_passings, .int d_spots, .int d_images, .ref da_passing, .ref da_spot, .ref da_kept, .ref da_aside, .int d_spare, .ref da_ran, .ref da_who, .ref da_cap, .ref da_w, .ref da_laid, .int d_whoMany, .int d_drifted, .int d_seed, .ref da_cries, .ref da_holds, .ref da_came, .ref da_least, .ref da_firstTo, .int d_steps, .int d_roundFrom, .int d_roundMany, .int d_numberAt])), (da_many, .inl (cy 0, 5, .inl df_many)), (da_spot, .inl (cy 5, 6, .inr (.inr (.inr (.inr (fun i => if i < 6 then some (da_spot + 1 + i) else none)))))), ((da_spot + 1 + 0), .inl (cy 0, 2, .inl ((dF_spot 0)))), ((da_spot + 1 + 1), .inl (cy 0, 2, .inl ((dF_spot 1)))), ((da_spot + 1 + 2), .inl (cy 0, 2, .inl ((dF_spot 2)))), ((da_spot + 1 + 3), .inl (cy 0, 2, .inl ((dF_spot 3)))), ((da_spot + 1 + 4), .inl (cy 0, 2, .inl ((dF_spot 4)))), ((da_spot + 1 + 5), .inl (cy 0, 2, .inl ((dF_spot 5))))] [0, 1, 2, 3, 4, 5, 6, 7, 8]) (wr := []) rfl rfl (by decide) (k_runV 13 0 (As := [.int x58q, .int x71q]) (rest := [.int x68q]) E lk_VRX12_343 rfl rfl rfl (m_between l hl0 D cy sa da da_fed da_readBody da_body da_readMany da_many da_without da_did da_done da_bed da_passing da_spot da_kept da_aside da_ran da_who da_cap da_w da_laid da_cries da_holds da_came da_least da_firstTo d_thrown d_tape d_size d_place d_at d_fault d_faultAt d_clauses d_now d_mindAt d_way d_harm d_worth d_passes d_passings d_spots d_images d_spare d_whoMany d_drifted d_seed d_steps d_roundFrom d_roundMany d_numberAt x58q x71q df_many dF_spot ⟨by omega, by omega⟩ ⟨by omega, by omega⟩ ⟨by omega, by omega⟩ ⟨by omega, by omega⟩ ⟨by omega, by omega⟩ ⟨by omega, by omega⟩ ⟨by omega, by omega⟩ ⟨by omega, by omega⟩ ⟨by omega, by omega⟩ ⟨by omega, by omega⟩ (by assumption) (by assumption) (by assumption) ⟨by omega, by omega⟩ ⟨by omega, by omega⟩ (by omega) H.size) (⟨hP, hD, hG, hS, hA, rfl, rfl⟩ : kAt D cy sa A s H _ _ [(da, .inr (13, [.int d_thrown, .int d_tape, .int d_size, .int d_place, .int d_at, .int d_fault, .int d_faultAt, .int d_clauses, .ref da_fed, .ref da_readBody, .ref da_body, .ref da_readMany, .ref da_many, .ref da_without, .ref da_did, .ref da_done, .ref da_bed, .int d_now, .int d_mindAt, .int d_way, .int d_harm, .int d_worth, .int d_passes, .int d_passings, .int d_spots, .int d_images, .ref da_passing, .ref da_spot, .ref da_kept, .ref da_aside, .int d_spare, .ref da_ran, .ref da_who, .ref da_cap, .ref da_w, .ref da_laid, .int d_whoMany, .int d_drifted, .int d_seed, .ref da_cries, .ref da_holds, .ref da_came, .ref da_least, .ref da_firstTo, .int d_steps, .int d_roundFrom, .int d_roundMany, .int d_numberAt])), (da_many, .inl (cy 0, 5, .inl df_many)), (da_spot, .inl (cy 5, 6, .inr (.inr (.inr (.inr (fun i => if i < 6 then some (da_spot + 1 + i) else none)))))), ((da_spot + 1 + 0), .inl (cy 0, 2, .inl ((dF_spot 0)))), ((da_spot + 1 + 1), .inl (cy 0, 2, .inl ((dF_spot 1)))), ((da_spot + 1 + 2), .inl (cy 0, 2, .inl ((dF_spot 2)))), ((da_spot + 1 + 3), .inl (cy 0, 2, .inl ((dF_spot 3)))), ((da_spot + 1 + 4), .inl (cy 0, 2, .inl ((dF_spot 4)))), ((da_spot + 1 + 5), .inl (cy 0, 2, .inl ((dF_spot 5))))] [0, 1, 2, 3, 4, 5, 6, 7, 8]) hl.1 rfl rfl ⟨rfl, rfl, ⟨Nat.le_of_ble_eq_true rfl, Nat.le_of_ble_eq_true rfl⟩, ⟨Nat.le_of_ble_eq_true rfl, Nat.le_of_ble_eq_true rfl⟩, Nat.le_of_ble_eq_true rfl⟩ dX12_roundOf_72) (fun r78q u79q H locs hwu79q hP hD hS => ?_)
            have hP : va_P D vwCl [(da, .inr (13, [.int d_thrown, .int d_tape, .int d_size, .int d_place, .int d_at, .int d_fault, .int d_faultAt, .int d_clauses, .ref da_fed, .ref da_readBody, .ref da_body, .ref da_readMany, .ref da_many, .ref da_without, .ref da_did, .ref da_done, .ref da_bed, .int d_now, .int d_mindAt, .int d_way, .int d_harm, .int d_worth, .int d_passes, .int d_passings, .int d_spots, .int d_images, .ref da_passing, .ref da_spot, .ref da_kept, .ref da_aside, .int d_spare, .ref da_ran, .ref da_who, .ref da_cap, .ref da_w, .ref da_laid, .int d_whoMany, .int d_drifted, .int d_seed, .ref da_cries, .ref da_holds, .ref da_came, .ref da_least, .ref da_firstTo, .int d_steps, .int d_roundFrom, .int d_roundMany, .int d_numberAt])), (da_many, .inl (cy 0, 5, .inl df_many)), (da_spot, .inl (cy 5, 6, .inr (.inr (.inr (.inr (fun i => if i < 6 then some (da_spot + 1 + i) else none)))))), ((da_spot + 1 + 0), .inl (cy 0, 2, .inl ((dF_spot 0)))), ((da_spot + 1 + 1), .inl (cy 0, 2, .inl ((dF_spot 1)))), ((da_spot + 1 + 2), .inl (cy 0, 2, .inl ((dF_spot 2)))), ((da_spot + 1 + 3), .inl (cy 0, 2, .inl ((dF_spot 3)))), ((da_spot + 1 + 4), .inl (cy 0, 2, .inl ((dF_spot 4)))), ((da_spot + 1 + 5), .inl (cy 0, 2, .inl ((dF_spot 5))))] H := hP
            have hD : va_D A [(da, .inr (13, [.int d_thrown, .int d_tape, .int d_size, .int d_place, .int d_at, .int d_fault, .int d_faultAt, .int d_clauses, .ref da_fed, .ref da_readBody, .ref da_body, .ref da_readMany, .ref da_many, .ref da_without, .ref da_did, .ref da_done, .ref da_bed, .int d_now, .int d_mindAt, .int d_way, .int d_harm, .int d_worth, .int d_passes, .int d_passings, .int d_spots, .int d_images, .ref da_passing, .ref da_spot, .ref da_kept, .ref da_aside, .int d_spare, .ref da_ran, .ref da_who, .ref da_cap, .ref da_w, .ref da_laid, .int d_whoMany, .int d_drifted, .int d_seed, .ref da_cries, .ref da_holds, .ref da_came, .ref da_least, .ref da_firstTo, .int d_steps, .int d_roundFrom, .int d_roundMany, .int d_numberAt])), (da_many, .inl (cy 0, 5, .inl df_many)), (da_spot, .inl (cy 5, 6, .inr (.inr (.inr (.inr (fun i => if i < 6 then some (da_spot + 1 + i) else none)))))), ((da_spot + 1 + 0), .inl (cy 0, 2, .inl ((dF_spot 0)))), ((da_spot + 1 + 1), .inl (cy 0, 2, .inl ((dF_spot 1)))), ((da_spot + 1 + 2), .inl (cy 0, 2, .inl ((dF_spot 2)))), ((da_spot + 1 + 3), .inl (cy 0, 2, .inl ((dF_spot 3)))), ((da_spot + 1 + 4), .inl (cy 0, 2, .inl ((dF_spot 4)))), ((da_spot + 1 + 5), .inl (cy 0, 2, .inl ((dF_spot 5))))] := hD
            have p80q := hwu79q
            refine lv_iadd hx hb dX12_roundOf_75 ?_
            refine lv_topi (fun x81q ex81q => ?_)
            have rx81q := n_add ex81q (a := x68q.toInt) (b := r78q.toInt) rfl rfl (by omega) (by omega)
            refine lv_istore (lv' := [(4, .int x81q), (3, .int x77q), (8, .int x71q), (7, .int 6), (6, .int x58q), (5, .int x55q), (0, .ref da), (1, .int v0), (2, .int 216)]) hx hb dX12_roundOf_76 hl (by decide) rfl (fun ls hl => ?_)
            refine lv_iload hx hb dX12_roundOf_78 (lv_at hl 2 rfl) ?_
            refine lv_istore (lv' := [(6, .int x71q), (4, .int x81q), (3, .int x77q), (8, .int x71q), (7, .int 6), (5, .int x55q), (0, .ref da), (1, .int v0), (2, .int 216)]) hx hb dX12_roundOf_80 hl (by decide) rfl (fun ls hl => ?_)
            refine lv_iload hx hb dX12_roundOf_82 (lv_at hl 4 rfl) ?_
            refine lv_bipush (v := 6) hx hb dX12_roundOf_84 (by decide) ?_
            refine lv_idiv hx hb dX12_roundOf_86 (by decide) ?_
            refine lv_topi (fun x82q ex82q => ?_)
            obtain rfl : x82q = 1 := ex82q.trans (by decide)
            refine lv_istore (lv' := [(7, .int 1), (6, .int x71q), (4, .int x81q), (3, .int x77q), (8, .int x71q), (5, .int x55q), (0, .ref da), (1, .int v0), (2, .int 216)]) hx hb dX12_roundOf_87 hl (by decide) rfl (fun ls hl => ?_)
            refine lv_goto (tgt := 23) hx hb dX12_roundOf_89 (by decide) ?_
            refine lv_iload hx hb dX12_roundOf_23 (lv_at hl 0 rfl) ?_
            refine lv_if_le (tgt := 92) hx hb dX12_roundOf_25 (by decide) (fun h => absurd h (by decide)) (fun _ => ?_)
            refine lv_iload_n hx hb dX12_roundOf_28 rfl (lv_at hl 7 rfl) ?_
            refine lv_iload hx hb dX12_roundOf_29 (lv_at hl 0 rfl) ?_
            refine lv_idiv hx hb dX12_roundOf_31 (by decide) ?_
            refine lv_topi (fun x83q ex83q => ?_)
            have rx83q := n_div ex83q (a := v0.toInt) (b := 1) rfl n_L1 (by omega) (by omega)
            refine lv_bipush (v := 6) hx hb dX12_roundOf_32 (by decide) ?_
            refine lv_irem hx hb dX12_roundOf_34 (by decide) ?_
            refine lv_topi (fun x84q ex84q => ?_)
            have rx84q := n_mod ex84q (a := x83q.toInt) (b := 6) rfl n_L6 (by omega) (by omega)
            refine lv_istore (lv' := [(8, .int x84q), (7, .int 1), (6, .int x71q), (4, .int x81q), (3, .int x77q), (5, .int x55q), (0, .ref da), (1, .int v0), (2, .int 216)]) hx hb dX12_roundOf_35 hl (by decide) rfl (fun ls hl => ?_)
            refine lv_iload hx hb dX12_roundOf_37 (lv_at hl 0 rfl) ?_
            refine lv_aload_n hx hb dX12_roundOf_39 rfl (lv_at hl 6 rfl) ?_
            refine va_get (D := D) (ci := 13) (v := .int d_spots) (C := RX12) (T := TX12) (N := 48) hx hb hts kin_RX12 hown hG.1 hP 0 rfl rfl 24 (by decide) (hts _ wm_1543) (fun _ h9 => h9) rfl dX12_roundOf_40 ?_
            refine lv_icmp_ge (tgt := 56) hx hb dX12_roundOf_43 (by decide) (fun c85q => ?_) (fun c85q => ?_)
            · simp only [k_lt, k_le, k_eq, ne_eq, ge_iff_le, gt_iff_lt] at c85q
              refine lv_iconst (v := (-1)) hx hb dX12_roundOf_56 (by decide) ?_
              rw [hQ0]
              exact k_iret () hx hb hr hlk (trivial) (hP.sub [0, 1, 2, 3, 4, 5, 6, 7, 8] rfl) (hD.sub [0, 1, 2, 3, 4, 5, 6, 7, 8] (by decide) rfl) hS (by decide) (by decide) dX12_roundOf_57
            · simp only [k_lt, k_le, k_eq, ne_eq, ge_iff_le, gt_iff_lt] at c85q
              refine lv_iload_n hx hb dX12_roundOf_46 rfl (lv_at hl 4 rfl) ?_
              refine lv_iload hx hb dX12_roundOf_47 (lv_at hl 0 rfl) ?_
              refine lv_ishr hx hb dX12_roundOf_49 ?_
              refine lv_topi (fun x86q ex86q => ?_)
              refine lv_iconst (v := 1) hx hb dX12_roundOf_50 (by decide) ?_
              refine lv_iand hx hb dX12_roundOf_51 ?_
              refine lv_topi (fun x87q ex87q => ?_)
              have rx87q := n_and ex87q (b := 1) n_L1 (by omega)
              refine lv_iconst (v := 1) hx hb dX12_roundOf_52 (by decide) ?_
              refine lv_icmp_ne (tgt := 58) hx hb dX12_roundOf_53 (by decide) (fun c88q => ?_) (fun c88q => ?_)
              · simp only [k_lt, k_le, k_eq, ne_eq, ge_iff_le, gt_iff_lt, n_L1] at c88q
                refine lv_iload_n hx hb dX12_roundOf_58 rfl (lv_at hl 4 rfl) ?_
                refine lv_iconst (v := 1) hx hb dX12_roundOf_59 (by decide) ?_
                refine lv_iload hx hb dX12_roundOf_60 (lv_at hl 0 rfl) ?_
                refine lv_ishl hx hb dX12_roundOf_62 ?_
                refine lv_topi (fun x89q ex89q => ?_)
                refine lv_ior hx hb dX12_roundOf_63 ?_
                refine lv_topi (fun x90q ex90q => ?_)
                refine lv_istore_n (lv' := [(3, .int x90q), (8, .int x84q), (7, .int 1), (6, .int x71q), (4, .int x81q), (5, .int x55q), (0, .ref da), (1, .int v0), (2, .int 216)]) hx hb dX12_roundOf_64 rfl hl (by decide) rfl (fun ls hl => ?_)
                refine lv_iload hx hb dX12_roundOf_65 (lv_at hl 4 rfl) ?_
                refine lv_aload_n hx hb dX12_roundOf_67 rfl (lv_at hl 6 rfl) ?_
                refine lv_iload hx hb dX12_roundOf_68 (lv_at hl 3 rfl) ?_
                refine lv_iload hx hb dX12_roundOf_70 (lv_at hl 1 rfl) ?_
                refine k_cali [] (⟨hP, hD, hG, hS, hA, rfl, rfl⟩ : kAt D cy sa A s H _ _ [(da, .inr (13, [.int d_thrown, .int d_tape, .int d_size, .int d_place, .int d_at, .int d_fault, .int d_faultAt, .int d_clauses, .ref da_fed, .ref da_readBody, .ref da_body, .ref da_readMany, .ref da_many, .ref da_without, .ref da_did, .ref da_done, .ref da_bed, .int d_now, .int d_mindAt, .int d_way, .int d_harm, .int d_worth, .int d_passes, .int d_passings, .int d_spots, .int d_images, .ref da_passing, .ref da_spot, .ref da_kept, .ref da_aside, .int d_spare, .ref da_ran, .ref da_who, .ref da_cap, .ref da_w, .ref da_laid, .int d_whoMany, .int d_drifted, .int d_seed, .ref da_cries, .ref da_holds, .ref da_came, .ref da_least, .ref da_firstTo, .int d_steps, .int d_roundFrom, .int d_roundMany, .int d_numberAt])), (da_many, .inl (cy 0, 5, .inl df_many)), (da_spot, .inl (cy 5, 6, .inr (.inr (.inr (.inr (fun i => if i < 6 then some (da_spot + 1 + i) else none)))))), ((da_spot + 1 + 0), .inl (cy 0, 2, .inl ((dF_spot 0)))), ((da_spot + 1 + 1), .inl (cy 0, 2, .inl ((dF_spot 1)))), ((da_spot + 1 + 2), .inl (cy 0, 2, .inl ((dF_spot 2)))), ((da_spot + 1 + 3), .inl (cy 0, 2, .inl ((dF_spot 3)))), ((da_spot + 1 + 4), .inl (cy 0, 2, .inl ((dF_spot 4)))), ((da_spot + 1 + 5), .inl (cy 0, 2, .inl ((dF_spot 5))))] [0, 1, 2, 3, 4, 5, 6, 7, 8]) (wr := []) rfl rfl (by decide) (k_runV 13 0 (As := [.int x71q, .int x84q]) (rest := [.int x81q]) E lk_VRX12_343 rfl rfl rfl (m_between l hl0 D cy sa da da_fed da_readBody da_body da_readMany da_many da_without da_did da_done da_bed da_passing da_spot da_kept da_aside da_ran da_who da_cap da_w da_laid da_cries da_holds da_came da_least da_firstTo d_thrown d_tape d_size d_place d_at d_fault d_faultAt d_clauses d_now d_mindAt d_way d_harm d_worth d_passes d_passings d_spots d_images d_spare d_whoMany d_drifted d_seed d_steps d_roundFrom d_roundMany d_numberAt x71q x84q df_many dF_spot ⟨by omega, by omega⟩ ⟨by omega, by omega⟩ ⟨by omega, by omega⟩ ⟨by omega, by omega⟩ ⟨by omega, by omega⟩ ⟨by omega, by omega⟩ ⟨by omega, by omega⟩ ⟨by omega, by omega⟩ ⟨by omega, by omega⟩ ⟨by omega, by omega⟩ (by assumption) (by assumption) (by assumption) ⟨by omega, by omega⟩ ⟨by omega, by omega⟩ (by omega) H.size) (⟨hP, hD, hG, hS, hA, rfl, rfl⟩ : kAt D cy sa A s H _ _ [(da, .inr (13, [.int d_thrown, .int d_tape, .int d_size, .int d_place, .int d_at, .int d_fault, .int d_faultAt, .int d_clauses, .ref da_fed, .ref da_readBody, .ref da_body, .ref da_readMany, .ref da_many, .ref da_without, .ref da_did, .ref da_done, .ref da_bed, .int d_now, .int d_mindAt, .int d_way, .int d_harm, .int d_worth, .int d_passes, .int d_passings, .int d_spots, .int d_images, .ref da_passing, .ref da_spot, .ref da_kept, .ref da_aside, .int d_spare, .ref da_ran, .ref da_who, .ref da_cap, .ref da_w, .ref da_laid, .int d_whoMany, .int d_drifted, .int d_seed, .ref da_cries, .ref da_holds, .ref da_came, .ref da_least, .ref da_firstTo, .int d_steps, .int d_roundFrom, .int d_roundMany, .int d_numberAt])), (da_many, .inl (cy 0, 5, .inl df_many)), (da_spot, .inl (cy 5, 6, .inr (.inr (.inr (.inr (fun i => if i < 6 then some (da_spot + 1 + i) else none)))))), ((da_spot + 1 + 0), .inl (cy 0, 2, .inl ((dF_spot 0)))), ((da_spot + 1 + 1), .inl (cy 0, 2, .inl ((dF_spot 1)))), ((da_spot + 1 + 2), .inl (cy 0, 2, .inl ((dF_spot 2)))), ((da_spot + 1 + 3), .inl (cy 0, 2, .inl ((dF_spot 3)))), ((da_spot + 1 + 4), .inl (cy 0, 2, .inl ((dF_spot 4)))), ((da_spot + 1 + 5), .inl (cy 0, 2, .inl ((dF_spot 5))))] [0, 1, 2, 3, 4, 5, 6, 7, 8]) hl.1 rfl rfl ⟨rfl, rfl, ⟨Nat.le_of_ble_eq_true rfl, Nat.le_of_ble_eq_true rfl⟩, ⟨Nat.le_of_ble_eq_true rfl, Nat.le_of_ble_eq_true rfl⟩, Nat.le_of_ble_eq_true rfl⟩ dX12_roundOf_72) (fun r91q u92q H locs hwu92q hP hD hS => ?_)
                have hP : va_P D vwCl [(da, .inr (13, [.int d_thrown, .int d_tape, .int d_size, .int d_place, .int d_at, .int d_fault, .int d_faultAt, .int d_clauses, .ref da_fed, .ref da_readBody, .ref da_body, .ref da_readMany, .ref da_many, .ref da_without, .ref da_did, .ref da_done, .ref da_bed, .int d_now, .int d_mindAt, .int d_way, .int d_harm, .int d_worth, .int d_passes, .int d_passings, .int d_spots, .int d_images, .ref da_passing, .ref da_spot, .ref da_kept, .ref da_aside, .int d_spare, .ref da_ran, .ref da_who, .ref da_cap, .ref da_w, .ref da_laid, .int d_whoMany, .int d_drifted, .int d_seed, .ref da_cries, .ref da_holds, .ref da_came, .ref da_least, .ref da_firstTo, .int d_steps, .int d_roundFrom, .int d_roundMany, .int d_numberAt])), (da_many, .inl (cy 0, 5, .inl df_many)), (da_spot, .inl (cy 5, 6, .inr (.inr (.inr (.inr (fun i => if i < 6 then some (da_spot + 1 + i) else none)))))), ((da_spot + 1 + 0), .inl (cy 0, 2, .inl ((dF_spot 0)))), ((da_spot + 1 + 1), .inl (cy 0, 2, .inl ((dF_spot 1)))), ((da_spot + 1 + 2), .inl (cy 0, 2, .inl ((dF_spot 2)))), ((da_spot + 1 + 3), .inl (cy 0, 2, .inl ((dF_spot 3)))), ((da_spot + 1 + 4), .inl (cy 0, 2, .inl ((dF_spot 4)))), ((da_spot + 1 + 5), .inl (cy 0, 2, .inl ((dF_spot 5))))] H := hP
                have hD : va_D A [(da, .inr (13, [.int d_thrown, .int d_tape, .int d_size, .int d_place, .int d_at, .int d_fault, .int d_faultAt, .int d_clauses, .ref da_fed, .ref da_readBody, .ref da_body, .ref da_readMany, .ref da_many, .ref da_without, .ref da_did, .ref da_done, .ref da_bed, .int d_now, .int d_mindAt, .int d_way, .int d_harm, .int d_worth, .int d_passes, .int d_passings, .int d_spots, .int d_images, .ref da_passing, .ref da_spot, .ref da_kept, .ref da_aside, .int d_spare, .ref da_ran, .ref da_who, .ref da_cap, .ref da_w, .ref da_laid, .int d_whoMany, .int d_drifted, .int d_seed, .ref da_cries, .ref da_holds, .ref da_came, .ref da_least, .ref da_firstTo, .int d_steps, .int d_roundFrom, .int d_roundMany, .int d_numberAt])), (da_many, .inl (cy 0, 5, .inl df_many)), (da_spot, .inl (cy 5, 6, .inr (.inr (.inr (.inr (fun i => if i < 6 then some (da_spot + 1 + i) else none)))))), ((da_spot + 1 + 0), .inl (cy 0, 2, .inl ((dF_spot 0)))), ((da_spot + 1 + 1), .inl (cy 0, 2, .inl ((dF_spot 1)))), ((da_spot + 1 + 2), .inl (cy 0, 2, .inl ((dF_spot 2)))), ((da_spot + 1 + 3), .inl (cy 0, 2, .inl ((dF_spot 3)))), ((da_spot + 1 + 4), .inl (cy 0, 2, .inl ((dF_spot 4)))), ((da_spot + 1 + 5), .inl (cy 0, 2, .inl ((dF_spot 5))))] := hD
                have p93q := hwu92q
                refine lv_iadd hx hb dX12_roundOf_75 ?_
                refine lv_topi (fun x94q ex94q => ?_)
                have rx94q := n_add ex94q (a := x81q.toInt) (b := r91q.toInt) rfl rfl (by omega) (by omega)
                refine lv_istore (lv' := [(4, .int x94q), (3, .int x90q), (8, .int x84q), (7, .int 1), (6, .int x71q), (5, .int x55q), (0, .ref da), (1, .int v0), (2, .int 216)]) hx hb dX12_roundOf_76 hl (by decide) rfl (fun ls hl => ?_)
                refine lv_iload hx hb dX12_roundOf_78 (lv_at hl 2 rfl) ?_
                refine lv_istore (lv' := [(6, .int x84q), (4, .int x94q), (3, .int x90q), (8, .int x84q), (7, .int 1), (5, .int x55q), (0, .ref da), (1, .int v0), (2, .int 216)]) hx hb dX12_roundOf_80 hl (by decide) rfl (fun ls hl => ?_)
                refine lv_iload hx hb dX12_roundOf_82 (lv_at hl 4 rfl) ?_
                refine lv_bipush (v := 6) hx hb dX12_roundOf_84 (by decide) ?_
                refine lv_idiv hx hb dX12_roundOf_86 (by decide) ?_
                refine lv_topi (fun x95q ex95q => ?_)
                obtain rfl : x95q = 0 := ex95q.trans (by decide)
                refine lv_istore (lv' := [(7, .int 0), (6, .int x84q), (4, .int x94q), (3, .int x90q), (8, .int x84q), (5, .int x55q), (0, .ref da), (1, .int v0), (2, .int 216)]) hx hb dX12_roundOf_87 hl (by decide) rfl (fun ls hl => ?_)
                refine lv_goto (tgt := 23) hx hb dX12_roundOf_89 (by decide) ?_
                refine lv_iload hx hb dX12_roundOf_23 (lv_at hl 0 rfl) ?_
                refine lv_if_le (tgt := 92) hx hb dX12_roundOf_25 (by decide) (fun _ => ?_) (fun h => absurd (by decide) h)
                refine lv_iload hx hb dX12_roundOf_92 (lv_at hl 2 rfl) ?_
                refine lv_aload_n hx hb dX12_roundOf_94 rfl (lv_at hl 6 rfl) ?_
                refine lv_iload hx hb dX12_roundOf_95 (lv_at hl 1 rfl) ?_
                refine lv_iload hx hb dX12_roundOf_97 (lv_at hl 5 rfl) ?_
                refine k_cali [] (⟨hP, hD, hG, hS, hA, rfl, rfl⟩ : kAt D cy sa A s H _ _ [(da, .inr (13, [.int d_thrown, .int d_tape, .int d_size, .int d_place, .int d_at, .int d_fault, .int d_faultAt, .int d_clauses, .ref da_fed, .ref da_readBody, .ref da_body, .ref da_readMany, .ref da_many, .ref da_without, .ref da_did, .ref da_done, .ref da_bed, .int d_now, .int d_mindAt, .int d_way, .int d_harm, .int d_worth, .int d_passes, .int d_passings, .int d_spots, .int d_images, .ref da_passing, .ref da_spot, .ref da_kept, .ref da_aside, .int d_spare, .ref da_ran, .ref da_who, .ref da_cap, .ref da_w, .ref da_laid, .int d_whoMany, .int d_drifted, .int d_seed, .ref da_cries, .ref da_holds, .ref da_came, .ref da_least, .ref da_firstTo, .int d_steps, .int d_roundFrom, .int d_roundMany, .int d_numberAt])), (da_many, .inl (cy 0, 5, .inl df_many)), (da_spot, .inl (cy 5, 6, .inr (.inr (.inr (.inr (fun i => if i < 6 then some (da_spot + 1 + i) else none)))))), ((da_spot + 1 + 0), .inl (cy 0, 2, .inl ((dF_spot 0)))), ((da_spot + 1 + 1), .inl (cy 0, 2, .inl ((dF_spot 1)))), ((da_spot + 1 + 2), .inl (cy 0, 2, .inl ((dF_spot 2)))), ((da_spot + 1 + 3), .inl (cy 0, 2, .inl ((dF_spot 3)))), ((da_spot + 1 + 4), .inl (cy 0, 2, .inl ((dF_spot 4)))), ((da_spot + 1 + 5), .inl (cy 0, 2, .inl ((dF_spot 5))))] [0, 1, 2, 3, 4, 5, 6, 7, 8]) (wr := []) rfl rfl (by decide) (k_runV 13 0 (As := [.int x84q, .int x55q]) (rest := [.int x94q]) E lk_VRX12_343 rfl rfl rfl (m_between l hl0 D cy sa da da_fed da_readBody da_body da_readMany da_many da_without da_did da_done da_bed da_passing da_spot da_kept da_aside da_ran da_who da_cap da_w da_laid da_cries da_holds da_came da_least da_firstTo d_thrown d_tape d_size d_place d_at d_fault d_faultAt d_clauses d_now d_mindAt d_way d_harm d_worth d_passes d_passings d_spots d_images d_spare d_whoMany d_drifted d_seed d_steps d_roundFrom d_roundMany d_numberAt x84q x55q df_many dF_spot ⟨by omega, by omega⟩ ⟨by omega, by omega⟩ ⟨by omega, by omega⟩ ⟨by omega, by omega⟩ ⟨by omega, by omega⟩ ⟨by omega, by omega⟩ ⟨by omega, by omega⟩ ⟨by omega, by omega⟩ ⟨by omega, by omega⟩ ⟨by omega, by omega⟩ (by assumption) (by assumption) (by assumption) ⟨by omega, by omega⟩ ⟨by omega, by omega⟩ (by omega) H.size) (⟨hP, hD, hG, hS, hA, rfl, rfl⟩ : kAt D cy sa A s H _ _ [(da, .inr (13, [.int d_thrown, .int d_tape, .int d_size, .int d_place, .int d_at, .int d_fault, .int d_faultAt, .int d_clauses, .ref da_fed, .ref da_readBody, .ref da_body, .ref da_readMany, .ref da_many, .ref da_without, .ref da_did, .ref da_done, .ref da_bed, .int d_now, .int d_mindAt, .int d_way, .int d_harm, .int d_worth, .int d_passes, .int d_passings, .int d_spots, .int d_images, .ref da_passing, .ref da_spot, .ref da_kept, .ref da_aside, .int d_spare, .ref da_ran, .ref da_who, .ref da_cap, .ref da_w, .ref da_laid, .int d_whoMany, .int d_drifted, .int d_seed, .ref da_cries, .ref da_holds, .ref da_came, .ref da_least, .ref da_firstTo, .int d_steps, .int d_roundFrom, .int d_roundMany, .int d_numberAt])), (da_many, .inl (cy 0, 5, .inl df_many)), (da_spot, .inl (cy 5, 6, .inr (.inr (.inr (.inr (fun i => if i < 6 then some (da_spot + 1 + i) else none)))))), ((da_spot + 1 + 0), .inl (cy 0, 2, .inl ((dF_spot 0)))), ((da_spot + 1 + 1), .inl (cy 0, 2, .inl ((dF_spot 1)))), ((da_spot + 1 + 2), .inl (cy 0, 2, .inl ((dF_spot 2)))), ((da_spot + 1 + 3), .inl (cy 0, 2, .inl ((dF_spot 3)))), ((da_spot + 1 + 4), .inl (cy 0, 2, .inl ((dF_spot 4)))), ((da_spot + 1 + 5), .inl (cy 0, 2, .inl ((dF_spot 5))))] [0, 1, 2, 3, 4, 5, 6, 7, 8]) hl.1 rfl rfl ⟨rfl, rfl, ⟨Nat.le_of_ble_eq_true rfl, Nat.le_of_ble_eq_true rfl⟩, ⟨Nat.le_of_ble_eq_true rfl, Nat.le_of_ble_eq_true rfl⟩, Nat.le_of_ble_eq_true rfl⟩ dX12_roundOf_99) (fun r96q u97q H locs hwu97q hP hD hS => ?_)
                have hP : va_P D vwCl [(da, .inr (13, [.int d_thrown, .int d_tape, .int d_size, .int d_place, .int d_at, .int d_fault, .int d_faultAt, .int d_clauses, .ref da_fed, .ref da_readBody, .ref da_body, .ref da_readMany, .ref da_many, .ref da_without, .ref da_did, .ref da_done, .ref da_bed, .int d_now, .int d_mindAt, .int d_way, .int d_harm, .int d_worth, .int d_passes, .int d_passings, .int d_spots, .int d_images, .ref da_passing, .ref da_spot, .ref da_kept, .ref da_aside, .int d_spare, .ref da_ran, .ref da_who, .ref da_cap, .ref da_w, .ref da_laid, .int d_whoMany, .int d_drifted, .int d_seed, .ref da_cries, .ref da_holds, .ref da_came, .ref da_least, .ref da_firstTo, .int d_steps, .int d_roundFrom, .int d_roundMany, .int d_numberAt])), (da_many, .inl (cy 0, 5, .inl df_many)), (da_spot, .inl (cy 5, 6, .inr (.inr (.inr (.inr (fun i => if i < 6 then some (da_spot + 1 + i) else none)))))), ((da_spot + 1 + 0), .inl (cy 0, 2, .inl ((dF_spot 0)))), ((da_spot + 1 + 1), .inl (cy 0, 2, .inl ((dF_spot 1)))), ((da_spot + 1 + 2), .inl (cy 0, 2, .inl ((dF_spot 2)))), ((da_spot + 1 + 3), .inl (cy 0, 2, .inl ((dF_spot 3)))), ((da_spot + 1 + 4), .inl (cy 0, 2, .inl ((dF_spot 4)))), ((da_spot + 1 + 5), .inl (cy 0, 2, .inl ((dF_spot 5))))] H := hP
                have hD : va_D A [(da, .inr (13, [.int d_thrown, .int d_tape, .int d_size, .int d_place, .int d_at, .int d_fault, .int d_faultAt, .int d_clauses, .ref da_fed, .ref da_readBody, .ref da_body, .ref da_readMany, .ref da_many, .ref da_without, .ref da_did, .ref da_done, .ref da_bed, .int d_now, .int d_mindAt, .int d_way, .int d_harm, .int d_worth, .int d_passes, .int d_passings, .int d_spots, .int d_images, .ref da_passing, .ref da_spot, .ref da_kept, .ref da_aside, .int d_spare, .ref da_ran, .ref da_who, .ref da_cap, .ref da_w, .ref da_laid, .int d_whoMany, .int d_drifted, .int d_seed, .ref da_cries, .ref da_holds, .ref da_came, .ref da_least, .ref da_firstTo, .int d_steps, .int d_roundFrom, .int d_roundMany, .int d_numberAt])), (da_many, .inl (cy 0, 5, .inl df_many)), (da_spot, .inl (cy 5, 6, .inr (.inr (.inr (.inr (fun i => if i < 6 then some (da_spot + 1 + i) else none)))))), ((da_spot + 1 + 0), .inl (cy 0, 2, .inl ((dF_spot 0)))), ((da_spot + 1 + 1), .inl (cy 0, 2, .inl ((dF_spot 1)))), ((da_spot + 1 + 2), .inl (cy 0, 2, .inl ((dF_spot 2)))), ((da_spot + 1 + 3), .inl (cy 0, 2, .inl ((dF_spot 3)))), ((da_spot + 1 + 4), .inl (cy 0, 2, .inl ((dF_spot 4)))), ((da_spot + 1 + 5), .inl (cy 0, 2, .inl ((dF_spot 5))))] := hD
                have p98q := hwu97q
                refine lv_iadd hx hb dX12_roundOf_102 ?_
                refine lv_topi (fun x99q ex99q => ?_)
                have rx99q := n_add ex99q (a := x94q.toInt) (b := r96q.toInt) rfl rfl (by omega) (by omega)
                rw [hQ0]
                exact k_iret () hx hb hr hlk (trivial) (hP.sub [0, 1, 2, 3, 4, 5, 6, 7, 8] rfl) (hD.sub [0, 1, 2, 3, 4, 5, 6, 7, 8] (by decide) rfl) hS (by decide) (by decide) dX12_roundOf_103
              · simp only [k_lt, k_le, k_eq, ne_eq, ge_iff_le, gt_iff_lt, n_L1] at c88q
                refine lv_iconst (v := (-1)) hx hb dX12_roundOf_56 (by decide) ?_
                rw [hQ0]
                exact k_iret () hx hb hr hlk (trivial) (hP.sub [0, 1, 2, 3, 4, 5, 6, 7, 8] rfl) (hD.sub [0, 1, 2, 3, 4, 5, 6, 7, 8] (by decide) rfl) hS (by decide) (by decide) dX12_roundOf_57
          · simp only [k_lt, k_le, k_eq, ne_eq, ge_iff_le, gt_iff_lt, n_L1] at c75q
            refine lv_iconst (v := (-1)) hx hb dX12_roundOf_56 (by decide) ?_
            rw [hQ0]
            exact k_iret () hx hb hr hlk (trivial) (hP.sub [0, 1, 2, 3, 4, 5, 6, 7, 8] rfl) (hD.sub [0, 1, 2, 3, 4, 5, 6, 7, 8] (by decide) rfl) hS (by decide) (by decide) dX12_roundOf_57
      · simp only [k_lt, k_le, k_eq, ne_eq, ge_iff_le, gt_iff_lt, n_L1] at c62q
        refine lv_iconst (v := (-1)) hx hb dX12_roundOf_56 (by decide) ?_
        rw [hQ0]
        exact k_iret () hx hb hr hlk (trivial) (hP.sub [0, 1, 2, 3, 4, 5, 6, 7, 8] rfl) (hD.sub [0, 1, 2, 3, 4, 5, 6, 7, 8] (by decide) rfl) hS (by decide) (by decide) dX12_roundOf_57
  · obtain rfl : a0 = 1296 := Int32.toInt_inj.mp (h9.trans (by decide))
    refine lv_iconst (v := 0) hx hb dX12_roundOf_0 (by decide) ?_
    refine lv_istore_n (lv' := [(3, .int 0), (0, .ref da), (1, .int v0), (2, .int 1296)]) hx hb dX12_roundOf_1 rfl hl (by decide) rfl (fun ls hl => ?_)
    refine lv_iconst (v := 0) hx hb dX12_roundOf_2 (by decide) ?_
    refine lv_istore (lv' := [(4, .int 0), (3, .int 0), (0, .ref da), (1, .int v0), (2, .int 1296)]) hx hb dX12_roundOf_3 hl (by decide) rfl (fun ls hl => ?_)
    refine lv_iload_n hx hb dX12_roundOf_5 rfl (lv_at hl 3 rfl) ?_
    refine lv_iload_n hx hb dX12_roundOf_6 rfl (lv_at hl 4 rfl) ?_
    refine lv_bipush (v := 6) hx hb dX12_roundOf_7 (by decide) ?_
    refine lv_idiv hx hb dX12_roundOf_9 (by decide) ?_
    refine lv_topi (fun x100q ex100q => ?_)
    obtain rfl : x100q = 216 := ex100q.trans (by decide)
    refine lv_idiv hx hb dX12_roundOf_10 (by decide) ?_
    refine lv_topi (fun x101q ex101q => ?_)
    have rx101q := n_div ex101q (a := v0.toInt) (b := 216) rfl n_L216 (by omega) (by omega)
    refine lv_istore (lv' := [(5, .int x101q), (4, .int 0), (3, .int 0), (0, .ref da), (1, .int v0), (2, .int 1296)]) hx hb dX12_roundOf_11 hl (by decide) rfl (fun ls hl => ?_)
    refine lv_iload hx hb dX12_roundOf_13 (lv_at hl 0 rfl) ?_
    refine lv_istore (lv' := [(6, .int x101q), (5, .int x101q), (4, .int 0), (3, .int 0), (0, .ref da), (1, .int v0), (2, .int 1296)]) hx hb dX12_roundOf_15 hl (by decide) rfl (fun ls hl => ?_)
    refine lv_iload_n hx hb dX12_roundOf_17 rfl (lv_at hl 6 rfl) ?_
    refine lv_bipush (v := 6) hx hb dX12_roundOf_18 (by decide) ?_
    refine lv_idiv hx hb dX12_roundOf_20 (by decide) ?_
    refine lv_topi (fun x102q ex102q => ?_)
    obtain rfl : x102q = 216 := ex102q.trans (by decide)
    refine lv_istore (lv' := [(7, .int 216), (6, .int x101q), (5, .int x101q), (4, .int 0), (3, .int 0), (0, .ref da), (1, .int v0), (2, .int 1296)]) hx hb dX12_roundOf_21 hl (by decide) rfl (fun ls hl => ?_)
    refine lv_iload hx hb dX12_roundOf_23 (lv_at hl 0 rfl) ?_
    refine lv_if_le (tgt := 92) hx hb dX12_roundOf_25 (by decide) (fun h => absurd h (by decide)) (fun _ => ?_)
    refine lv_iload_n hx hb dX12_roundOf_28 rfl (lv_at hl 6 rfl) ?_
    refine lv_iload hx hb dX12_roundOf_29 (lv_at hl 0 rfl) ?_
    refine lv_idiv hx hb dX12_roundOf_31 (by decide) ?_
    refine lv_topi (fun x103q ex103q => ?_)
    have rx103q := n_div ex103q (a := v0.toInt) (b := 216) rfl n_L216 (by omega) (by omega)
    refine lv_bipush (v := 6) hx hb dX12_roundOf_32 (by decide) ?_
    refine lv_irem hx hb dX12_roundOf_34 (by decide) ?_
    refine lv_topi (fun x104q ex104q => ?_)
    have rx104q := n_mod ex104q (a := x103q.toInt) (b := 6) rfl n_L6 (by omega) (by omega)
    refine lv_istore (lv' := [(8, .int x104q), (7, .int 216), (6, .int x101q), (5, .int x101q), (4, .int 0), (3, .int 0), (0, .ref da), (1, .int v0), (2, .int 1296)]) hx hb dX12_roundOf_35 hl (by decide) rfl (fun ls hl => ?_)
    refine lv_iload hx hb dX12_roundOf_37 (lv_at hl 0 rfl) ?_
    refine lv_aload_n hx hb dX12_roundOf_39 rfl (lv_at hl 6 rfl) ?_
    refine va_get (D := D) (ci := 13) (v := .int d_spots) (C := RX12) (T := TX12) (N := 48) hx hb hts kin_RX12 hown hG.1 hP 0 rfl rfl 24 (by decide) (hts _ wm_1543) (fun _ h9 => h9) rfl dX12_roundOf_40 ?_
    refine lv_icmp_ge (tgt := 56) hx hb dX12_roundOf_43 (by decide) (fun c105q => ?_) (fun c105q => ?_)
    · simp only [k_lt, k_le, k_eq, ne_eq, ge_iff_le, gt_iff_lt] at c105q
      refine lv_iconst (v := (-1)) hx hb dX12_roundOf_56 (by decide) ?_
      rw [hQ0]
      exact k_iret () hx hb hr hlk (trivial) (hP.sub [0, 1, 2, 3, 4, 5, 6, 7, 8] rfl) (hD.sub [0, 1, 2, 3, 4, 5, 6, 7, 8] (by decide) rfl) hS (by decide) (by decide) dX12_roundOf_57
    · simp only [k_lt, k_le, k_eq, ne_eq, ge_iff_le, gt_iff_lt] at c105q
      refine lv_iload_n hx hb dX12_roundOf_46 rfl (lv_at hl 5 rfl) ?_
      refine lv_iload hx hb dX12_roundOf_47 (lv_at hl 0 rfl) ?_
      refine lv_ishr hx hb dX12_roundOf_49 ?_
      refine lv_topi (fun x106q ex106q => ?_)
      refine lv_iconst (v := 1) hx hb dX12_roundOf_50 (by decide) ?_
      refine lv_iand hx hb dX12_roundOf_51 ?_
      refine lv_topi (fun x107q ex107q => ?_)
      have rx107q := n_and ex107q (b := 1) n_L1 (by omega)
      refine lv_iconst (v := 1) hx hb dX12_roundOf_52 (by decide) ?_
      refine lv_icmp_ne (tgt := 58) hx hb dX12_roundOf_53 (by decide) (fun c108q => ?_) (fun c108q => ?_)
      · simp only [k_lt, k_le, k_eq, ne_eq, ge_iff_le, gt_iff_lt, n_L1] at c108q
        refine lv_iload_n hx hb dX12_roundOf_58 rfl (lv_at hl 5 rfl) ?_
        refine lv_iconst (v := 1) hx hb dX12_roundOf_59 (by decide) ?_
        refine lv_iload hx hb dX12_roundOf_60 (lv_at hl 0 rfl) ?_
        refine lv_ishl hx hb dX12_roundOf_62 ?_
        refine lv_topi (fun x109q ex109q => ?_)
        refine lv_ior hx hb dX12_roundOf_63 ?_
        refine lv_topi (fun x110q ex110q => ?_)
        refine lv_istore_n (lv' := [(3, .int x110q), (8, .int x104q), (7, .int 216), (6, .int x101q), (5, .int x101q), (4, .int 0), (0, .ref da), (1, .int v0), (2, .int 1296)]) hx hb dX12_roundOf_64 rfl hl (by decide) rfl (fun ls hl => ?_)
        refine lv_iload hx hb dX12_roundOf_65 (lv_at hl 5 rfl) ?_
        refine lv_aload_n hx hb dX12_roundOf_67 rfl (lv_at hl 6 rfl) ?_
        refine lv_iload hx hb dX12_roundOf_68 (lv_at hl 3 rfl) ?_
        refine lv_iload hx hb dX12_roundOf_70 (lv_at hl 1 rfl) ?_
        refine k_cali [] (⟨hP, hD, hG, hS, hA, rfl, rfl⟩ : kAt D cy sa A s H _ _ [(da, .inr (13, [.int d_thrown, .int d_tape, .int d_size, .int d_place, .int d_at, .int d_fault, .int d_faultAt, .int d_clauses, .ref da_fed, .ref da_readBody, .ref da_body, .ref da_readMany, .ref da_many, .ref da_without, .ref da_did, .ref da_done, .ref da_bed, .int d_now, .int d_mindAt, .int d_way, .int d_harm, .int d_worth, .int d_passes, .int d_passings, .int d_spots, .int d_images, .ref da_passing, .ref da_spot, .ref da_kept, .ref da_aside, .int d_spare, .ref da_ran, .ref da_who, .ref da_cap, .ref da_w, .ref da_laid, .int d_whoMany, .int d_drifted, .int d_seed, .ref da_cries, .ref da_holds, .ref da_came, .ref da_least, .ref da_firstTo, .int d_steps, .int d_roundFrom, .int d_roundMany, .int d_numberAt])), (da_many, .inl (cy 0, 5, .inl df_many)), (da_spot, .inl (cy 5, 6, .inr (.inr (.inr (.inr (fun i => if i < 6 then some (da_spot + 1 + i) else none)))))), ((da_spot + 1 + 0), .inl (cy 0, 2, .inl ((dF_spot 0)))), ((da_spot + 1 + 1), .inl (cy 0, 2, .inl ((dF_spot 1)))), ((da_spot + 1 + 2), .inl (cy 0, 2, .inl ((dF_spot 2)))), ((da_spot + 1 + 3), .inl (cy 0, 2, .inl ((dF_spot 3)))), ((da_spot + 1 + 4), .inl (cy 0, 2, .inl ((dF_spot 4)))), ((da_spot + 1 + 5), .inl (cy 0, 2, .inl ((dF_spot 5))))] [0, 1, 2, 3, 4, 5, 6, 7, 8]) (wr := []) rfl rfl (by decide) (k_runV 13 0 (As := [.int x101q, .int x104q]) (rest := [.int 0]) E lk_VRX12_343 rfl rfl rfl (m_between l hl0 D cy sa da da_fed da_readBody da_body da_readMany da_many da_without da_did da_done da_bed da_passing da_spot da_kept da_aside da_ran da_who da_cap da_w da_laid da_cries da_holds da_came da_least da_firstTo d_thrown d_tape d_size d_place d_at d_fault d_faultAt d_clauses d_now d_mindAt d_way d_harm d_worth d_passes d_passings d_spots d_images d_spare d_whoMany d_drifted d_seed d_steps d_roundFrom d_roundMany d_numberAt x101q x104q df_many dF_spot ⟨by omega, by omega⟩ ⟨by omega, by omega⟩ ⟨by omega, by omega⟩ ⟨by omega, by omega⟩ ⟨by omega, by omega⟩ ⟨by omega, by omega⟩ ⟨by omega, by omega⟩ ⟨by omega, by omega⟩ ⟨by omega, by omega⟩ ⟨by omega, by omega⟩ (by assumption) (by assumption) (by assumption) ⟨by omega, by omega⟩ ⟨by omega, by omega⟩ (by omega) H.size) (⟨hP, hD, hG, hS, hA, rfl, rfl⟩ : kAt D cy sa A s H _ _ [(da, .inr (13, [.int d_thrown, .int d_tape, .int d_size, .int d_place, .int d_at, .int d_fault, .int d_faultAt, .int d_clauses, .ref da_fed, .ref da_readBody, .ref da_body, .ref da_readMany, .ref da_many, .ref da_without, .ref da_did, .ref da_done, .ref da_bed, .int d_now, .int d_mindAt, .int d_way, .int d_harm, .int d_worth, .int d_passes, .int d_passings, .int d_spots, .int d_images, .ref da_passing, .ref da_spot, .ref da_kept, .ref da_aside, .int d_spare, .ref da_ran, .ref da_who, .ref da_cap, .ref da_w, .ref da_laid, .int d_whoMany, .int d_drifted, .int d_seed, .ref da_cries, .ref da_holds, .ref da_came, .ref da_least, .ref da_firstTo, .int d_steps, .int d_roundFrom, .int d_roundMany, .int d_numberAt])), (da_many, .inl (cy 0, 5, .inl df_many)), (da_spot, .inl (cy 5, 6, .inr (.inr (.inr (.inr (fun i => if i < 6 then some (da_spot + 1 + i) else none)))))), ((da_spot + 1 + 0), .inl (cy 0, 2, .inl ((dF_spot 0)))), ((da_spot + 1 + 1), .inl (cy 0, 2, .inl ((dF_spot 1)))), ((da_spot + 1 + 2), .inl (cy 0, 2, .inl ((dF_spot 2)))), ((da_spot + 1 + 3), .inl (cy 0, 2, .inl ((dF_spot 3)))), ((da_spot + 1 + 4), .inl (cy 0, 2, .inl ((dF_spot 4)))), ((da_spot + 1 + 5), .inl (cy 0, 2, .inl ((dF_spot 5))))] [0, 1, 2, 3, 4, 5, 6, 7, 8]) hl.1 rfl rfl ⟨rfl, rfl, ⟨Nat.le_of_ble_eq_true rfl, Nat.le_of_ble_eq_true rfl⟩, ⟨Nat.le_of_ble_eq_true rfl, Nat.le_of_ble_eq_true rfl⟩, Nat.le_of_ble_eq_true rfl⟩ dX12_roundOf_72) (fun r111q u112q H locs hwu112q hP hD hS => ?_)
        have hP : va_P D vwCl [(da, .inr (13, [.int d_thrown, .int d_tape, .int d_size, .int d_place, .int d_at, .int d_fault, .int d_faultAt, .int d_clauses, .ref da_fed, .ref da_readBody, .ref da_body, .ref da_readMany, .ref da_many, .ref da_without, .ref da_did, .ref da_done, .ref da_bed, .int d_now, .int d_mindAt, .int d_way, .int d_harm, .int d_worth, .int d_passes, .int d_passings, .int d_spots, .int d_images, .ref da_passing, .ref da_spot, .ref da_kept, .ref da_aside, .int d_spare, .ref da_ran, .ref da_who, .ref da_cap, .ref da_w, .ref da_laid, .int d_whoMany, .int d_drifted, .int d_seed, .ref da_cries, .ref da_holds, .ref da_came, .ref da_least, .ref da_firstTo, .int d_steps, .int d_roundFrom, .int d_roundMany, .int d_numberAt])), (da_many, .inl (cy 0, 5, .inl df_many)), (da_spot, .inl (cy 5, 6, .inr (.inr (.inr (.inr (fun i => if i < 6 then some (da_spot + 1 + i) else none)))))), ((da_spot + 1 + 0), .inl (cy 0, 2, .inl ((dF_spot 0)))), ((da_spot + 1 + 1), .inl (cy 0, 2, .inl ((dF_spot 1)))), ((da_spot + 1 + 2), .inl (cy 0, 2, .inl ((dF_spot 2)))), ((da_spot + 1 + 3), .inl (cy 0, 2, .inl ((dF_spot 3)))), ((da_spot + 1 + 4), .inl (cy 0, 2, .inl ((dF_spot 4)))), ((da_spot + 1 + 5), .inl (cy 0, 2, .inl ((dF_spot 5))))] H := hP
        have hD : va_D A [(da, .inr (13, [.int d_thrown, .int d_tape, .int d_size, .int d_place, .int d_at, .int d_fault, .int d_faultAt, .int d_clauses, .ref da_fed, .ref da_readBody, .ref da_body, .ref da_readMany, .ref da_many, .ref da_without, .ref da_did, .ref da_done, .ref da_bed, .int d_now, .int d_mindAt, .int d_way, .int d_harm, .int d_worth, .int d_passes, .int d_passings, .int d_spots, .int d_images, .ref da_passing, .ref da_spot, .ref da_kept, .ref da_aside, .int d_spare, .ref da_ran, .ref da_who, .ref da_cap, .ref da_w, .ref da_laid, .int d_whoMany, .int d_drifted, .int d_seed, .ref da_cries, .ref da_holds, .ref da_came, .ref da_least, .ref da_firstTo, .int d_steps, .int d_roundFrom, .int d_roundMany, .int d_numberAt])), (da_many, .inl (cy 0, 5, .inl df_many)), (da_spot, .inl (cy 5, 6, .inr (.inr (.inr (.inr (fun i => if i < 6 then some (da_spot + 1 + i) else none)))))), ((da_spot + 1 + 0), .inl (cy 0, 2, .inl ((dF_spot 0)))), ((da_spot + 1 + 1), .inl (cy 0, 2, .inl ((dF_spot 1)))), ((da_spot + 1 + 2), .inl (cy 0, 2, .inl ((dF_spot 2)))), ((da_spot + 1 + 3), .inl (cy 0, 2, .inl ((dF_spot 3)))), ((da_spot + 1 + 4), .inl (cy 0, 2, .inl ((dF_spot 4)))), ((da_spot + 1 + 5), .inl (cy 0, 2, .inl ((dF_spot 5))))] := hD
        have p113q := hwu112q
        refine lv_iadd hx hb dX12_roundOf_75 ?_
        refine lv_topi (fun x114q ex114q => ?_)
        have rx114q := n_add ex114q (a := 0) (b := r111q.toInt) n_L0 rfl (by omega) (by omega)
        refine lv_istore (lv' := [(4, .int x114q), (3, .int x110q), (8, .int x104q), (7, .int 216), (6, .int x101q), (5, .int x101q), (0, .ref da), (1, .int v0), (2, .int 1296)]) hx hb dX12_roundOf_76 hl (by decide) rfl (fun ls hl => ?_)
        refine lv_iload hx hb dX12_roundOf_78 (lv_at hl 2 rfl) ?_
        refine lv_istore (lv' := [(6, .int x104q), (4, .int x114q), (3, .int x110q), (8, .int x104q), (7, .int 216), (5, .int x101q), (0, .ref da), (1, .int v0), (2, .int 1296)]) hx hb dX12_roundOf_80 hl (by decide) rfl (fun ls hl => ?_)
        refine lv_iload hx hb dX12_roundOf_82 (lv_at hl 4 rfl) ?_
        refine lv_bipush (v := 6) hx hb dX12_roundOf_84 (by decide) ?_
        refine lv_idiv hx hb dX12_roundOf_86 (by decide) ?_
        refine lv_topi (fun x115q ex115q => ?_)
        obtain rfl : x115q = 36 := ex115q.trans (by decide)
        refine lv_istore (lv' := [(7, .int 36), (6, .int x104q), (4, .int x114q), (3, .int x110q), (8, .int x104q), (5, .int x101q), (0, .ref da), (1, .int v0), (2, .int 1296)]) hx hb dX12_roundOf_87 hl (by decide) rfl (fun ls hl => ?_)
        refine lv_goto (tgt := 23) hx hb dX12_roundOf_89 (by decide) ?_
        refine lv_iload hx hb dX12_roundOf_23 (lv_at hl 0 rfl) ?_
        refine lv_if_le (tgt := 92) hx hb dX12_roundOf_25 (by decide) (fun h => absurd h (by decide)) (fun _ => ?_)
        refine lv_iload_n hx hb dX12_roundOf_28 rfl (lv_at hl 7 rfl) ?_
        refine lv_iload hx hb dX12_roundOf_29 (lv_at hl 0 rfl) ?_
        refine lv_idiv hx hb dX12_roundOf_31 (by decide) ?_
        refine lv_topi (fun x116q ex116q => ?_)
        have rx116q := n_div ex116q (a := v0.toInt) (b := 36) rfl n_L36 (by omega) (by omega)
        refine lv_bipush (v := 6) hx hb dX12_roundOf_32 (by decide) ?_
        refine lv_irem hx hb dX12_roundOf_34 (by decide) ?_
        refine lv_topi (fun x117q ex117q => ?_)
        have rx117q := n_mod ex117q (a := x116q.toInt) (b := 6) rfl n_L6 (by omega) (by omega)
        refine lv_istore (lv' := [(8, .int x117q), (7, .int 36), (6, .int x104q), (4, .int x114q), (3, .int x110q), (5, .int x101q), (0, .ref da), (1, .int v0), (2, .int 1296)]) hx hb dX12_roundOf_35 hl (by decide) rfl (fun ls hl => ?_)
        refine lv_iload hx hb dX12_roundOf_37 (lv_at hl 0 rfl) ?_
        refine lv_aload_n hx hb dX12_roundOf_39 rfl (lv_at hl 6 rfl) ?_
        refine va_get (D := D) (ci := 13) (v := .int d_spots) (C := RX12) (T := TX12) (N := 48) hx hb hts kin_RX12 hown hG.1 hP 0 rfl rfl 24 (by decide) (hts _ wm_1543) (fun _ h9 => h9) rfl dX12_roundOf_40 ?_
        refine lv_icmp_ge (tgt := 56) hx hb dX12_roundOf_43 (by decide) (fun c118q => ?_) (fun c118q => ?_)
        · simp only [k_lt, k_le, k_eq, ne_eq, ge_iff_le, gt_iff_lt] at c118q
          refine lv_iconst (v := (-1)) hx hb dX12_roundOf_56 (by decide) ?_
          rw [hQ0]
          exact k_iret () hx hb hr hlk (trivial) (hP.sub [0, 1, 2, 3, 4, 5, 6, 7, 8] rfl) (hD.sub [0, 1, 2, 3, 4, 5, 6, 7, 8] (by decide) rfl) hS (by decide) (by decide) dX12_roundOf_57
        · simp only [k_lt, k_le, k_eq, ne_eq, ge_iff_le, gt_iff_lt] at c118q
          refine lv_iload_n hx hb dX12_roundOf_46 rfl (lv_at hl 4 rfl) ?_
          refine lv_iload hx hb dX12_roundOf_47 (lv_at hl 0 rfl) ?_
          refine lv_ishr hx hb dX12_roundOf_49 ?_
          refine lv_topi (fun x119q ex119q => ?_)
          refine lv_iconst (v := 1) hx hb dX12_roundOf_50 (by decide) ?_
          refine lv_iand hx hb dX12_roundOf_51 ?_
          refine lv_topi (fun x120q ex120q => ?_)
          have rx120q := n_and ex120q (b := 1) n_L1 (by omega)
          refine lv_iconst (v := 1) hx hb dX12_roundOf_52 (by decide) ?_
          refine lv_icmp_ne (tgt := 58) hx hb dX12_roundOf_53 (by decide) (fun c121q => ?_) (fun c121q => ?_)
          · simp only [k_lt, k_le, k_eq, ne_eq, ge_iff_le, gt_iff_lt, n_L1] at c121q
            refine lv_iload_n hx hb dX12_roundOf_58 rfl (lv_at hl 4 rfl) ?_
            refine lv_iconst (v := 1) hx hb dX12_roundOf_59 (by decide) ?_
            refine lv_iload hx hb dX12_roundOf_60 (lv_at hl 0 rfl) ?_
            refine lv_ishl hx hb dX12_roundOf_62 ?_
            refine lv_topi (fun x122q ex122q => ?_)
            refine lv_ior hx hb dX12_roundOf_63 ?_
            refine lv_topi (fun x123q ex123q => ?_)
            refine lv_istore_n (lv' := [(3, .int x123q), (8, .int x117q), (7, .int 36), (6, .int x104q), (4, .int x114q), (5, .int x101q), (0, .ref da), (1, .int v0), (2, .int 1296)]) hx hb dX12_roundOf_64 rfl hl (by decide) rfl (fun ls hl => ?_)
            refine lv_iload hx hb dX12_roundOf_65 (lv_at hl 4 rfl) ?_
            refine lv_aload_n hx hb dX12_roundOf_67 rfl (lv_at hl 6 rfl) ?_
            refine lv_iload hx hb dX12_roundOf_68 (lv_at hl 3 rfl) ?_
            refine lv_iload hx hb dX12_roundOf_70 (lv_at hl 1 rfl) ?_
            refine k_cali [] (⟨hP, hD, hG, hS, hA, rfl, rfl⟩ : kAt D cy sa A s H _ _ [(da, .inr (13, [.int d_thrown, .int d_tape, .int d_size, .int d_place, .int d_at, .int d_fault, .int d_faultAt, .int d_clauses, .ref da_fed, .ref da_readBody, .ref da_body, .ref da_readMany, .ref da_many, .ref da_without, .ref da_did, .ref da_done, .ref da_bed, .int d_now, .int d_mindAt, .int d_way, .int d_harm, .int d_worth, .int d_passes, .int d_passings, .int d_spots, .int d_images, .ref da_passing, .ref da_spot, .ref da_kept, .ref da_aside, .int d_spare, .ref da_ran, .ref da_who, .ref da_cap, .ref da_w, .ref da_laid, .int d_whoMany, .int d_drifted, .int d_seed, .ref da_cries, .ref da_holds, .ref da_came, .ref da_least, .ref da_firstTo, .int d_steps, .int d_roundFrom, .int d_roundMany, .int d_numberAt])), (da_many, .inl (cy 0, 5, .inl df_many)), (da_spot, .inl (cy 5, 6, .inr (.inr (.inr (.inr (fun i => if i < 6 then some (da_spot + 1 + i) else none)))))), ((da_spot + 1 + 0), .inl (cy 0, 2, .inl ((dF_spot 0)))), ((da_spot + 1 + 1), .inl (cy 0, 2, .inl ((dF_spot 1)))), ((da_spot + 1 + 2), .inl (cy 0, 2, .inl ((dF_spot 2)))), ((da_spot + 1 + 3), .inl (cy 0, 2, .inl ((dF_spot 3)))), ((da_spot + 1 + 4), .inl (cy 0, 2, .inl ((dF_spot 4)))), ((da_spot + 1 + 5), .inl (cy 0, 2, .inl ((dF_spot 5))))] [0, 1, 2, 3, 4, 5, 6, 7, 8]) (wr := []) rfl rfl (by decide) (k_runV 13 0 (As := [.int x104q, .int x117q]) (rest := [.int x114q]) E lk_VRX12_343 rfl rfl rfl (m_between l hl0 D cy sa da da_fed da_readBody da_body da_readMany da_many da_without da_did da_done da_bed da_passing da_spot da_kept da_aside da_ran da_who da_cap da_w da_laid da_cries da_holds da_came da_least da_firstTo d_thrown d_tape d_size d_place d_at d_fault d_faultAt d_clauses d_now d_mindAt d_way d_harm d_worth d_passes d_passings d_spots d_images d_spare d_whoMany d_drifted d_seed d_steps d_roundFrom d_roundMany d_numberAt x104q x117q df_many dF_spot ⟨by omega, by omega⟩ ⟨by omega, by omega⟩ ⟨by omega, by omega⟩ ⟨by omega, by omega⟩ ⟨by omega, by omega⟩ ⟨by omega, by omega⟩ ⟨by omega, by omega⟩ ⟨by omega, by omega⟩ ⟨by omega, by omega⟩ ⟨by omega, by omega⟩ (by assumption) (by assumption) (by assumption) ⟨by omega, by omega⟩ ⟨by omega, by omega⟩ (by omega) H.size) (⟨hP, hD, hG, hS, hA, rfl, rfl⟩ : kAt D cy sa A s H _ _ [(da, .inr (13, [.int d_thrown, .int d_tape, .int d_size, .int d_place, .int d_at, .int d_fault, .int d_faultAt, .int d_clauses, .ref da_fed, .ref da_readBody, .ref da_body, .ref da_readMany, .ref da_many, .ref da_without, .ref da_did, .ref da_done, .ref da_bed, .int d_now, .int d_mindAt, .int d_way, .int d_harm, .int d_worth, .int d_passes, .int d_passings, .int d_spots, .int d_images, .ref da_passing, .ref da_spot, .ref da_kept, .ref da_aside, .int d_spare, .ref da_ran, .ref da_who, .ref da_cap, .ref da_w, .ref da_laid, .int d_whoMany, .int d_drifted, .int d_seed, .ref da_cries, .ref da_holds, .ref da_came, .ref da_least, .ref da_firstTo, .int d_steps, .int d_roundFrom, .int d_roundMany, .int d_numberAt])), (da_many, .inl (cy 0, 5, .inl df_many)), (da_spot, .inl (cy 5, 6, .inr (.inr (.inr (.inr (fun i => if i < 6 then some (da_spot + 1 + i) else none)))))), ((da_spot + 1 + 0), .inl (cy 0, 2, .inl ((dF_spot 0)))), ((da_spot + 1 + 1), .inl (cy 0, 2, .inl ((dF_spot 1)))), ((da_spot + 1 + 2), .inl (cy 0, 2, .inl ((dF_spot 2)))), ((da_spot + 1 + 3), .inl (cy 0, 2, .inl ((dF_spot 3)))), ((da_spot + 1 + 4), .inl (cy 0, 2, .inl ((dF_spot 4)))), ((da_spot + 1 + 5), .inl (cy 0, 2, .inl ((dF_spot 5))))] [0, 1, 2, 3, 4, 5, 6, 7, 8]) hl.1 rfl rfl ⟨rfl, rfl, ⟨Nat.le_of_ble_eq_true rfl, Nat.le_of_ble_eq_true rfl⟩, ⟨Nat.le_of_ble_eq_true rfl, Nat.le_of_ble_eq_true rfl⟩, Nat.le_of_ble_eq_true rfl⟩ dX12_roundOf_72) (fun r124q u125q H locs hwu125q hP hD hS => ?_)
            have hP : va_P D vwCl [(da, .inr (13, [.int d_thrown, .int d_tape, .int d_size, .int d_place, .int d_at, .int d_fault, .int d_faultAt, .int d_clauses, .ref da_fed, .ref da_readBody, .ref da_body, .ref da_readMany, .ref da_many, .ref da_without, .ref da_did, .ref da_done, .ref da_bed, .int d_now, .int d_mindAt, .int d_way, .int d_harm, .int d_worth, .int d_passes, .int d_passings, .int d_spots, .int d_images, .ref da_passing, .ref da_spot, .ref da_kept, .ref da_aside, .int d_spare, .ref da_ran, .ref da_who, .ref da_cap, .ref da_w, .ref da_laid, .int d_whoMany, .int d_drifted, .int d_seed, .ref da_cries, .ref da_holds, .ref da_came, .ref da_least, .ref da_firstTo, .int d_steps, .int d_roundFrom, .int d_roundMany, .int d_numberAt])), (da_many, .inl (cy 0, 5, .inl df_many)), (da_spot, .inl (cy 5, 6, .inr (.inr (.inr (.inr (fun i => if i < 6 then some (da_spot + 1 + i) else none)))))), ((da_spot + 1 + 0), .inl (cy 0, 2, .inl ((dF_spot 0)))), ((da_spot + 1 + 1), .inl (cy 0, 2, .inl ((dF_spot 1)))), ((da_spot + 1 + 2), .inl (cy 0, 2, .inl ((dF_spot 2)))), ((da_spot + 1 + 3), .inl (cy 0, 2, .inl ((dF_spot 3)))), ((da_spot + 1 + 4), .inl (cy 0, 2, .inl ((dF_spot 4)))), ((da_spot + 1 + 5), .inl (cy 0, 2, .inl ((dF_spot 5))))] H := hP
            have hD : va_D A [(da, .inr (13, [.int d_thrown, .int d_tape, .int d_size, .int d_place, .int d_at, .int d_fault, .int d_faultAt, .int d_clauses, .ref da_fed, .ref da_readBody, .ref da_body, .ref da_readMany, .ref da_many, .ref da_without, .ref da_did, .ref da_done, .ref da_bed, .int d_now, .int d_mindAt, .int d_way, .int d_harm, .int d_worth, .int d_passes, .int d_passings, .int d_spots, .int d_images, .ref da_passing, .ref da_spot, .ref da_kept, .ref da_aside, .int d_spare, .ref da_ran, .ref da_who, .ref da_cap, .ref da_w, .ref da_laid, .int d_whoMany, .int d_drifted, .int d_seed, .ref da_cries, .ref da_holds, .ref da_came, .ref da_least, .ref da_firstTo, .int d_steps, .int d_roundFrom, .int d_roundMany, .int d_numberAt])), (da_many, .inl (cy 0, 5, .inl df_many)), (da_spot, .inl (cy 5, 6, .inr (.inr (.inr (.inr (fun i => if i < 6 then some (da_spot + 1 + i) else none)))))), ((da_spot + 1 + 0), .inl (cy 0, 2, .inl ((dF_spot 0)))), ((da_spot + 1 + 1), .inl (cy 0, 2, .inl ((dF_spot 1)))), ((da_spot + 1 + 2), .inl (cy 0, 2, .inl ((dF_spot 2)))), ((da_spot + 1 + 3), .inl (cy 0, 2, .inl ((dF_spot 3)))), ((da_spot + 1 + 4), .inl (cy 0, 2, .inl ((dF_spot 4)))), ((da_spot + 1 + 5), .inl (cy 0, 2, .inl ((dF_spot 5))))] := hD
            have p126q := hwu125q
            refine lv_iadd hx hb dX12_roundOf_75 ?_
            refine lv_topi (fun x127q ex127q => ?_)
            have rx127q := n_add ex127q (a := x114q.toInt) (b := r124q.toInt) rfl rfl (by omega) (by omega)
            refine lv_istore (lv' := [(4, .int x127q), (3, .int x123q), (8, .int x117q), (7, .int 36), (6, .int x104q), (5, .int x101q), (0, .ref da), (1, .int v0), (2, .int 1296)]) hx hb dX12_roundOf_76 hl (by decide) rfl (fun ls hl => ?_)
            refine lv_iload hx hb dX12_roundOf_78 (lv_at hl 2 rfl) ?_
            refine lv_istore (lv' := [(6, .int x117q), (4, .int x127q), (3, .int x123q), (8, .int x117q), (7, .int 36), (5, .int x101q), (0, .ref da), (1, .int v0), (2, .int 1296)]) hx hb dX12_roundOf_80 hl (by decide) rfl (fun ls hl => ?_)
            refine lv_iload hx hb dX12_roundOf_82 (lv_at hl 4 rfl) ?_
            refine lv_bipush (v := 6) hx hb dX12_roundOf_84 (by decide) ?_
            refine lv_idiv hx hb dX12_roundOf_86 (by decide) ?_
            refine lv_topi (fun x128q ex128q => ?_)
            obtain rfl : x128q = 6 := ex128q.trans (by decide)
            refine lv_istore (lv' := [(7, .int 6), (6, .int x117q), (4, .int x127q), (3, .int x123q), (8, .int x117q), (5, .int x101q), (0, .ref da), (1, .int v0), (2, .int 1296)]) hx hb dX12_roundOf_87 hl (by decide) rfl (fun ls hl => ?_)
            refine lv_goto (tgt := 23) hx hb dX12_roundOf_89 (by decide) ?_
            refine lv_iload hx hb dX12_roundOf_23 (lv_at hl 0 rfl) ?_
            refine lv_if_le (tgt := 92) hx hb dX12_roundOf_25 (by decide) (fun h => absurd h (by decide)) (fun _ => ?_)
            refine lv_iload_n hx hb dX12_roundOf_28 rfl (lv_at hl 7 rfl) ?_
            refine lv_iload hx hb dX12_roundOf_29 (lv_at hl 0 rfl) ?_
            refine lv_idiv hx hb dX12_roundOf_31 (by decide) ?_
            refine lv_topi (fun x129q ex129q => ?_)
            have rx129q := n_div ex129q (a := v0.toInt) (b := 6) rfl n_L6 (by omega) (by omega)
            refine lv_bipush (v := 6) hx hb dX12_roundOf_32 (by decide) ?_
            refine lv_irem hx hb dX12_roundOf_34 (by decide) ?_
            refine lv_topi (fun x130q ex130q => ?_)
            have rx130q := n_mod ex130q (a := x129q.toInt) (b := 6) rfl n_L6 (by omega) (by omega)
            refine lv_istore (lv' := [(8, .int x130q), (7, .int 6), (6, .int x117q), (4, .int x127q), (3, .int x123q), (5, .int x101q), (0, .ref da), (1, .int v0), (2, .int 1296)]) hx hb dX12_roundOf_35 hl (by decide) rfl (fun ls hl => ?_)
            refine lv_iload hx hb dX12_roundOf_37 (lv_at hl 0 rfl) ?_
            refine lv_aload_n hx hb dX12_roundOf_39 rfl (lv_at hl 6 rfl) ?_
            refine va_get (D := D) (ci := 13) (v := .int d_spots) (C := RX12) (T := TX12) (N := 48) hx hb hts kin_RX12 hown hG.1 hP 0 rfl rfl 24 (by decide) (hts _ wm_1543) (fun _ h9 => h9) rfl dX12_roundOf_40 ?_
            refine lv_icmp_ge (tgt := 56) hx hb dX12_roundOf_43 (by decide) (fun c131q => ?_) (fun c131q => ?_)
            · simp only [k_lt, k_le, k_eq, ne_eq, ge_iff_le, gt_iff_lt] at c131q
              refine lv_iconst (v := (-1)) hx hb dX12_roundOf_56 (by decide) ?_
              rw [hQ0]
              exact k_iret () hx hb hr hlk (trivial) (hP.sub [0, 1, 2, 3, 4, 5, 6, 7, 8] rfl) (hD.sub [0, 1, 2, 3, 4, 5, 6, 7, 8] (by decide) rfl) hS (by decide) (by decide) dX12_roundOf_57
            · simp only [k_lt, k_le, k_eq, ne_eq, ge_iff_le, gt_iff_lt] at c131q
              refine lv_iload_n hx hb dX12_roundOf_46 rfl (lv_at hl 4 rfl) ?_
              refine lv_iload hx hb dX12_roundOf_47 (lv_at hl 0 rfl) ?_
              refine lv_ishr hx hb dX12_roundOf_49 ?_
              refine lv_topi (fun x132q ex132q => ?_)
              refine lv_iconst (v := 1) hx hb dX12_roundOf_50 (by decide) ?_
              refine lv_iand hx hb dX12_roundOf_51 ?_
              refine lv_topi (fun x133q ex133q => ?_)
              have rx133q := n_and ex133q (b := 1) n_L1 (by omega)
              refine lv_iconst (v := 1) hx hb dX12_roundOf_52 (by decide) ?_
              refine lv_icmp_ne (tgt := 58) hx hb dX12_roundOf_53 (by decide) (fun c134q => ?_) (fun c134q => ?_)
              · simp only [k_lt, k_le, k_eq, ne_eq, ge_iff_le, gt_iff_lt, n_L1] at c134q
                refine lv_iload_n hx hb dX12_roundOf_58 rfl (lv_at hl 4 rfl) ?_
                refine lv_iconst (v := 1) hx hb dX12_roundOf_59 (by decide) ?_
                refine lv_iload hx hb dX12_roundOf_60 (lv_at hl 0 rfl) ?_
                refine lv_ishl hx hb dX12_roundOf_62 ?_
                refine lv_topi (fun x135q ex135q => ?_)
                refine lv_ior hx hb dX12_roundOf_63 ?_
                refine lv_topi (fun x136q ex136q => ?_)
                refine lv_istore_n (lv' := [(3, .int x136q), (8, .int x130q), (7, .int 6), (6, .int x117q), (4, .int x127q), (5, .int x101q), (0, .ref da), (1, .int v0), (2, .int 1296)]) hx hb dX12_roundOf_64 rfl hl (by decide) rfl (fun ls hl => ?_)
                refine lv_iload hx hb dX12_roundOf_65 (lv_at hl 4 rfl) ?_
                refine lv_aload_n hx hb dX12_roundOf_67 rfl (lv_at hl 6 rfl) ?_
                refine lv_iload hx hb dX12_roundOf_68 (lv_at hl 3 rfl) ?_
                refine lv_iload hx hb dX12_roundOf_70 (lv_at hl 1 rfl) ?_
                refine k_cali [] (⟨hP, hD, hG, hS, hA, rfl, rfl⟩ : kAt D cy sa A s H _ _ [(da, .inr (13, [.int d_thrown, .int d_tape, .int d_size, .int d_place, .int d_at, .int d_fault, .int d_faultAt, .int d_clauses, .ref da_fed, .ref da_readBody, .ref da_body, .ref da_readMany, .ref da_many, .ref da_without, .ref da_did, .ref da_done, .ref da_bed, .int d_now, .int d_mindAt, .int d_way, .int d_harm, .int d_worth, .int d_passes, .int d_passings, .int d_spots, .int d_images, .ref da_passing, .ref da_spot, .ref da_kept, .ref da_aside, .int d_spare, .ref da_ran, .ref da_who, .ref da_cap, .ref da_w, .ref da_laid, .int d_whoMany, .int d_drifted, .int d_seed, .ref da_cries, .ref da_holds, .ref da_came, .ref da_least, .ref da_firstTo, .int d_steps, .int d_roundFrom, .int d_roundMany, .int d_numberAt])), (da_many, .inl (cy 0, 5, .inl df_many)), (da_spot, .inl (cy 5, 6, .inr (.inr (.inr (.inr (fun i => if i < 6 then some (da_spot + 1 + i) else none)))))), ((da_spot + 1 + 0), .inl (cy 0, 2, .inl ((dF_spot 0)))), ((da_spot + 1 + 1), .inl (cy 0, 2, .inl ((dF_spot 1)))), ((da_spot + 1 + 2), .inl (cy 0, 2, .inl ((dF_spot 2)))), ((da_spot + 1 + 3), .inl (cy 0, 2, .inl ((dF_spot 3)))), ((da_spot + 1 + 4), .inl (cy 0, 2, .inl ((dF_spot 4)))), ((da_spot + 1 + 5), .inl (cy 0, 2, .inl ((dF_spot 5))))] [0, 1, 2, 3, 4, 5, 6, 7, 8]) (wr := []) rfl rfl (by decide) (k_runV 13 0 (As := [.int x117q, .int x130q]) (rest := [.int x127q]) E lk_VRX12_343 rfl rfl rfl (m_between l hl0 D cy sa da da_fed da_readBody da_body da_readMany da_many da_without da_did da_done da_bed da_passing da_spot da_kept da_aside da_ran da_who da_cap da_w da_laid da_cries da_holds da_came da_least da_firstTo d_thrown d_tape d_size d_place d_at d_fault d_faultAt d_clauses d_now d_mindAt d_way d_harm d_worth d_passes d_passings d_spots d_images d_spare d_whoMany d_drifted d_seed d_steps d_roundFrom d_roundMany d_numberAt x117q x130q df_many dF_spot ⟨by omega, by omega⟩ ⟨by omega, by omega⟩ ⟨by omega, by omega⟩ ⟨by omega, by omega⟩ ⟨by omega, by omega⟩ ⟨by omega, by omega⟩ ⟨by omega, by omega⟩ ⟨by omega, by omega⟩ ⟨by omega, by omega⟩ ⟨by omega, by omega⟩ (by assumption) (by assumption) (by assumption) ⟨by omega, by omega⟩ ⟨by omega, by omega⟩ (by omega) H.size) (⟨hP, hD, hG, hS, hA, rfl, rfl⟩ : kAt D cy sa A s H _ _ [(da, .inr (13, [.int d_thrown, .int d_tape, .int d_size, .int d_place, .int d_at, .int d_fault, .int d_faultAt, .int d_clauses, .ref da_fed, .ref da_readBody, .ref da_body, .ref da_readMany, .ref da_many, .ref da_without, .ref da_did, .ref da_done, .ref da_bed, .int d_now, .int d_mindAt, .int d_way, .int d_harm, .int d_worth, .int d_passes, .int d_passings, .int d_spots, .int d_images, .ref da_passing, .ref da_spot, .ref da_kept, .ref da_aside, .int d_spare, .ref da_ran, .ref da_who, .ref da_cap, .ref da_w, .ref da_laid, .int d_whoMany, .int d_drifted, .int d_seed, .ref da_cries, .ref da_holds, .ref da_came, .ref da_least, .ref da_firstTo, .int d_steps, .int d_roundFrom, .int d_roundMany, .int d_numberAt])), (da_many, .inl (cy 0, 5, .inl df_many)), (da_spot, .inl (cy 5, 6, .inr (.inr (.inr (.inr (fun i => if i < 6 then some (da_spot + 1 + i) else none)))))), ((da_spot + 1 + 0), .inl (cy 0, 2, .inl ((dF_spot 0)))), ((da_spot + 1 + 1), .inl (cy 0, 2, .inl ((dF_spot 1)))), ((da_spot + 1 + 2), .inl (cy 0, 2, .inl ((dF_spot 2)))), ((da_spot + 1 + 3), .inl (cy 0, 2, .inl ((dF_spot 3)))), ((da_spot + 1 + 4), .inl (cy 0, 2, .inl ((dF_spot 4)))), ((da_spot + 1 + 5), .inl (cy 0, 2, .inl ((dF_spot 5))))] [0, 1, 2, 3, 4, 5, 6, 7, 8]) hl.1 rfl rfl ⟨rfl, rfl, ⟨Nat.le_of_ble_eq_true rfl, Nat.le_of_ble_eq_true rfl⟩, ⟨Nat.le_of_ble_eq_true rfl, Nat.le_of_ble_eq_true rfl⟩, Nat.le_of_ble_eq_true rfl⟩ dX12_roundOf_72) (fun r137q u138q H locs hwu138q hP hD hS => ?_)
                have hP : va_P D vwCl [(da, .inr (13, [.int d_thrown, .int d_tape, .int d_size, .int d_place, .int d_at, .int d_fault, .int d_faultAt, .int d_clauses, .ref da_fed, .ref da_readBody, .ref da_body, .ref da_readMany, .ref da_many, .ref da_without, .ref da_did, .ref da_done, .ref da_bed, .int d_now, .int d_mindAt, .int d_way, .int d_harm, .int d_worth, .int d_passes, .int d_passings, .int d_spots, .int d_images, .ref da_passing, .ref da_spot, .ref da_kept, .ref da_aside, .int d_spare, .ref da_ran, .ref da_who, .ref da_cap, .ref da_w, .ref da_laid, .int d_whoMany, .int d_drifted, .int d_seed, .ref da_cries, .ref da_holds, .ref da_came, .ref da_least, .ref da_firstTo, .int d_steps, .int d_roundFrom, .int d_roundMany, .int d_numberAt])), (da_many, .inl (cy 0, 5, .inl df_many)), (da_spot, .inl (cy 5, 6, .inr (.inr (.inr (.inr (fun i => if i < 6 then some (da_spot + 1 + i) else none)))))), ((da_spot + 1 + 0), .inl (cy 0, 2, .inl ((dF_spot 0)))), ((da_spot + 1 + 1), .inl (cy 0, 2, .inl ((dF_spot 1)))), ((da_spot + 1 + 2), .inl (cy 0, 2, .inl ((dF_spot 2)))), ((da_spot + 1 + 3), .inl (cy 0, 2, .inl ((dF_spot 3)))), ((da_spot + 1 + 4), .inl (cy 0, 2, .inl ((dF_spot 4)))), ((da_spot + 1 + 5), .inl (cy 0, 2, .inl ((dF_spot 5))))] H := hP
                have hD : va_D A [(da, .inr (13, [.int d_thrown, .int d_tape, .int d_size, .int d_place, .int d_at, .int d_fault, .int d_faultAt, .int d_clauses, .ref da_fed, .ref da_readBody, .ref da_body, .ref da_readMany, .ref da_many, .ref da_without, .ref da_did, .ref da_done, .ref da_bed, .int d_now, .int d_mindAt, .int d_way, .int d_harm, .int d_worth, .int d_passes, .int d_passings, .int d_spots, .int d_images, .ref da_passing, .ref da_spot, .ref da_kept, .ref da_aside, .int d_spare, .ref da_ran, .ref da_who, .ref da_cap, .ref da_w, .ref da_laid, .int d_whoMany, .int d_drifted, .int d_seed, .ref da_cries, .ref da_holds, .ref da_came, .ref da_least, .ref da_firstTo, .int d_steps, .int d_roundFrom, .int d_roundMany, .int d_numberAt])), (da_many, .inl (cy 0, 5, .inl df_many)), (da_spot, .inl (cy 5, 6, .inr (.inr (.inr (.inr (fun i => if i < 6 then some (da_spot + 1 + i) else none)))))), ((da_spot + 1 + 0), .inl (cy 0, 2, .inl ((dF_spot 0)))), ((da_spot + 1 + 1), .inl (cy 0, 2, .inl ((dF_spot 1)))), ((da_spot + 1 + 2), .inl (cy 0, 2, .inl ((dF_spot 2)))), ((da_spot + 1 + 3), .inl (cy 0, 2, .inl ((dF_spot 3)))), ((da_spot + 1 + 4), .inl (cy 0, 2, .inl ((dF_spot 4)))), ((da_spot + 1 + 5), .inl (cy 0, 2, .inl ((dF_spot 5))))] := hD
                have p139q := hwu138q
                refine lv_iadd hx hb dX12_roundOf_75 ?_
                refine lv_topi (fun x140q ex140q => ?_)
                have rx140q := n_add ex140q (a := x127q.toInt) (b := r137q.toInt) rfl rfl (by omega) (by omega)
                refine lv_istore (lv' := [(4, .int x140q), (3, .int x136q), (8, .int x130q), (7, .int 6), (6, .int x117q), (5, .int x101q), (0, .ref da), (1, .int v0), (2, .int 1296)]) hx hb dX12_roundOf_76 hl (by decide) rfl (fun ls hl => ?_)
                refine lv_iload hx hb dX12_roundOf_78 (lv_at hl 2 rfl) ?_
                refine lv_istore (lv' := [(6, .int x130q), (4, .int x140q), (3, .int x136q), (8, .int x130q), (7, .int 6), (5, .int x101q), (0, .ref da), (1, .int v0), (2, .int 1296)]) hx hb dX12_roundOf_80 hl (by decide) rfl (fun ls hl => ?_)
                refine lv_iload hx hb dX12_roundOf_82 (lv_at hl 4 rfl) ?_
                refine lv_bipush (v := 6) hx hb dX12_roundOf_84 (by decide) ?_
                refine lv_idiv hx hb dX12_roundOf_86 (by decide) ?_
                refine lv_topi (fun x141q ex141q => ?_)
                obtain rfl : x141q = 1 := ex141q.trans (by decide)
                refine lv_istore (lv' := [(7, .int 1), (6, .int x130q), (4, .int x140q), (3, .int x136q), (8, .int x130q), (5, .int x101q), (0, .ref da), (1, .int v0), (2, .int 1296)]) hx hb dX12_roundOf_87 hl (by decide) rfl (fun ls hl => ?_)
                refine lv_goto (tgt := 23) hx hb dX12_roundOf_89 (by decide) ?_
                refine lv_iload hx hb dX12_roundOf_23 (lv_at hl 0 rfl) ?_
                refine lv_if_le (tgt := 92) hx hb dX12_roundOf_25 (by decide) (fun h => absurd h (by decide)) (fun _ => ?_)
                refine lv_iload_n hx hb dX12_roundOf_28 rfl (lv_at hl 7 rfl) ?_
                refine lv_iload hx hb dX12_roundOf_29 (lv_at hl 0 rfl) ?_
                refine lv_idiv hx hb dX12_roundOf_31 (by decide) ?_
                refine lv_topi (fun x142q ex142q => ?_)
                have rx142q := n_div ex142q (a := v0.toInt) (b := 1) rfl n_L1 (by omega) (by omega)
                refine lv_bipush (v := 6) hx hb dX12_roundOf_32 (by decide) ?_
                refine lv_irem hx hb dX12_roundOf_34 (by decide) ?_
                refine lv_topi (fun x143q ex143q => ?_)
                have rx143q := n_mod ex143q (a := x142q.toInt) (b := 6) rfl n_L6 (by omega) (by omega)
                refine lv_istore (lv' := [(8, .int x143q), (7, .int 1), (6, .int x130q), (4, .int x140q), (3, .int x136q), (5, .int x101q), (0, .ref da), (1, .int v0), (2, .int 1296)]) hx hb dX12_roundOf_35 hl (by decide) rfl (fun ls hl => ?_)
                refine lv_iload hx hb dX12_roundOf_37 (lv_at hl 0 rfl) ?_
                refine lv_aload_n hx hb dX12_roundOf_39 rfl (lv_at hl 6 rfl) ?_
                refine va_get (D := D) (ci := 13) (v := .int d_spots) (C := RX12) (T := TX12) (N := 48) hx hb hts kin_RX12 hown hG.1 hP 0 rfl rfl 24 (by decide) (hts _ wm_1543) (fun _ h9 => h9) rfl dX12_roundOf_40 ?_
                refine lv_icmp_ge (tgt := 56) hx hb dX12_roundOf_43 (by decide) (fun c144q => ?_) (fun c144q => ?_)
                · simp only [k_lt, k_le, k_eq, ne_eq, ge_iff_le, gt_iff_lt] at c144q
                  refine lv_iconst (v := (-1)) hx hb dX12_roundOf_56 (by decide) ?_
                  rw [hQ0]
                  exact k_iret () hx hb hr hlk (trivial) (hP.sub [0, 1, 2, 3, 4, 5, 6, 7, 8] rfl) (hD.sub [0, 1, 2, 3, 4, 5, 6, 7, 8] (by decide) rfl) hS (by decide) (by decide) dX12_roundOf_57
                · simp only [k_lt, k_le, k_eq, ne_eq, ge_iff_le, gt_iff_lt] at c144q
                  refine lv_iload_n hx hb dX12_roundOf_46 rfl (lv_at hl 4 rfl) ?_
                  refine lv_iload hx hb dX12_roundOf_47 (lv_at hl 0 rfl) ?_
                  refine lv_ishr hx hb dX12_roundOf_49 ?_
                  refine lv_topi (fun x145q ex145q => ?_)
                  refine lv_iconst (v := 1) hx hb dX12_roundOf_50 (by decide) ?_
                  refine lv_iand hx hb dX12_roundOf_51 ?_
                  refine lv_topi (fun x146q ex146q => ?_)
                  have rx146q := n_and ex146q (b := 1) n_L1 (by omega)
                  refine lv_iconst (v := 1) hx hb dX12_roundOf_52 (by decide) ?_
                  refine lv_icmp_ne (tgt := 58) hx hb dX12_roundOf_53 (by decide) (fun c147q => ?_) (fun c147q => ?_)
                  · simp only [k_lt, k_le, k_eq, ne_eq, ge_iff_le, gt_iff_lt, n_L1] at c147q
                    refine lv_iload_n hx hb dX12_roundOf_58 rfl (lv_at hl 4 rfl) ?_
                    refine lv_iconst (v := 1) hx hb dX12_roundOf_59 (by decide) ?_
                    refine lv_iload hx hb dX12_roundOf_60 (lv_at hl 0 rfl) ?_
                    refine lv_ishl hx hb dX12_roundOf_62 ?_
                    refine lv_topi (fun x148q ex148q => ?_)
                    refine lv_ior hx hb dX12_roundOf_63 ?_
                    refine lv_topi (fun x149q ex149q => ?_)
                    refine lv_istore_n (lv' := [(3, .int x149q), (8, .int x143q), (7, .int 1), (6, .int x130q), (4, .int x140q), (5, .int x101q), (0, .ref da), (1, .int v0), (2, .int 1296)]) hx hb dX12_roundOf_64 rfl hl (by decide) rfl (fun ls hl => ?_)
                    refine lv_iload hx hb dX12_roundOf_65 (lv_at hl 4 rfl) ?_
                    refine lv_aload_n hx hb dX12_roundOf_67 rfl (lv_at hl 6 rfl) ?_
                    refine lv_iload hx hb dX12_roundOf_68 (lv_at hl 3 rfl) ?_
                    refine lv_iload hx hb dX12_roundOf_70 (lv_at hl 1 rfl) ?_
                    refine k_cali [] (⟨hP, hD, hG, hS, hA, rfl, rfl⟩ : kAt D cy sa A s H _ _ [(da, .inr (13, [.int d_thrown, .int d_tape, .int d_size, .int d_place, .int d_at, .int d_fault, .int d_faultAt, .int d_clauses, .ref da_fed, .ref da_readBody, .ref da_body, .ref da_readMany, .ref da_many, .ref da_without, .ref da_did, .ref da_done, .ref da_bed, .int d_now, .int d_mindAt, .int d_way, .int d_harm, .int d_worth, .int d_passes, .int d_passings, .int d_spots, .int d_images, .ref da_passing, .ref da_spot, .ref da_kept, .ref da_aside, .int d_spare, .ref da_ran, .ref da_who, .ref da_cap, .ref da_w, .ref da_laid, .int d_whoMany, .int d_drifted, .int d_seed, .ref da_cries, .ref da_holds, .ref da_came, .ref da_least, .ref da_firstTo, .int d_steps, .int d_roundFrom, .int d_roundMany, .int d_numberAt])), (da_many, .inl (cy 0, 5, .inl df_many)), (da_spot, .inl (cy 5, 6, .inr (.inr (.inr (.inr (fun i => if i < 6 then some (da_spot + 1 + i) else none)))))), ((da_spot + 1 + 0), .inl (cy 0, 2, .inl ((dF_spot 0)))), ((da_spot + 1 + 1), .inl (cy 0, 2, .inl ((dF_spot 1)))), ((da_spot + 1 + 2), .inl (cy 0, 2, .inl ((dF_spot 2)))), ((da_spot + 1 + 3), .inl (cy 0, 2, .inl ((dF_spot 3)))), ((da_spot + 1 + 4), .inl (cy 0, 2, .inl ((dF_spot 4)))), ((da_spot + 1 + 5), .inl (cy 0, 2, .inl ((dF_spot 5))))] [0, 1, 2, 3, 4, 5, 6, 7, 8]) (wr := []) rfl rfl (by decide) (k_runV 13 0 (As := [.int x130q, .int x143q]) (rest := [.int x140q]) E lk_VRX12_343 rfl rfl rfl (m_between l hl0 D cy sa da da_fed da_readBody da_body da_readMany da_many da_without da_did da_done da_bed da_passing da_spot da_kept da_aside da_ran da_who da_cap da_w da_laid da_cries da_holds da_came da_least da_firstTo d_thrown d_tape d_size d_place d_at d_fault d_faultAt d_clauses d_now d_mindAt d_way d_harm d_worth d_passes d_passings d_spots d_images d_spare d_whoMany d_drifted d_seed d_steps d_roundFrom d_roundMany d_numberAt x130q x143q df_many dF_spot ⟨by omega, by omega⟩ ⟨by omega, by omega⟩ ⟨by omega, by omega⟩ ⟨by omega, by omega⟩ ⟨by omega, by omega⟩ ⟨by omega, by omega⟩ ⟨by omega, by omega⟩ ⟨by omega, by omega⟩ ⟨by omega, by omega⟩ ⟨by omega, by omega⟩ (by assumption) (by assumption) (by assumption) ⟨by omega, by omega⟩ ⟨by omega, by omega⟩ (by omega) H.size) (⟨hP, hD, hG, hS, hA, rfl, rfl⟩ : kAt D cy sa A s H _ _ [(da, .inr (13, [.int d_thrown, .int d_tape, .int d_size, .int d_place, .int d_at, .int d_fault, .int d_faultAt, .int d_clauses, .ref da_fed, .ref da_readBody, .ref da_body, .ref da_readMany, .ref da_many, .ref da_without, .ref da_did, .ref da_done, .ref da_bed, .int d_now, .int d_mindAt, .int d_way, .int d_harm, .int d_worth, .int d_passes, .int d_passings, .int d_spots, .int d_images, .ref da_passing, .ref da_spot, .ref da_kept, .ref da_aside, .int d_spare, .ref da_ran, .ref da_who, .ref da_cap, .ref da_w, .ref da_laid, .int d_whoMany, .int d_drifted, .int d_seed, .ref da_cries, .ref da_holds, .ref da_came, .ref da_least, .ref da_firstTo, .int d_steps, .int d_roundFrom, .int d_roundMany, .int d_numberAt])), (da_many, .inl (cy 0, 5, .inl df_many)), (da_spot, .inl (cy 5, 6, .inr (.inr (.inr (.inr (fun i => if i < 6 then some (da_spot + 1 + i) else none)))))), ((da_spot + 1 + 0), .inl (cy 0, 2, .inl ((dF_spot 0)))), ((da_spot + 1 + 1), .inl (cy 0, 2, .inl ((dF_spot 1)))), ((da_spot + 1 + 2), .inl (cy 0, 2, .inl ((dF_spot 2)))), ((da_spot + 1 + 3), .inl (cy 0, 2, .inl ((dF_spot 3)))), ((da_spot + 1 + 4), .inl (cy 0, 2, .inl ((dF_spot 4)))), ((da_spot + 1 + 5), .inl (cy 0, 2, .inl ((dF_spot 5))))] [0, 1, 2, 3, 4, 5, 6, 7, 8]) hl.1 rfl rfl ⟨rfl, rfl, ⟨Nat.le_of_ble_eq_true rfl, Nat.le_of_ble_eq_true rfl⟩, ⟨Nat.le_of_ble_eq_true rfl, Nat.le_of_ble_eq_true rfl⟩, Nat.le_of_ble_eq_true rfl⟩ dX12_roundOf_72) (fun r150q u151q H locs hwu151q hP hD hS => ?_)
                    have hP : va_P D vwCl [(da, .inr (13, [.int d_thrown, .int d_tape, .int d_size, .int d_place, .int d_at, .int d_fault, .int d_faultAt, .int d_clauses, .ref da_fed, .ref da_readBody, .ref da_body, .ref da_readMany, .ref da_many, .ref da_without, .ref da_did, .ref da_done, .ref da_bed, .int d_now, .int d_mindAt, .int d_way, .int d_harm, .int d_worth, .int d_passes, .int d_passings, .int d_spots, .int d_images, .ref da_passing, .ref da_spot, .ref da_kept, .ref da_aside, .int d_spare, .ref da_ran, .ref da_who, .ref da_cap, .ref da_w, .ref da_laid, .int d_whoMany, .int d_drifted, .int d_seed, .ref da_cries, .ref da_holds, .ref da_came, .ref da_least, .ref da_firstTo, .int d_steps, .int d_roundFrom, .int d_roundMany, .int d_numberAt])), (da_many, .inl (cy 0, 5, .inl df_many)), (da_spot, .inl (cy 5, 6, .inr (.inr (.inr (.inr (fun i => if i < 6 then some (da_spot + 1 + i) else none)))))), ((da_spot + 1 + 0), .inl (cy 0, 2, .inl ((dF_spot 0)))), ((da_spot + 1 + 1), .inl (cy 0, 2, .inl ((dF_spot 1)))), ((da_spot + 1 + 2), .inl (cy 0, 2, .inl ((dF_spot 2)))), ((da_spot + 1 + 3), .inl (cy 0, 2, .inl ((dF_spot 3)))), ((da_spot + 1 + 4), .inl (cy 0, 2, .inl ((dF_spot 4)))), ((da_spot + 1 + 5), .inl (cy 0, 2, .inl ((dF_spot 5))))] H := hP
                    have hD : va_D A [(da, .inr (13, [.int d_thrown, .int d_tape, .int d_size, .int d_place, .int d_at, .int d_fault, .int d_faultAt, .int d_clauses, .ref da_fed, .ref da_readBody, .ref da_body, .ref da_readMany, .ref da_many, .ref da_without, .ref da_did, .ref da_done, .ref da_bed, .int d_now, .int d_mindAt, .int d_way, .int d_harm, .int d_worth, .int d_passes, .int d_passings, .int d_spots, .int d_images, .ref da_passing, .ref da_spot, .ref da_kept, .ref da_aside, .int d_spare, .ref da_ran, .ref da_who, .ref da_cap, .ref da_w, .ref da_laid, .int d_whoMany, .int d_drifted, .int d_seed, .ref da_cries, .ref da_holds, .ref da_came, .ref da_least, .ref da_firstTo, .int d_steps, .int d_roundFrom, .int d_roundMany, .int d_numberAt])), (da_many, .inl (cy 0, 5, .inl df_many)), (da_spot, .inl (cy 5, 6, .inr (.inr (.inr (.inr (fun i => if i < 6 then some (da_spot + 1 + i) else none)))))), ((da_spot + 1 + 0), .inl (cy 0, 2, .inl ((dF_spot 0)))), ((da_spot + 1 + 1), .inl (cy 0, 2, .inl ((dF_spot 1)))), ((da_spot + 1 + 2), .inl (cy 0, 2, .inl ((dF_spot 2)))), ((da_spot + 1 + 3), .inl (cy 0, 2, .inl ((dF_spot 3)))), ((da_spot + 1 + 4), .inl (cy 0, 2, .inl ((dF_spot 4)))), ((da_spot + 1 + 5), .inl (cy 0, 2, .inl ((dF_spot 5))))] := hD
                    have p152q := hwu151q
                    refine lv_iadd hx hb dX12_roundOf_75 ?_
                    refine lv_topi (fun x153q ex153q => ?_)
                    have rx153q := n_add ex153q (a := x140q.toInt) (b := r150q.toInt) rfl rfl (by omega) (by omega)
                    refine lv_istore (lv' := [(4, .int x153q), (3, .int x149q), (8, .int x143q), (7, .int 1), (6, .int x130q), (5, .int x101q), (0, .ref da), (1, .int v0), (2, .int 1296)]) hx hb dX12_roundOf_76 hl (by decide) rfl (fun ls hl => ?_)
                    refine lv_iload hx hb dX12_roundOf_78 (lv_at hl 2 rfl) ?_
                    refine lv_istore (lv' := [(6, .int x143q), (4, .int x153q), (3, .int x149q), (8, .int x143q), (7, .int 1), (5, .int x101q), (0, .ref da), (1, .int v0), (2, .int 1296)]) hx hb dX12_roundOf_80 hl (by decide) rfl (fun ls hl => ?_)
                    refine lv_iload hx hb dX12_roundOf_82 (lv_at hl 4 rfl) ?_
                    refine lv_bipush (v := 6) hx hb dX12_roundOf_84 (by decide) ?_
                    refine lv_idiv hx hb dX12_roundOf_86 (by decide) ?_
                    refine lv_topi (fun x154q ex154q => ?_)
                    obtain rfl : x154q = 0 := ex154q.trans (by decide)
                    refine lv_istore (lv' := [(7, .int 0), (6, .int x143q), (4, .int x153q), (3, .int x149q), (8, .int x143q), (5, .int x101q), (0, .ref da), (1, .int v0), (2, .int 1296)]) hx hb dX12_roundOf_87 hl (by decide) rfl (fun ls hl => ?_)
                    refine lv_goto (tgt := 23) hx hb dX12_roundOf_89 (by decide) ?_
                    refine lv_iload hx hb dX12_roundOf_23 (lv_at hl 0 rfl) ?_
                    refine lv_if_le (tgt := 92) hx hb dX12_roundOf_25 (by decide) (fun _ => ?_) (fun h => absurd (by decide) h)
                    refine lv_iload hx hb dX12_roundOf_92 (lv_at hl 2 rfl) ?_
                    refine lv_aload_n hx hb dX12_roundOf_94 rfl (lv_at hl 6 rfl) ?_
                    refine lv_iload hx hb dX12_roundOf_95 (lv_at hl 1 rfl) ?_
                    refine lv_iload hx hb dX12_roundOf_97 (lv_at hl 5 rfl) ?_
                    refine k_cali [] (⟨hP, hD, hG, hS, hA, rfl, rfl⟩ : kAt D cy sa A s H _ _ [(da, .inr (13, [.int d_thrown, .int d_tape, .int d_size, .int d_place, .int d_at, .int d_fault, .int d_faultAt, .int d_clauses, .ref da_fed, .ref da_readBody, .ref da_body, .ref da_readMany, .ref da_many, .ref da_without, .ref da_did, .ref da_done, .ref da_bed, .int d_now, .int d_mindAt, .int d_way, .int d_harm, .int d_worth, .int d_passes, .int d_passings, .int d_spots, .int d_images, .ref da_passing, .ref da_spot, .ref da_kept, .ref da_aside, .int d_spare, .ref da_ran, .ref da_who, .ref da_cap, .ref da_w, .ref da_laid, .int d_whoMany, .int d_drifted, .int d_seed, .ref da_cries, .ref da_holds, .ref da_came, .ref da_least, .ref da_firstTo, .int d_steps, .int d_roundFrom, .int d_roundMany, .int d_numberAt])), (da_many, .inl (cy 0, 5, .inl df_many)), (da_spot, .inl (cy 5, 6, .inr (.inr (.inr (.inr (fun i => if i < 6 then some (da_spot + 1 + i) else none)))))), ((da_spot + 1 + 0), .inl (cy 0, 2, .inl ((dF_spot 0)))), ((da_spot + 1 + 1), .inl (cy 0, 2, .inl ((dF_spot 1)))), ((da_spot + 1 + 2), .inl (cy 0, 2, .inl ((dF_spot 2)))), ((da_spot + 1 + 3), .inl (cy 0, 2, .inl ((dF_spot 3)))), ((da_spot + 1 + 4), .inl (cy 0, 2, .inl ((dF_spot 4)))), ((da_spot + 1 + 5), .inl (cy 0, 2, .inl ((dF_spot 5))))] [0, 1, 2, 3, 4, 5, 6, 7, 8]) (wr := []) rfl rfl (by decide) (k_runV 13 0 (As := [.int x143q, .int x101q]) (rest := [.int x153q]) E lk_VRX12_343 rfl rfl rfl (m_between l hl0 D cy sa da da_fed da_readBody da_body da_readMany da_many da_without da_did da_done da_bed da_passing da_spot da_kept da_aside da_ran da_who da_cap da_w da_laid da_cries da_holds da_came da_least da_firstTo d_thrown d_tape d_size d_place d_at d_fault d_faultAt d_clauses d_now d_mindAt d_way d_harm d_worth d_passes d_passings d_spots d_images d_spare d_whoMany d_drifted d_seed d_steps d_roundFrom d_roundMany d_numberAt x143q x101q df_many dF_spot ⟨by omega, by omega⟩ ⟨by omega, by omega⟩ ⟨by omega, by omega⟩ ⟨by omega, by omega⟩ ⟨by omega, by omega⟩ ⟨by omega, by omega⟩ ⟨by omega, by omega⟩ ⟨by omega, by omega⟩ ⟨by omega, by omega⟩ ⟨by omega, by omega⟩ (by assumption) (by assumption) (by assumption) ⟨by omega, by omega⟩ ⟨by omega, by omega⟩ (by omega) H.size) (⟨hP, hD, hG, hS, hA, rfl, rfl⟩ : kAt D cy sa A s H _ _ [(da, .inr (13, [.int d_thrown, .int d_tape, .int d_size, .int d_place, .int d_at, .int d_fault, .int d_faultAt, .int d_clauses, .ref da_fed, .ref da_readBody, .ref da_body, .ref da_readMany, .ref da_many, .ref da_without, .ref da_did, .ref da_done, .ref da_bed, .int d_now, .int d_mindAt, .int d_way, .int d_harm, .int d_worth, .int d_passes, .int d_passings, .int d_spots, .int d_images, .ref da_passing, .ref da_spot, .ref da_kept, .ref da_aside, .int d_spare, .ref da_ran, .ref da_who, .ref da_cap, .ref da_w, .ref da_laid, .int d_whoMany, .int d_drifted, .int d_seed, .ref da_cries, .ref da_holds, .ref da_came, .ref da_least, .ref da_firstTo, .int d_steps, .int d_roundFrom, .int d_roundMany, .int d_numberAt])), (da_many, .inl (cy 0, 5, .inl df_many)), (da_spot, .inl (cy 5, 6, .inr (.inr (.inr (.inr (fun i => if i < 6 then some (da_spot + 1 + i) else none)))))), ((da_spot + 1 + 0), .inl (cy 0, 2, .inl ((dF_spot 0)))), ((da_spot + 1 + 1), .inl (cy 0, 2, .inl ((dF_spot 1)))), ((da_spot + 1 + 2), .inl (cy 0, 2, .inl ((dF_spot 2)))), ((da_spot + 1 + 3), .inl (cy 0, 2, .inl ((dF_spot 3)))), ((da_spot + 1 + 4), .inl (cy 0, 2, .inl ((dF_spot 4)))), ((da_spot + 1 + 5), .inl (cy 0, 2, .inl ((dF_spot 5))))] [0, 1, 2, 3, 4, 5, 6, 7, 8]) hl.1 rfl rfl ⟨rfl, rfl, ⟨Nat.le_of_ble_eq_true rfl, Nat.le_of_ble_eq_true rfl⟩, ⟨Nat.le_of_ble_eq_true rfl, Nat.le_of_ble_eq_true rfl⟩, Nat.le_of_ble_eq_true rfl⟩ dX12_roundOf_99) (fun r155q u156q H locs hwu156q hP hD hS => ?_)
                    have hP : va_P D vwCl [(da, .inr (13, [.int d_thrown, .int d_tape, .int d_size, .int d_place, .int d_at, .int d_fault, .int d_faultAt, .int d_clauses, .ref da_fed, .ref da_readBody, .ref da_body, .ref da_readMany, .ref da_many, .ref da_without, .ref da_did, .ref da_done, .ref da_bed, .int d_now, .int d_mindAt, .int d_way, .int d_harm, .int d_worth, .int d_passes, .int d_passings, .int d_spots, .int d_images, .ref da_passing, .ref da_spot, .ref da_kept, .ref da_aside, .int d_spare, .ref da_ran, .ref da_who, .ref da_cap, .ref da_w, .ref da_laid, .int d_whoMany, .int d_drifted, .int d_seed, .ref da_cries, .ref da_holds, .ref da_came, .ref da_least, .ref da_firstTo, .int d_steps, .int d_roundFrom, .int d_roundMany, .int d_numberAt])), (da_many, .inl (cy 0, 5, .inl df_many)), (da_spot, .inl (cy 5, 6, .inr (.inr (.inr (.inr (fun i => if i < 6 then some (da_spot + 1 + i) else none)))))), ((da_spot + 1 + 0), .inl (cy 0, 2, .inl ((dF_spot 0)))), ((da_spot + 1 + 1), .inl (cy 0, 2, .inl ((dF_spot 1)))), ((da_spot + 1 + 2), .inl (cy 0, 2, .inl ((dF_spot 2)))), ((da_spot + 1 + 3), .inl (cy 0, 2, .inl ((dF_spot 3)))), ((da_spot + 1 + 4), .inl (cy 0, 2, .inl ((dF_spot 4)))), ((da_spot + 1 + 5), .inl (cy 0, 2, .inl ((dF_spot 5))))] H := hP
                    have hD : va_D A [(da, .inr (13, [.int d_thrown, .int d_tape, .int d_size, .int d_place, .int d_at, .int d_fault, .int d_faultAt, .int d_clauses, .ref da_fed, .ref da_readBody, .ref da_body, .ref da_readMany, .ref da_many, .ref da_without, .ref da_did, .ref da_done, .ref da_bed, .int d_now, .int d_mindAt, .int d_way, .int d_harm, .int d_worth, .int d_passes, .int d_passings, .int d_spots, .int d_images, .ref da_passing, .ref da_spot, .ref da_kept, .ref da_aside, .int d_spare, .ref da_ran, .ref da_who, .ref da_cap, .ref da_w, .ref da_laid, .int d_whoMany, .int d_drifted, .int d_seed, .ref da_cries, .ref da_holds, .ref da_came, .ref da_least, .ref da_firstTo, .int d_steps, .int d_roundFrom, .int d_roundMany, .int d_numberAt])), (da_many, .inl (cy 0, 5, .inl df_many)), (da_spot, .inl (cy 5, 6, .inr (.inr (.inr (.inr (fun i => if i < 6 then some (da_spot + 1 + i) else none)))))), ((da_spot + 1 + 0), .inl (cy 0, 2, .inl ((dF_spot 0)))), ((da_spot + 1 + 1), .inl (cy 0, 2, .inl ((dF_spot 1)))), ((da_spot + 1 + 2), .inl (cy 0, 2, .inl ((dF_spot 2)))), ((da_spot + 1 + 3), .inl (cy 0, 2, .inl ((dF_spot 3)))), ((da_spot + 1 + 4), .inl (cy 0, 2, .inl ((dF_spot 4)))), ((da_spot + 1 + 5), .inl (cy 0, 2, .inl ((dF_spot 5))))] := hD
                    have p157q := hwu156q
                    refine lv_iadd hx hb dX12_roundOf_102 ?_
                    refine lv_topi (fun x158q ex158q => ?_)
                    have rx158q := n_add ex158q (a := x153q.toInt) (b := r155q.toInt) rfl rfl (by omega) (by omega)
                    rw [hQ0]
                    exact k_iret () hx hb hr hlk (trivial) (hP.sub [0, 1, 2, 3, 4, 5, 6, 7, 8] rfl) (hD.sub [0, 1, 2, 3, 4, 5, 6, 7, 8] (by decide) rfl) hS (by decide) (by decide) dX12_roundOf_103
                  · simp only [k_lt, k_le, k_eq, ne_eq, ge_iff_le, gt_iff_lt, n_L1] at c147q
                    refine lv_iconst (v := (-1)) hx hb dX12_roundOf_56 (by decide) ?_
                    rw [hQ0]
                    exact k_iret () hx hb hr hlk (trivial) (hP.sub [0, 1, 2, 3, 4, 5, 6, 7, 8] rfl) (hD.sub [0, 1, 2, 3, 4, 5, 6, 7, 8] (by decide) rfl) hS (by decide) (by decide) dX12_roundOf_57
              · simp only [k_lt, k_le, k_eq, ne_eq, ge_iff_le, gt_iff_lt, n_L1] at c134q
                refine lv_iconst (v := (-1)) hx hb dX12_roundOf_56 (by decide) ?_
                rw [hQ0]
                exact k_iret () hx hb hr hlk (trivial) (hP.sub [0, 1, 2, 3, 4, 5, 6, 7, 8] rfl) (hD.sub [0, 1, 2, 3, 4, 5, 6, 7, 8] (by decide) rfl) hS (by decide) (by decide) dX12_roundOf_57
          · simp only [k_lt, k_le, k_eq, ne_eq, ge_iff_le, gt_iff_lt, n_L1] at c121q
            refine lv_iconst (v := (-1)) hx hb dX12_roundOf_56 (by decide) ?_
            rw [hQ0]
            exact k_iret () hx hb hr hlk (trivial) (hP.sub [0, 1, 2, 3, 4, 5, 6, 7, 8] rfl) (hD.sub [0, 1, 2, 3, 4, 5, 6, 7, 8] (by decide) rfl) hS (by decide) (by decide) dX12_roundOf_57
      · simp only [k_lt, k_le, k_eq, ne_eq, ge_iff_le, gt_iff_lt, n_L1] at c108q
        refine lv_iconst (v := (-1)) hx hb dX12_roundOf_56 (by decide) ?_
        rw [hQ0]
        exact k_iret () hx hb hr hlk (trivial) (hP.sub [0, 1, 2, 3, 4, 5, 6, 7, 8] rfl) (hD.sub [0, 1, 2, 3, 4, 5, 6, 7, 8] (by decide) rfl) hS (by decide) (by decide) dX12_roundOf_57
  · obtain rfl : a0 = 7776 := Int32.toInt_inj.mp (h9.trans (by decide))
    refine lv_iconst (v := 0) hx hb dX12_roundOf_0 (by decide) ?_
    refine lv_istore_n (lv' := [(3, .int 0), (0, .ref da), (1, .int v0), (2, .int 7776)]) hx hb dX12_roundOf_1 rfl hl (by decide) rfl (fun ls hl => ?_)
    refine lv_iconst (v := 0) hx hb dX12_roundOf_2 (by decide) ?_
    refine lv_istore (lv' := [(4, .int 0), (3, .int 0), (0, .ref da), (1, .int v0), (2, .int 7776)]) hx hb dX12_roundOf_3 hl (by decide) rfl (fun ls hl => ?_)
    refine lv_iload_n hx hb dX12_roundOf_5 rfl (lv_at hl 3 rfl) ?_
    refine lv_iload_n hx hb dX12_roundOf_6 rfl (lv_at hl 4 rfl) ?_
    refine lv_bipush (v := 6) hx hb dX12_roundOf_7 (by decide) ?_
    refine lv_idiv hx hb dX12_roundOf_9 (by decide) ?_
    refine lv_topi (fun x159q ex159q => ?_)
    obtain rfl : x159q = 1296 := ex159q.trans (by decide)
    refine lv_idiv hx hb dX12_roundOf_10 (by decide) ?_
    refine lv_topi (fun x160q ex160q => ?_)
    have rx160q := n_div ex160q (a := v0.toInt) (b := 1296) rfl n_L1296 (by omega) (by omega)
    refine lv_istore (lv' := [(5, .int x160q), (4, .int 0), (3, .int 0), (0, .ref da), (1, .int v0), (2, .int 7776)]) hx hb dX12_roundOf_11 hl (by decide) rfl (fun ls hl => ?_)
    refine lv_iload hx hb dX12_roundOf_13 (lv_at hl 0 rfl) ?_
    refine lv_istore (lv' := [(6, .int x160q), (5, .int x160q), (4, .int 0), (3, .int 0), (0, .ref da), (1, .int v0), (2, .int 7776)]) hx hb dX12_roundOf_15 hl (by decide) rfl (fun ls hl => ?_)
    refine lv_iload_n hx hb dX12_roundOf_17 rfl (lv_at hl 6 rfl) ?_
    refine lv_bipush (v := 6) hx hb dX12_roundOf_18 (by decide) ?_
    refine lv_idiv hx hb dX12_roundOf_20 (by decide) ?_
    refine lv_topi (fun x161q ex161q => ?_)
    obtain rfl : x161q = 1296 := ex161q.trans (by decide)
    refine lv_istore (lv' := [(7, .int 1296), (6, .int x160q), (5, .int x160q), (4, .int 0), (3, .int 0), (0, .ref da), (1, .int v0), (2, .int 7776)]) hx hb dX12_roundOf_21 hl (by decide) rfl (fun ls hl => ?_)
    refine lv_iload hx hb dX12_roundOf_23 (lv_at hl 0 rfl) ?_
    refine lv_if_le (tgt := 92) hx hb dX12_roundOf_25 (by decide) (fun h => absurd h (by decide)) (fun _ => ?_)
    refine lv_iload_n hx hb dX12_roundOf_28 rfl (lv_at hl 6 rfl) ?_
    refine lv_iload hx hb dX12_roundOf_29 (lv_at hl 0 rfl) ?_
    refine lv_idiv hx hb dX12_roundOf_31 (by decide) ?_
    refine lv_topi (fun x162q ex162q => ?_)
    have rx162q := n_div ex162q (a := v0.toInt) (b := 1296) rfl n_L1296 (by omega) (by omega)
    refine lv_bipush (v := 6) hx hb dX12_roundOf_32 (by decide) ?_
    refine lv_irem hx hb dX12_roundOf_34 (by decide) ?_
    refine lv_topi (fun x163q ex163q => ?_)
    have rx163q := n_mod ex163q (a := x162q.toInt) (b := 6) rfl n_L6 (by omega) (by omega)
    refine lv_istore (lv' := [(8, .int x163q), (7, .int 1296), (6, .int x160q), (5, .int x160q), (4, .int 0), (3, .int 0), (0, .ref da), (1, .int v0), (2, .int 7776)]) hx hb dX12_roundOf_35 hl (by decide) rfl (fun ls hl => ?_)
    refine lv_iload hx hb dX12_roundOf_37 (lv_at hl 0 rfl) ?_
    refine lv_aload_n hx hb dX12_roundOf_39 rfl (lv_at hl 6 rfl) ?_
    refine va_get (D := D) (ci := 13) (v := .int d_spots) (C := RX12) (T := TX12) (N := 48) hx hb hts kin_RX12 hown hG.1 hP 0 rfl rfl 24 (by decide) (hts _ wm_1543) (fun _ h9 => h9) rfl dX12_roundOf_40 ?_
    refine lv_icmp_ge (tgt := 56) hx hb dX12_roundOf_43 (by decide) (fun c164q => ?_) (fun c164q => ?_)
    · simp only [k_lt, k_le, k_eq, ne_eq, ge_iff_le, gt_iff_lt] at c164q
      refine lv_iconst (v := (-1)) hx hb dX12_roundOf_56 (by decide) ?_
      rw [hQ0]
      exact k_iret () hx hb hr hlk (trivial) (hP.sub [0, 1, 2, 3, 4, 5, 6, 7, 8] rfl) (hD.sub [0, 1, 2, 3, 4, 5, 6, 7, 8] (by decide) rfl) hS (by decide) (by decide) dX12_roundOf_57
    · simp only [k_lt, k_le, k_eq, ne_eq, ge_iff_le, gt_iff_lt] at c164q
      refine lv_iload_n hx hb dX12_roundOf_46 rfl (lv_at hl 5 rfl) ?_
      refine lv_iload hx hb dX12_roundOf_47 (lv_at hl 0 rfl) ?_
      refine lv_ishr hx hb dX12_roundOf_49 ?_
      refine lv_topi (fun x165q ex165q => ?_)
      refine lv_iconst (v := 1) hx hb dX12_roundOf_50 (by decide) ?_
      refine lv_iand hx hb dX12_roundOf_51 ?_
      refine lv_topi (fun x166q ex166q => ?_)
      have rx166q := n_and ex166q (b := 1) n_L1 (by omega)
      refine lv_iconst (v := 1) hx hb dX12_roundOf_52 (by decide) ?_
      refine lv_icmp_ne (tgt := 58) hx hb dX12_roundOf_53 (by decide) (fun c167q => ?_) (fun c167q => ?_)
      · simp only [k_lt, k_le, k_eq, ne_eq, ge_iff_le, gt_iff_lt, n_L1] at c167q
        refine lv_iload_n hx hb dX12_roundOf_58 rfl (lv_at hl 5 rfl) ?_
        refine lv_iconst (v := 1) hx hb dX12_roundOf_59 (by decide) ?_
        refine lv_iload hx hb dX12_roundOf_60 (lv_at hl 0 rfl) ?_
        refine lv_ishl hx hb dX12_roundOf_62 ?_
        refine lv_topi (fun x168q ex168q => ?_)
        refine lv_ior hx hb dX12_roundOf_63 ?_
        refine lv_topi (fun x169q ex169q => ?_)
        refine lv_istore_n (lv' := [(3, .int x169q), (8, .int x163q), (7, .int 1296), (6, .int x160q), (5, .int x160q), (4, .int 0), (0, .ref da), (1, .int v0), (2, .int 7776)]) hx hb dX12_roundOf_64 rfl hl (by decide) rfl (fun ls hl => ?_)
        refine lv_iload hx hb dX12_roundOf_65 (lv_at hl 5 rfl) ?_
        refine lv_aload_n hx hb dX12_roundOf_67 rfl (lv_at hl 6 rfl) ?_
        refine lv_iload hx hb dX12_roundOf_68 (lv_at hl 3 rfl) ?_
        refine lv_iload hx hb dX12_roundOf_70 (lv_at hl 1 rfl) ?_
        refine k_cali [] (⟨hP, hD, hG, hS, hA, rfl, rfl⟩ : kAt D cy sa A s H _ _ [(da, .inr (13, [.int d_thrown, .int d_tape, .int d_size, .int d_place, .int d_at, .int d_fault, .int d_faultAt, .int d_clauses, .ref da_fed, .ref da_readBody, .ref da_body, .ref da_readMany, .ref da_many, .ref da_without, .ref da_did, .ref da_done, .ref da_bed, .int d_now, .int d_mindAt, .int d_way, .int d_harm, .int d_worth, .int d_passes, .int d_passings, .int d_spots, .int d_images, .ref da_passing, .ref da_spot, .ref da_kept, .ref da_aside, .int d_spare, .ref da_ran, .ref da_who, .ref da_cap, .ref da_w, .ref da_laid, .int d_whoMany, .int d_drifted, .int d_seed, .ref da_cries, .ref da_holds, .ref da_came, .ref da_least, .ref da_firstTo, .int d_steps, .int d_roundFrom, .int d_roundMany, .int d_numberAt])), (da_many, .inl (cy 0, 5, .inl df_many)), (da_spot, .inl (cy 5, 6, .inr (.inr (.inr (.inr (fun i => if i < 6 then some (da_spot + 1 + i) else none)))))), ((da_spot + 1 + 0), .inl (cy 0, 2, .inl ((dF_spot 0)))), ((da_spot + 1 + 1), .inl (cy 0, 2, .inl ((dF_spot 1)))), ((da_spot + 1 + 2), .inl (cy 0, 2, .inl ((dF_spot 2)))), ((da_spot + 1 + 3), .inl (cy 0, 2, .inl ((dF_spot 3)))), ((da_spot + 1 + 4), .inl (cy 0, 2, .inl ((dF_spot 4)))), ((da_spot + 1 + 5), .inl (cy 0, 2, .inl ((dF_spot 5))))] [0, 1, 2, 3, 4, 5, 6, 7, 8]) (wr := []) rfl rfl (by decide) (k_runV 13 0 (As := [.int x160q, .int x163q]) (rest := [.int 0]) E lk_VRX12_343 rfl rfl rfl (m_between l hl0 D cy sa da da_fed da_readBody da_body da_readMany da_many da_without da_did da_done da_bed da_passing da_spot da_kept da_aside da_ran da_who da_cap da_w da_laid da_cries da_holds da_came da_least da_firstTo d_thrown d_tape d_size d_place d_at d_fault d_faultAt d_clauses d_now d_mindAt d_way d_harm d_worth d_passes d_passings d_spots d_images d_spare d_whoMany d_drifted d_seed d_steps d_roundFrom d_roundMany d_numberAt x160q x163q df_many dF_spot ⟨by omega, by omega⟩ ⟨by omega, by omega⟩ ⟨by omega, by omega⟩ ⟨by omega, by omega⟩ ⟨by omega, by omega⟩ ⟨by omega, by omega⟩ ⟨by omega, by omega⟩ ⟨by omega, by omega⟩ ⟨by omega, by omega⟩ ⟨by omega, by omega⟩ (by assumption) (by assumption) (by assumption) ⟨by omega, by omega⟩ ⟨by omega, by omega⟩ (by omega) H.size) (⟨hP, hD, hG, hS, hA, rfl, rfl⟩ : kAt D cy sa A s H _ _ [(da, .inr (13, [.int d_thrown, .int d_tape, .int d_size, .int d_place, .int d_at, .int d_fault, .int d_faultAt, .int d_clauses, .ref da_fed, .ref da_readBody, .ref da_body, .ref da_readMany, .ref da_many, .ref da_without, .ref da_did, .ref da_done, .ref da_bed, .int d_now, .int d_mindAt, .int d_way, .int d_harm, .int d_worth, .int d_passes, .int d_passings, .int d_spots, .int d_images, .ref da_passing, .ref da_spot, .ref da_kept, .ref da_aside, .int d_spare, .ref da_ran, .ref da_who, .ref da_cap, .ref da_w, .ref da_laid, .int d_whoMany, .int d_drifted, .int d_seed, .ref da_cries, .ref da_holds, .ref da_came, .ref da_least, .ref da_firstTo, .int d_steps, .int d_roundFrom, .int d_roundMany, .int d_numberAt])), (da_many, .inl (cy 0, 5, .inl df_many)), (da_spot, .inl (cy 5, 6, .inr (.inr (.inr (.inr (fun i => if i < 6 then some (da_spot + 1 + i) else none)))))), ((da_spot + 1 + 0), .inl (cy 0, 2, .inl ((dF_spot 0)))), ((da_spot + 1 + 1), .inl (cy 0, 2, .inl ((dF_spot 1)))), ((da_spot + 1 + 2), .inl (cy 0, 2, .inl ((dF_spot 2)))), ((da_spot + 1 + 3), .inl (cy 0, 2, .inl ((dF_spot 3)))), ((da_spot + 1 + 4), .inl (cy 0, 2, .inl ((dF_spot 4)))), ((da_spot + 1 + 5), .inl (cy 0, 2, .inl ((dF_spot 5))))] [0, 1, 2, 3, 4, 5, 6, 7, 8]) hl.1 rfl rfl ⟨rfl, rfl, ⟨Nat.le_of_ble_eq_true rfl, Nat.le_of_ble_eq_true rfl⟩, ⟨Nat.le_of_ble_eq_true rfl, Nat.le_of_ble_eq_true rfl⟩, Nat.le_of_ble_eq_true rfl⟩ dX12_roundOf_72) (fun r170q u171q H locs hwu171q hP hD hS => ?_)
        have hP : va_P D vwCl [(da, .inr (13, [.int d_thrown, .int d_tape, .int d_size, .int d_place, .int d_at, .int d_fault, .int d_faultAt, .int d_clauses, .ref da_fed, .ref da_readBody, .ref da_body, .ref da_readMany, .ref da_many, .ref da_without, .ref da_did, .ref da_done, .ref da_bed, .int d_now, .int d_mindAt, .int d_way, .int d_harm, .int d_worth, .int d_passes, .int d_passings, .int d_spots, .int d_images, .ref da_passing, .ref da_spot, .ref da_kept, .ref da_aside, .int d_spare, .ref da_ran, .ref da_who, .ref da_cap, .ref da_w, .ref da_laid, .int d_whoMany, .int d_drifted, .int d_seed, .ref da_cries, .ref da_holds, .ref da_came, .ref da_least, .ref da_firstTo, .int d_steps, .int d_roundFrom, .int d_roundMany, .int d_numberAt])), (da_many, .inl (cy 0, 5, .inl df_many)), (da_spot, .inl (cy 5, 6, .inr (.inr (.inr (.inr (fun i => if i < 6 then some (da_spot + 1 + i) else none)))))), ((da_spot + 1 + 0), .inl (cy 0, 2, .inl ((dF_spot 0)))), ((da_spot + 1 + 1), .inl (cy 0, 2, .inl ((dF_spot 1)))), ((da_spot + 1 + 2), .inl (cy 0, 2, .inl ((dF_spot 2)))), ((da_spot + 1 + 3), .inl (cy 0, 2, .inl ((dF_spot 3)))), ((da_spot + 1 + 4), .inl (cy 0, 2, .inl ((dF_spot 4)))), ((da_spot + 1 + 5), .inl (cy 0, 2, .inl ((dF_spot 5))))] H := hP
        have hD : va_D A [(da, .inr (13, [.int d_thrown, .int d_tape, .int d_size, .int d_place, .int d_at, .int d_fault, .int d_faultAt, .int d_clauses, .ref da_fed, .ref da_readBody, .ref da_body, .ref da_readMany, .ref da_many, .ref da_without, .ref da_did, .ref da_done, .ref da_bed, .int d_now, .int d_mindAt, .int d_way, .int d_harm, .int d_worth, .int d_passes, .int d_passings, .int d_spots, .int d_images, .ref da_passing, .ref da_spot, .ref da_kept, .ref da_aside, .int d_spare, .ref da_ran, .ref da_who, .ref da_cap, .ref da_w, .ref da_laid, .int d_whoMany, .int d_drifted, .int d_seed, .ref da_cries, .ref da_holds, .ref da_came, .ref da_least, .ref da_firstTo, .int d_steps, .int d_roundFrom, .int d_roundMany, .int d_numberAt])), (da_many, .inl (cy 0, 5, .inl df_many)), (da_spot, .inl (cy 5, 6, .inr (.inr (.inr (.inr (fun i => if i < 6 then some (da_spot + 1 + i) else none)))))), ((da_spot + 1 + 0), .inl (cy 0, 2, .inl ((dF_spot 0)))), ((da_spot + 1 + 1), .inl (cy 0, 2, .inl ((dF_spot 1)))), ((da_spot + 1 + 2), .inl (cy 0, 2, .inl ((dF_spot 2)))), ((da_spot + 1 + 3), .inl (cy 0, 2, .inl ((dF_spot 3)))), ((da_spot + 1 + 4), .inl (cy 0, 2, .inl ((dF_spot 4)))), ((da_spot + 1 + 5), .inl (cy 0, 2, .inl ((dF_spot 5))))] := hD
        have p172q := hwu171q
        refine lv_iadd hx hb dX12_roundOf_75 ?_
        refine lv_topi (fun x173q ex173q => ?_)
        have rx173q := n_add ex173q (a := 0) (b := r170q.toInt) n_L0 rfl (by omega) (by omega)
        refine lv_istore (lv' := [(4, .int x173q), (3, .int x169q), (8, .int x163q), (7, .int 1296), (6, .int x160q), (5, .int x160q), (0, .ref da), (1, .int v0), (2, .int 7776)]) hx hb dX12_roundOf_76 hl (by decide) rfl (fun ls hl => ?_)
        refine lv_iload hx hb dX12_roundOf_78 (lv_at hl 2 rfl) ?_
        refine lv_istore (lv' := [(6, .int x163q), (4, .int x173q), (3, .int x169q), (8, .int x163q), (7, .int 1296), (5, .int x160q), (0, .ref da), (1, .int v0), (2, .int 7776)]) hx hb dX12_roundOf_80 hl (by decide) rfl (fun ls hl => ?_)
        refine lv_iload hx hb dX12_roundOf_82 (lv_at hl 4 rfl) ?_
        refine lv_bipush (v := 6) hx hb dX12_roundOf_84 (by decide) ?_
        refine lv_idiv hx hb dX12_roundOf_86 (by decide) ?_
        refine lv_topi (fun x174q ex174q => ?_)
        obtain rfl : x174q = 216 := ex174q.trans (by decide)
        refine lv_istore (lv' := [(7, .int 216), (6, .int x163q), (4, .int x173q), (3, .int x169q), (8, .int x163q), (5, .int x160q), (0, .ref da), (1, .int v0), (2, .int 7776)]) hx hb dX12_roundOf_87 hl (by decide) rfl (fun ls hl => ?_)
        refine lv_goto (tgt := 23) hx hb dX12_roundOf_89 (by decide) ?_
        refine lv_iload hx hb dX12_roundOf_23 (lv_at hl 0 rfl) ?_
        refine lv_if_le (tgt := 92) hx hb dX12_roundOf_25 (by decide) (fun h => absurd h (by decide)) (fun _ => ?_)
        refine lv_iload_n hx hb dX12_roundOf_28 rfl (lv_at hl 7 rfl) ?_
        refine lv_iload hx hb dX12_roundOf_29 (lv_at hl 0 rfl) ?_
        refine lv_idiv hx hb dX12_roundOf_31 (by decide) ?_
        refine lv_topi (fun x175q ex175q => ?_)
        have rx175q := n_div ex175q (a := v0.toInt) (b := 216) rfl n_L216 (by omega) (by omega)
        refine lv_bipush (v := 6) hx hb dX12_roundOf_32 (by decide) ?_
        refine lv_irem hx hb dX12_roundOf_34 (by decide) ?_
        refine lv_topi (fun x176q ex176q => ?_)
        have rx176q := n_mod ex176q (a := x175q.toInt) (b := 6) rfl n_L6 (by omega) (by omega)
        refine lv_istore (lv' := [(8, .int x176q), (7, .int 216), (6, .int x163q), (4, .int x173q), (3, .int x169q), (5, .int x160q), (0, .ref da), (1, .int v0), (2, .int 7776)]) hx hb dX12_roundOf_35 hl (by decide) rfl (fun ls hl => ?_)
        refine lv_iload hx hb dX12_roundOf_37 (lv_at hl 0 rfl) ?_
        refine lv_aload_n hx hb dX12_roundOf_39 rfl (lv_at hl 6 rfl) ?_
        refine va_get (D := D) (ci := 13) (v := .int d_spots) (C := RX12) (T := TX12) (N := 48) hx hb hts kin_RX12 hown hG.1 hP 0 rfl rfl 24 (by decide) (hts _ wm_1543) (fun _ h9 => h9) rfl dX12_roundOf_40 ?_
        refine lv_icmp_ge (tgt := 56) hx hb dX12_roundOf_43 (by decide) (fun c177q => ?_) (fun c177q => ?_)
        · simp only [k_lt, k_le, k_eq, ne_eq, ge_iff_le, gt_iff_lt] at c177q
          refine lv_iconst (v := (-1)) hx hb dX12_roundOf_56 (by decide) ?_
          rw [hQ0]
          exact k_iret () hx hb hr hlk (trivial) (hP.sub [0, 1, 2, 3, 4, 5, 6, 7, 8] rfl) (hD.sub [0, 1, 2, 3, 4, 5, 6, 7, 8] (by decide) rfl) hS (by decide) (by decide) dX12_roundOf_57
        · simp only [k_lt, k_le, k_eq, ne_eq, ge_iff_le, gt_iff_lt] at c177q
          refine lv_iload_n hx hb dX12_roundOf_46 rfl (lv_at hl 4 rfl) ?_
          refine lv_iload hx hb dX12_roundOf_47 (lv_at hl 0 rfl) ?_
          refine lv_ishr hx hb dX12_roundOf_49 ?_
          refine lv_topi (fun x178q ex178q => ?_)
          refine lv_iconst (v := 1) hx hb dX12_roundOf_50 (by decide) ?_
          refine lv_iand hx hb dX12_roundOf_51 ?_
          refine lv_topi (fun x179q ex179q => ?_)
          have rx179q := n_and ex179q (b := 1) n_L1 (by omega)
          refine lv_iconst (v := 1) hx hb dX12_roundOf_52 (by decide) ?_
          refine lv_icmp_ne (tgt := 58) hx hb dX12_roundOf_53 (by decide) (fun c180q => ?_) (fun c180q => ?_)
          · simp only [k_lt, k_le, k_eq, ne_eq, ge_iff_le, gt_iff_lt, n_L1] at c180q
            refine lv_iload_n hx hb dX12_roundOf_58 rfl (lv_at hl 4 rfl) ?_
            refine lv_iconst (v := 1) hx hb dX12_roundOf_59 (by decide) ?_
            refine lv_iload hx hb dX12_roundOf_60 (lv_at hl 0 rfl) ?_
            refine lv_ishl hx hb dX12_roundOf_62 ?_
            refine lv_topi (fun x181q ex181q => ?_)
            refine lv_ior hx hb dX12_roundOf_63 ?_
            refine lv_topi (fun x182q ex182q => ?_)
            refine lv_istore_n (lv' := [(3, .int x182q), (8, .int x176q), (7, .int 216), (6, .int x163q), (4, .int x173q), (5, .int x160q), (0, .ref da), (1, .int v0), (2, .int 7776)]) hx hb dX12_roundOf_64 rfl hl (by decide) rfl (fun ls hl => ?_)
            refine lv_iload hx hb dX12_roundOf_65 (lv_at hl 4 rfl) ?_
            refine lv_aload_n hx hb dX12_roundOf_67 rfl (lv_at hl 6 rfl) ?_
            refine lv_iload hx hb dX12_roundOf_68 (lv_at hl 3 rfl) ?_
            refine lv_iload hx hb dX12_roundOf_70 (lv_at hl 1 rfl) ?_
            refine k_cali [] (⟨hP, hD, hG, hS, hA, rfl, rfl⟩ : kAt D cy sa A s H _ _ [(da, .inr (13, [.int d_thrown, .int d_tape, .int d_size, .int d_place, .int d_at, .int d_fault, .int d_faultAt, .int d_clauses, .ref da_fed, .ref da_readBody, .ref da_body, .ref da_readMany, .ref da_many, .ref da_without, .ref da_did, .ref da_done, .ref da_bed, .int d_now, .int d_mindAt, .int d_way, .int d_harm, .int d_worth, .int d_passes, .int d_passings, .int d_spots, .int d_images, .ref da_passing, .ref da_spot, .ref da_kept, .ref da_aside, .int d_spare, .ref da_ran, .ref da_who, .ref da_cap, .ref da_w, .ref da_laid, .int d_whoMany, .int d_drifted, .int d_seed, .ref da_cries, .ref da_holds, .ref da_came, .ref da_least, .ref da_firstTo, .int d_steps, .int d_roundFrom, .int d_roundMany, .int d_numberAt])), (da_many, .inl (cy 0, 5, .inl df_many)), (da_spot, .inl (cy 5, 6, .inr (.inr (.inr (.inr (fun i => if i < 6 then some (da_spot + 1 + i) else none)))))), ((da_spot + 1 + 0), .inl (cy 0, 2, .inl ((dF_spot 0)))), ((da_spot + 1 + 1), .inl (cy 0, 2, .inl ((dF_spot 1)))), ((da_spot + 1 + 2), .inl (cy 0, 2, .inl ((dF_spot 2)))), ((da_spot + 1 + 3), .inl (cy 0, 2, .inl ((dF_spot 3)))), ((da_spot + 1 + 4), .inl (cy 0, 2, .inl ((dF_spot 4)))), ((da_spot + 1 + 5), .inl (cy 0, 2, .inl ((dF_spot 5))))] [0, 1, 2, 3, 4, 5, 6, 7, 8]) (wr := []) rfl rfl (by decide) (k_runV 13 0 (As := [.int x163q, .int x176q]) (rest := [.int x173q]) E lk_VRX12_343 rfl rfl rfl (m_between l hl0 D cy sa da da_fed da_readBody da_body da_readMany da_many da_without da_did da_done da_bed da_passing da_spot da_kept da_aside da_ran da_who da_cap da_w da_laid da_cries da_holds da_came da_least da_firstTo d_thrown d_tape d_size d_place d_at d_fault d_faultAt d_clauses d_now d_mindAt d_way d_harm d_worth d_passes d_passings d_spots d_images d_spare d_whoMany d_drifted d_seed d_steps d_roundFrom d_roundMany d_numberAt x163q x176q df_many dF_spot ⟨by omega, by omega⟩ ⟨by omega, by omega⟩ ⟨by omega, by omega⟩ ⟨by omega, by omega⟩ ⟨by omega, by omega⟩ ⟨by omega, by omega⟩ ⟨by omega, by omega⟩ ⟨by omega, by omega⟩ ⟨by omega, by omega⟩ ⟨by omega, by omega⟩ (by assumption) (by assumption) (by assumption) ⟨by omega, by omega⟩ ⟨by omega, by omega⟩ (by omega) H.size) (⟨hP, hD, hG, hS, hA, rfl, rfl⟩ : kAt D cy sa A s H _ _ [(da, .inr (13, [.int d_thrown, .int d_tape, .int d_size, .int d_place, .int d_at, .int d_fault, .int d_faultAt, .int d_clauses, .ref da_fed, .ref da_readBody, .ref da_body, .ref da_readMany, .ref da_many, .ref da_without, .ref da_did, .ref da_done, .ref da_bed, .int d_now, .int d_mindAt, .int d_way, .int d_harm, .int d_worth, .int d_passes, .int d_passings, .int d_spots, .int d_images, .ref da_passing, .ref da_spot, .ref da_kept, .ref da_aside, .int d_spare, .ref da_ran, .ref da_who, .ref da_cap, .ref da_w, .ref da_laid, .int d_whoMany, .int d_drifted, .int d_seed, .ref da_cries, .ref da_holds, .ref da_came, .ref da_least, .ref da_firstTo, .int d_steps, .int d_roundFrom, .int d_roundMany, .int d_numberAt])), (da_many, .inl (cy 0, 5, .inl df_many)), (da_spot, .inl (cy 5, 6, .inr (.inr (.inr (.inr (fun i => if i < 6 then some (da_spot + 1 + i) else none)))))), ((da_spot + 1 + 0), .inl (cy 0, 2, .inl ((dF_spot 0)))), ((da_spot + 1 + 1), .inl (cy 0, 2, .inl ((dF_spot 1)))), ((da_spot + 1 + 2), .inl (cy 0, 2, .inl ((dF_spot 2)))), ((da_spot + 1 + 3), .inl (cy 0, 2, .inl ((dF_spot 3)))), ((da_spot + 1 + 4), .inl (cy 0, 2, .inl ((dF_spot 4)))), ((da_spot + 1 + 5), .inl (cy 0, 2, .inl ((dF_spot 5))))] [0, 1, 2, 3, 4, 5, 6, 7, 8]) hl.1 rfl rfl ⟨rfl, rfl, ⟨Nat.le_of_ble_eq_true rfl, Nat.le_of_ble_eq_true rfl⟩, ⟨Nat.le_of_ble_eq_true rfl, Nat.le_of_ble_eq_true rfl⟩, Nat.le_of_ble_eq_true rfl⟩ dX12_roundOf_72) (fun r183q u184q H locs hwu184q hP hD hS => ?_)
            have hP : va_P D vwCl [(da, .inr (13, [.int d_thrown, .int d_tape, .int d_size, .int d_place, .int d_at, .int d_fault, .int d_faultAt, .int d_clauses, .ref da_fed, .ref da_readBody, .ref da_body, .ref da_readMany, .ref da_many, .ref da_without, .ref da_did, .ref da_done, .ref da_bed, .int d_now, .int d_mindAt, .int d_way, .int d_harm, .int d_worth, .int d_passes, .int d_passings, .int d_spots, .int d_images, .ref da_passing, .ref da_spot, .ref da_kept, .ref da_aside, .int d_spare, .ref da_ran, .ref da_who, .ref da_cap, .ref da_w, .ref da_laid, .int d_whoMany, .int d_drifted, .int d_seed, .ref da_cries, .ref da_holds, .ref da_came, .ref da_least, .ref da_firstTo, .int d_steps, .int d_roundFrom, .int d_roundMany, .int d_numberAt])), (da_many, .inl (cy 0, 5, .inl df_many)), (da_spot, .inl (cy 5, 6, .inr (.inr (.inr (.inr (fun i => if i < 6 then some (da_spot + 1 + i) else none)))))), ((da_spot + 1 + 0), .inl (cy 0, 2, .inl ((dF_spot 0)))), ((da_spot + 1 + 1), .inl (cy 0, 2, .inl ((dF_spot 1)))), ((da_spot + 1 + 2), .inl (cy 0, 2, .inl ((dF_spot 2)))), ((da_spot + 1 + 3), .inl (cy 0, 2, .inl ((dF_spot 3)))), ((da_spot + 1 + 4), .inl (cy 0, 2, .inl ((dF_spot 4)))), ((da_spot + 1 + 5), .inl (cy 0, 2, .inl ((dF_spot 5))))] H := hP
            have hD : va_D A [(da, .inr (13, [.int d_thrown, .int d_tape, .int d_size, .int d_place, .int d_at, .int d_fault, .int d_faultAt, .int d_clauses, .ref da_fed, .ref da_readBody, .ref da_body, .ref da_readMany, .ref da_many, .ref da_without, .ref da_did, .ref da_done, .ref da_bed, .int d_now, .int d_mindAt, .int d_way, .int d_harm, .int d_worth, .int d_passes, .int d_passings, .int d_spots, .int d_images, .ref da_passing, .ref da_spot, .ref da_kept, .ref da_aside, .int d_spare, .ref da_ran, .ref da_who, .ref da_cap, .ref da_w, .ref da_laid, .int d_whoMany, .int d_drifted, .int d_seed, .ref da_cries, .ref da_holds, .ref da_came, .ref da_least, .ref da_firstTo, .int d_steps, .int d_roundFrom, .int d_roundMany, .int d_numberAt])), (da_many, .inl (cy 0, 5, .inl df_many)), (da_spot, .inl (cy 5, 6, .inr (.inr (.inr (.inr (fun i => if i < 6 then some (da_spot + 1 + i) else none)))))), ((da_spot + 1 + 0), .inl (cy 0, 2, .inl ((dF_spot 0)))), ((da_spot + 1 + 1), .inl (cy 0, 2, .inl ((dF_spot 1)))), ((da_spot + 1 + 2), .inl (cy 0, 2, .inl ((dF_spot 2)))), ((da_spot + 1 + 3), .inl (cy 0, 2, .inl ((dF_spot 3)))), ((da_spot + 1 + 4), .inl (cy 0, 2, .inl ((dF_spot 4)))), ((da_spot + 1 + 5), .inl (cy 0, 2, .inl ((dF_spot 5))))] := hD
            have p185q := hwu184q
            refine lv_iadd hx hb dX12_roundOf_75 ?_
            refine lv_topi (fun x186q ex186q => ?_)
            have rx186q := n_add ex186q (a := x173q.toInt) (b := r183q.toInt) rfl rfl (by omega) (by omega)
            refine lv_istore (lv' := [(4, .int x186q), (3, .int x182q), (8, .int x176q), (7, .int 216), (6, .int x163q), (5, .int x160q), (0, .ref da), (1, .int v0), (2, .int 7776)]) hx hb dX12_roundOf_76 hl (by decide) rfl (fun ls hl => ?_)
            refine lv_iload hx hb dX12_roundOf_78 (lv_at hl 2 rfl) ?_
            refine lv_istore (lv' := [(6, .int x176q), (4, .int x186q), (3, .int x182q), (8, .int x176q), (7, .int 216), (5, .int x160q), (0, .ref da), (1, .int v0), (2, .int 7776)]) hx hb dX12_roundOf_80 hl (by decide) rfl (fun ls hl => ?_)
            refine lv_iload hx hb dX12_roundOf_82 (lv_at hl 4 rfl) ?_
            refine lv_bipush (v := 6) hx hb dX12_roundOf_84 (by decide) ?_
            refine lv_idiv hx hb dX12_roundOf_86 (by decide) ?_
            refine lv_topi (fun x187q ex187q => ?_)
            obtain rfl : x187q = 36 := ex187q.trans (by decide)
            refine lv_istore (lv' := [(7, .int 36), (6, .int x176q), (4, .int x186q), (3, .int x182q), (8, .int x176q), (5, .int x160q), (0, .ref da), (1, .int v0), (2, .int 7776)]) hx hb dX12_roundOf_87 hl (by decide) rfl (fun ls hl => ?_)
            refine lv_goto (tgt := 23) hx hb dX12_roundOf_89 (by decide) ?_
            refine lv_iload hx hb dX12_roundOf_23 (lv_at hl 0 rfl) ?_
            refine lv_if_le (tgt := 92) hx hb dX12_roundOf_25 (by decide) (fun h => absurd h (by decide)) (fun _ => ?_)
            refine lv_iload_n hx hb dX12_roundOf_28 rfl (lv_at hl 7 rfl) ?_
            refine lv_iload hx hb dX12_roundOf_29 (lv_at hl 0 rfl) ?_
            refine lv_idiv hx hb dX12_roundOf_31 (by decide) ?_
            refine lv_topi (fun x188q ex188q => ?_)
            have rx188q := n_div ex188q (a := v0.toInt) (b := 36) rfl n_L36 (by omega) (by omega)
            refine lv_bipush (v := 6) hx hb dX12_roundOf_32 (by decide) ?_
            refine lv_irem hx hb dX12_roundOf_34 (by decide) ?_
            refine lv_topi (fun x189q ex189q => ?_)
            have rx189q := n_mod ex189q (a := x188q.toInt) (b := 6) rfl n_L6 (by omega) (by omega)
            refine lv_istore (lv' := [(8, .int x189q), (7, .int 36), (6, .int x176q), (4, .int x186q), (3, .int x182q), (5, .int x160q), (0, .ref da), (1, .int v0), (2, .int 7776)]) hx hb dX12_roundOf_35 hl (by decide) rfl (fun ls hl => ?_)
            refine lv_iload hx hb dX12_roundOf_37 (lv_at hl 0 rfl) ?_
            refine lv_aload_n hx hb dX12_roundOf_39 rfl (lv_at hl 6 rfl) ?_
            refine va_get (D := D) (ci := 13) (v := .int d_spots) (C := RX12) (T := TX12) (N := 48) hx hb hts kin_RX12 hown hG.1 hP 0 rfl rfl 24 (by decide) (hts _ wm_1543) (fun _ h9 => h9) rfl dX12_roundOf_40 ?_
            refine lv_icmp_ge (tgt := 56) hx hb dX12_roundOf_43 (by decide) (fun c190q => ?_) (fun c190q => ?_)
            · simp only [k_lt, k_le, k_eq, ne_eq, ge_iff_le, gt_iff_lt] at c190q
              refine lv_iconst (v := (-1)) hx hb dX12_roundOf_56 (by decide) ?_
              rw [hQ0]
              exact k_iret () hx hb hr hlk (trivial) (hP.sub [0, 1, 2, 3, 4, 5, 6, 7, 8] rfl) (hD.sub [0, 1, 2, 3, 4, 5, 6, 7, 8] (by decide) rfl) hS (by decide) (by decide) dX12_roundOf_57
            · simp only [k_lt, k_le, k_eq, ne_eq, ge_iff_le, gt_iff_lt] at c190q
              refine lv_iload_n hx hb dX12_roundOf_46 rfl (lv_at hl 4 rfl) ?_
              refine lv_iload hx hb dX12_roundOf_47 (lv_at hl 0 rfl) ?_
              refine lv_ishr hx hb dX12_roundOf_49 ?_
              refine lv_topi (fun x191q ex191q => ?_)
              refine lv_iconst (v := 1) hx hb dX12_roundOf_50 (by decide) ?_
              refine lv_iand hx hb dX12_roundOf_51 ?_
              refine lv_topi (fun x192q ex192q => ?_)
              have rx192q := n_and ex192q (b := 1) n_L1 (by omega)
              refine lv_iconst (v := 1) hx hb dX12_roundOf_52 (by decide) ?_
              refine lv_icmp_ne (tgt := 58) hx hb dX12_roundOf_53 (by decide) (fun c193q => ?_) (fun c193q => ?_)
              · simp only [k_lt, k_le, k_eq, ne_eq, ge_iff_le, gt_iff_lt, n_L1] at c193q
                refine lv_iload_n hx hb dX12_roundOf_58 rfl (lv_at hl 4 rfl) ?_
                refine lv_iconst (v := 1) hx hb dX12_roundOf_59 (by decide) ?_
                refine lv_iload hx hb dX12_roundOf_60 (lv_at hl 0 rfl) ?_
                refine lv_ishl hx hb dX12_roundOf_62 ?_
                refine lv_topi (fun x194q ex194q => ?_)
                refine lv_ior hx hb dX12_roundOf_63 ?_
                refine lv_topi (fun x195q ex195q => ?_)
                refine lv_istore_n (lv' := [(3, .int x195q), (8, .int x189q), (7, .int 36), (6, .int x176q), (4, .int x186q), (5, .int x160q), (0, .ref da), (1, .int v0), (2, .int 7776)]) hx hb dX12_roundOf_64 rfl hl (by decide) rfl (fun ls hl => ?_)
                refine lv_iload hx hb dX12_roundOf_65 (lv_at hl 4 rfl) ?_
                refine lv_aload_n hx hb dX12_roundOf_67 rfl (lv_at hl 6 rfl) ?_
                refine lv_iload hx hb dX12_roundOf_68 (lv_at hl 3 rfl) ?_
                refine lv_iload hx hb dX12_roundOf_70 (lv_at hl 1 rfl) ?_
                refine k_cali [] (⟨hP, hD, hG, hS, hA, rfl, rfl⟩ : kAt D cy sa A s H _ _ [(da, .inr (13, [.int d_thrown, .int d_tape, .int d_size, .int d_place, .int d_at, .int d_fault, .int d_faultAt, .int d_clauses, .ref da_fed, .ref da_readBody, .ref da_body, .ref da_readMany, .ref da_many, .ref da_without, .ref da_did, .ref da_done, .ref da_bed, .int d_now, .int d_mindAt, .int d_way, .int d_harm, .int d_worth, .int d_passes, .int d_passings, .int d_spots, .int d_images, .ref da_passing, .ref da_spot, .ref da_kept, .ref da_aside, .int d_spare, .ref da_ran, .ref da_who, .ref da_cap, .ref da_w, .ref da_laid, .int d_whoMany, .int d_drifted, .int d_seed, .ref da_cries, .ref da_holds, .ref da_came, .ref da_least, .ref da_firstTo, .int d_steps, .int d_roundFrom, .int d_roundMany, .int d_numberAt])), (da_many, .inl (cy 0, 5, .inl df_many)), (da_spot, .inl (cy 5, 6, .inr (.inr (.inr (.inr (fun i => if i < 6 then some (da_spot + 1 + i) else none)))))), ((da_spot + 1 + 0), .inl (cy 0, 2, .inl ((dF_spot 0)))), ((da_spot + 1 + 1), .inl (cy 0, 2, .inl ((dF_spot 1)))), ((da_spot + 1 + 2), .inl (cy 0, 2, .inl ((dF_spot 2)))), ((da_spot + 1 + 3), .inl (cy 0, 2, .inl ((dF_spot 3)))), ((da_spot + 1 + 4), .inl (cy 0, 2, .inl ((dF_spot 4)))), ((da_spot + 1 + 5), .inl (cy 0, 2, .inl ((dF_spot 5))))] [0, 1, 2, 3, 4, 5, 6, 7, 8]) (wr := []) rfl rfl (by decide) (k_runV 13 0 (As := [.int x176q, .int x189q]) (rest := [.int x186q]) E lk_VRX12_343 rfl rfl rfl (m_between l hl0 D cy sa da da_fed da_readBody da_body da_readMany da_many da_without da_did da_done da_bed da_passing da_spot da_kept da_aside da_ran da_who da_cap da_w da_laid da_cries da_holds da_came da_least da_firstTo d_thrown d_tape d_size d_place d_at d_fault d_faultAt d_clauses d_now d_mindAt d_way d_harm d_worth d_passes d_passings d_spots d_images d_spare d_whoMany d_drifted d_seed d_steps d_roundFrom d_roundMany d_numberAt x176q x189q df_many dF_spot ⟨by omega, by omega⟩ ⟨by omega, by omega⟩ ⟨by omega, by omega⟩ ⟨by omega, by omega⟩ ⟨by omega, by omega⟩ ⟨by omega, by omega⟩ ⟨by omega, by omega⟩ ⟨by omega, by omega⟩ ⟨by omega, by omega⟩ ⟨by omega, by omega⟩ (by assumption) (by assumption) (by assumption) ⟨by omega, by omega⟩ ⟨by omega, by omega⟩ (by omega) H.size) (⟨hP, hD, hG, hS, hA, rfl, rfl⟩ : kAt D cy sa A s H _ _ [(da, .inr (13, [.int d_thrown, .int d_tape, .int d_size, .int d_place, .int d_at, .int d_fault, .int d_faultAt, .int d_clauses, .ref da_fed, .ref da_readBody, .ref da_body, .ref da_readMany, .ref da_many, .ref da_without, .ref da_did, .ref da_done, .ref da_bed, .int d_now, .int d_mindAt, .int d_way, .int d_harm, .int d_worth, .int d_passes, .int d_passings, .int d_spots, .int d_images, .ref da_passing, .ref da_spot, .ref da_kept, .ref da_aside, .int d_spare, .ref da_ran, .ref da_who, .ref da_cap, .ref da_w, .ref da_laid, .int d_whoMany, .int d_drifted, .int d_seed, .ref da_cries, .ref da_holds, .ref da_came, .ref da_least, .ref da_firstTo, .int d_steps, .int d_roundFrom, .int d_roundMany, .int d_numberAt])), (da_many, .inl (cy 0, 5, .inl df_many)), (da_spot, .inl (cy 5, 6, .inr (.inr (.inr (.inr (fun i => if i < 6 then some (da_spot + 1 + i) else none)))))), ((da_spot + 1 + 0), .inl (cy 0, 2, .inl ((dF_spot 0)))), ((da_spot + 1 + 1), .inl (cy 0, 2, .inl ((dF_spot 1)))), ((da_spot + 1 + 2), .inl (cy 0, 2, .inl ((dF_spot 2)))), ((da_spot + 1 + 3), .inl (cy 0, 2, .inl ((dF_spot 3)))), ((da_spot + 1 + 4), .inl (cy 0, 2, .inl ((dF_spot 4)))), ((da_spot + 1 + 5), .inl (cy 0, 2, .inl ((dF_spot 5))))] [0, 1, 2, 3, 4, 5, 6, 7, 8]) hl.1 rfl rfl ⟨rfl, rfl, ⟨Nat.le_of_ble_eq_true rfl, Nat.le_of_ble_eq_true rfl⟩, ⟨Nat.le_of_ble_eq_true rfl, Nat.le_of_ble_eq_true rfl⟩, Nat.le_of_ble_eq_true rfl⟩ dX12_roundOf_72) (fun r196q u197q H locs hwu197q hP hD hS => ?_)
                have hP : va_P D vwCl [(da, .inr (13, [.int d_thrown, .int d_tape, .int d_size, .int d_place, .int d_at, .int d_fault, .int d_faultAt, .int d_clauses, .ref da_fed, .ref da_readBody, .ref da_body, .ref da_readMany, .ref da_many, .ref da_without, .ref da_did, .ref da_done, .ref da_bed, .int d_now, .int d_mindAt, .int d_way, .int d_harm, .int d_worth, .int d_passes, .int d_passings, .int d_spots, .int d_images, .ref da_passing, .ref da_spot, .ref da_kept, .ref da_aside, .int d_spare, .ref da_ran, .ref da_who, .ref da_cap, .ref da_w, .ref da_laid, .int d_whoMany, .int d_drifted, .int d_seed, .ref da_cries, .ref da_holds, .ref da_came, .ref da_least, .ref da_firstTo, .int d_steps, .int d_roundFrom, .int d_roundMany, .int d_numberAt])), (da_many, .inl (cy 0, 5, .inl df_many)), (da_spot, .inl (cy 5, 6, .inr (.inr (.inr (.inr (fun i => if i < 6 then some (da_spot + 1 + i) else none)))))), ((da_spot + 1 + 0), .inl (cy 0, 2, .inl ((dF_spot 0)))), ((da_spot + 1 + 1), .inl (cy 0, 2, .inl ((dF_spot 1)))), ((da_spot + 1 + 2), .inl (cy 0, 2, .inl ((dF_spot 2)))), ((da_spot + 1 + 3), .inl (cy 0, 2, .inl ((dF_spot 3)))), ((da_spot + 1 + 4), .inl (cy 0, 2, .inl ((dF_spot 4)))), ((da_spot + 1 + 5), .inl (cy 0, 2, .inl ((dF_spot 5))))] H := hP
                have hD : va_D A [(da, .inr (13, [.int d_thrown, .int d_tape, .int d_size, .int d_place, .int d_at, .int d_fault, .int d_faultAt, .int d_clauses, .ref da_fed, .ref da_readBody, .ref da_body, .ref da_readMany, .ref da_many, .ref da_without, .ref da_did, .ref da_done, .ref da_bed, .int d_now, .int d_mindAt, .int d_way, .int d_harm, .int d_worth, .int d_passes, .int d_passings, .int d_spots, .int d_images, .ref da_passing, .ref da_spot, .ref da_kept, .ref da_aside, .int d_spare, .ref da_ran, .ref da_who, .ref da_cap, .ref da_w, .ref da_laid, .int d_whoMany, .int d_drifted, .int d_seed, .ref da_cries, .ref da_holds, .ref da_came, .ref da_least, .ref da_firstTo, .int d_steps, .int d_roundFrom, .int d_roundMany, .int d_numberAt])), (da_many, .inl (cy 0, 5, .inl df_many)), (da_spot, .inl (cy 5, 6, .inr (.inr (.inr (.inr (fun i => if i < 6 then some (da_spot + 1 + i) else none)))))), ((da_spot + 1 + 0), .inl (cy 0, 2, .inl ((dF_spot 0)))), ((da_spot + 1 + 1), .inl (cy 0, 2, .inl ((dF_spot 1)))), ((da_spot + 1 + 2), .inl (cy 0, 2, .inl ((dF_spot 2)))), ((da_spot + 1 + 3), .inl (cy 0, 2, .inl ((dF_spot 3)))), ((da_spot + 1 + 4), .inl (cy 0, 2, .inl ((dF_spot 4)))), ((da_spot + 1 + 5), .inl (cy 0, 2, .inl ((dF_spot 5))))] := hD
                have p198q := hwu197q
                refine lv_iadd hx hb dX12_roundOf_75 ?_
                refine lv_topi (fun x199q ex199q => ?_)
                have rx199q := n_add ex199q (a := x186q.toInt) (b := r196q.toInt) rfl rfl (by omega) (by omega)
                refine lv_istore (lv' := [(4, .int x199q), (3, .int x195q), (8, .int x189q), (7, .int 36), (6, .int x176q), (5, .int x160q), (0, .ref da), (1, .int v0), (2, .int 7776)]) hx hb dX12_roundOf_76 hl (by decide) rfl (fun ls hl => ?_)
                refine lv_iload hx hb dX12_roundOf_78 (lv_at hl 2 rfl) ?_
                refine lv_istore (lv' := [(6, .int x189q), (4, .int x199q), (3, .int x195q), (8, .int x189q), (7, .int 36), (5, .int x160q), (0, .ref da), (1, .int v0), (2, .int 7776)]) hx hb dX12_roundOf_80 hl (by decide) rfl (fun ls hl => ?_)
                refine lv_iload hx hb dX12_roundOf_82 (lv_at hl 4 rfl) ?_
                refine lv_bipush (v := 6) hx hb dX12_roundOf_84 (by decide) ?_
                refine lv_idiv hx hb dX12_roundOf_86 (by decide) ?_
                refine lv_topi (fun x200q ex200q => ?_)
                obtain rfl : x200q = 6 := ex200q.trans (by decide)
                refine lv_istore (lv' := [(7, .int 6), (6, .int x189q), (4, .int x199q), (3, .int x195q), (8, .int x189q), (5, .int x160q), (0, .ref da), (1, .int v0), (2, .int 7776)]) hx hb dX12_roundOf_87 hl (by decide) rfl (fun ls hl => ?_)
                refine lv_goto (tgt := 23) hx hb dX12_roundOf_89 (by decide) ?_
                refine lv_iload hx hb dX12_roundOf_23 (lv_at hl 0 rfl) ?_
                refine lv_if_le (tgt := 92) hx hb dX12_roundOf_25 (by decide) (fun h => absurd h (by decide)) (fun _ => ?_)
                refine lv_iload_n hx hb dX12_roundOf_28 rfl (lv_at hl 7 rfl) ?_
                refine lv_iload hx hb dX12_roundOf_29 (lv_at hl 0 rfl) ?_
                refine lv_idiv hx hb dX12_roundOf_31 (by decide) ?_
                refine lv_topi (fun x201q ex201q => ?_)
                have rx201q := n_div ex201q (a := v0.toInt) (b := 6) rfl n_L6 (by omega) (by omega)
                refine lv_bipush (v := 6) hx hb dX12_roundOf_32 (by decide) ?_
                refine lv_irem hx hb dX12_roundOf_34 (by decide) ?_
                refine lv_topi (fun x202q ex202q => ?_)
                have rx202q := n_mod ex202q (a := x201q.toInt) (b := 6) rfl n_L6 (by omega) (by omega)
                refine lv_istore (lv' := [(8, .int x202q), (7, .int 6), (6, .int x189q), (4, .int x199q), (3, .int x195q), (5, .int x160q), (0, .ref da), (1, .int v0), (2, .int 7776)]) hx hb dX12_roundOf_35 hl (by decide) rfl (fun ls hl => ?_)
                refine lv_iload hx hb dX12_roundOf_37 (lv_at hl 0 rfl) ?_
                refine lv_aload_n hx hb dX12_roundOf_39 rfl (lv_at hl 6 rfl) ?_
                refine va_get (D := D) (ci := 13) (v := .int d_spots) (C := RX12) (T := TX12) (N := 48) hx hb hts kin_RX12 hown hG.1 hP 0 rfl rfl 24 (by decide) (hts _ wm_1543) (fun _ h9 => h9) rfl dX12_roundOf_40 ?_
                refine lv_icmp_ge (tgt := 56) hx hb dX12_roundOf_43 (by decide) (fun c203q => ?_) (fun c203q => ?_)
                · simp only [k_lt, k_le, k_eq, ne_eq, ge_iff_le, gt_iff_lt] at c203q
                  refine lv_iconst (v := (-1)) hx hb dX12_roundOf_56 (by decide) ?_
                  rw [hQ0]
                  exact k_iret () hx hb hr hlk (trivial) (hP.sub [0, 1, 2, 3, 4, 5, 6, 7, 8] rfl) (hD.sub [0, 1, 2, 3, 4, 5, 6, 7, 8] (by decide) rfl) hS (by decide) (by decide) dX12_roundOf_57
                · simp only [k_lt, k_le, k_eq, ne_eq, ge_iff_le, gt_iff_lt] at c203q
                  refine lv_iload_n hx hb dX12_roundOf_46 rfl (lv_at hl 4 rfl) ?_
                  refine lv_iload hx hb dX12_roundOf_47 (lv_at hl 0 rfl) ?_
                  refine lv_ishr hx hb dX12_roundOf_49 ?_
                  refine lv_topi (fun x204q ex204q => ?_)
                  refine lv_iconst (v := 1) hx hb dX12_roundOf_50 (by decide) ?_
                  refine lv_iand hx hb dX12_roundOf_51 ?_
                  refine lv_topi (fun x205q ex205q => ?_)
                  have rx205q := n_and ex205q (b := 1) n_L1 (by omega)
                  refine lv_iconst (v := 1) hx hb dX12_roundOf_52 (by decide) ?_
                  refine lv_icmp_ne (tgt := 58) hx hb dX12_roundOf_53 (by decide) (fun c206q => ?_) (fun c206q => ?_)
                  · simp only [k_lt, k_le, k_eq, ne_eq, ge_iff_le, gt_iff_lt, n_L1] at c206q
                    refine lv_iload_n hx hb dX12_roundOf_58 rfl (lv_at hl 4 rfl) ?_
                    refine lv_iconst (v := 1) hx hb dX12_roundOf_59 (by decide) ?_
                    refine lv_iload hx hb dX12_roundOf_60 (lv_at hl 0 rfl) ?_
                    refine lv_ishl hx hb dX12_roundOf_62 ?_
                    refine lv_topi (fun x207q ex207q => ?_)
                    refine lv_ior hx hb dX12_roundOf_63 ?_
                    refine lv_topi (fun x208q ex208q => ?_)
                    refine lv_istore_n (lv' := [(3, .int x208q), (8, .int x202q), (7, .int 6), (6, .int x189q), (4, .int x199q), (5, .int x160q), (0, .ref da), (1, .int v0), (2, .int 7776)]) hx hb dX12_roundOf_64 rfl hl (by decide) rfl (fun ls hl => ?_)
                    refine lv_iload hx hb dX12_roundOf_65 (lv_at hl 4 rfl) ?_
                    refine lv_aload_n hx hb dX12_roundOf_67 rfl (lv_at hl 6 rfl) ?_
                    refine lv_iload hx hb dX12_roundOf_68 (lv_at hl 3 rfl) ?_
                    refine lv_iload hx hb dX12_roundOf_70 (lv_at hl 1 rfl) ?_
                    refine k_cali [] (⟨hP, hD, hG, hS, hA, rfl, rfl⟩ : kAt D cy sa A s H _ _ [(da, .inr (13, [.int d_thrown, .int d_tape, .int d_size, .int d_place, .int d_at, .int d_fault, .int d_faultAt, .int d_clauses, .ref da_fed, .ref da_readBody, .ref da_body, .ref da_readMany, .ref da_many, .ref da_without, .ref da_did, .ref da_done, .ref da_bed, .int d_now, .int d_mindAt, .int d_way, .int d_harm, .int d_worth, .int d_passes, .int d_passings, .int d_spots, .int d_images, .ref da_passing, .ref da_spot, .ref da_kept, .ref da_aside, .int d_spare, .ref da_ran, .ref da_who, .ref da_cap, .ref da_w, .ref da_laid, .int d_whoMany, .int d_drifted, .int d_seed, .ref da_cries, .ref da_holds, .ref da_came, .ref da_least, .ref da_firstTo, .int d_steps, .int d_roundFrom, .int d_roundMany, .int d_numberAt])), (da_many, .inl (cy 0, 5, .inl df_many)), (da_spot, .inl (cy 5, 6, .inr (.inr (.inr (.inr (fun i => if i < 6 then some (da_spot + 1 + i) else none)))))), ((da_spot + 1 + 0), .inl (cy 0, 2, .inl ((dF_spot 0)))), ((da_spot + 1 + 1), .inl (cy 0, 2, .inl ((dF_spot 1)))), ((da_spot + 1 + 2), .inl (cy 0, 2, .inl ((dF_spot 2)))), ((da_spot + 1 + 3), .inl (cy 0, 2, .inl ((dF_spot 3)))), ((da_spot + 1 + 4), .inl (cy 0, 2, .inl ((dF_spot 4)))), ((da_spot + 1 + 5), .inl (cy 0, 2, .inl ((dF_spot 5))))] [0, 1, 2, 3, 4, 5, 6, 7, 8]) (wr := []) rfl rfl (by decide) (k_runV 13 0 (As := [.int x189q, .int x202q]) (rest := [.int x199q]) E lk_VRX12_343 rfl rfl rfl (m_between l hl0 D cy sa da da_fed da_readBody da_body da_readMany da_many da_without da_did da_done da_bed da_passing da_spot da_kept da_aside da_ran da_who da_cap da_w da_laid da_cries da_holds da_came da_least da_firstTo d_thrown d_tape d_size d_place d_at d_fault d_faultAt d_clauses d_now d_mindAt d_way d_harm d_worth d_passes d_passings d_spots d_images d_spare d_whoMany d_drifted d_seed d_steps d_roundFrom d_roundMany d_numberAt x189q x202q df_many dF_spot ⟨by omega, by omega⟩ ⟨by omega, by omega⟩ ⟨by omega, by omega⟩ ⟨by omega, by omega⟩ ⟨by omega, by omega⟩ ⟨by omega, by omega⟩ ⟨by omega, by omega⟩ ⟨by omega, by omega⟩ ⟨by omega, by omega⟩ ⟨by omega, by omega⟩ (by assumption) (by assumption) (by assumption) ⟨by omega, by omega⟩ ⟨by omega, by omega⟩ (by omega) H.size) (⟨hP, hD, hG, hS, hA, rfl, rfl⟩ : kAt D cy sa A s H _ _ [(da, .inr (13, [.int d_thrown, .int d_tape, .int d_size, .int d_place, .int d_at, .int d_fault, .int d_faultAt, .int d_clauses, .ref da_fed, .ref da_readBody, .ref da_body, .ref da_readMany, .ref da_many, .ref da_without, .ref da_did, .ref da_done, .ref da_bed, .int d_now, .int d_mindAt, .int d_way, .int d_harm, .int d_worth, .int d_passes, .int d_passings, .int d_spots, .int d_images, .ref da_passing, .ref da_spot, .ref da_kept, .ref da_aside, .int d_spare, .ref da_ran, .ref da_who, .ref da_cap, .ref da_w, .ref da_laid, .int d_whoMany, .int d_drifted, .int d_seed, .ref da_cries, .ref da_holds, .ref da_came, .ref da_least, .ref da_firstTo, .int d_steps, .int d_roundFrom, .int d_roundMany, .int d_numberAt])), (da_many, .inl (cy 0, 5, .inl df_many)), (da_spot, .inl (cy 5, 6, .inr (.inr (.inr (.inr (fun i => if i < 6 then some (da_spot + 1 + i) else none)))))), ((da_spot + 1 + 0), .inl (cy 0, 2, .inl ((dF_spot 0)))), ((da_spot + 1 + 1), .inl (cy 0, 2, .inl ((dF_spot 1)))), ((da_spot + 1 + 2), .inl (cy 0, 2, .inl ((dF_spot 2)))), ((da_spot + 1 + 3), .inl (cy 0, 2, .inl ((dF_spot 3)))), ((da_spot + 1 + 4), .inl (cy 0, 2, .inl ((dF_spot 4)))), ((da_spot + 1 + 5), .inl (cy 0, 2, .inl ((dF_spot 5))))] [0, 1, 2, 3, 4, 5, 6, 7, 8]) hl.1 rfl rfl ⟨rfl, rfl, ⟨Nat.le_of_ble_eq_true rfl, Nat.le_of_ble_eq_true rfl⟩, ⟨Nat.le_of_ble_eq_true rfl, Nat.le_of_ble_eq_true rfl⟩, Nat.le_of_ble_eq_true rfl⟩ dX12_roundOf_72) (fun r209q u210q H locs hwu210q hP hD hS => ?_)
                    have hP : va_P D vwCl [(da, .inr (13, [.int d_thrown, .int d_tape, .int d_size, .int d_place, .int d_at, .int d_fault, .int d_faultAt, .int d_clauses, .ref da_fed, .ref da_readBody, .ref da_body, .ref da_readMany, .ref da_many, .ref da_without, .ref da_did, .ref da_done, .ref da_bed, .int d_now, .int d_mindAt, .int d_way, .int d_harm, .int d_worth, .int d_passes, .int d_passings, .int d_spots, .int d_images, .ref da_passing, .ref da_spot, .ref da_kept, .ref da_aside, .int d_spare, .ref da_ran, .ref da_who, .ref da_cap, .ref da_w, .ref da_laid, .int d_whoMany, .int d_drifted, .int d_seed, .ref da_cries, .ref da_holds, .ref da_came, .ref da_least, .ref da_firstTo, .int d_steps, .int d_roundFrom, .int d_roundMany, .int d_numberAt])), (da_many, .inl (cy 0, 5, .inl df_many)), (da_spot, .inl (cy 5, 6, .inr (.inr (.inr (.inr (fun i => if i < 6 then some (da_spot + 1 + i) else none)))))), ((da_spot + 1 + 0), .inl (cy 0, 2, .inl ((dF_spot 0)))), ((da_spot + 1 + 1), .inl (cy 0, 2, .inl ((dF_spot 1)))), ((da_spot + 1 + 2), .inl (cy 0, 2, .inl ((dF_spot 2)))), ((da_spot + 1 + 3), .inl (cy 0, 2, .inl ((dF_spot 3)))), ((da_spot + 1 + 4), .inl (cy 0, 2, .inl ((dF_spot 4)))), ((da_spot + 1 + 5), .inl (cy 0, 2, .inl ((dF_spot 5))))] H := hP
                    have hD : va_D A [(da, .inr (13, [.int d_thrown, .int d_tape, .int d_size, .int d_place, .int d_at, .int d_fault, .int d_faultAt, .int d_clauses, .ref da_fed, .ref da_readBody, .ref da_body, .ref da_readMany, .ref da_many, .ref da_without, .ref da_did, .ref da_done, .ref da_bed, .int d_now, .int d_mindAt, .int d_way, .int d_harm, .int d_worth, .int d_passes, .int d_passings, .int d_spots, .int d_images, .ref da_passing, .ref da_spot, .ref da_kept, .ref da_aside, .int d_spare, .ref da_ran, .ref da_who, .ref da_cap, .ref da_w, .ref da_laid, .int d_whoMany, .int d_drifted, .int d_seed, .ref da_cries, .ref da_holds, .ref da_came, .ref da_least, .ref da_firstTo, .int d_steps, .int d_roundFrom, .int d_roundMany, .int d_numberAt])), (da_many, .inl (cy 0, 5, .inl df_many)), (da_spot, .inl (cy 5, 6, .inr (.inr (.inr (.inr (fun i => if i < 6 then some (da_spot + 1 + i) else none)))))), ((da_spot + 1 + 0), .inl (cy 0, 2, .inl ((dF_spot 0)))), ((da_spot + 1 + 1), .inl (cy 0, 2, .inl ((dF_spot 1)))), ((da_spot + 1 + 2), .inl (cy 0, 2, .inl ((dF_spot 2)))), ((da_spot + 1 + 3), .inl (cy 0, 2, .inl ((dF_spot 3)))), ((da_spot + 1 + 4), .inl (cy 0, 2, .inl ((dF_spot 4)))), ((da_spot + 1 + 5), .inl (cy 0, 2, .inl ((dF_spot 5))))] := hD
                    have p211q := hwu210q
                    refine lv_iadd hx hb dX12_roundOf_75 ?_
                    refine lv_topi (fun x212q ex212q => ?_)
                    have rx212q := n_add ex212q (a := x199q.toInt) (b := r209q.toInt) rfl rfl (by omega) (by omega)
                    refine lv_istore (lv' := [(4, .int x212q), (3, .int x208q), (8, .int x202q), (7, .int 6), (6, .int x189q), (5, .int x160q), (0, .ref da), (1, .int v0), (2, .int 7776)]) hx hb dX12_roundOf_76 hl (by decide) rfl (fun ls hl => ?_)
                    refine lv_iload hx hb dX12_roundOf_78 (lv_at hl 2 rfl) ?_
                    refine lv_istore (lv' := [(6, .int x202q), (4, .int x212q), (3, .int x208q), (8, .int x202q), (7, .int 6), (5, .int x160q), (0, .ref da), (1, .int v0), (2, .int 7776)]) hx hb dX12_roundOf_80 hl (by decide) rfl (fun ls hl => ?_)
                    refine lv_iload hx hb dX12_roundOf_82 (lv_at hl 4 rfl) ?_
                    refine lv_bipush (v := 6) hx hb dX12_roundOf_84 (by decide) ?_
                    refine lv_idiv hx hb dX12_roundOf_86 (by decide) ?_
                    refine lv_topi (fun x213q ex213q => ?_)
                    obtain rfl : x213q = 1 := ex213q.trans (by decide)
                    refine lv_istore (lv' := [(7, .int 1), (6, .int x202q), (4, .int x212q), (3, .int x208q), (8, .int x202q), (5, .int x160q), (0, .ref da), (1, .int v0), (2, .int 7776)]) hx hb dX12_roundOf_87 hl (by decide) rfl (fun ls hl => ?_)
                    refine lv_goto (tgt := 23) hx hb dX12_roundOf_89 (by decide) ?_
                    refine lv_iload hx hb dX12_roundOf_23 (lv_at hl 0 rfl) ?_
                    refine lv_if_le (tgt := 92) hx hb dX12_roundOf_25 (by decide) (fun h => absurd h (by decide)) (fun _ => ?_)
                    refine lv_iload_n hx hb dX12_roundOf_28 rfl (lv_at hl 7 rfl) ?_
                    refine lv_iload hx hb dX12_roundOf_29 (lv_at hl 0 rfl) ?_
                    refine lv_idiv hx hb dX12_roundOf_31 (by decide) ?_
                    refine lv_topi (fun x214q ex214q => ?_)
                    have rx214q := n_div ex214q (a := v0.toInt) (b := 1) rfl n_L1 (by omega) (by omega)
                    refine lv_bipush (v := 6) hx hb dX12_roundOf_32 (by decide) ?_
                    refine lv_irem hx hb dX12_roundOf_34 (by decide) ?_
                    refine lv_topi (fun x215q ex215q => ?_)
                    have rx215q := n_mod ex215q (a := x214q.toInt) (b := 6) rfl n_L6 (by omega) (by omega)
                    refine lv_istore (lv' := [(8, .int x215q), (7, .int 1), (6, .int x202q), (4, .int x212q), (3, .int x208q), (5, .int x160q), (0, .ref da), (1, .int v0), (2, .int 7776)]) hx hb dX12_roundOf_35 hl (by decide) rfl (fun ls hl => ?_)
                    refine lv_iload hx hb dX12_roundOf_37 (lv_at hl 0 rfl) ?_
                    refine lv_aload_n hx hb dX12_roundOf_39 rfl (lv_at hl 6 rfl) ?_
                    refine va_get (D := D) (ci := 13) (v := .int d_spots) (C := RX12) (T := TX12) (N := 48) hx hb hts kin_RX12 hown hG.1 hP 0 rfl rfl 24 (by decide) (hts _ wm_1543) (fun _ h9 => h9) rfl dX12_roundOf_40 ?_
                    refine lv_icmp_ge (tgt := 56) hx hb dX12_roundOf_43 (by decide) (fun c216q => ?_) (fun c216q => ?_)
                    · simp only [k_lt, k_le, k_eq, ne_eq, ge_iff_le, gt_iff_lt] at c216q
                      refine lv_iconst (v := (-1)) hx hb dX12_roundOf_56 (by decide) ?_
                      rw [hQ0]
                      exact k_iret () hx hb hr hlk (trivial) (hP.sub [0, 1, 2, 3, 4, 5, 6, 7, 8] rfl) (hD.sub [0, 1, 2, 3, 4, 5, 6, 7, 8] (by decide) rfl) hS (by decide) (by decide) dX12_roundOf_57
                    · simp only [k_lt, k_le, k_eq, ne_eq, ge_iff_le, gt_iff_lt] at c216q
                      refine lv_iload_n hx hb dX12_roundOf_46 rfl (lv_at hl 4 rfl) ?_
                      refine lv_iload hx hb dX12_roundOf_47 (lv_at hl 0 rfl) ?_
                      refine lv_ishr hx hb dX12_roundOf_49 ?_
                      refine lv_topi (fun x217q ex217q => ?_)
                      refine lv_iconst (v := 1) hx hb dX12_roundOf_50 (by decide) ?_
                      refine lv_iand hx hb dX12_roundOf_51 ?_
                      refine lv_topi (fun x218q ex218q => ?_)
                      have rx218q := n_and ex218q (b := 1) n_L1 (by omega)
                      refine lv_iconst (v := 1) hx hb dX12_roundOf_52 (by decide) ?_
                      refine lv_icmp_ne (tgt := 58) hx hb dX12_roundOf_53 (by decide) (fun c219q => ?_) (fun c219q => ?_)
                      · simp only [k_lt, k_le, k_eq, ne_eq, ge_iff_le, gt_iff_lt, n_L1] at c219q
                        refine lv_iload_n hx hb dX12_roundOf_58 rfl (lv_at hl 4 rfl) ?_
                        refine lv_iconst (v := 1) hx hb dX12_roundOf_59 (by decide) ?_
                        refine lv_iload hx hb dX12_roundOf_60 (lv_at hl 0 rfl) ?_
                        refine lv_ishl hx hb dX12_roundOf_62 ?_
                        refine lv_topi (fun x220q ex220q => ?_)
                        refine lv_ior hx hb dX12_roundOf_63 ?_
                        refine lv_topi (fun x221q ex221q => ?_)
                        refine lv_istore_n (lv' := [(3, .int x221q), (8, .int x215q), (7, .int 1), (6, .int x202q), (4, .int x212q), (5, .int x160q), (0, .ref da), (1, .int v0), (2, .int 7776)]) hx hb dX12_roundOf_64 rfl hl (by decide) rfl (fun ls hl => ?_)
                        refine lv_iload hx hb dX12_roundOf_65 (lv_at hl 4 rfl) ?_
                        refine lv_aload_n hx hb dX12_roundOf_67 rfl (lv_at hl 6 rfl) ?_
                        refine lv_iload hx hb dX12_roundOf_68 (lv_at hl 3 rfl) ?_
                        refine lv_iload hx hb dX12_roundOf_70 (lv_at hl 1 rfl) ?_
                        refine k_cali [] (⟨hP, hD, hG, hS, hA, rfl, rfl⟩ : kAt D cy sa A s H _ _ [(da, .inr (13, [.int d_thrown, .int d_tape, .int d_size, .int d_place, .int d_at, .int d_fault, .int d_faultAt, .int d_clauses, .ref da_fed, .ref da_readBody, .ref da_body, .ref da_readMany, .ref da_many, .ref da_without, .ref da_did, .ref da_done, .ref da_bed, .int d_now, .int d_mindAt, .int d_way, .int d_harm, .int d_worth, .int d_passes, .int d_passings, .int d_spots, .int d_images, .ref da_passing, .ref da_spot, .ref da_kept, .ref da_aside, .int d_spare, .ref da_ran, .ref da_who, .ref da_cap, .ref da_w, .ref da_laid, .int d_whoMany, .int d_drifted, .int d_seed, .ref da_cries, .ref da_holds, .ref da_came, .ref da_least, .ref da_firstTo, .int d_steps, .int d_roundFrom, .int d_roundMany, .int d_numberAt])), (da_many, .inl (cy 0, 5, .inl df_many)), (da_spot, .inl (cy 5, 6, .inr (.inr (.inr (.inr (fun i => if i < 6 then some (da_spot + 1 + i) else none)))))), ((da_spot + 1 + 0), .inl (cy 0, 2, .inl ((dF_spot 0)))), ((da_spot + 1 + 1), .inl (cy 0, 2, .inl ((dF_spot 1)))), ((da_spot + 1 + 2), .inl (cy 0, 2, .inl ((dF_spot 2)))), ((da_spot + 1 + 3), .inl (cy 0, 2, .inl ((dF_spot 3)))), ((da_spot + 1 + 4), .inl (cy 0, 2, .inl ((dF_spot 4)))), ((da_spot + 1 + 5), .inl (cy 0, 2, .inl ((dF_spot 5))))] [0, 1, 2, 3, 4, 5, 6, 7, 8]) (wr := []) rfl rfl (by decide) (k_runV 13 0 (As := [.int x202q, .int x215q]) (rest := [.int x212q]) E lk_VRX12_343 rfl rfl rfl (m_between l hl0 D cy sa da da_fed da_readBody da_body da_readMany da_many da_without da_did da_done da_bed da_passing da_spot da_kept da_aside da_ran da_who da_cap da_w da_laid da_cries da_holds da_came da_least da_firstTo d_thrown d_tape d_size d_place d_at d_fault d_faultAt d_clauses d_now d_mindAt d_way d_harm d_worth d_passes d_passings d_spots d_images d_spare d_whoMany d_drifted d_seed d_steps d_roundFrom d_roundMany d_numberAt x202q x215q df_many dF_spot ⟨by omega, by omega⟩ ⟨by omega, by omega⟩ ⟨by omega, by omega⟩ ⟨by omega, by omega⟩ ⟨by omega, by omega⟩ ⟨by omega, by omega⟩ ⟨by omega, by omega⟩ ⟨by omega, by omega⟩ ⟨by omega, by omega⟩ ⟨by omega, by omega⟩ (by assumption) (by assumption) (by assumption) ⟨by omega, by omega⟩ ⟨by omega, by omega⟩ (by omega) H.size) (⟨hP, hD, hG, hS, hA, rfl, rfl⟩ : kAt D cy sa A s H _ _ [(da, .inr (13, [.int d_thrown, .int d_tape, .int d_size, .int d_place, .int d_at, .int d_fault, .int d_faultAt, .int d_clauses, .ref da_fed, .ref da_readBody, .ref da_body, .ref da_readMany, .ref da_many, .ref da_without, .ref da_did, .ref da_done, .ref da_bed, .int d_now, .int d_mindAt, .int d_way, .int d_harm, .int d_worth, .int d_passes, .int d_passings, .int d_spots, .int d_images, .ref da_passing, .ref da_spot, .ref da_kept, .ref da_aside, .int d_spare, .ref da_ran, .ref da_who, .ref da_cap, .ref da_w, .ref da_laid, .int d_whoMany, .int d_drifted, .int d_seed, .ref da_cries, .ref da_holds, .ref da_came, .ref da_least, .ref da_firstTo, .int d_steps, .int d_roundFrom, .int d_roundMany, .int d_numberAt])), (da_many, .inl (cy 0, 5, .inl df_many)), (da_spot, .inl (cy 5, 6, .inr (.inr (.inr (.inr (fun i => if i < 6 then some (da_spot + 1 + i) else none)))))), ((da_spot + 1 + 0), .inl (cy 0, 2, .inl ((dF_spot 0)))), ((da_spot + 1 + 1), .inl (cy 0, 2, .inl ((dF_spot 1)))), ((da_spot + 1 + 2), .inl (cy 0, 2, .inl ((dF_spot 2)))), ((da_spot + 1 + 3), .inl (cy 0, 2, .inl ((dF_spot 3)))), ((da_spot + 1 + 4), .inl (cy 0, 2, .inl ((dF_spot 4)))), ((da_spot + 1 + 5), .inl (cy 0, 2, .inl ((dF_spot 5))))] [0, 1, 2, 3, 4, 5, 6, 7, 8]) hl.1 rfl rfl ⟨rfl, rfl, ⟨Nat.le_of_ble_eq_true rfl, Nat.le_of_ble_eq_true rfl⟩, ⟨Nat.le_of_ble_eq_true rfl, Nat.le_of_ble_eq_true rfl⟩, Nat.le_of_ble_eq_true rfl⟩ dX12_roundOf_72) (fun r222q u223q H locs hwu223q hP hD hS => ?_)
                        have hP : va_P D vwCl [(da, .inr (13, [.int d_thrown, .int d_tape, .int d_size, .int d_place, .int d_at, .int d_fault, .int d_faultAt, .int d_clauses, .ref da_fed, .ref da_readBody, .ref da_body, .ref da_readMany, .ref da_many, .ref da_without, .ref da_did, .ref da_done, .ref da_bed, .int d_now, .int d_mindAt, .int d_way, .int d_harm, .int d_worth, .int d_passes, .int d_passings, .int d_spots, .int d_images, .ref da_passing, .ref da_spot, .ref da_kept, .ref da_aside, .int d_spare, .ref da_ran, .ref da_who, .ref da_cap, .ref da_w, .ref da_laid, .int d_whoMany, .int d_drifted, .int d_seed, .ref da_cries, .ref da_holds, .ref da_came, .ref da_least, .ref da_firstTo, .int d_steps, .int d_roundFrom, .int d_roundMany, .int d_numberAt])), (da_many, .inl (cy 0, 5, .inl df_many)), (da_spot, .inl (cy 5, 6, .inr (.inr (.inr (.inr (fun i => if i < 6 then some (da_spot + 1 + i) else none)))))), ((da_spot + 1 + 0), .inl (cy 0, 2, .inl ((dF_spot 0)))), ((da_spot + 1 + 1), .inl (cy 0, 2, .inl ((dF_spot 1)))), ((da_spot + 1 + 2), .inl (cy 0, 2, .inl ((dF_spot 2)))), ((da_spot + 1 + 3), .inl (cy 0, 2, .inl ((dF_spot 3)))), ((da_spot + 1 + 4), .inl (cy 0, 2, .inl ((dF_spot 4)))), ((da_spot + 1 + 5), .inl (cy 0, 2, .inl ((dF_spot 5))))] H := hP
                        have hD : va_D A [(da, .inr (13, [.int d_thrown, .int d_tape, .int d_size, .int d_place, .int d_at, .int d_fault, .int d_faultAt, .int d_clauses, .ref da_fed, .ref da_readBody, .ref da_body, .ref da_readMany, .ref da_many, .ref da_without, .ref da_did, .ref da_done, .ref da_bed, .int d_now, .int d_mindAt, .int d_way, .int d_harm, .int d_worth, .int d_passes, .int d_passings, .int d_spots, .int d_images, .ref da_passing, .ref da_spot, .ref da_kept, .ref da_aside, .int d_spare, .ref da_ran, .ref da_who, .ref da_cap, .ref da_w, .ref da_laid, .int d_whoMany, .int d_drifted, .int d_seed, .ref da_cries, .ref da_holds, .ref da_came, .ref da_least, .ref da_firstTo, .int d_steps, .int d_roundFrom, .int d_roundMany, .int d_numberAt])), (da_many, .inl (cy 0, 5, .inl df_many)), (da_spot, .inl (cy 5, 6, .inr (.inr (.inr (.inr (fun i => if i < 6 then some (da_spot + 1 + i) else none)))))), ((da_spot + 1 + 0), .inl (cy 0, 2, .inl ((dF_spot 0)))), ((da_spot + 1 + 1), .inl (cy 0, 2, .inl ((dF_spot 1)))), ((da_spot + 1 + 2), .inl (cy 0, 2, .inl ((dF_spot 2)))), ((da_spot + 1 + 3), .inl (cy 0, 2, .inl ((dF_spot 3)))), ((da_spot + 1 + 4), .inl (cy 0, 2, .inl ((dF_spot 4)))), ((da_spot + 1 + 5), .inl (cy 0, 2, .inl ((dF_spot 5))))] := hD
                        have p224q := hwu223q
                        refine lv_iadd hx hb dX12_roundOf_75 ?_
                        refine lv_topi (fun x225q ex225q => ?_)
                        have rx225q := n_add ex225q (a := x212q.toInt) (b := r222q.toInt) rfl rfl (by omega) (by omega)
                        refine lv_istore (lv' := [(4, .int x225q), (3, .int x221q), (8, .int x215q), (7, .int 1), (6, .int x202q), (5, .int x160q), (0, .ref da), (1, .int v0), (2, .int 7776)]) hx hb dX12_roundOf_76 hl (by decide) rfl (fun ls hl => ?_)
                        refine lv_iload hx hb dX12_roundOf_78 (lv_at hl 2 rfl) ?_
                        refine lv_istore (lv' := [(6, .int x215q), (4, .int x225q), (3, .int x221q), (8, .int x215q), (7, .int 1), (5, .int x160q), (0, .ref da), (1, .int v0), (2, .int 7776)]) hx hb dX12_roundOf_80 hl (by decide) rfl (fun ls hl => ?_)
                        refine lv_iload hx hb dX12_roundOf_82 (lv_at hl 4 rfl) ?_
                        refine lv_bipush (v := 6) hx hb dX12_roundOf_84 (by decide) ?_
                        refine lv_idiv hx hb dX12_roundOf_86 (by decide) ?_
                        refine lv_topi (fun x226q ex226q => ?_)
                        obtain rfl : x226q = 0 := ex226q.trans (by decide)
                        refine lv_istore (lv' := [(7, .int 0), (6, .int x215q), (4, .int x225q), (3, .int x221q), (8, .int x215q), (5, .int x160q), (0, .ref da), (1, .int v0), (2, .int 7776)]) hx hb dX12_roundOf_87 hl (by decide) rfl (fun ls hl => ?_)
                        refine lv_goto (tgt := 23) hx hb dX12_roundOf_89 (by decide) ?_
                        refine lv_iload hx hb dX12_roundOf_23 (lv_at hl 0 rfl) ?_
                        refine lv_if_le (tgt := 92) hx hb dX12_roundOf_25 (by decide) (fun _ => ?_) (fun h => absurd (by decide) h)
                        refine lv_iload hx hb dX12_roundOf_92 (lv_at hl 2 rfl) ?_
                        refine lv_aload_n hx hb dX12_roundOf_94 rfl (lv_at hl 6 rfl) ?_
                        refine lv_iload hx hb dX12_roundOf_95 (lv_at hl 1 rfl) ?_
                        refine lv_iload hx hb dX12_roundOf_97 (lv_at hl 5 rfl) ?_
                        refine k_cali [] (⟨hP, hD, hG, hS, hA, rfl, rfl⟩ : kAt D cy sa A s H _ _ [(da, .inr (13, [.int d_thrown, .int d_tape, .int d_size, .int d_place, .int d_at, .int d_fault, .int d_faultAt, .int d_clauses, .ref da_fed, .ref da_readBody, .ref da_body, .ref da_readMany, .ref da_many, .ref da_without, .ref da_did, .ref da_done, .ref da_bed, .int d_now, .int d_mindAt, .int d_way, .int d_harm, .int d_worth, .int d_passes, .int d_passings, .int d_spots, .int d_images, .ref da_passing, .ref da_spot, .ref da_kept, .ref da_aside, .int d_spare, .ref da_ran, .ref da_who, .ref da_cap, .ref da_w, .ref da_laid, .int d_whoMany, .int d_drifted, .int d_seed, .ref da_cries, .ref da_holds, .ref da_came, .ref da_least, .ref da_firstTo, .int d_steps, .int d_roundFrom, .int d_roundMany, .int d_numberAt])), (da_many, .inl (cy 0, 5, .inl df_many)), (da_spot, .inl (cy 5, 6, .inr (.inr (.inr (.inr (fun i => if i < 6 then some (da_spot + 1 + i) else none)))))), ((da_spot + 1 + 0), .inl (cy 0, 2, .inl ((dF_spot 0)))), ((da_spot + 1 + 1), .inl (cy 0, 2, .inl ((dF_spot 1)))), ((da_spot + 1 + 2), .inl (cy 0, 2, .inl ((dF_spot 2)))), ((da_spot + 1 + 3), .inl (cy 0, 2, .inl ((dF_spot 3)))), ((da_spot + 1 + 4), .inl (cy 0, 2, .inl ((dF_spot 4)))), ((da_spot + 1 + 5), .inl (cy 0, 2, .inl ((dF_spot 5))))] [0, 1, 2, 3, 4, 5, 6, 7, 8]) (wr := []) rfl rfl (by decide) (k_runV 13 0 (As := [.int x215q, .int x160q]) (rest := [.int x225q]) E lk_VRX12_343 rfl rfl rfl (m_between l hl0 D cy sa da da_fed da_readBody da_body da_readMany da_many da_without da_did da_done da_bed da_passing da_spot da_kept da_aside da_ran da_who da_cap da_w da_laid da_cries da_holds da_came da_least da_firstTo d_thrown d_tape d_size d_place d_at d_fault d_faultAt d_clauses d_now d_mindAt d_way d_harm d_worth d_passes d_passings d_spots d_images d_spare d_whoMany d_drifted d_seed d_steps d_roundFrom d_roundMany d_numberAt x215q x160q df_many dF_spot ⟨by omega, by omega⟩ ⟨by omega, by omega⟩ ⟨by omega, by omega⟩ ⟨by omega, by omega⟩ ⟨by omega, by omega⟩ ⟨by omega, by omega⟩ ⟨by omega, by omega⟩ ⟨by omega, by omega⟩ ⟨by omega, by omega⟩ ⟨by omega, by omega⟩ (by assumption) (by assumption) (by assumption) ⟨by omega, by omega⟩ ⟨by omega, by omega⟩ (by omega) H.size) (⟨hP, hD, hG, hS, hA, rfl, rfl⟩ : kAt D cy sa A s H _ _ [(da, .inr (13, [.int d_thrown, .int d_tape, .int d_size, .int d_place, .int d_at, .int d_fault, .int d_faultAt, .int d_clauses, .ref da_fed, .ref da_readBody, .ref da_body, .ref da_readMany, .ref da_many, .ref da_without, .ref da_did, .ref da_done, .ref da_bed, .int d_now, .int d_mindAt, .int d_way, .int d_harm, .int d_worth, .int d_passes, .int d_passings, .int d_spots, .int d_images, .ref da_passing, .ref da_spot, .ref da_kept, .ref da_aside, .int d_spare, .ref da_ran, .ref da_who, .ref da_cap, .ref da_w, .ref da_laid, .int d_whoMany, .int d_drifted, .int d_seed, .ref da_cries, .ref da_holds, .ref da_came, .ref da_least, .ref da_firstTo, .int d_steps, .int d_roundFrom, .int d_roundMany, .int d_numberAt])), (da_many, .inl (cy 0, 5, .inl df_many)), (da_spot, .inl (cy 5, 6, .inr (.inr (.inr (.inr (fun i => if i < 6 then some (da_spot + 1 + i) else none)))))), ((da_spot + 1 + 0), .inl (cy 0, 2, .inl ((dF_spot 0)))), ((da_spot + 1 + 1), .inl (cy 0, 2, .inl ((dF_spot 1)))), ((da_spot + 1 + 2), .inl (cy 0, 2, .inl ((dF_spot 2)))), ((da_spot + 1 + 3), .inl (cy 0, 2, .inl ((dF_spot 3)))), ((da_spot + 1 + 4), .inl (cy 0, 2, .inl ((dF_spot 4)))), ((da_spot + 1 + 5), .inl (cy 0, 2, .inl ((dF_spot 5))))] [0, 1, 2, 3, 4, 5, 6, 7, 8]) hl.1 rfl rfl ⟨rfl, rfl, ⟨Nat.le_of_ble_eq_true rfl, Nat.le_of_ble_eq_true rfl⟩, ⟨Nat.le_of_ble_eq_true rfl, Nat.le_of_ble_eq_true rfl⟩, Nat.le_of_ble_eq_true rfl⟩ dX12_roundOf_99) (fun r227q u228q H locs hwu228q hP hD hS => ?_)
                        have hP : va_P D vwCl [(da, .inr (13, [.int d_thrown, .int d_tape, .int d_size, .int d_place, .int d_at, .int d_fault, .int d_faultAt, .int d_clauses, .ref da_fed, .ref da_readBody, .ref da_body, .ref da_readMany, .ref da_many, .ref da_without, .ref da_did, .ref da_done, .ref da_bed, .int d_now, .int d_mindAt, .int d_way, .int d_harm, .int d_worth, .int d_passes, .int d_passings, .int d_spots, .int d_images, .ref da_passing, .ref da_spot, .ref da_kept, .ref da_aside, .int d_spare, .ref da_ran, .ref da_who, .ref da_cap, .ref da_w, .ref da_laid, .int d_whoMany, .int d_drifted, .int d_seed, .ref da_cries, .ref da_holds, .ref da_came, .ref da_least, .ref da_firstTo, .int d_steps, .int d_roundFrom, .int d_roundMany, .int d_numberAt])), (da_many, .inl (cy 0, 5, .inl df_many)), (da_spot, .inl (cy 5, 6, .inr (.inr (.inr (.inr (fun i => if i < 6 then some (da_spot + 1 + i) else none)))))), ((da_spot + 1 + 0), .inl (cy 0, 2, .inl ((dF_spot 0)))), ((da_spot + 1 + 1), .inl (cy 0, 2, .inl ((dF_spot 1)))), ((da_spot + 1 + 2), .inl (cy 0, 2, .inl ((dF_spot 2)))), ((da_spot + 1 + 3), .inl (cy 0, 2, .inl ((dF_spot 3)))), ((da_spot + 1 + 4), .inl (cy 0, 2, .inl ((dF_spot 4)))), ((da_spot + 1 + 5), .inl (cy 0, 2, .inl ((dF_spot 5))))] H := hP
                        have hD : va_D A [(da, .inr (13, [.int d_thrown, .int d_tape, .int d_size, .int d_place, .int d_at, .int d_fault, .int d_faultAt, .int d_clauses, .ref da_fed, .ref da_readBody, .ref da_body, .ref da_readMany, .ref da_many, .ref da_without, .ref da_did, .ref da_done, .ref da_bed, .int d_now, .int d_mindAt, .int d_way, .int d_harm, .int d_worth, .int d_passes, .int d_passings, .int d_spots, .int d_images, .ref da_passing, .ref da_spot, .ref da_kept, .ref da_aside, .int d_spare, .ref da_ran, .ref da_who, .ref da_cap, .ref da_w, .ref da_laid, .int d_whoMany, .int d_drifted, .int d_seed, .ref da_cries, .ref da_holds, .ref da_came, .ref da_least, .ref da_firstTo, .int d_steps, .int d_roundFrom, .int d_roundMany, .int d_numberAt])), (da_many, .inl (cy 0, 5, .inl df_many)), (da_spot, .inl (cy 5, 6, .inr (.inr (.inr (.inr (fun i => if i < 6 then some (da_spot + 1 + i) else none)))))), ((da_spot + 1 + 0), .inl (cy 0, 2, .inl ((dF_spot 0)))), ((da_spot + 1 + 1), .inl (cy 0, 2, .inl ((dF_spot 1)))), ((da_spot + 1 + 2), .inl (cy 0, 2, .inl ((dF_spot 2)))), ((da_spot + 1 + 3), .inl (cy 0, 2, .inl ((dF_spot 3)))), ((da_spot + 1 + 4), .inl (cy 0, 2, .inl ((dF_spot 4)))), ((da_spot + 1 + 5), .inl (cy 0, 2, .inl ((dF_spot 5))))] := hD
                        have p229q := hwu228q
                        refine lv_iadd hx hb dX12_roundOf_102 ?_
                        refine lv_topi (fun x230q ex230q => ?_)
                        have rx230q := n_add ex230q (a := x225q.toInt) (b := r227q.toInt) rfl rfl (by omega) (by omega)
                        rw [hQ0]
                        exact k_iret () hx hb hr hlk (trivial) (hP.sub [0, 1, 2, 3, 4, 5, 6, 7, 8] rfl) (hD.sub [0, 1, 2, 3, 4, 5, 6, 7, 8] (by decide) rfl) hS (by decide) (by decide) dX12_roundOf_103
                      · simp only [k_lt, k_le, k_eq, ne_eq, ge_iff_le, gt_iff_lt, n_L1] at c219q
                        refine lv_iconst (v := (-1)) hx hb dX12_roundOf_56 (by decide) ?_
                        rw [hQ0]
                        exact k_iret () hx hb hr hlk (trivial) (hP.sub [0, 1, 2, 3, 4, 5, 6, 7, 8] rfl) (hD.sub [0, 1, 2, 3, 4, 5, 6, 7, 8] (by decide) rfl) hS (by decide) (by decide) dX12_roundOf_57
                  · simp only [k_lt, k_le, k_eq, ne_eq, ge_iff_le, gt_iff_lt, n_L1] at c206q
                    refine lv_iconst (v := (-1)) hx hb dX12_roundOf_56 (by decide) ?_
                    rw [hQ0]
                    exact k_iret () hx hb hr hlk (trivial) (hP.sub [0, 1, 2, 3, 4, 5, 6, 7, 8] rfl) (hD.sub [0, 1, 2, 3, 4, 5, 6, 7, 8] (by decide) rfl) hS (by decide) (by decide) dX12_roundOf_57
              · simp only [k_lt, k_le, k_eq, ne_eq, ge_iff_le, gt_iff_lt, n_L1] at c193q
                refine lv_iconst (v := (-1)) hx hb dX12_roundOf_56 (by decide) ?_
                rw [hQ0]
                exact k_iret () hx hb hr hlk (trivial) (hP.sub [0, 1, 2, 3, 4, 5, 6, 7, 8] rfl) (hD.sub [0, 1, 2, 3, 4, 5, 6, 7, 8] (by decide) rfl) hS (by decide) (by decide) dX12_roundOf_57
          · simp only [k_lt, k_le, k_eq, ne_eq, ge_iff_le, gt_iff_lt, n_L1] at c180q
            refine lv_iconst (v := (-1)) hx hb dX12_roundOf_56 (by decide) ?_
            rw [hQ0]
            exact k_iret () hx hb hr hlk (trivial) (hP.sub [0, 1, 2, 3, 4, 5, 6, 7, 8] rfl) (hD.sub [0, 1, 2, 3, 4, 5, 6, 7, 8] (by decide) rfl) hS (by decide) (by decide) dX12_roundOf_57
      · simp only [k_lt, k_le, k_eq, ne_eq, ge_iff_le, gt_iff_lt, n_L1] at c167q
        refine lv_iconst (v := (-1)) hx hb dX12_roundOf_56 (by decide) ?_
        rw [hQ0]
        exact k_iret () hx hb hr hlk (trivial) (hP.sub [0, 1, 2, 3, 4, 5, 6, 7, 8] rfl) (hD.sub [0, 1, 2, 3, 4, 5, 6, 7, 8] (by decide) rfl) hS (by decide) (by decide) dX12_roundOf_57
  · obtain rfl : a0 = 46656 := Int32.toInt_inj.mp (h9.trans (by decide))
    refine lv_iconst (v := 0) hx hb dX12_roundOf_0 (by decide) ?_
    refine lv_istore_n (lv' := [(3, .int 0), (0, .ref da), (1, .int v0), (2, .int 46656)]) hx hb dX12_roundOf_1 rfl hl (by decide) rfl (fun ls hl => ?_)
    refine lv_iconst (v := 0) hx hb dX12_roundOf_2 (by decide) ?_
    refine lv_istore (lv' := [(4, .int 0), (3, .int 0), (0, .ref da), (1, .int v0), (2, .int 46656)]) hx hb dX12_roundOf_3 hl (by decide) rfl (fun ls hl => ?_)
    refine lv_iload_n hx hb dX12_roundOf_5 rfl (lv_at hl 3 rfl) ?_
    refine lv_iload_n hx hb dX12_roundOf_6 rfl (lv_at hl 4 rfl) ?_
    refine lv_bipush (v := 6) hx hb dX12_roundOf_7 (by decide) ?_
    refine lv_idiv hx hb dX12_roundOf_9 (by decide) ?_
    refine lv_topi (fun x231q ex231q => ?_)
    obtain rfl : x231q = 7776 := ex231q.trans (by decide)
    refine lv_idiv hx hb dX12_roundOf_10 (by decide) ?_
    refine lv_topi (fun x232q ex232q => ?_)
    have rx232q := n_div ex232q (a := v0.toInt) (b := 7776) rfl n_L7776 (by omega) (by omega)
    refine lv_istore (lv' := [(5, .int x232q), (4, .int 0), (3, .int 0), (0, .ref da), (1, .int v0), (2, .int 46656)]) hx hb dX12_roundOf_11 hl (by decide) rfl (fun ls hl => ?_)
    refine lv_iload hx hb dX12_roundOf_13 (lv_at hl 0 rfl) ?_
    refine lv_istore (lv' := [(6, .int x232q), (5, .int x232q), (4, .int 0), (3, .int 0), (0, .ref da), (1, .int v0), (2, .int 46656)]) hx hb dX12_roundOf_15 hl (by decide) rfl (fun ls hl => ?_)
    refine lv_iload_n hx hb dX12_roundOf_17 rfl (lv_at hl 6 rfl) ?_
    refine lv_bipush (v := 6) hx hb dX12_roundOf_18 (by decide) ?_
    refine lv_idiv hx hb dX12_roundOf_20 (by decide) ?_
    refine lv_topi (fun x233q ex233q => ?_)
    obtain rfl : x233q = 7776 := ex233q.trans (by decide)
    refine lv_istore (lv' := [(7, .int 7776), (6, .int x232q), (5, .int x232q), (4, .int 0), (3, .int 0), (0, .ref da), (1, .int v0), (2, .int 46656)]) hx hb dX12_roundOf_21 hl (by decide) rfl (fun ls hl => ?_)
    refine lv_iload hx hb dX12_roundOf_23 (lv_at hl 0 rfl) ?_
    refine lv_if_le (tgt := 92) hx hb dX12_roundOf_25 (by decide) (fun h => absurd h (by decide)) (fun _ => ?_)
    refine lv_iload_n hx hb dX12_roundOf_28 rfl (lv_at hl 6 rfl) ?_
    refine lv_iload hx hb dX12_roundOf_29 (lv_at hl 0 rfl) ?_
    refine lv_idiv hx hb dX12_roundOf_31 (by decide) ?_
    refine lv_topi (fun x234q ex234q => ?_)
    have rx234q := n_div ex234q (a := v0.toInt) (b := 7776) rfl n_L7776 (by omega) (by omega)
    refine lv_bipush (v := 6) hx hb dX12_roundOf_32 (by decide) ?_
    refine lv_irem hx hb dX12_roundOf_34 (by decide) ?_
    refine lv_topi (fun x235q ex235q => ?_)
    have rx235q := n_mod ex235q (a := x234q.toInt) (b := 6) rfl n_L6 (by omega) (by omega)
    refine lv_istore (lv' := [(8, .int x235q), (7, .int 7776), (6, .int x232q), (5, .int x232q), (4, .int 0), (3, .int 0), (0, .ref da), (1, .int v0), (2, .int 46656)]) hx hb dX12_roundOf_35 hl (by decide) rfl (fun ls hl => ?_)
    refine lv_iload hx hb dX12_roundOf_37 (lv_at hl 0 rfl) ?_
    refine lv_aload_n hx hb dX12_roundOf_39 rfl (lv_at hl 6 rfl) ?_
    refine va_get (D := D) (ci := 13) (v := .int d_spots) (C := RX12) (T := TX12) (N := 48) hx hb hts kin_RX12 hown hG.1 hP 0 rfl rfl 24 (by decide) (hts _ wm_1543) (fun _ h9 => h9) rfl dX12_roundOf_40 ?_
    refine lv_icmp_ge (tgt := 56) hx hb dX12_roundOf_43 (by decide) (fun c236q => ?_) (fun c236q => ?_)
    · simp only [k_lt, k_le, k_eq, ne_eq, ge_iff_le, gt_iff_lt] at c236q
      refine lv_iconst (v := (-1)) hx hb dX12_roundOf_56 (by decide) ?_
      rw [hQ0]
      exact k_iret () hx hb hr hlk (trivial) (hP.sub [0, 1, 2, 3, 4, 5, 6, 7, 8] rfl) (hD.sub [0, 1, 2, 3, 4, 5, 6, 7, 8] (by decide) rfl) hS (by decide) (by decide) dX12_roundOf_57
    · simp only [k_lt, k_le, k_eq, ne_eq, ge_iff_le, gt_iff_lt] at c236q
      refine lv_iload_n hx hb dX12_roundOf_46 rfl (lv_at hl 5 rfl) ?_
      refine lv_iload hx hb dX12_roundOf_47 (lv_at hl 0 rfl) ?_
      refine lv_ishr hx hb dX12_roundOf_49 ?_
      refine lv_topi (fun x237q ex237q => ?_)
      refine lv_iconst (v := 1) hx hb dX12_roundOf_50 (by decide) ?_
      refine lv_iand hx hb dX12_roundOf_51 ?_
      refine lv_topi (fun x238q ex238q => ?_)
      have rx238q := n_and ex238q (b := 1) n_L1 (by omega)
      refine lv_iconst (v := 1) hx hb dX12_roundOf_52 (by decide) ?_
      refine lv_icmp_ne (tgt := 58) hx hb dX12_roundOf_53 (by decide) (fun c239q => ?_) (fun c239q => ?_)
      · simp only [k_lt, k_le, k_eq, ne_eq, ge_iff_le, gt_iff_lt, n_L1] at c239q
        refine lv_iload_n hx hb dX12_roundOf_58 rfl (lv_at hl 5 rfl) ?_
        refine lv_iconst (v := 1) hx hb dX12_roundOf_59 (by decide) ?_
        refine lv_iload hx hb dX12_roundOf_60 (lv_at hl 0 rfl) ?_
        refine lv_ishl hx hb dX12_roundOf_62 ?_
        refine lv_topi (fun x240q ex240q => ?_)
        refine lv_ior hx hb dX12_roundOf_63 ?_
        refine lv_topi (fun x241q ex241q => ?_)
        refine lv_istore_n (lv' := [(3, .int x241q), (8, .int x235q), (7, .int 7776), (6, .int x232q), (5, .int x232q), (4, .int 0), (0, .ref da), (1, .int v0), (2, .int 46656)]) hx hb dX12_roundOf_64 rfl hl (by decide) rfl (fun ls hl => ?_)
        refine lv_iload hx hb dX12_roundOf_65 (lv_at hl 5 rfl) ?_
        refine lv_aload_n hx hb dX12_roundOf_67 rfl (lv_at hl 6 rfl) ?_
        refine lv_iload hx hb dX12_roundOf_68 (lv_at hl 3 rfl) ?_
        refine lv_iload hx hb dX12_roundOf_70 (lv_at hl 1 rfl) ?_
        refine k_cali [] (⟨hP, hD, hG, hS, hA, rfl, rfl⟩ : kAt D cy sa A s H _ _ [(da, .inr (13, [.int d_thrown, .int d_tape, .int d_size, .int d_place, .int d_at, .int d_fault, .int d_faultAt, .int d_clauses, .ref da_fed, .ref da_readBody, .ref da_body, .ref da_readMany, .ref da_many, .ref da_without, .ref da_did, .ref da_done, .ref da_bed, .int d_now, .int d_mindAt, .int d_way, .int d_harm, .int d_worth, .int d_passes, .int d_passings, .int d_spots, .int d_images, .ref da_passing, .ref da_spot, .ref da_kept, .ref da_aside, .int d_spare, .ref da_ran, .ref da_who, .ref da_cap, .ref da_w, .ref da_laid, .int d_whoMany, .int d_drifted, .int d_seed, .ref da_cries, .ref da_holds, .ref da_came, .ref da_least, .ref da_firstTo, .int d_steps, .int d_roundFrom, .int d_roundMany, .int d_numberAt])), (da_many, .inl (cy 0, 5, .inl df_many)), (da_spot, .inl (cy 5, 6, .inr (.inr (.inr (.inr (fun i => if i < 6 then some (da_spot + 1 + i) else none)))))), ((da_spot + 1 + 0), .inl (cy 0, 2, .inl ((dF_spot 0)))), ((da_spot + 1 + 1), .inl (cy 0, 2, .inl ((dF_spot 1)))), ((da_spot + 1 + 2), .inl (cy 0, 2, .inl ((dF_spot 2)))), ((da_spot + 1 + 3), .inl (cy 0, 2, .inl ((dF_spot 3)))), ((da_spot + 1 + 4), .inl (cy 0, 2, .inl ((dF_spot 4)))), ((da_spot + 1 + 5), .inl (cy 0, 2, .inl ((dF_spot 5))))] [0, 1, 2, 3, 4, 5, 6, 7, 8]) (wr := []) rfl rfl (by decide) (k_runV 13 0 (As := [.int x232q, .int x235q]) (rest := [.int 0]) E lk_VRX12_343 rfl rfl rfl (m_between l hl0 D cy sa da da_fed da_readBody da_body da_readMany da_many da_without da_did da_done da_bed da_passing da_spot da_kept da_aside da_ran da_who da_cap da_w da_laid da_cries da_holds da_came da_least da_firstTo d_thrown d_tape d_size d_place d_at d_fault d_faultAt d_clauses d_now d_mindAt d_way d_harm d_worth d_passes d_passings d_spots d_images d_spare d_whoMany d_drifted d_seed d_steps d_roundFrom d_roundMany d_numberAt x232q x235q df_many dF_spot ⟨by omega, by omega⟩ ⟨by omega, by omega⟩ ⟨by omega, by omega⟩ ⟨by omega, by omega⟩ ⟨by omega, by omega⟩ ⟨by omega, by omega⟩ ⟨by omega, by omega⟩ ⟨by omega, by omega⟩ ⟨by omega, by omega⟩ ⟨by omega, by omega⟩ (by assumption) (by assumption) (by assumption) ⟨by omega, by omega⟩ ⟨by omega, by omega⟩ (by omega) H.size) (⟨hP, hD, hG, hS, hA, rfl, rfl⟩ : kAt D cy sa A s H _ _ [(da, .inr (13, [.int d_thrown, .int d_tape, .int d_size, .int d_place, .int d_at, .int d_fault, .int d_faultAt, .int d_clauses, .ref da_fed, .ref da_readBody, .ref da_body, .ref da_readMany, .ref da_many, .ref da_without, .ref da_did, .ref da_done, .ref da_bed, .int d_now, .int d_mindAt, .int d_way, .int d_harm, .int d_worth, .int d_passes, .int d_passings, .int d_spots, .int d_images, .ref da_passing, .ref da_spot, .ref da_kept, .ref da_aside, .int d_spare, .ref da_ran, .ref da_who, .ref da_cap, .ref da_w, .ref da_laid, .int d_whoMany, .int d_drifted, .int d_seed, .ref da_cries, .ref da_holds, .ref da_came, .ref da_least, .ref da_firstTo, .int d_steps, .int d_roundFrom, .int d_roundMany, .int d_numberAt])), (da_many, .inl (cy 0, 5, .inl df_many)), (da_spot, .inl (cy 5, 6, .inr (.inr (.inr (.inr (fun i => if i < 6 then some (da_spot + 1 + i) else none)))))), ((da_spot + 1 + 0), .inl (cy 0, 2, .inl ((dF_spot 0)))), ((da_spot + 1 + 1), .inl (cy 0, 2, .inl ((dF_spot 1)))), ((da_spot + 1 + 2), .inl (cy 0, 2, .inl ((dF_spot 2)))), ((da_spot + 1 + 3), .inl (cy 0, 2, .inl ((dF_spot 3)))), ((da_spot + 1 + 4), .inl (cy 0, 2, .inl ((dF_spot 4)))), ((da_spot + 1 + 5), .inl (cy 0, 2, .inl ((dF_spot 5))))] [0, 1, 2, 3, 4, 5, 6, 7, 8]) hl.1 rfl rfl ⟨rfl, rfl, ⟨Nat.le_of_ble_eq_true rfl, Nat.le_of_ble_eq_true rfl⟩, ⟨Nat.le_of_ble_eq_true rfl, Nat.le_of_ble_eq_true rfl⟩, Nat.le_of_ble_eq_true rfl⟩ dX12_roundOf_72) (fun r242q u243q H locs hwu243q hP hD hS => ?_)
        have hP : va_P D vwCl [(da, .inr (13, [.int d_thrown, .int d_tape, .int d_size, .int d_place, .int d_at, .int d_fault, .int d_faultAt, .int d_clauses, .ref da_fed, .ref da_readBody, .ref da_body, .ref da_readMany, .ref da_many, .ref da_without, .ref da_did, .ref da_done, .ref da_bed, .int d_now, .int d_mindAt, .int d_way, .int d_harm, .int d_worth, .int d_passes, .int d_passings, .int d_spots, .int d_images, .ref da_passing, .ref da_spot, .ref da_kept, .ref da_aside, .int d_spare, .ref da_ran, .ref da_who, .ref da_cap, .ref da_w, .ref da_laid, .int d_whoMany, .int d_drifted, .int d_seed, .ref da_cries, .ref da_holds, .ref da_came, .ref da_least, .ref da_firstTo, .int d_steps, .int d_roundFrom, .int d_roundMany, .int d_numberAt])), (da_many, .inl (cy 0, 5, .inl df_many)), (da_spot, .inl (cy 5, 6, .inr (.inr (.inr (.inr (fun i => if i < 6 then some (da_spot + 1 + i) else none)))))), ((da_spot + 1 + 0), .inl (cy 0, 2, .inl ((dF_spot 0)))), ((da_spot + 1 + 1), .inl (cy 0, 2, .inl ((dF_spot 1)))), ((da_spot + 1 + 2), .inl (cy 0, 2, .inl ((dF_spot 2)))), ((da_spot + 1 + 3), .inl (cy 0, 2, .inl ((dF_spot 3)))), ((da_spot + 1 + 4), .inl (cy 0, 2, .inl ((dF_spot 4)))), ((da_spot + 1 + 5), .inl (cy 0, 2, .inl ((dF_spot 5))))] H := hP
        have hD : va_D A [(da, .inr (13, [.int d_thrown, .int d_tape, .int d_size, .int d_place, .int d_at, .int d_fault, .int d_faultAt, .int d_clauses, .ref da_fed, .ref da_readBody, .ref da_body, .ref da_readMany, .ref da_many, .ref da_without, .ref da_did, .ref da_done, .ref da_bed, .int d_now, .int d_mindAt, .int d_way, .int d_harm, .int d_worth, .int d_passes, .int d_passings, .int d_spots, .int d_images, .ref da_passing, .ref da_spot, .ref da_kept, .ref da_aside, .int d_spare, .ref da_ran, .ref da_who, .ref da_cap, .ref da_w, .ref da_laid, .int d_whoMany, .int d_drifted, .int d_seed, .ref da_cries, .ref da_holds, .ref da_came, .ref da_least, .ref da_firstTo, .int d_steps, .int d_roundFrom, .int d_roundMany, .int d_numberAt])), (da_many, .inl (cy 0, 5, .inl df_many)), (da_spot, .inl (cy 5, 6, .inr (.inr (.inr (.inr (fun i => if i < 6 then some (da_spot + 1 + i) else none)))))), ((da_spot + 1 + 0), .inl (cy 0, 2, .inl ((dF_spot 0)))), ((da_spot + 1 + 1), .inl (cy 0, 2, .inl ((dF_spot 1)))), ((da_spot + 1 + 2), .inl (cy 0, 2, .inl ((dF_spot 2)))), ((da_spot + 1 + 3), .inl (cy 0, 2, .inl ((dF_spot 3)))), ((da_spot + 1 + 4), .inl (cy 0, 2, .inl ((dF_spot 4)))), ((da_spot + 1 + 5), .inl (cy 0, 2, .inl ((dF_spot 5))))] := hD
        have p244q := hwu243q
        refine lv_iadd hx hb dX12_roundOf_75 ?_
        refine lv_topi (fun x245q ex245q => ?_)
        have rx245q := n_add ex245q (a := 0) (b := r242q.toInt) n_L0 rfl (by omega) (by omega)
        refine lv_istore (lv' := [(4, .int x245q), (3, .int x241q), (8, .int x235q), (7, .int 7776), (6, .int x232q), (5, .int x232q), (0, .ref da), (1, .int v0), (2, .int 46656)]) hx hb dX12_roundOf_76 hl (by decide) rfl (fun ls hl => ?_)
        refine lv_iload hx hb dX12_roundOf_78 (lv_at hl 2 rfl) ?_
        refine lv_istore (lv' := [(6, .int x235q), (4, .int x245q), (3, .int x241q), (8, .int x235q), (7, .int 7776), (5, .int x232q), (0, .ref da), (1, .int v0), (2, .int 46656)]) hx hb dX12_roundOf_80 hl (by decide) rfl (fun ls hl => ?_)
        refine lv_iload hx hb dX12_roundOf_82 (lv_at hl 4 rfl) ?_
        refine lv_bipush (v := 6) hx hb dX12_roundOf_84 (by decide) ?_
        refine lv_idiv hx hb dX12_roundOf_86 (by decide) ?_
        refine lv_topi (fun x246q ex246q => ?_)
        obtain rfl : x246q = 1296 := ex246q.trans (by decide)
        refine lv_istore (lv' := [(7, .int 1296), (6, .int x235q), (4, .int x245q), (3, .int x241q), (8, .int x235q), (5, .int x232q), (0, .ref da), (1, .int v0), (2, .int 46656)]) hx hb dX12_roundOf_87 hl (by decide) rfl (fun ls hl => ?_)
        refine lv_goto (tgt := 23) hx hb dX12_roundOf_89 (by decide) ?_
        refine lv_iload hx hb dX12_roundOf_23 (lv_at hl 0 rfl) ?_
        refine lv_if_le (tgt := 92) hx hb dX12_roundOf_25 (by decide) (fun h => absurd h (by decide)) (fun _ => ?_)
        refine lv_iload_n hx hb dX12_roundOf_28 rfl (lv_at hl 7 rfl) ?_
        refine lv_iload hx hb dX12_roundOf_29 (lv_at hl 0 rfl) ?_
        refine lv_idiv hx hb dX12_roundOf_31 (by decide) ?_
        refine lv_topi (fun x247q ex247q => ?_)
        have rx247q := n_div ex247q (a := v0.toInt) (b := 1296) rfl n_L1296 (by omega) (by omega)
        refine lv_bipush (v := 6) hx hb dX12_roundOf_32 (by decide) ?_
        refine lv_irem hx hb dX12_roundOf_34 (by decide) ?_
        refine lv_topi (fun x248q ex248q => ?_)
        have rx248q := n_mod ex248q (a := x247q.toInt) (b := 6) rfl n_L6 (by omega) (by omega)
        refine lv_istore (lv' := [(8, .int x248q), (7, .int 1296), (6, .int x235q), (4, .int x245q), (3, .int x241q), (5, .int x232q), (0, .ref da), (1, .int v0), (2, .int 46656)]) hx hb dX12_roundOf_35 hl (by decide) rfl (fun ls hl => ?_)
        refine lv_iload hx hb dX12_roundOf_37 (lv_at hl 0 rfl) ?_
        refine lv_aload_n hx hb dX12_roundOf_39 rfl (lv_at hl 6 rfl) ?_
        refine va_get (D := D) (ci := 13) (v := .int d_spots) (C := RX12) (T := TX12) (N := 48) hx hb hts kin_RX12 hown hG.1 hP 0 rfl rfl 24 (by decide) (hts _ wm_1543) (fun _ h9 => h9) rfl dX12_roundOf_40 ?_
        refine lv_icmp_ge (tgt := 56) hx hb dX12_roundOf_43 (by decide) (fun c249q => ?_) (fun c249q => ?_)
        · simp only [k_lt, k_le, k_eq, ne_eq, ge_iff_le, gt_iff_lt] at c249q
          refine lv_iconst (v := (-1)) hx hb dX12_roundOf_56 (by decide) ?_
          rw [hQ0]
          exact k_iret () hx hb hr hlk (trivial) (hP.sub [0, 1, 2, 3, 4, 5, 6, 7, 8] rfl) (hD.sub [0, 1, 2, 3, 4, 5, 6, 7, 8] (by decide) rfl) hS (by decide) (by decide) dX12_roundOf_57
        · simp only [k_lt, k_le, k_eq, ne_eq, ge_iff_le, gt_iff_lt] at c249q
          refine lv_iload_n hx hb dX12_roundOf_46 rfl (lv_at hl 4 rfl) ?_
          refine lv_iload hx hb dX12_roundOf_47 (lv_at hl 0 rfl) ?_
          refine lv_ishr hx hb dX12_roundOf_49 ?_
          refine lv_topi (fun x250q ex250q => ?_)
          refine lv_iconst (v := 1) hx hb dX12_roundOf_50 (by decide) ?_
          refine lv_iand hx hb dX12_roundOf_51 ?_
          refine lv_topi (fun x251q ex251q => ?_)
          have rx251q := n_and ex251q (b := 1) n_L1 (by omega)
          refine lv_iconst (v := 1) hx hb dX12_roundOf_52 (by decide) ?_
          refine lv_icmp_ne (tgt := 58) hx hb dX12_roundOf_53 (by decide) (fun c252q => ?_) (fun c252q => ?_)
          · simp only [k_lt, k_le, k_eq, ne_eq, ge_iff_le, gt_iff_lt, n_L1] at c252q
            refine lv_iload_n hx hb dX12_roundOf_58 rfl (lv_at hl 4 rfl) ?_
            refine lv_iconst (v := 1) hx hb dX12_roundOf_59 (by decide) ?_
            refine lv_iload hx hb dX12_roundOf_60 (lv_at hl 0 rfl) ?_
            refine lv_ishl hx hb dX12_roundOf_62 ?_
            refine lv_topi (fun x253q ex253q => ?_)
            refine lv_ior hx hb dX12_roundOf_63 ?_
            refine lv_topi (fun x254q ex254q => ?_)
            refine lv_istore_n (lv' := [(3, .int x254q), (8, .int x248q), (7, .int 1296), (6, .int x235q), (4, .int x245q), (5, .int x232q), (0, .ref da), (1, .int v0), (2, .int 46656)]) hx hb dX12_roundOf_64 rfl hl (by decide) rfl (fun ls hl => ?_)
            refine lv_iload hx hb dX12_roundOf_65 (lv_at hl 4 rfl) ?_
            refine lv_aload_n hx hb dX12_roundOf_67 rfl (lv_at hl 6 rfl) ?_
            refine lv_iload hx hb dX12_roundOf_68 (lv_at hl 3 rfl) ?_
            refine lv_iload hx hb dX12_roundOf_70 (lv_at hl 1 rfl) ?_
            refine k_cali [] (⟨hP, hD, hG, hS, hA, rfl, rfl⟩ : kAt D cy sa A s H _ _ [(da, .inr (13, [.int d_thrown, .int d_tape, .int d_size, .int d_place, .int d_at, .int d_fault, .int d_faultAt, .int d_clauses, .ref da_fed, .ref da_readBody, .ref da_body, .ref da_readMany, .ref da_many, .ref da_without, .ref da_did, .ref da_done, .ref da_bed, .int d_now, .int d_mindAt, .int d_way, .int d_harm, .int d_worth, .int d_passes, .int d_passings, .int d_spots, .int d_images, .ref da_passing, .ref da_spot, .ref da_kept, .ref da_aside, .int d_spare, .ref da_ran, .ref da_who, .ref da_cap, .ref da_w, .ref da_laid, .int d_whoMany, .int d_drifted, .int d_seed, .ref da_cries, .ref da_holds, .ref da_came, .ref da_least, .ref da_firstTo, .int d_steps, .int d_roundFrom, .int d_roundMany, .int d_numberAt])), (da_many, .inl (cy 0, 5, .inl df_many)), (da_spot, .inl (cy 5, 6, .inr (.inr (.inr (.inr (fun i => if i < 6 then some (da_spot + 1 + i) else none)))))), ((da_spot + 1 + 0), .inl (cy 0, 2, .inl ((dF_spot 0)))), ((da_spot + 1 + 1), .inl (cy 0, 2, .inl ((dF_spot 1)))), ((da_spot + 1 + 2), .inl (cy 0, 2, .inl ((dF_spot 2)))), ((da_spot + 1 + 3), .inl (cy 0, 2, .inl ((dF_spot 3)))), ((da_spot + 1 + 4), .inl (cy 0, 2, .inl ((dF_spot 4)))), ((da_spot + 1 + 5), .inl (cy 0, 2, .inl ((dF_spot 5))))] [0, 1, 2, 3, 4, 5, 6, 7, 8]) (wr := []) rfl rfl (by decide) (k_runV 13 0 (As := [.int x235q, .int x248q]) (rest := [.int x245q]) E lk_VRX12_343 rfl rfl rfl (m_between l hl0 D cy sa da da_fed da_readBody da_body da_readMany da_many da_without da_did da_done da_bed da_passing da_spot da_kept da_aside da_ran da_who da_cap da_w da_laid da_cries da_holds da_came da_least da_firstTo d_thrown d_tape d_size d_place d_at d_fault d_faultAt d_clauses d_now d_mindAt d_way d_harm d_worth d_passes d_passings d_spots d_images d_spare d_whoMany d_drifted d_seed d_steps d_roundFrom d_roundMany d_numberAt x235q x248q df_many dF_spot ⟨by omega, by omega⟩ ⟨by omega, by omega⟩ ⟨by omega, by omega⟩ ⟨by omega, by omega⟩ ⟨by omega, by omega⟩ ⟨by omega, by omega⟩ ⟨by omega, by omega⟩ ⟨by omega, by omega⟩ ⟨by omega, by omega⟩ ⟨by omega, by omega⟩ (by assumption) (by assumption) (by assumption) ⟨by omega, by omega⟩ ⟨by omega, by omega⟩ (by omega) H.size) (⟨hP, hD, hG, hS, hA, rfl, rfl⟩ : kAt D cy sa A s H _ _ [(da, .inr (13, [.int d_thrown, .int d_tape, .int d_size, .int d_place, .int d_at, .int d_fault, .int d_faultAt, .int d_clauses, .ref da_fed, .ref da_readBody, .ref da_body, .ref da_readMany, .ref da_many, .ref da_without, .ref da_did, .ref da_done, .ref da_bed, .int d_now, .int d_mindAt, .int d_way, .int d_harm, .int d_worth, .int d_passes, .int d_passings, .int d_spots, .int d_images, .ref da_passing, .ref da_spot, .ref da_kept, .ref da_aside, .int d_spare, .ref da_ran, .ref da_who, .ref da_cap, .ref da_w, .ref da_laid, .int d_whoMany, .int d_drifted, .int d_seed, .ref da_cries, .ref da_holds, .ref da_came, .ref da_least, .ref da_firstTo, .int d_steps, .int d_roundFrom, .int d_roundMany, .int d_numberAt])), (da_many, .inl (cy 0, 5, .inl df_many)), (da_spot, .inl (cy 5, 6, .inr (.inr (.inr (.inr (fun i => if i < 6 then some (da_spot + 1 + i) else none)))))), ((da_spot + 1 + 0), .inl (cy 0, 2, .inl ((dF_spot 0)))), ((da_spot + 1 + 1), .inl (cy 0, 2, .inl ((dF_spot 1)))), ((da_spot + 1 + 2), .inl (cy 0, 2, .inl ((dF_spot 2)))), ((da_spot + 1 + 3), .inl (cy 0, 2, .inl ((dF_spot 3)))), ((da_spot + 1 + 4), .inl (cy 0, 2, .inl ((dF_spot 4)))), ((da_spot + 1 + 5), .inl (cy 0, 2, .inl ((dF_spot 5))))] [0, 1, 2, 3, 4, 5, 6, 7, 8]) hl.1 rfl rfl ⟨rfl, rfl, ⟨Nat.le_of_ble_eq_true rfl, Nat.le_of_ble_eq_true rfl⟩, ⟨Nat.le_of_ble_eq_true rfl, Nat.le_of_ble_eq_true rfl⟩, Nat.le_of_ble_eq_true rfl⟩ dX12_roundOf_72) (fun r255q u256q H locs hwu256q hP hD hS => ?_)
            have hP : va_P D vwCl [(da, .inr (13, [.int d_thrown, .int d_tape, .int d_size, .int d_place, .int d_at, .int d_fault, .int d_faultAt, .int d_clauses, .ref da_fed, .ref da_readBody, .ref da_body, .ref da_readMany, .ref da_many, .ref da_without, .ref da_did, .ref da_done, .ref da_bed, .int d_now, .int d_mindAt, .int d_way, .int d_harm, .int d_worth, .int d_passes, .int d_passings, .int d_spots, .int d_images, .ref da_passing, .ref da_spot, .ref da_kept, .ref da_aside, .int d_spare, .ref da_ran, .ref da_who, .ref da_cap, .ref da_w, .ref da_laid, .int d_whoMany, .int d_drifted, .int d_seed, .ref da_cries, .ref da_holds, .ref da_came, .ref da_least, .ref da_firstTo, .int d_steps, .int d_roundFrom, .int d_roundMany, .int d_numberAt])), (da_many, .inl (cy 0, 5, .inl df_many)), (da_spot, .inl (cy 5, 6, .inr (.inr (.inr (.inr (fun i => if i < 6 then some (da_spot + 1 + i) else none)))))), ((da_spot + 1 + 0), .inl (cy 0, 2, .inl ((dF_spot 0)))), ((da_spot + 1 + 1), .inl (cy 0, 2, .inl ((dF_spot 1)))), ((da_spot + 1 + 2), .inl (cy 0, 2, .inl ((dF_spot 2)))), ((da_spot + 1 + 3), .inl (cy 0, 2, .inl ((dF_spot 3)))), ((da_spot + 1 + 4), .inl (cy 0, 2, .inl ((dF_spot 4)))), ((da_spot + 1 + 5), .inl (cy 0, 2, .inl ((dF_spot 5))))] H := hP
            have hD : va_D A [(da, .inr (13, [.int d_thrown, .int d_tape, .int d_size, .int d_place, .int d_at, .int d_fault, .int d_faultAt, .int d_clauses, .ref da_fed, .ref da_readBody, .ref da_body, .ref da_readMany, .ref da_many, .ref da_without, .ref da_did, .ref da_done, .ref da_bed, .int d_now, .int d_mindAt, .int d_way, .int d_harm, .int d_worth, .int d_passes, .int d_passings, .int d_spots, .int d_images, .ref da_passing, .ref da_spot, .ref da_kept, .ref da_aside, .int d_spare, .ref da_ran, .ref da_who, .ref da_cap, .ref da_w, .ref da_laid, .int d_whoMany, .int d_drifted, .int d_seed, .ref da_cries, .ref da_holds, .ref da_came, .ref da_least, .ref da_firstTo, .int d_steps, .int d_roundFrom, .int d_roundMany, .int d_numberAt])), (da_many, .inl (cy 0, 5, .inl df_many)), (da_spot, .inl (cy 5, 6, .inr (.inr (.inr (.inr (fun i => if i < 6 then some (da_spot + 1 + i) else none)))))), ((da_spot + 1 + 0), .inl (cy 0, 2, .inl ((dF_spot 0)))), ((da_spot + 1 + 1), .inl (cy 0, 2, .inl ((dF_spot 1)))), ((da_spot + 1 + 2), .inl (cy 0, 2, .inl ((dF_spot 2)))), ((da_spot + 1 + 3), .inl (cy 0, 2, .inl ((dF_spot 3)))), ((da_spot + 1 + 4), .inl (cy 0, 2, .inl ((dF_spot 4)))), ((da_spot + 1 + 5), .inl (cy 0, 2, .inl ((dF_spot 5))))] := hD
            have p257q := hwu256q
            refine lv_iadd hx hb dX12_roundOf_75 ?_
            refine lv_topi (fun x258q ex258q => ?_)
            have rx258q := n_add ex258q (a := x245q.toInt) (b := r255q.toInt) rfl rfl (by omega) (by omega)
            refine lv_istore (lv' := [(4, .int x258q), (3, .int x254q), (8, .int x248q), (7, .int 1296), (6, .int x235q), (5, .int x232q), (0, .ref da), (1, .int v0), (2, .int 46656)]) hx hb dX12_roundOf_76 hl (by decide) rfl (fun ls hl => ?_)
            refine lv_iload hx hb dX12_roundOf_78 (lv_at hl 2 rfl) ?_
            refine lv_istore (lv' := [(6, .int x248q), (4, .int x258q), (3, .int x254q), (8, .int x248q), (7, .int 1296), (5, .int x232q), (0, .ref da), (1, .int v0), (2, .int 46656)]) hx hb dX12_roundOf_80 hl (by decide) rfl (fun ls hl => ?_)
            refine lv_iload hx hb dX12_roundOf_82 (lv_at hl 4 rfl) ?_
            refine lv_bipush (v := 6) hx hb dX12_roundOf_84 (by decide) ?_
            refine lv_idiv hx hb dX12_roundOf_86 (by decide) ?_
            refine lv_topi (fun x259q ex259q => ?_)
            obtain rfl : x259q = 216 := ex259q.trans (by decide)
            refine lv_istore (lv' := [(7, .int 216), (6, .int x248q), (4, .int x258q), (3, .int x254q), (8, .int x248q), (5, .int x232q), (0, .ref da), (1, .int v0), (2, .int 46656)]) hx hb dX12_roundOf_87 hl (by decide) rfl (fun ls hl => ?_)
            refine lv_goto (tgt := 23) hx hb dX12_roundOf_89 (by decide) ?_
            refine lv_iload hx hb dX12_roundOf_23 (lv_at hl 0 rfl) ?_
            refine lv_if_le (tgt := 92) hx hb dX12_roundOf_25 (by decide) (fun h => absurd h (by decide)) (fun _ => ?_)
            refine lv_iload_n hx hb dX12_roundOf_28 rfl (lv_at hl 7 rfl) ?_
            refine lv_iload hx hb dX12_roundOf_29 (lv_at hl 0 rfl) ?_
            refine lv_idiv hx hb dX12_roundOf_31 (by decide) ?_
            refine lv_topi (fun x260q ex260q => ?_)
            have rx260q := n_div ex260q (a := v0.toInt) (b := 216) rfl n_L216 (by omega) (by omega)
            refine lv_bipush (v := 6) hx hb dX12_roundOf_32 (by decide) ?_
            refine lv_irem hx hb dX12_roundOf_34 (by decide) ?_
            refine lv_topi (fun x261q ex261q => ?_)
            have rx261q := n_mod ex261q (a := x260q.toInt) (b := 6) rfl n_L6 (by omega) (by omega)
            refine lv_istore (lv' := [(8, .int x261q), (7, .int 216), (6, .int x248q), (4, .int x258q), (3, .int x254q), (5, .int x232q), (0, .ref da), (1, .int v0), (2, .int 46656)]) hx hb dX12_roundOf_35 hl (by decide) rfl (fun ls hl => ?_)
            refine lv_iload hx hb dX12_roundOf_37 (lv_at hl 0 rfl) ?_
            refine lv_aload_n hx hb dX12_roundOf_39 rfl (lv_at hl 6 rfl) ?_
            refine va_get (D := D) (ci := 13) (v := .int d_spots) (C := RX12) (T := TX12) (N := 48) hx hb hts kin_RX12 hown hG.1 hP 0 rfl rfl 24 (by decide) (hts _ wm_1543) (fun _ h9 => h9) rfl dX12_roundOf_40 ?_
            refine lv_icmp_ge (tgt := 56) hx hb dX12_roundOf_43 (by decide) (fun c262q => ?_) (fun c262q => ?_)
            · simp only [k_lt, k_le, k_eq, ne_eq, ge_iff_le, gt_iff_lt] at c262q
              refine lv_iconst (v := (-1)) hx hb dX12_roundOf_56 (by decide) ?_
              rw [hQ0]
              exact k_iret () hx hb hr hlk (trivial) (hP.sub [0, 1, 2, 3, 4, 5, 6, 7, 8] rfl) (hD.sub [0, 1, 2, 3, 4, 5, 6, 7, 8] (by decide) rfl) hS (by decide) (by decide) dX12_roundOf_57
            · simp only [k_lt, k_le, k_eq, ne_eq, ge_iff_le, gt_iff_lt] at c262q
              refine lv_iload_n hx hb dX12_roundOf_46 rfl (lv_at hl 4 rfl) ?_
              refine lv_iload hx hb dX12_roundOf_47 (lv_at hl 0 rfl) ?_
              refine lv_ishr hx hb dX12_roundOf_49 ?_
              refine lv_topi (fun x263q ex263q => ?_)
              refine lv_iconst (v := 1) hx hb dX12_roundOf_50 (by decide) ?_
              refine lv_iand hx hb dX12_roundOf_51 ?_
              refine lv_topi (fun x264q ex264q => ?_)
              have rx264q := n_and ex264q (b := 1) n_L1 (by omega)
              refine lv_iconst (v := 1) hx hb dX12_roundOf_52 (by decide) ?_
              refine lv_icmp_ne (tgt := 58) hx hb dX12_roundOf_53 (by decide) (fun c265q => ?_) (fun c265q => ?_)
              · simp only [k_lt, k_le, k_eq, ne_eq, ge_iff_le, gt_iff_lt, n_L1] at c265q
                refine lv_iload_n hx hb dX12_roundOf_58 rfl (lv_at hl 4 rfl) ?_
                refine lv_iconst (v := 1) hx hb dX12_roundOf_59 (by decide) ?_
                refine lv_iload hx hb dX12_roundOf_60 (lv_at hl 0 rfl) ?_
                refine lv_ishl hx hb dX12_roundOf_62 ?_
                refine lv_topi (fun x266q ex266q => ?_)
                refine lv_ior hx hb dX12_roundOf_63 ?_
                refine lv_topi (fun x267q ex267q => ?_)
                refine lv_istore_n (lv' := [(3, .int x267q), (8, .int x261q), (7, .int 216), (6, .int x248q), (4, .int x258q), (5, .int x232q), (0, .ref da), (1, .int v0), (2, .int 46656)]) hx hb dX12_roundOf_64 rfl hl (by decide) rfl (fun ls hl => ?_)
                refine lv_iload hx hb dX12_roundOf_65 (lv_at hl 4 rfl) ?_
                refine lv_aload_n hx hb dX12_roundOf_67 rfl (lv_at hl 6 rfl) ?_
                refine lv_iload hx hb dX12_roundOf_68 (lv_at hl 3 rfl) ?_
                refine lv_iload hx hb dX12_roundOf_70 (lv_at hl 1 rfl) ?_
                refine k_cali [] (⟨hP, hD, hG, hS, hA, rfl, rfl⟩ : kAt D cy sa A s H _ _ [(da, .inr (13, [.int d_thrown, .int d_tape, .int d_size, .int d_place, .int d_at, .int d_fault, .int d_faultAt, .int d_clauses, .ref da_fed, .ref da_readBody, .ref da_body, .ref da_readMany, .ref da_many, .ref da_without, .ref da_did, .ref da_done, .ref da_bed, .int d_now, .int d_mindAt, .int d_way, .int d_harm, .int d_worth, .int d_passes, .int d_passings, .int d_spots, .int d_images, .ref da_passing, .ref da_spot, .ref da_kept, .ref da_aside, .int d_spare, .ref da_ran, .ref da_who, .ref da_cap, .ref da_w, .ref da_laid, .int d_whoMany, .int d_drifted, .int d_seed, .ref da_cries, .ref da_holds, .ref da_came, .ref da_least, .ref da_firstTo, .int d_steps, .int d_roundFrom, .int d_roundMany, .int d_numberAt])), (da_many, .inl (cy 0, 5, .inl df_many)), (da_spot, .inl (cy 5, 6, .inr (.inr (.inr (.inr (fun i => if i < 6 then some (da_spot + 1 + i) else none)))))), ((da_spot + 1 + 0), .inl (cy 0, 2, .inl ((dF_spot 0)))), ((da_spot + 1 + 1), .inl (cy 0, 2, .inl ((dF_spot 1)))), ((da_spot + 1 + 2), .inl (cy 0, 2, .inl ((dF_spot 2)))), ((da_spot + 1 + 3), .inl (cy 0, 2, .inl ((dF_spot 3)))), ((da_spot + 1 + 4), .inl (cy 0, 2, .inl ((dF_spot 4)))), ((da_spot + 1 + 5), .inl (cy 0, 2, .inl ((dF_spot 5))))] [0, 1, 2, 3, 4, 5, 6, 7, 8]) (wr := []) rfl rfl (by decide) (k_runV 13 0 (As := [.int x248q, .int x261q]) (rest := [.int x258q]) E lk_VRX12_343 rfl rfl rfl (m_between l hl0 D cy sa da da_fed da_readBody da_body da_readMany da_many da_without da_did da_done da_bed da_passing da_spot da_kept da_aside da_ran da_who da_cap da_w da_laid da_cries da_holds da_came da_least da_firstTo d_thrown d_tape d_size d_place d_at d_fault d_faultAt d_clauses d_now d_mindAt d_way d_harm d_worth d_passes d_passings d_spots d_images d_spare d_whoMany d_drifted d_seed d_steps d_roundFrom d_roundMany d_numberAt x248q x261q df_many dF_spot ⟨by omega, by omega⟩ ⟨by omega, by omega⟩ ⟨by omega, by omega⟩ ⟨by omega, by omega⟩ ⟨by omega, by omega⟩ ⟨by omega, by omega⟩ ⟨by omega, by omega⟩ ⟨by omega, by omega⟩ ⟨by omega, by omega⟩ ⟨by omega, by omega⟩ (by assumption) (by assumption) (by assumption) ⟨by omega, by omega⟩ ⟨by omega, by omega⟩ (by omega) H.size) (⟨hP, hD, hG, hS, hA, rfl, rfl⟩ : kAt D cy sa A s H _ _ [(da, .inr (13, [.int d_thrown, .int d_tape, .int d_size, .int d_place, .int d_at, .int d_fault, .int d_faultAt, .int d_clauses, .ref da_fed, .ref da_readBody, .ref da_body, .ref da_readMany, .ref da_many, .ref da_without, .ref da_did, .ref da_done, .ref da_bed, .int d_now, .int d_mindAt, .int d_way, .int d_harm, .int d_worth, .int d_passes, .int d_passings, .int d_spots, .int d_images, .ref da_passing, .ref da_spot, .ref da_kept, .ref da_aside, .int d_spare, .ref da_ran, .ref da_who, .ref da_cap, .ref da_w, .ref da_laid, .int d_whoMany, .int d_drifted, .int d_seed, .ref da_cries, .ref da_holds, .ref da_came, .ref da_least, .ref da_firstTo, .int d_steps, .int d_roundFrom, .int d_roundMany, .int d_numberAt])), (da_many, .inl (cy 0, 5, .inl df_many)), (da_spot, .inl (cy 5, 6, .inr (.inr (.inr (.inr (fun i => if i < 6 then some (da_spot + 1 + i) else none)))))), ((da_spot + 1 + 0), .inl (cy 0, 2, .inl ((dF_spot 0)))), ((da_spot + 1 + 1), .inl (cy 0, 2, .inl ((dF_spot 1)))), ((da_spot + 1 + 2), .inl (cy 0, 2, .inl ((dF_spot 2)))), ((da_spot + 1 + 3), .inl (cy 0, 2, .inl ((dF_spot 3)))), ((da_spot + 1 + 4), .inl (cy 0, 2, .inl ((dF_spot 4)))), ((da_spot + 1 + 5), .inl (cy 0, 2, .inl ((dF_spot 5))))] [0, 1, 2, 3, 4, 5, 6, 7, 8]) hl.1 rfl rfl ⟨rfl, rfl, ⟨Nat.le_of_ble_eq_true rfl, Nat.le_of_ble_eq_true rfl⟩, ⟨Nat.le_of_ble_eq_true rfl, Nat.le_of_ble_eq_true rfl⟩, Nat.le_of_ble_eq_true rfl⟩ dX12_roundOf_72) (fun r268q u269q H locs hwu269q hP hD hS => ?_)
                have hP : va_P D vwCl [(da, .inr (13, [.int d_thrown, .int d_tape, .int d_size, .int d_place, .int d_at, .int d_fault, .int d_faultAt, .int d_clauses, .ref da_fed, .ref da_readBody, .ref da_body, .ref da_readMany, .ref da_many, .ref da_without, .ref da_did, .ref da_done, .ref da_bed, .int d_now, .int d_mindAt, .int d_way, .int d_harm, .int d_worth, .int d_passes, .int d_passings, .int d_spots, .int d_images, .ref da_passing, .ref da_spot, .ref da_kept, .ref da_aside, .int d_spare, .ref da_ran, .ref da_who, .ref da_cap, .ref da_w, .ref da_laid, .int d_whoMany, .int d_drifted, .int d_seed, .ref da_cries, .ref da_holds, .ref da_came, .ref da_least, .ref da_firstTo, .int d_steps, .int d_roundFrom, .int d_roundMany, .int d_numberAt])), (da_many, .inl (cy 0, 5, .inl df_many)), (da_spot, .inl (cy 5, 6, .inr (.inr (.inr (.inr (fun i => if i < 6 then some (da_spot + 1 + i) else none)))))), ((da_spot + 1 + 0), .inl (cy 0, 2, .inl ((dF_spot 0)))), ((da_spot + 1 + 1), .inl (cy 0, 2, .inl ((dF_spot 1)))), ((da_spot + 1 + 2), .inl (cy 0, 2, .inl ((dF_spot 2)))), ((da_spot + 1 + 3), .inl (cy 0, 2, .inl ((dF_spot 3)))), ((da_spot + 1 + 4), .inl (cy 0, 2, .inl ((dF_spot 4)))), ((da_spot + 1 + 5), .inl (cy 0, 2, .inl ((dF_spot 5))))] H := hP
                have hD : va_D A [(da, .inr (13, [.int d_thrown, .int d_tape, .int d_size, .int d_place, .int d_at, .int d_fault, .int d_faultAt, .int d_clauses, .ref da_fed, .ref da_readBody, .ref da_body, .ref da_readMany, .ref da_many, .ref da_without, .ref da_did, .ref da_done, .ref da_bed, .int d_now, .int d_mindAt, .int d_way, .int d_harm, .int d_worth, .int d_passes, .int d_passings, .int d_spots, .int d_images, .ref da_passing, .ref da_spot, .ref da_kept, .ref da_aside, .int d_spare, .ref da_ran, .ref da_who, .ref da_cap, .ref da_w, .ref da_laid, .int d_whoMany, .int d_drifted, .int d_seed, .ref da_cries, .ref da_holds, .ref da_came, .ref da_least, .ref da_firstTo, .int d_steps, .int d_roundFrom, .int d_roundMany, .int d_numberAt])), (da_many, .inl (cy 0, 5, .inl df_many)), (da_spot, .inl (cy 5, 6, .inr (.inr (.inr (.inr (fun i => if i < 6 then some (da_spot + 1 + i) else none)))))), ((da_spot + 1 + 0), .inl (cy 0, 2, .inl ((dF_spot 0)))), ((da_spot + 1 + 1), .inl (cy 0, 2, .inl ((dF_spot 1)))), ((da_spot + 1 + 2), .inl (cy 0, 2, .inl ((dF_spot 2)))), ((da_spot + 1 + 3), .inl (cy 0, 2, .inl ((dF_spot 3)))), ((da_spot + 1 + 4), .inl (cy 0, 2, .inl ((dF_spot 4)))), ((da_spot + 1 + 5), .inl (cy 0, 2, .inl ((dF_spot 5))))] := hD
                have p270q := hwu269q
                refine lv_iadd hx hb dX12_roundOf_75 ?_
                refine lv_topi (fun x271q ex271q => ?_)
                have rx271q := n_add ex271q (a := x258q.toInt) (b := r268q.toInt) rfl rfl (by omega) (by omega)
                refine lv_istore (lv' := [(4, .int x271q), (3, .int x267q), (8, .int x261q), (7, .int 216), (6, .int x248q), (5, .int x232q), (0, .ref da), (1, .int v0), (2, .int 46656)]) hx hb dX12_roundOf_76 hl (by decide) rfl (fun ls hl => ?_)
                refine lv_iload hx hb dX12_roundOf_78 (lv_at hl 2 rfl) ?_
                refine lv_istore (lv' := [(6, .int x261q), (4, .int x271q), (3, .int x267q), (8, .int x261q), (7, .int 216), (5, .int x232q), (0, .ref da), (1, .int v0), (2, .int 46656)]) hx hb dX12_roundOf_80 hl (by decide) rfl (fun ls hl => ?_)
                refine lv_iload hx hb dX12_roundOf_82 (lv_at hl 4 rfl) ?_
                refine lv_bipush (v := 6) hx hb dX12_roundOf_84 (by decide) ?_
                refine lv_idiv hx hb dX12_roundOf_86 (by decide) ?_
                refine lv_topi (fun x272q ex272q => ?_)
                obtain rfl : x272q = 36 := ex272q.trans (by decide)
                refine lv_istore (lv' := [(7, .int 36), (6, .int x261q), (4, .int x271q), (3, .int x267q), (8, .int x261q), (5, .int x232q), (0, .ref da), (1, .int v0), (2, .int 46656)]) hx hb dX12_roundOf_87 hl (by decide) rfl (fun ls hl => ?_)
                refine lv_goto (tgt := 23) hx hb dX12_roundOf_89 (by decide) ?_
                refine lv_iload hx hb dX12_roundOf_23 (lv_at hl 0 rfl) ?_
                refine lv_if_le (tgt := 92) hx hb dX12_roundOf_25 (by decide) (fun h => absurd h (by decide)) (fun _ => ?_)
                refine lv_iload_n hx hb dX12_roundOf_28 rfl (lv_at hl 7 rfl) ?_
                refine lv_iload hx hb dX12_roundOf_29 (lv_at hl 0 rfl) ?_
                refine lv_idiv hx hb dX12_roundOf_31 (by decide) ?_
                refine lv_topi (fun x273q ex273q => ?_)
                have rx273q := n_div ex273q (a := v0.toInt) (b := 36) rfl n_L36 (by omega) (by omega)
                refine lv_bipush (v := 6) hx hb dX12_roundOf_32 (by decide) ?_
                refine lv_irem hx hb dX12_roundOf_34 (by decide) ?_
                refine lv_topi (fun x274q ex274q => ?_)
                have rx274q := n_mod ex274q (a := x273q.toInt) (b := 6) rfl n_L6 (by omega) (by omega)
                refine lv_istore (lv' := [(8, .int x274q), (7, .int 36), (6, .int x261q), (4, .int x271q), (3, .int x267q), (5, .int x232q), (0, .ref da), (1, .int v0), (2, .int 46656)]) hx hb dX12_roundOf_35 hl (by decide) rfl (fun ls hl => ?_)
                refine lv_iload hx hb dX12_roundOf_37 (lv_at hl 0 rfl) ?_
                refine lv_aload_n hx hb dX12_roundOf_39 rfl (lv_at hl 6 rfl) ?_
                refine va_get (D := D) (ci := 13) (v := .int d_spots) (C := RX12) (T := TX12) (N := 48) hx hb hts kin_RX12 hown hG.1 hP 0 rfl rfl 24 (by decide) (hts _ wm_1543) (fun _ h9 => h9) rfl dX12_roundOf_40 ?_
                refine lv_icmp_ge (tgt := 56) hx hb dX12_roundOf_43 (by decide) (fun c275q => ?_) (fun c275q => ?_)
                · simp only [k_lt, k_le, k_eq, ne_eq, ge_iff_le, gt_iff_lt] at c275q
                  refine lv_iconst (v := (-1)) hx hb dX12_roundOf_56 (by decide) ?_
                  rw [hQ0]
                  exact k_iret () hx hb hr hlk (trivial) (hP.sub [0, 1, 2, 3, 4, 5, 6, 7, 8] rfl) (hD.sub [0, 1, 2, 3, 4, 5, 6, 7, 8] (by decide) rfl) hS (by decide) (by decide) dX12_roundOf_57
                · simp only [k_lt, k_le, k_eq, ne_eq, ge_iff_le, gt_iff_lt] at c275q
                  refine lv_iload_n hx hb dX12_roundOf_46 rfl (lv_at hl 4 rfl) ?_
                  refine lv_iload hx hb dX12_roundOf_47 (lv_at hl 0 rfl) ?_
                  refine lv_ishr hx hb dX12_roundOf_49 ?_
                  refine lv_topi (fun x276q ex276q => ?_)
                  refine lv_iconst (v := 1) hx hb dX12_roundOf_50 (by decide) ?_
                  refine lv_iand hx hb dX12_roundOf_51 ?_
                  refine lv_topi (fun x277q ex277q => ?_)
                  have rx277q := n_and ex277q (b := 1) n_L1 (by omega)
                  refine lv_iconst (v := 1) hx hb dX12_roundOf_52 (by decide) ?_
                  refine lv_icmp_ne (tgt := 58) hx hb dX12_roundOf_53 (by decide) (fun c278q => ?_) (fun c278q => ?_)
                  · simp only [k_lt, k_le, k_eq, ne_eq, ge_iff_le, gt_iff_lt, n_L1] at c278q
                    refine lv_iload_n hx hb dX12_roundOf_58 rfl (lv_at hl 4 rfl) ?_
                    refine lv_iconst (v := 1) hx hb dX12_roundOf_59 (by decide) ?_
                    refine lv_iload hx hb dX12_roundOf_60 (lv_at hl 0 rfl) ?_
                    refine lv_ishl hx hb dX12_roundOf_62 ?_
                    refine lv_topi (fun x279q ex279q => ?_)
                    refine lv_ior hx hb dX12_roundOf_63 ?_
                    refine lv_topi (fun x280q ex280q => ?_)
                    refine lv_istore_n (lv' := [(3, .int x280q), (8, .int x274q), (7, .int 36), (6, .int x261q), (4, .int x271q), (5, .int x232q), (0, .ref da), (1, .int v0), (2, .int 46656)]) hx hb dX12_roundOf_64 rfl hl (by decide) rfl (fun ls hl => ?_)
                    refine lv_iload hx hb dX12_roundOf_65 (lv_at hl 4 rfl) ?_
                    refine lv_aload_n hx hb dX12_roundOf_67 rfl (lv_at hl 6 rfl) ?_
                    refine lv_iload hx hb dX12_roundOf_68 (lv_at hl 3 rfl) ?_
                    refine lv_iload hx hb dX12_roundOf_70 (lv_at hl 1 rfl) ?_
                    refine k_cali [] (⟨hP, hD, hG, hS, hA, rfl, rfl⟩ : kAt D cy sa A s H _ _ [(da, .inr (13, [.int d_thrown, .int d_tape, .int d_size, .int d_place, .int d_at, .int d_fault, .int d_faultAt, .int d_clauses, .ref da_fed, .ref da_readBody, .ref da_body, .ref da_readMany, .ref da_many, .ref da_without, .ref da_did, .ref da_done, .ref da_bed, .int d_now, .int d_mindAt, .int d_way, .int d_harm, .int d_worth, .int d_passes, .int d_passings, .int d_spots, .int d_images, .ref da_passing, .ref da_spot, .ref da_kept, .ref da_aside, .int d_spare, .ref da_ran, .ref da_who, .ref da_cap, .ref da_w, .ref da_laid, .int d_whoMany, .int d_drifted, .int d_seed, .ref da_cries, .ref da_holds, .ref da_came, .ref da_least, .ref da_firstTo, .int d_steps, .int d_roundFrom, .int d_roundMany, .int d_numberAt])), (da_many, .inl (cy 0, 5, .inl df_many)), (da_spot, .inl (cy 5, 6, .inr (.inr (.inr (.inr (fun i => if i < 6 then some (da_spot + 1 + i) else none)))))), ((da_spot + 1 + 0), .inl (cy 0, 2, .inl ((dF_spot 0)))), ((da_spot + 1 + 1), .inl (cy 0, 2, .inl ((dF_spot 1)))), ((da_spot + 1 + 2), .inl (cy 0, 2, .inl ((dF_spot 2)))), ((da_spot + 1 + 3), .inl (cy 0, 2, .inl ((dF_spot 3)))), ((da_spot + 1 + 4), .inl (cy 0, 2, .inl ((dF_spot 4)))), ((da_spot + 1 + 5), .inl (cy 0, 2, .inl ((dF_spot 5))))] [0, 1, 2, 3, 4, 5, 6, 7, 8]) (wr := []) rfl rfl (by decide) (k_runV 13 0 (As := [.int x261q, .int x274q]) (rest := [.int x271q]) E lk_VRX12_343 rfl rfl rfl (m_between l hl0 D cy sa da da_fed da_readBody da_body da_readMany da_many da_without da_did da_done da_bed da_passing da_spot da_kept da_aside da_ran da_who da_cap da_w da_laid da_cries da_holds da_came da_least da_firstTo d_thrown d_tape d_size d_place d_at d_fault d_faultAt d_clauses d_now d_mindAt d_way d_harm d_worth d_passes d_passings d_spots d_images d_spare d_whoMany d_drifted d_seed d_steps d_roundFrom d_roundMany d_numberAt x261q x274q df_many dF_spot ⟨by omega, by omega⟩ ⟨by omega, by omega⟩ ⟨by omega, by omega⟩ ⟨by omega, by omega⟩ ⟨by omega, by omega⟩ ⟨by omega, by omega⟩ ⟨by omega, by omega⟩ ⟨by omega, by omega⟩ ⟨by omega, by omega⟩ ⟨by omega, by omega⟩ (by assumption) (by assumption) (by assumption) ⟨by omega, by omega⟩ ⟨by omega, by omega⟩ (by omega) H.size) (⟨hP, hD, hG, hS, hA, rfl, rfl⟩ : kAt D cy sa A s H _ _ [(da, .inr (13, [.int d_thrown, .int d_tape, .int d_size, .int d_place, .int d_at, .int d_fault, .int d_faultAt, .int d_clauses, .ref da_fed, .ref da_readBody, .ref da_body, .ref da_readMany, .ref da_many, .ref da_without, .ref da_did, .ref da_done, .ref da_bed, .int d_now, .int d_mindAt, .int d_way, .int d_harm, .int d_worth, .int d_passes, .int d_passings, .int d_spots, .int d_images, .ref da_passing, .ref da_spot, .ref da_kept, .ref da_aside, .int d_spare, .ref da_ran, .ref da_who, .ref da_cap, .ref da_w, .ref da_laid, .int d_whoMany, .int d_drifted, .int d_seed, .ref da_cries, .ref da_holds, .ref da_came, .ref da_least, .ref da_firstTo, .int d_steps, .int d_roundFrom, .int d_roundMany, .int d_numberAt])), (da_many, .inl (cy 0, 5, .inl df_many)), (da_spot, .inl (cy 5, 6, .inr (.inr (.inr (.inr (fun i => if i < 6 then some (da_spot + 1 + i) else none)))))), ((da_spot + 1 + 0), .inl (cy 0, 2, .inl ((dF_spot 0)))), ((da_spot + 1 + 1), .inl (cy 0, 2, .inl ((dF_spot 1)))), ((da_spot + 1 + 2), .inl (cy 0, 2, .inl ((dF_spot 2)))), ((da_spot + 1 + 3), .inl (cy 0, 2, .inl ((dF_spot 3)))), ((da_spot + 1 + 4), .inl (cy 0, 2, .inl ((dF_spot 4)))), ((da_spot + 1 + 5), .inl (cy 0, 2, .inl ((dF_spot 5))))] [0, 1, 2, 3, 4, 5, 6, 7, 8]) hl.1 rfl rfl ⟨rfl, rfl, ⟨Nat.le_of_ble_eq_true rfl, Nat.le_of_ble_eq_true rfl⟩, ⟨Nat.le_of_ble_eq_true rfl, Nat.le_of_ble_eq_true rfl⟩, Nat.le_of_ble_eq_true rfl⟩ dX12_roundOf_72) (fun r281q u282q H locs hwu282q hP hD hS => ?_)
                    have hP : va_P D vwCl [(da, .inr (13, [.int d_thrown, .int d_tape, .int d_size, .int d_place, .int d_at, .int d_fault, .int d_faultAt, .int d_clauses, .ref da_fed, .ref da_readBody, .ref da_body, .ref da_readMany, .ref da_many, .ref da_without, .ref da_did, .ref da_done, .ref da_bed, .int d_now, .int d_mindAt, .int d_way, .int d_harm, .int d_worth, .int d_passes, .int d_passings, .int d_spots, .int d_images, .ref da_passing, .ref da_spot, .ref da_kept, .ref da_aside, .int d_spare, .ref da_ran, .ref da_who, .ref da_cap, .ref da_w, .ref da_laid, .int d_whoMany, .int d_drifted, .int d_seed, .ref da_cries, .ref da_holds, .ref da_came, .ref da_least, .ref da_firstTo, .int d_steps, .int d_roundFrom, .int d_roundMany, .int d_numberAt])), (da_many, .inl (cy 0, 5, .inl df_many)), (da_spot, .inl (cy 5, 6, .inr (.inr (.inr (.inr (fun i => if i < 6 then some (da_spot + 1 + i) else none)))))), ((da_spot + 1 + 0), .inl (cy 0, 2, .inl ((dF_spot 0)))), ((da_spot + 1 + 1), .inl (cy 0, 2, .inl ((dF_spot 1)))), ((da_spot + 1 + 2), .inl (cy 0, 2, .inl ((dF_spot 2)))), ((da_spot + 1 + 3), .inl (cy 0, 2, .inl ((dF_spot 3)))), ((da_spot + 1 + 4), .inl (cy 0, 2, .inl ((dF_spot 4)))), ((da_spot + 1 + 5), .inl (cy 0, 2, .inl ((dF_spot 5))))] H := hP
                    have hD : va_D A [(da, .inr (13, [.int d_thrown, .int d_tape, .int d_size, .int d_place, .int d_at, .int d_fault, .int d_faultAt, .int d_clauses, .ref da_fed, .ref da_readBody, .ref da_body, .ref da_readMany, .ref da_many, .ref da_without, .ref da_did, .ref da_done, .ref da_bed, .int d_now, .int d_mindAt, .int d_way, .int d_harm, .int d_worth, .int d_passes, .int d_passings, .int d_spots, .int d_images, .ref da_passing, .ref da_spot, .ref da_kept, .ref da_aside, .int d_spare, .ref da_ran, .ref da_who, .ref da_cap, .ref da_w, .ref da_laid, .int d_whoMany, .int d_drifted, .int d_seed, .ref da_cries, .ref da_holds, .ref da_came, .ref da_least, .ref da_firstTo, .int d_steps, .int d_roundFrom, .int d_roundMany, .int d_numberAt])), (da_many, .inl (cy 0, 5, .inl df_many)), (da_spot, .inl (cy 5, 6, .inr (.inr (.inr (.inr (fun i => if i < 6 then some (da_spot + 1 + i) else none)))))), ((da_spot + 1 + 0), .inl (cy 0, 2, .inl ((dF_spot 0)))), ((da_spot + 1 + 1), .inl (cy 0, 2, .inl ((dF_spot 1)))), ((da_spot + 1 + 2), .inl (cy 0, 2, .inl ((dF_spot 2)))), ((da_spot + 1 + 3), .inl (cy 0, 2, .inl ((dF_spot 3)))), ((da_spot + 1 + 4), .inl (cy 0, 2, .inl ((dF_spot 4)))), ((da_spot + 1 + 5), .inl (cy 0, 2, .inl ((dF_spot 5))))] := hD
                    have p283q := hwu282q
                    refine lv_iadd hx hb dX12_roundOf_75 ?_
                    refine lv_topi (fun x284q ex284q => ?_)
                    have rx284q := n_add ex284q (a := x271q.toInt) (b := r281q.toInt) rfl rfl (by omega) (by omega)
                    refine lv_istore (lv' := [(4, .int x284q), (3, .int x280q), (8, .int x274q), (7, .int 36), (6, .int x261q), (5, .int x232q), (0, .ref da), (1, .int v0), (2, .int 46656)]) hx hb dX12_roundOf_76 hl (by decide) rfl (fun ls hl => ?_)
                    refine lv_iload hx hb dX12_roundOf_78 (lv_at hl 2 rfl) ?_
                    refine lv_istore (lv' := [(6, .int x274q), (4, .int x284q), (3, .int x280q), (8, .int x274q), (7, .int 36), (5, .int x232q), (0, .ref da), (1, .int v0), (2, .int 46656)]) hx hb dX12_roundOf_80 hl (by decide) rfl (fun ls hl => ?_)
                    refine lv_iload hx hb dX12_roundOf_82 (lv_at hl 4 rfl) ?_
                    refine lv_bipush (v := 6) hx hb dX12_roundOf_84 (by decide) ?_
                    refine lv_idiv hx hb dX12_roundOf_86 (by decide) ?_
                    refine lv_topi (fun x285q ex285q => ?_)
                    obtain rfl : x285q = 6 := ex285q.trans (by decide)
                    refine lv_istore (lv' := [(7, .int 6), (6, .int x274q), (4, .int x284q), (3, .int x280q), (8, .int x274q), (5, .int x232q), (0, .ref da), (1, .int v0), (2, .int 46656)]) hx hb dX12_roundOf_87 hl (by decide) rfl (fun ls hl => ?_)
                    refine lv_goto (tgt := 23) hx hb dX12_roundOf_89 (by decide) ?_
                    refine lv_iload hx hb dX12_roundOf_23 (lv_at hl 0 rfl) ?_
                    refine lv_if_le (tgt := 92) hx hb dX12_roundOf_25 (by decide) (fun h => absurd h (by decide)) (fun _ => ?_)
                    refine lv_iload_n hx hb dX12_roundOf_28 rfl (lv_at hl 7 rfl) ?_
                    refine lv_iload hx hb dX12_roundOf_29 (lv_at hl 0 rfl) ?_
                    refine lv_idiv hx hb dX12_roundOf_31 (by decide) ?_
                    refine lv_topi (fun x286q ex286q => ?_)
                    have rx286q := n_div ex286q (a := v0.toInt) (b := 6) rfl n_L6 (by omega) (by omega)
                    refine lv_bipush (v := 6) hx hb dX12_roundOf_32 (by decide) ?_
                    refine lv_irem hx hb dX12_roundOf_34 (by decide) ?_
                    refine lv_topi (fun x287q ex287q => ?_)
                    have rx287q := n_mod ex287q (a := x286q.toInt) (b := 6) rfl n_L6 (by omega) (by omega)
                    refine lv_istore (lv' := [(8, .int x287q), (7, .int 6), (6, .int x274q), (4, .int x284q), (3, .int x280q), (5, .int x232q), (0, .ref da), (1, .int v0), (2, .int 46656)]) hx hb dX12_roundOf_35 hl (by decide) rfl (fun ls hl => ?_)
                    refine lv_iload hx hb dX12_roundOf_37 (lv_at hl 0 rfl) ?_
                    refine lv_aload_n hx hb dX12_roundOf_39 rfl (lv_at hl 6 rfl) ?_
                    refine va_get (D := D) (ci := 13) (v := .int d_spots) (C := RX12) (T := TX12) (N := 48) hx hb hts kin_RX12 hown hG.1 hP 0 rfl rfl 24 (by decide) (hts _ wm_1543) (fun _ h9 => h9) rfl dX12_roundOf_40 ?_
                    refine lv_icmp_ge (tgt := 56) hx hb dX12_roundOf_43 (by decide) (fun c288q => ?_) (fun c288q => ?_)
                    · simp only [k_lt, k_le, k_eq, ne_eq, ge_iff_le, gt_iff_lt] at c288q
                      refine lv_iconst (v := (-1)) hx hb dX12_roundOf_56 (by decide) ?_
                      rw [hQ0]
                      exact k_iret () hx hb hr hlk (trivial) (hP.sub [0, 1, 2, 3, 4, 5, 6, 7, 8] rfl) (hD.sub [0, 1, 2, 3, 4, 5, 6, 7, 8] (by decide) rfl) hS (by decide) (by decide) dX12_roundOf_57
                    · simp only [k_lt, k_le, k_eq, ne_eq, ge_iff_le, gt_iff_lt] at c288q
                      refine lv_iload_n hx hb dX12_roundOf_46 rfl (lv_at hl 4 rfl) ?_
                      refine lv_iload hx hb dX12_roundOf_47 (lv_at hl 0 rfl) ?_
                      refine lv_ishr hx hb dX12_roundOf_49 ?_
                      refine lv_topi (fun x289q ex289q => ?_)
                      refine lv_iconst (v := 1) hx hb dX12_roundOf_50 (by decide) ?_
                      refine lv_iand hx hb dX12_roundOf_51 ?_
                      refine lv_topi (fun x290q ex290q => ?_)
                      have rx290q := n_and ex290q (b := 1) n_L1 (by omega)
                      refine lv_iconst (v := 1) hx hb dX12_roundOf_52 (by decide) ?_
                      refine lv_icmp_ne (tgt := 58) hx hb dX12_roundOf_53 (by decide) (fun c291q => ?_) (fun c291q => ?_)
                      · simp only [k_lt, k_le, k_eq, ne_eq, ge_iff_le, gt_iff_lt, n_L1] at c291q
                        refine lv_iload_n hx hb dX12_roundOf_58 rfl (lv_at hl 4 rfl) ?_
                        refine lv_iconst (v := 1) hx hb dX12_roundOf_59 (by decide) ?_
                        refine lv_iload hx hb dX12_roundOf_60 (lv_at hl 0 rfl) ?_
                        refine lv_ishl hx hb dX12_roundOf_62 ?_
                        refine lv_topi (fun x292q ex292q => ?_)
                        refine lv_ior hx hb dX12_roundOf_63 ?_
                        refine lv_topi (fun x293q ex293q => ?_)
                        refine lv_istore_n (lv' := [(3, .int x293q), (8, .int x287q), (7, .int 6), (6, .int x274q), (4, .int x284q), (5, .int x232q), (0, .ref da), (1, .int v0), (2, .int 46656)]) hx hb dX12_roundOf_64 rfl hl (by decide) rfl (fun ls hl => ?_)
                        refine lv_iload hx hb dX12_roundOf_65 (lv_at hl 4 rfl) ?_
                        refine lv_aload_n hx hb dX12_roundOf_67 rfl (lv_at hl 6 rfl) ?_
                        refine lv_iload hx hb dX12_roundOf_68 (lv_at hl 3 rfl) ?_
                        refine lv_iload hx hb dX12_roundOf_70 (lv_at hl 1 rfl) ?_
                        refine k_cali [] (⟨hP, hD, hG, hS, hA, rfl, rfl⟩ : kAt D cy sa A s H _ _ [(da, .inr (13, [.int d_thrown, .int d_tape, .int d_size, .int d_place, .int d_at, .int d_fault, .int d_faultAt, .int d_clauses, .ref da_fed, .ref da_readBody, .ref da_body, .ref da_readMany, .ref da_many, .ref da_without, .ref da_did, .ref da_done, .ref da_bed, .int d_now, .int d_mindAt, .int d_way, .int d_harm, .int d_worth, .int d_passes, .int d_passings, .int d_spots, .int d_images, .ref da_passing, .ref da_spot, .ref da_kept, .ref da_aside, .int d_spare, .ref da_ran, .ref da_who, .ref da_cap, .ref da_w, .ref da_laid, .int d_whoMany, .int d_drifted, .int d_seed, .ref da_cries, .ref da_holds, .ref da_came, .ref da_least, .ref da_firstTo, .int d_steps, .int d_roundFrom, .int d_roundMany, .int d_numberAt])), (da_many, .inl (cy 0, 5, .inl df_many)), (da_spot, .inl (cy 5, 6, .inr (.inr (.inr (.inr (fun i => if i < 6 then some (da_spot + 1 + i) else none)))))), ((da_spot + 1 + 0), .inl (cy 0, 2, .inl ((dF_spot 0)))), ((da_spot + 1 + 1), .inl (cy 0, 2, .inl ((dF_spot 1)))), ((da_spot + 1 + 2), .inl (cy 0, 2, .inl ((dF_spot 2)))), ((da_spot + 1 + 3), .inl (cy 0, 2, .inl ((dF_spot 3)))), ((da_spot + 1 + 4), .inl (cy 0, 2, .inl ((dF_spot 4)))), ((da_spot + 1 + 5), .inl (cy 0, 2, .inl ((dF_spot 5))))] [0, 1, 2, 3, 4, 5, 6, 7, 8]) (wr := []) rfl rfl (by decide) (k_runV 13 0 (As := [.int x274q, .int x287q]) (rest := [.int x284q]) E lk_VRX12_343 rfl rfl rfl (m_between l hl0 D cy sa da da_fed da_readBody da_body da_readMany da_many da_without da_did da_done da_bed da_passing da_spot da_kept da_aside da_ran da_who da_cap da_w da_laid da_cries da_holds da_came da_least da_firstTo d_thrown d_tape d_size d_place d_at d_fault d_faultAt d_clauses d_now d_mindAt d_way d_harm d_worth d_passes d_passings d_spots d_images d_spare d_whoMany d_drifted d_seed d_steps d_roundFrom d_roundMany d_numberAt x274q x287q df_many dF_spot ⟨by omega, by omega⟩ ⟨by omega, by omega⟩ ⟨by omega, by omega⟩ ⟨by omega, by omega⟩ ⟨by omega, by omega⟩ ⟨by omega, by omega⟩ ⟨by omega, by omega⟩ ⟨by omega, by omega⟩ ⟨by omega, by omega⟩ ⟨by omega, by omega⟩ (by assumption) (by assumption) (by assumption) ⟨by omega, by omega⟩ ⟨by omega, by omega⟩ (by omega) H.size) (⟨hP, hD, hG, hS, hA, rfl, rfl⟩ : kAt D cy sa A s H _ _ [(da, .inr (13, [.int d_thrown, .int d_tape, .int d_size, .int d_place, .int d_at, .int d_fault, .int d_faultAt, .int d_clauses, .ref da_fed, .ref da_readBody, .ref da_body, .ref da_readMany, .ref da_many, .ref da_without, .ref da_did, .ref da_done, .ref da_bed, .int d_now, .int d_mindAt, .int d_way, .int d_harm, .int d_worth, .int d_passes, .int d_passings, .int d_spots, .int d_images, .ref da_passing, .ref da_spot, .ref da_kept, .ref da_aside, .int d_spare, .ref da_ran, .ref da_who, .ref da_cap, .ref da_w, .ref da_laid, .int d_whoMany, .int d_drifted, .int d_seed, .ref da_cries, .ref da_holds, .ref da_came, .ref da_least, .ref da_firstTo, .int d_steps, .int d_roundFrom, .int d_roundMany, .int d_numberAt])), (da_many, .inl (cy 0, 5, .inl df_many)), (da_spot, .inl (cy 5, 6, .inr (.inr (.inr (.inr (fun i => if i < 6 then some (da_spot + 1 + i) else none)))))), ((da_spot + 1 + 0), .inl (cy 0, 2, .inl ((dF_spot 0)))), ((da_spot + 1 + 1), .inl (cy 0, 2, .inl ((dF_spot 1)))), ((da_spot + 1 + 2), .inl (cy 0, 2, .inl ((dF_spot 2)))), ((da_spot + 1 + 3), .inl (cy 0, 2, .inl ((dF_spot 3)))), ((da_spot + 1 + 4), .inl (cy 0, 2, .inl ((dF_spot 4)))), ((da_spot + 1 + 5), .inl (cy 0, 2, .inl ((dF_spot 5))))] [0, 1, 2, 3, 4, 5, 6, 7, 8]) hl.1 rfl rfl ⟨rfl, rfl, ⟨Nat.le_of_ble_eq_true rfl, Nat.le_of_ble_eq_true rfl⟩, ⟨Nat.le_of_ble_eq_true rfl, Nat.le_of_ble_eq_true rfl⟩, Nat.le_of_ble_eq_true rfl⟩ dX12_roundOf_72) (fun r294q u295q H locs hwu295q hP hD hS => ?_)
                        have hP : va_P D vwCl [(da, .inr (13, [.int d_thrown, .int d_tape, .int d_size, .int d_place, .int d_at, .int d_fault, .int d_faultAt, .int d_clauses, .ref da_fed, .ref da_readBody, .ref da_body, .ref da_readMany, .ref da_many, .ref da_without, .ref da_did, .ref da_done, .ref da_bed, .int d_now, .int d_mindAt, .int d_way, .int d_harm, .int d_worth, .int d_passes, .int d_passings, .int d_spots, .int d_images, .ref da_passing, .ref da_spot, .ref da_kept, .ref da_aside, .int d_spare, .ref da_ran, .ref da_who, .ref da_cap, .ref da_w, .ref da_laid, .int d_whoMany, .int d_drifted, .int d_seed, .ref da_cries, .ref da_holds, .ref da_came, .ref da_least, .ref da_firstTo, .int d_steps, .int d_roundFrom, .int d_roundMany, .int d_numberAt])), (da_many, .inl (cy 0, 5, .inl df_many)), (da_spot, .inl (cy 5, 6, .inr (.inr (.inr (.inr (fun i => if i < 6 then some (da_spot + 1 + i) else none)))))), ((da_spot + 1 + 0), .inl (cy 0, 2, .inl ((dF_spot 0)))), ((da_spot + 1 + 1), .inl (cy 0, 2, .inl ((dF_spot 1)))), ((da_spot + 1 + 2), .inl (cy 0, 2, .inl ((dF_spot 2)))), ((da_spot + 1 + 3), .inl (cy 0, 2, .inl ((dF_spot 3)))), ((da_spot + 1 + 4), .inl (cy 0, 2, .inl ((dF_spot 4)))), ((da_spot + 1 + 5), .inl (cy 0, 2, .inl ((dF_spot 5))))] H := hP
                        have hD : va_D A [(da, .inr (13, [.int d_thrown, .int d_tape, .int d_size, .int d_place, .int d_at, .int d_fault, .int d_faultAt, .int d_clauses, .ref da_fed, .ref da_readBody, .ref da_body, .ref da_readMany, .ref da_many, .ref da_without, .ref da_did, .ref da_done, .ref da_bed, .int d_now, .int d_mindAt, .int d_way, .int d_harm, .int d_worth, .int d_passes, .int d_passings, .int d_spots, .int d_images, .ref da_passing, .ref da_spot, .ref da_kept, .ref da_aside, .int d_spare, .ref da_ran, .ref da_who, .ref da_cap, .ref da_w, .ref da_laid, .int d_whoMany, .int d_drifted, .int d_seed, .ref da_cries, .ref da_holds, .ref da_came, .ref da_least, .ref da_firstTo, .int d_steps, .int d_roundFrom, .int d_roundMany, .int d_numberAt])), (da_many, .inl (cy 0, 5, .inl df_many)), (da_spot, .inl (cy 5, 6, .inr (.inr (.inr (.inr (fun i => if i < 6 then some (da_spot + 1 + i) else none)))))), ((da_spot + 1 + 0), .inl (cy 0, 2, .inl ((dF_spot 0)))), ((da_spot + 1 + 1), .inl (cy 0, 2, .inl ((dF_spot 1)))), ((da_spot + 1 + 2), .inl (cy 0, 2, .inl ((dF_spot 2)))), ((da_spot + 1 + 3), .inl (cy 0, 2, .inl ((dF_spot 3)))), ((da_spot + 1 + 4), .inl (cy 0, 2, .inl ((dF_spot 4)))), ((da_spot + 1 + 5), .inl (cy 0, 2, .inl ((dF_spot 5))))] := hD
                        have p296q := hwu295q
                        refine lv_iadd hx hb dX12_roundOf_75 ?_
                        refine lv_topi (fun x297q ex297q => ?_)
                        have rx297q := n_add ex297q (a := x284q.toInt) (b := r294q.toInt) rfl rfl (by omega) (by omega)
                        refine lv_istore (lv' := [(4, .int x297q), (3, .int x293q), (8, .int x287q), (7, .int 6), (6, .int x274q), (5, .int x232q), (0, .ref da), (1, .int v0), (2, .int 46656)]) hx hb dX12_roundOf_76 hl (by decide) rfl (fun ls hl => ?_)
                        refine lv_iload hx hb dX12_roundOf_78 (lv_at hl 2 rfl) ?_
                        refine lv_istore (lv' := [(6, .int x287q), (4, .int x297q), (3, .int x293q), (8, .int x287q), (7, .int 6), (5, .int x232q), (0, .ref da), (1, .int v0), (2, .int 46656)]) hx hb dX12_roundOf_80 hl (by decide) rfl (fun ls hl => ?_)
                        refine lv_iload hx hb dX12_roundOf_82 (lv_at hl 4 rfl) ?_
                        refine lv_bipush (v := 6) hx hb dX12_roundOf_84 (by decide) ?_
                        refine lv_idiv hx hb dX12_roundOf_86 (by decide) ?_
                        refine lv_topi (fun x298q ex298q => ?_)
                        obtain rfl : x298q = 1 := ex298q.trans (by decide)
                        refine lv_istore (lv' := [(7, .int 1), (6, .int x287q), (4, .int x297q), (3, .int x293q), (8, .int x287q), (5, .int x232q), (0, .ref da), (1, .int v0), (2, .int 46656)]) hx hb dX12_roundOf_87 hl (by decide) rfl (fun ls hl => ?_)
                        refine lv_goto (tgt := 23) hx hb dX12_roundOf_89 (by decide) ?_
                        refine lv_iload hx hb dX12_roundOf_23 (lv_at hl 0 rfl) ?_
                        refine lv_if_le (tgt := 92) hx hb dX12_roundOf_25 (by decide) (fun h => absurd h (by decide)) (fun _ => ?_)
                        refine lv_iload_n hx hb dX12_roundOf_28 rfl (lv_at hl 7 rfl) ?_
                        refine lv_iload hx hb dX12_roundOf_29 (lv_at hl 0 rfl) ?_
                        refine lv_idiv hx hb dX12_roundOf_31 (by decide) ?_
                        refine lv_topi (fun x299q ex299q => ?_)
                        have rx299q := n_div ex299q (a := v0.toInt) (b := 1) rfl n_L1 (by omega) (by omega)
                        refine lv_bipush (v := 6) hx hb dX12_roundOf_32 (by decide) ?_
                        refine lv_irem hx hb dX12_roundOf_34 (by decide) ?_
                        refine lv_topi (fun x300q ex300q => ?_)
                        have rx300q := n_mod ex300q (a := x299q.toInt) (b := 6) rfl n_L6 (by omega) (by omega)
                        refine lv_istore (lv' := [(8, .int x300q), (7, .int 1), (6, .int x287q), (4, .int x297q), (3, .int x293q), (5, .int x232q), (0, .ref da), (1, .int v0), (2, .int 46656)]) hx hb dX12_roundOf_35 hl (by decide) rfl (fun ls hl => ?_)
                        refine lv_iload hx hb dX12_roundOf_37 (lv_at hl 0 rfl) ?_
                        refine lv_aload_n hx hb dX12_roundOf_39 rfl (lv_at hl 6 rfl) ?_
                        refine va_get (D := D) (ci := 13) (v := .int d_spots) (C := RX12) (T := TX12) (N := 48) hx hb hts kin_RX12 hown hG.1 hP 0 rfl rfl 24 (by decide) (hts _ wm_1543) (fun _ h9 => h9) rfl dX12_roundOf_40 ?_
                        refine lv_icmp_ge (tgt := 56) hx hb dX12_roundOf_43 (by decide) (fun c301q => ?_) (fun c301q => ?_)
                        · simp only [k_lt, k_le, k_eq, ne_eq, ge_iff_le, gt_iff_lt] at c301q
                          refine lv_iconst (v := (-1)) hx hb dX12_roundOf_56 (by decide) ?_
                          rw [hQ0]
                          exact k_iret () hx hb hr hlk (trivial) (hP.sub [0, 1, 2, 3, 4, 5, 6, 7, 8] rfl) (hD.sub [0, 1, 2, 3, 4, 5, 6, 7, 8] (by decide) rfl) hS (by decide) (by decide) dX12_roundOf_57
                        · simp only [k_lt, k_le, k_eq, ne_eq, ge_iff_le, gt_iff_lt] at c301q
                          refine lv_iload_n hx hb dX12_roundOf_46 rfl (lv_at hl 4 rfl) ?_
                          refine lv_iload hx hb dX12_roundOf_47 (lv_at hl 0 rfl) ?_
                          refine lv_ishr hx hb dX12_roundOf_49 ?_
                          refine lv_topi (fun x302q ex302q => ?_)
                          refine lv_iconst (v := 1) hx hb dX12_roundOf_50 (by decide) ?_
                          refine lv_iand hx hb dX12_roundOf_51 ?_
                          refine lv_topi (fun x303q ex303q => ?_)
                          have rx303q := n_and ex303q (b := 1) n_L1 (by omega)
                          refine lv_iconst (v := 1) hx hb dX12_roundOf_52 (by decide) ?_
                          refine lv_icmp_ne (tgt := 58) hx hb dX12_roundOf_53 (by decide) (fun c304q => ?_) (fun c304q => ?_)
                          · simp only [k_lt, k_le, k_eq, ne_eq, ge_iff_le, gt_iff_lt, n_L1] at c304q
                            refine lv_iload_n hx hb dX12_roundOf_58 rfl (lv_at hl 4 rfl) ?_
                            refine lv_iconst (v := 1) hx hb dX12_roundOf_59 (by decide) ?_
                            refine lv_iload hx hb dX12_roundOf_60 (lv_at hl 0 rfl) ?_
                            refine lv_ishl hx hb dX12_roundOf_62 ?_
                            refine lv_topi (fun x305q ex305q => ?_)
                            refine lv_ior hx hb dX12_roundOf_63 ?_
                            refine lv_topi (fun x306q ex306q => ?_)
                            refine lv_istore_n (lv' := [(3, .int x306q), (8, .int x300q), (7, .int 1), (6, .int x287q), (4, .int x297q), (5, .int x232q), (0, .ref da), (1, .int v0), (2, .int 46656)]) hx hb dX12_roundOf_64 rfl hl (by decide) rfl (fun ls hl => ?_)
                            refine lv_iload hx hb dX12_roundOf_65 (lv_at hl 4 rfl) ?_
                            refine lv_aload_n hx hb dX12_roundOf_67 rfl (lv_at hl 6 rfl) ?_
                            refine lv_iload hx hb dX12_roundOf_68 (lv_at hl 3 rfl) ?_
                            refine lv_iload hx hb dX12_roundOf_70 (lv_at hl 1 rfl) ?_
                            refine k_cali [] (⟨hP, hD, hG, hS, hA, rfl, rfl⟩ : kAt D cy sa A s H _ _ [(da, .inr (13, [.int d_thrown, .int d_tape, .int d_size, .int d_place, .int d_at, .int d_fault, .int d_faultAt, .int d_clauses, .ref da_fed, .ref da_readBody, .ref da_body, .ref da_readMany, .ref da_many, .ref da_without, .ref da_did, .ref da_done, .ref da_bed, .int d_now, .int d_mindAt, .int d_way, .int d_harm, .int d_worth, .int d_passes, .int d_passings, .int d_spots, .int d_images, .ref da_passing, .ref da_spot, .ref da_kept, .ref da_aside, .int d_spare, .ref da_ran, .ref da_who, .ref da_cap, .ref da_w, .ref da_laid, .int d_whoMany, .int d_drifted, .int d_seed, .ref da_cries, .ref da_holds, .ref da_came, .ref da_least, .ref da_firstTo, .int d_steps, .int d_roundFrom, .int d_roundMany, .int d_numberAt])), (da_many, .inl (cy 0, 5, .inl df_many)), (da_spot, .inl (cy 5, 6, .inr (.inr (.inr (.inr (fun i => if i < 6 then some (da_spot + 1 + i) else none)))))), ((da_spot + 1 + 0), .inl (cy 0, 2, .inl ((dF_spot 0)))), ((da_spot + 1 + 1), .inl (cy 0, 2, .inl ((dF_spot 1)))), ((da_spot + 1 + 2), .inl (cy 0, 2, .inl ((dF_spot 2)))), ((da_spot + 1 + 3), .inl (cy 0, 2, .inl ((dF_spot 3)))), ((da_spot + 1 + 4), .inl (cy 0, 2, .inl ((dF_spot 4)))), ((da_spot + 1 + 5), .inl (cy 0, 2, .inl ((dF_spot 5))))] [0, 1, 2, 3, 4, 5, 6, 7, 8]) (wr := []) rfl rfl (by decide) (k_runV 13 0 (As := [.int x287q, .int x300q]) (rest := [.int x297q]) E lk_VRX12_343 rfl rfl rfl (m_between l hl0 D cy sa da da_fed da_readBody da_body da_readMany da_many da_without da_did da_done da_bed da_passing da_spot da_kept da_aside da_ran da_who da_cap da_w da_laid da_cries da_holds da_came da_least da_firstTo d_thrown d_tape d_size d_place d_at d_fault d_faultAt d_clauses d_now d_mindAt d_way d_harm d_worth d_passes d_passings d_spots d_images d_spare d_whoMany d_drifted d_seed d_steps d_roundFrom d_roundMany d_numberAt x287q x300q df_many dF_spot ⟨by omega, by omega⟩ ⟨by omega, by omega⟩ ⟨by omega, by omega⟩ ⟨by omega, by omega⟩ ⟨by omega, by omega⟩ ⟨by omega, by omega⟩ ⟨by omega, by omega⟩ ⟨by omega, by omega⟩ ⟨by omega, by omega⟩ ⟨by omega, by omega⟩ (by assumption) (by assumption) (by assumption) ⟨by omega, by omega⟩ ⟨by omega, by omega⟩ (by omega) H.size) (⟨hP, hD, hG, hS, hA, rfl, rfl⟩ : kAt D cy sa A s H _ _ [(da, .inr (13, [.int d_thrown, .int d_tape, .int d_size, .int d_place, .int d_at, .int d_fault, .int d_faultAt, .int d_clauses, .ref da_fed, .ref da_readBody, .ref da_body, .ref da_readMany, .ref da_many, .ref da_without, .ref da_did, .ref da_done, .ref da_bed, .int d_now, .int d_mindAt, .int d_way, .int d_harm, .int d_worth, .int d_passes, .int d_passings, .int d_spots, .int d_images, .ref da_passing, .ref da_spot, .ref da_kept, .ref da_aside, .int d_spare, .ref da_ran, .ref da_who, .ref da_cap, .ref da_w, .ref da_laid, .int d_whoMany, .int d_drifted, .int d_seed, .ref da_cries, .ref da_holds, .ref da_came, .ref da_least, .ref da_firstTo, .int d_steps, .int d_roundFrom, .int d_roundMany, .int d_numberAt])), (da_many, .inl (cy 0, 5, .inl df_many)), (da_spot, .inl (cy 5, 6, .inr (.inr (.inr (.inr (fun i => if i < 6 then some (da_spot + 1 + i) else none)))))), ((da_spot + 1 + 0), .inl (cy 0, 2, .inl ((dF_spot 0)))), ((da_spot + 1 + 1), .inl (cy 0, 2, .inl ((dF_spot 1)))), ((da_spot + 1 + 2), .inl (cy 0, 2, .inl ((dF_spot 2)))), ((da_spot + 1 + 3), .inl (cy 0, 2, .inl ((dF_spot 3)))), ((da_spot + 1 + 4), .inl (cy 0, 2, .inl ((dF_spot 4)))), ((da_spot + 1 + 5), .inl (cy 0, 2, .inl ((dF_spot 5))))] [0, 1, 2, 3, 4, 5, 6, 7, 8]) hl.1 rfl rfl ⟨rfl, rfl, ⟨Nat.le_of_ble_eq_true rfl, Nat.le_of_ble_eq_true rfl⟩, ⟨Nat.le_of_ble_eq_true rfl, Nat.le_of_ble_eq_true rfl⟩, Nat.le_of_ble_eq_true rfl⟩ dX12_roundOf_72) (fun r307q u308q H locs hwu308q hP hD hS => ?_)
                            have hP : va_P D vwCl [(da, .inr (13, [.int d_thrown, .int d_tape, .int d_size, .int d_place, .int d_at, .int d_fault, .int d_faultAt, .int d_clauses, .ref da_fed, .ref da_readBody, .ref da_body, .ref da_readMany, .ref da_many, .ref da_without, .ref da_did, .ref da_done, .ref da_bed, .int d_now, .int d_mindAt, .int d_way, .int d_harm, .int d_worth, .int d_passes, .int d_passings, .int d_spots, .int d_images, .ref da_passing, .ref da_spot, .ref da_kept, .ref da_aside, .int d_spare, .ref da_ran, .ref da_who, .ref da_cap, .ref da_w, .ref da_laid, .int d_whoMany, .int d_drifted, .int d_seed, .ref da_cries, .ref da_holds, .ref da_came, .ref da_least, .ref da_firstTo, .int d_steps, .int d_roundFrom, .int d_roundMany, .int d_numberAt])), (da_many, .inl (cy 0, 5, .inl df_many)), (da_spot, .inl (cy 5, 6, .inr (.inr (.inr (.inr (fun i => if i < 6 then some (da_spot + 1 + i) else none)))))), ((da_spot + 1 + 0), .inl (cy 0, 2, .inl ((dF_spot 0)))), ((da_spot + 1 + 1), .inl (cy 0, 2, .inl ((dF_spot 1)))), ((da_spot + 1 + 2), .inl (cy 0, 2, .inl ((dF_spot 2)))), ((da_spot + 1 + 3), .inl (cy 0, 2, .inl ((dF_spot 3)))), ((da_spot + 1 + 4), .inl (cy 0, 2, .inl ((dF_spot 4)))), ((da_spot + 1 + 5), .inl (cy 0, 2, .inl ((dF_spot 5))))] H := hP
                            have hD : va_D A [(da, .inr (13, [.int d_thrown, .int d_tape, .int d_size, .int d_place, .int d_at, .int d_fault, .int d_faultAt, .int d_clauses, .ref da_fed, .ref da_readBody, .ref da_body, .ref da_readMany, .ref da_many, .ref da_without, .ref da_did, .ref da_done, .ref da_bed, .int d_now, .int d_mindAt, .int d_way, .int d_harm, .int d_worth, .int d_passes, .int d_passings, .int d_spots, .int d_images, .ref da_passing, .ref da_spot, .ref da_kept, .ref da_aside, .int d_spare, .ref da_ran, .ref da_who, .ref da_cap, .ref da_w, .ref da_laid, .int d_whoMany, .int d_drifted, .int d_seed, .ref da_cries, .ref da_holds, .ref da_came, .ref da_least, .ref da_firstTo, .int d_steps, .int d_roundFrom, .int d_roundMany, .int d_numberAt])), (da_many, .inl (cy 0, 5, .inl df_many)), (da_spot, .inl (cy 5, 6, .inr (.inr (.inr (.inr (fun i => if i < 6 then some (da_spot + 1 + i) else none)))))), ((da_spot + 1 + 0), .inl (cy 0, 2, .inl ((dF_spot 0)))), ((da_spot + 1 + 1), .inl (cy 0, 2, .inl ((dF_spot 1)))), ((da_spot + 1 + 2), .inl (cy 0, 2, .inl ((dF_spot 2)))), ((da_spot + 1 + 3), .inl (cy 0, 2, .inl ((dF_spot 3)))), ((da_spot + 1 + 4), .inl (cy 0, 2, .inl ((dF_spot 4)))), ((da_spot + 1 + 5), .inl (cy 0, 2, .inl ((dF_spot 5))))] := hD
                            have p309q := hwu308q
                            refine lv_iadd hx hb dX12_roundOf_75 ?_
                            refine lv_topi (fun x310q ex310q => ?_)
                            have rx310q := n_add ex310q (a := x297q.toInt) (b := r307q.toInt) rfl rfl (by omega) (by omega)
                            refine lv_istore (lv' := [(4, .int x310q), (3, .int x306q), (8, .int x300q), (7, .int 1), (6, .int x287q), (5, .int x232q), (0, .ref da), (1, .int v0), (2, .int 46656)]) hx hb dX12_roundOf_76 hl (by decide) rfl (fun ls hl => ?_)
                            refine lv_iload hx hb dX12_roundOf_78 (lv_at hl 2 rfl) ?_
                            refine lv_istore (lv' := [(6, .int x300q), (4, .int x310q), (3, .int x306q), (8, .int x300q), (7, .int 1), (5, .int x232q), (0, .ref da), (1, .int v0), (2, .int 46656)]) hx hb dX12_roundOf_80 hl (by decide) rfl (fun ls hl => ?_)
                            refine lv_iload hx hb dX12_roundOf_82 (lv_at hl 4 rfl) ?_
                            refine lv_bipush (v := 6) hx hb dX12_roundOf_84 (by decide) ?_
                            refine lv_idiv hx hb dX12_roundOf_86 (by decide) ?_
                            refine lv_topi (fun x311q ex311q => ?_)
                            obtain rfl : x311q = 0 := ex311q.trans (by decide)
                            refine lv_istore (lv' := [(7, .int 0), (6, .int x300q), (4, .int x310q), (3, .int x306q), (8, .int x300q), (5, .int x232q), (0, .ref da), (1, .int v0), (2, .int 46656)]) hx hb dX12_roundOf_87 hl (by decide) rfl (fun ls hl => ?_)
                            refine lv_goto (tgt := 23) hx hb dX12_roundOf_89 (by decide) ?_
                            refine lv_iload hx hb dX12_roundOf_23 (lv_at hl 0 rfl) ?_
                            refine lv_if_le (tgt := 92) hx hb dX12_roundOf_25 (by decide) (fun _ => ?_) (fun h => absurd (by decide) h)
                            refine lv_iload hx hb dX12_roundOf_92 (lv_at hl 2 rfl) ?_
                            refine lv_aload_n hx hb dX12_roundOf_94 rfl (lv_at hl 6 rfl) ?_
                            refine lv_iload hx hb dX12_roundOf_95 (lv_at hl 1 rfl) ?_
                            refine lv_iload hx hb dX12_roundOf_97 (lv_at hl 5 rfl) ?_
                            refine k_cali [] (⟨hP, hD, hG, hS, hA, rfl, rfl⟩ : kAt D cy sa A s H _ _ [(da, .inr (13, [.int d_thrown, .int d_tape, .int d_size, .int d_place, .int d_at, .int d_fault, .int d_faultAt, .int d_clauses, .ref da_fed, .ref da_readBody, .ref da_body, .ref da_readMany, .ref da_many, .ref da_without, .ref da_did, .ref da_done, .ref da_bed, .int d_now, .int d_mindAt, .int d_way, .int d_harm, .int d_worth, .int d_passes, .int d_passings, .int d_spots, .int d_images, .ref da_passing, .ref da_spot, .ref da_kept, .ref da_aside, .int d_spare, .ref da_ran, .ref da_who, .ref da_cap, .ref da_w, .ref da_laid, .int d_whoMany, .int d_drifted, .int d_seed, .ref da_cries, .ref da_holds, .ref da_came, .ref da_least, .ref da_firstTo, .int d_steps, .int d_roundFrom, .int d_roundMany, .int d_numberAt])), (da_many, .inl (cy 0, 5, .inl df_many)), (da_spot, .inl (cy 5, 6, .inr (.inr (.inr (.inr (fun i => if i < 6 then some (da_spot + 1 + i) else none)))))), ((da_spot + 1 + 0), .inl (cy 0, 2, .inl ((dF_spot 0)))), ((da_spot + 1 + 1), .inl (cy 0, 2, .inl ((dF_spot 1)))), ((da_spot + 1 + 2), .inl (cy 0, 2, .inl ((dF_spot 2)))), ((da_spot + 1 + 3), .inl (cy 0, 2, .inl ((dF_spot 3)))), ((da_spot + 1 + 4), .inl (cy 0, 2, .inl ((dF_spot 4)))), ((da_spot + 1 + 5), .inl (cy 0, 2, .inl ((dF_spot 5))))] [0, 1, 2, 3, 4, 5, 6, 7, 8]) (wr := []) rfl rfl (by decide) (k_runV 13 0 (As := [.int x300q, .int x232q]) (rest := [.int x310q]) E lk_VRX12_343 rfl rfl rfl (m_between l hl0 D cy sa da da_fed da_readBody da_body da_readMany da_many da_without da_did da_done da_bed da_passing da_spot da_kept da_aside da_ran da_who da_cap da_w da_laid da_cries da_holds da_came da_least da_firstTo d_thrown d_tape d_size d_place d_at d_fault d_faultAt d_clauses d_now d_mindAt d_way d_harm d_worth d_passes d_passings d_spots d_images d_spare d_whoMany d_drifted d_seed d_steps d_roundFrom d_roundMany d_numberAt x300q x232q df_many dF_spot ⟨by omega, by omega⟩ ⟨by omega, by omega⟩ ⟨by omega, by omega⟩ ⟨by omega, by omega⟩ ⟨by omega, by omega⟩ ⟨by omega, by omega⟩ ⟨by omega, by omega⟩ ⟨by omega, by omega⟩ ⟨by omega, by omega⟩ ⟨by omega, by omega⟩ (by assumption) (by assumption) (by assumption) ⟨by omega, by omega⟩ ⟨by omega, by omega⟩ (by omega) H.size) (⟨hP, hD, hG, hS, hA, rfl, rfl⟩ : kAt D cy sa A s H _ _ [(da, .inr (13, [.int d_thrown, .int d_tape, .int d_size, .int d_place, .int d_at, .int d_fault, .int d_faultAt, .int d_clauses, .ref da_fed, .ref da_readBody, .ref da_body, .ref da_readMany, .ref da_many, .ref da_without, .ref da_did, .ref da_done, .ref da_bed, .int d_now, .int d_mindAt, .int d_way, .int d_harm, .int d_worth, .int d_passes, .int d_passings, .int d_spots, .int d_images, .ref da_passing, .ref da_spot, .ref da_kept, .ref da_aside, .int d_spare, .ref da_ran, .ref da_who, .ref da_cap, .ref da_w, .ref da_laid, .int d_whoMany, .int d_drifted, .int d_seed, .ref da_cries, .ref da_holds, .ref da_came, .ref da_least, .ref da_firstTo, .int d_steps, .int d_roundFrom, .int d_roundMany, .int d_numberAt])), (da_many, .inl (cy 0, 5, .inl df_many)), (da_spot, .inl (cy 5, 6, .inr (.inr (.inr (.inr (fun i => if i < 6 then some (da_spot + 1 + i) else none)))))), ((da_spot + 1 + 0), .inl (cy 0, 2, .inl ((dF_spot 0)))), ((da_spot + 1 + 1), .inl (cy 0, 2, .inl ((dF_spot 1)))), ((da_spot + 1 + 2), .inl (cy 0, 2, .inl ((dF_spot 2)))), ((da_spot + 1 + 3), .inl (cy 0, 2, .inl ((dF_spot 3)))), ((da_spot + 1 + 4), .inl (cy 0, 2, .inl ((dF_spot 4)))), ((da_spot + 1 + 5), .inl (cy 0, 2, .inl ((dF_spot 5))))] [0, 1, 2, 3, 4, 5, 6, 7, 8]) hl.1 rfl rfl ⟨rfl, rfl, ⟨Nat.le_of_ble_eq_true rfl, Nat.le_of_ble_eq_true rfl⟩, ⟨Nat.le_of_ble_eq_true rfl, Nat.le_of_ble_eq_true rfl⟩, Nat.le_of_ble_eq_true rfl⟩ dX12_roundOf_99) (fun r312q u313q H locs hwu313q hP hD hS => ?_)
                            have hP : va_P D vwCl [(da, .inr (13, [.int d_thrown, .int d_tape, .int d_size, .int d_place, .int d_at, .int d_fault, .int d_faultAt, .int d_clauses, .ref da_fed, .ref da_readBody, .ref da_body, .ref da_readMany, .ref da_many, .ref da_without, .ref da_did, .ref da_done, .ref da_bed, .int d_now, .int d_mindAt, .int d_way, .int d_harm, .int d_worth, .int d_passes, .int d_passings, .int d_spots, .int d_images, .ref da_passing, .ref da_spot, .ref da_kept, .ref da_aside, .int d_spare, .ref da_ran, .ref da_who, .ref da_cap, .ref da_w, .ref da_laid, .int d_whoMany, .int d_drifted, .int d_seed, .ref da_cries, .ref da_holds, .ref da_came, .ref da_least, .ref da_firstTo, .int d_steps, .int d_roundFrom, .int d_roundMany, .int d_numberAt])), (da_many, .inl (cy 0, 5, .inl df_many)), (da_spot, .inl (cy 5, 6, .inr (.inr (.inr (.inr (fun i => if i < 6 then some (da_spot + 1 + i) else none)))))), ((da_spot + 1 + 0), .inl (cy 0, 2, .inl ((dF_spot 0)))), ((da_spot + 1 + 1), .inl (cy 0, 2, .inl ((dF_spot 1)))), ((da_spot + 1 + 2), .inl (cy 0, 2, .inl ((dF_spot 2)))), ((da_spot + 1 + 3), .inl (cy 0, 2, .inl ((dF_spot 3)))), ((da_spot + 1 + 4), .inl (cy 0, 2, .inl ((dF_spot 4)))), ((da_spot + 1 + 5), .inl (cy 0, 2, .inl ((dF_spot 5))))] H := hP
                            have hD : va_D A [(da, .inr (13, [.int d_thrown, .int d_tape, .int d_size, .int d_place, .int d_at, .int d_fault, .int d_faultAt, .int d_clauses, .ref da_fed, .ref da_readBody, .ref da_body, .ref da_readMany, .ref da_many, .ref da_without, .ref da_did, .ref da_done, .ref da_bed, .int d_now, .int d_mindAt, .int d_way, .int d_harm, .int d_worth, .int d_passes, .int d_passings, .int d_spots, .int d_images, .ref da_passing, .ref da_spot, .ref da_kept, .ref da_aside, .int d_spare, .ref da_ran, .ref da_who, .ref da_cap, .ref da_w, .ref da_laid, .int d_whoMany, .int d_drifted, .int d_seed, .ref da_cries, .ref da_holds, .ref da_came, .ref da_least, .ref da_firstTo, .int d_steps, .int d_roundFrom, .int d_roundMany, .int d_numberAt])), (da_many, .inl (cy 0, 5, .inl df_many)), (da_spot, .inl (cy 5, 6, .inr (.inr (.inr (.inr (fun i => if i < 6 then some (da_spot + 1 + i) else none)))))), ((da_spot + 1 + 0), .inl (cy 0, 2, .inl ((dF_spot 0)))), ((da_spot + 1 + 1), .inl (cy 0, 2, .inl ((dF_spot 1)))), ((da_spot + 1 + 2), .inl (cy 0, 2, .inl ((dF_spot 2)))), ((da_spot + 1 + 3), .inl (cy 0, 2, .inl ((dF_spot 3)))), ((da_spot + 1 + 4), .inl (cy 0, 2, .inl ((dF_spot 4)))), ((da_spot + 1 + 5), .inl (cy 0, 2, .inl ((dF_spot 5))))] := hD
                            have p314q := hwu313q
                            refine lv_iadd hx hb dX12_roundOf_102 ?_
                            refine lv_topi (fun x315q ex315q => ?_)
                            have rx315q := n_add ex315q (a := x310q.toInt) (b := r312q.toInt) rfl rfl (by omega) (by omega)
                            rw [hQ0]
                            exact k_iret () hx hb hr hlk (trivial) (hP.sub [0, 1, 2, 3, 4, 5, 6, 7, 8] rfl) (hD.sub [0, 1, 2, 3, 4, 5, 6, 7, 8] (by decide) rfl) hS (by decide) (by decide) dX12_roundOf_103
                          · simp only [k_lt, k_le, k_eq, ne_eq, ge_iff_le, gt_iff_lt, n_L1] at c304q
                            refine lv_iconst (v := (-1)) hx hb dX12_roundOf_56 (by decide) ?_
                            rw [hQ0]
                            exact k_iret () hx hb hr hlk (trivial) (hP.sub [0, 1, 2, 3, 4, 5, 6, 7, 8] rfl) (hD.sub [0, 1, 2, 3, 4, 5, 6, 7, 8] (by decide) rfl) hS (by decide) (by decide) dX12_roundOf_57
                      · simp only [k_lt, k_le, k_eq, ne_eq, ge_iff_le, gt_iff_lt, n_L1] at c291q
                        refine lv_iconst (v := (-1)) hx hb dX12_roundOf_56 (by decide) ?_
                        rw [hQ0]
                        exact k_iret () hx hb hr hlk (trivial) (hP.sub [0, 1, 2, 3, 4, 5, 6, 7, 8] rfl) (hD.sub [0, 1, 2, 3, 4, 5, 6, 7, 8] (by decide) rfl) hS (by decide) (by decide) dX12_roundOf_57
                  · simp only [k_lt, k_le, k_eq, ne_eq, ge_iff_le, gt_iff_lt, n_L1] at c278q
                    refine lv_iconst (v := (-1)) hx hb dX12_roundOf_56 (by decide) ?_
                    rw [hQ0]
                    exact k_iret () hx hb hr hlk (trivial) (hP.sub [0, 1, 2, 3, 4, 5, 6, 7, 8] rfl) (hD.sub [0, 1, 2, 3, 4, 5, 6, 7, 8] (by decide) rfl) hS (by decide) (by decide) dX12_roundOf_57
              · simp only [k_lt, k_le, k_eq, ne_eq, ge_iff_le, gt_iff_lt, n_L1] at c265q
                refine lv_iconst (v := (-1)) hx hb dX12_roundOf_56 (by decide) ?_
                rw [hQ0]
                exact k_iret () hx hb hr hlk (trivial) (hP.sub [0, 1, 2, 3, 4, 5, 6, 7, 8] rfl) (hD.sub [0, 1, 2, 3, 4, 5, 6, 7, 8] (by decide) rfl) hS (by decide) (by decide) dX12_roundOf_57
          · simp only [k_lt, k_le, k_eq, ne_eq, ge_iff_le, gt_iff_lt, n_L1] at c252q
            refine lv_iconst (v := (-1)) hx hb dX12_roundOf_56 (by decide) ?_
            rw [hQ0]
            exact k_iret () hx hb hr hlk (trivial) (hP.sub [0, 1, 2, 3, 4, 5, 6, 7, 8] rfl) (hD.sub [0, 1, 2, 3, 4, 5, 6, 7, 8] (by decide) rfl) hS (by decide) (by decide) dX12_roundOf_57
      · simp only [k_lt, k_le, k_eq, ne_eq, ge_iff_le, gt_iff_lt, n_L1] at c239q
        refine lv_iconst (v := (-1)) hx hb dX12_roundOf_56 (by decide) ?_
        rw [hQ0]
        exact k_iret () hx hb hr hlk (trivial) (hP.sub [0, 1, 2, 3, 4, 5, 6, 7, 8] rfl) (hD.sub [0, 1, 2, 3, 4, 5, 6, 7, 8] (by decide) rfl) hS (by decide) (by decide) dX12_roundOf_57

set_option maxHeartbeats 4000000 in
set_option maxRecDepth 100000 in
/-- the reference: placed -/
theorem m_placed (l : Launch) (hl0 : l.stackTraces = false) (D : va_G) (cy : Nat → ClassId) (sa : Nat → Nat) (da da_fed da_readBody da_body da_readMany da_many da_without da_did da_done da_bed da_passing da_spot da_kept da_aside da_ran da_who da_cap da_w da_laid da_cries da_holds da_came da_least da_firstTo : Nat) (d_thrown d_tape d_size d_place d_at d_fault d_faultAt d_clauses d_now d_mindAt d_way d_harm d_worth d_passes d_passings d_spots d_images d_spare d_whoMany d_drifted d_seed d_steps d_roundFrom d_roundMany d_numberAt w0 : Int32) (df_many : Nat → Int32) (dF_spot : Nat → Nat → Int32) (h_d_tape : 0 ≤ d_tape.toInt ∧ d_tape.toInt ≤ 500) (h_d_size : 0 ≤ d_size.toInt ∧ d_size.toInt ≤ 500) (h_d_at : 0 ≤ d_at.toInt ∧ d_at.toInt ≤ 500) (h_d_clauses : 0 ≤ d_clauses.toInt ∧ d_clauses.toInt ≤ 40) (h_d_now : 0 ≤ d_now.toInt ∧ d_now.toInt ≤ 480) (h_d_mindAt : 0 ≤ d_mindAt.toInt ∧ d_mindAt.toInt ≤ 8) (h_d_passings : 0 ≤ d_passings.toInt ∧ d_passings.toInt ≤ 30) (h_d_spots : 0 ≤ d_spots.toInt ∧ d_spots.toInt ≤ 6) (h_d_images : 0 ≤ d_images.toInt ∧ d_images.toInt ≤ 3) (h_d_whoMany : 0 ≤ d_whoMany.toInt ∧ d_whoMany.toInt ≤ 4) (hx_df_many : (0 ≤ (df_many 0).toInt ∧ (df_many 0).toInt ≤ 9) ∧ (0 ≤ (df_many 1).toInt ∧ (df_many 1).toInt ≤ 9) ∧ (0 ≤ (df_many 2).toInt ∧ (df_many 2).toInt ≤ 30) ∧ (0 ≤ (df_many 3).toInt ∧ (df_many 3).toInt ≤ 480) ∧ (((df_many 0).toInt = 0 ∧ (df_many 3).toInt = 0) ∨ 1 ≤ (df_many 2).toInt)) (hc_dF_spot_0 : ∀ b, b < 6 → 0 ≤ (dF_spot b 0).toInt ∧ (dF_spot b 0).toInt ≤ 15) (hc_dF_spot_1 : ∀ b, b < 6 → 0 ≤ (dF_spot b 1).toInt ∧ (dF_spot b 1).toInt ≤ 15) (sz : Nat) : Met l yX12_placed (Cond.code yX12_placed cX12_placed 7 (some .int) :: kWS) ({ frames := 13, cells := 0, slots := 0, locals := 480 }) (kPre D cy sa [.ref da, .int w0] [(da, .inr (13, [.int d_thrown, .int d_tape, .int d_size, .int d_place, .int d_at, .int d_fault, .int d_faultAt, .int d_clauses, .ref da_fed, .ref da_readBody, .ref da_body, .ref da_readMany, .ref da_many, .ref da_without, .ref da_did, .ref da_done, .ref da_bed, .int d_now, .int d_mindAt, .int d_way, .int d_harm, .int d_worth, .int d_passes, .int d_passings, .int d_spots, .int d_images, .ref da_passing, .ref da_spot, .ref da_kept, .ref da_aside, .int d_spare, .ref da_ran, .ref da_who, .ref da_cap, .ref da_w, .ref da_laid, .int d_whoMany, .int d_drifted, .int d_seed, .ref da_cries, .ref da_holds, .ref da_came, .ref da_least, .ref da_firstTo, .int d_steps, .int d_roundFrom, .int d_roundMany, .int d_numberAt])), (da_many, .inl (cy 0, 5, .inl df_many)), (da_spot, .inl (cy 5, 6, .inr (.inr (.inr (.inr (fun i => if i < 6 then some (da_spot + 1 + i) else none)))))), ((da_spot + 1 + 0), .inl (cy 0, 2, .inl ((dF_spot 0)))), ((da_spot + 1 + 1), .inl (cy 0, 2, .inl ((dF_spot 1)))), ((da_spot + 1 + 2), .inl (cy 0, 2, .inl ((dF_spot 2)))), ((da_spot + 1 + 3), .inl (cy 0, 2, .inl ((dF_spot 3)))), ((da_spot + 1 + 4), .inl (cy 0, 2, .inl ((dF_spot 4)))), ((da_spot + 1 + 5), .inl (cy 0, 2, .inl ((dF_spot 5))))] sz) (va_Qi (fun (r : Int32) (u : (Nat → Int32) × (Nat → Nat → Int32)) => True) (kB D (va_A [(da, .inr (13, [.int d_thrown, .int d_tape, .int d_size, .int d_place, .int d_at, .int d_fault, .int d_faultAt, .int d_clauses, .ref da_fed, .ref da_readBody, .ref da_body, .ref da_readMany, .ref da_many, .ref da_without, .ref da_did, .ref da_done, .ref da_bed, .int d_now, .int d_mindAt, .int d_way, .int d_harm, .int d_worth, .int d_passes, .int d_passings, .int d_spots, .int d_images, .ref da_passing, .ref da_spot, .ref da_kept, .ref da_aside, .int d_spare, .ref da_ran, .ref da_who, .ref da_cap, .ref da_w, .ref da_laid, .int d_whoMany, .int d_drifted, .int d_seed, .ref da_cries, .ref da_holds, .ref da_came, .ref da_least, .ref da_firstTo, .int d_steps, .int d_roundFrom, .int d_roundMany, .int d_numberAt])), (da_many, .inl (cy 0, 5, .inl df_many)), (da_spot, .inl (cy 5, 6, .inr (.inr (.inr (.inr (fun i => if i < 6 then some (da_spot + 1 + i) else none)))))), ((da_spot + 1 + 0), .inl (cy 0, 2, .inl ((dF_spot 0)))), ((da_spot + 1 + 1), .inl (cy 0, 2, .inl ((dF_spot 1)))), ((da_spot + 1 + 2), .inl (cy 0, 2, .inl ((dF_spot 2)))), ((da_spot + 1 + 3), .inl (cy 0, 2, .inl ((dF_spot 3)))), ((da_spot + 1 + 4), .inl (cy 0, 2, .inl ((dF_spot 4)))), ((da_spot + 1 + 5), .inl (cy 0, 2, .inl ((dF_spot 5))))] sz) (fun (u : (Nat → Int32) × (Nat → Nat → Int32)) => [(da, .inr (13, [.int ((u.1 0)), .int d_tape, .int d_size, .int d_place, .int d_at, .int d_fault, .int d_faultAt, .int d_clauses, .ref da_fed, .ref da_readBody, .ref da_body, .ref da_readMany, .ref da_many, .ref da_without, .ref da_did, .ref da_done, .ref da_bed, .int d_now, .int d_mindAt, .int d_way, .int d_harm, .int d_worth, .int d_passes, .int d_passings, .int d_spots, .int d_images, .ref da_passing, .ref da_spot, .ref da_kept, .ref da_aside, .int d_spare, .ref da_ran, .ref da_who, .ref da_cap, .ref da_w, .ref da_laid, .int d_whoMany, .int d_drifted, .int d_seed, .ref da_cries, .ref da_holds, .ref da_came, .ref da_least, .ref da_firstTo, .int d_steps, .int d_roundFrom, .int d_roundMany, .int d_numberAt])), (da_many, .inl (cy 0, 5, .inl df_many)), (da_spot, .inl (cy 5, 6, .inr (.inr (.inr (.inr (fun i => if i < 6 then some (da_spot + 1 + i) else none)))))), ((da_spot + 1 + 0), .inl (cy 0, 2, .inl ((dF_spot 0)))), ((da_spot + 1 + 1), .inl (cy 0, 2, .inl ((dF_spot 1)))), ((da_spot + 1 + 2), .inl (cy 0, 2, .inl ((dF_spot 2)))), ((da_spot + 1 + 3), .inl (cy 0, 2, .inl ((dF_spot 3)))), ((da_spot + 1 + 4), .inl (cy 0, 2, .inl ((dF_spot 4)))), ((da_spot + 1 + 5), .inl (cy 0, 2, .inl ((dF_spot 5))))])) (va_A [(da, .inr (13, [.int d_thrown, .int d_tape, .int d_size, .int d_place, .int d_at, .int d_fault, .int d_faultAt, .int d_clauses, .ref da_fed, .ref da_readBody, .ref da_body, .ref da_readMany, .ref da_many, .ref da_without, .ref da_did, .ref da_done, .ref da_bed, .int d_now, .int d_mindAt, .int d_way, .int d_harm, .int d_worth, .int d_passes, .int d_passings, .int d_spots, .int d_images, .ref da_passing, .ref da_spot, .ref da_kept, .ref da_aside, .int d_spare, .ref da_ran, .ref da_who, .ref da_cap, .ref da_w, .ref da_laid, .int d_whoMany, .int d_drifted, .int d_seed, .ref da_cries, .ref da_holds, .ref da_came, .ref da_least, .ref da_firstTo, .int d_steps, .int d_roundFrom, .int d_roundMany, .int d_numberAt])), (da_many, .inl (cy 0, 5, .inl df_many)), (da_spot, .inl (cy 5, 6, .inr (.inr (.inr (.inr (fun i => if i < 6 then some (da_spot + 1 + i) else none)))))), ((da_spot + 1 + 0), .inl (cy 0, 2, .inl ((dF_spot 0)))), ((da_spot + 1 + 1), .inl (cy 0, 2, .inl ((dF_spot 1)))), ((da_spot + 1 + 2), .inl (cy 0, 2, .inl ((dF_spot 2)))), ((da_spot + 1 + 3), .inl (cy 0, 2, .inl ((dF_spot 3)))), ((da_spot + 1 + 4), .inl (cy 0, 2, .inl ((dF_spot 4)))), ((da_spot + 1 + 5), .inl (cy 0, 2, .inl ((dF_spot 5))))] sz)) 0 0 (va_A [(da, .inr (13, [.int d_thrown, .int d_tape, .int d_size, .int d_place, .int d_at, .int d_fault, .int d_faultAt, .int d_clauses, .ref da_fed, .ref da_readBody, .ref da_body, .ref da_readMany, .ref da_many, .ref da_without, .ref da_did, .ref da_done, .ref da_bed, .int d_now, .int d_mindAt, .int d_way, .int d_harm, .int d_worth, .int d_passes, .int d_passings, .int d_spots, .int d_images, .ref da_passing, .ref da_spot, .ref da_kept, .ref da_aside, .int d_spare, .ref da_ran, .ref da_who, .ref da_cap, .ref da_w, .ref da_laid, .int d_whoMany, .int d_drifted, .int d_seed, .ref da_cries, .ref da_holds, .ref da_came, .ref da_least, .ref da_firstTo, .int d_steps, .int d_roundFrom, .int d_roundMany, .int d_numberAt])), (da_many, .inl (cy 0, 5, .inl df_many)), (da_spot, .inl (cy 5, 6, .inr (.inr (.inr (.inr (fun i => if i < 6 then some (da_spot + 1 + i) else none)))))), ((da_spot + 1 + 0), .inl (cy 0, 2, .inl ((dF_spot 0)))), ((da_spot + 1 + 1), .inl (cy 0, 2, .inl ((dF_spot 1)))), ((da_spot + 1 + 2), .inl (cy 0, 2, .inl ((dF_spot 2)))), ((da_spot + 1 + 3), .inl (cy 0, 2, .inl ((dF_spot 3)))), ((da_spot + 1 + 4), .inl (cy 0, 2, .inl ((dF_spot 4)))), ((da_spot + 1 + 5), .inl (cy 0, 2, .inl ((dF_spot 5))))] sz) := by
  refine k_ofW (y := yX12_placed) (cc := cX12_placed) (maxL := 7) (ret := (some .int)) (av := [.ref da, .int w0]) (ws := [(da, .inr (13, [.int d_thrown, .int d_tape, .int d_size, .int d_place, .int d_at, .int d_fault, .int d_faultAt, .int d_clauses, .ref da_fed, .ref da_readBody, .ref da_body, .ref da_readMany, .ref da_many, .ref da_without, .ref da_did, .ref da_done, .ref da_bed, .int d_now, .int d_mindAt, .int d_way, .int d_harm, .int d_worth, .int d_passes, .int d_passings, .int d_spots, .int d_images, .ref da_passing, .ref da_spot, .ref da_kept, .ref da_aside, .int d_spare, .ref da_ran, .ref da_who, .ref da_cap, .ref da_w, .ref da_laid, .int d_whoMany, .int d_drifted, .int d_seed, .ref da_cries, .ref da_holds, .ref da_came, .ref da_least, .ref da_firstTo, .int d_steps, .int d_roundFrom, .int d_roundMany, .int d_numberAt])), (da_many, .inl (cy 0, 5, .inl df_many)), (da_spot, .inl (cy 5, 6, .inr (.inr (.inr (.inr (fun i => if i < 6 then some (da_spot + 1 + i) else none)))))), ((da_spot + 1 + 0), .inl (cy 0, 2, .inl ((dF_spot 0)))), ((da_spot + 1 + 1), .inl (cy 0, 2, .inl ((dF_spot 1)))), ((da_spot + 1 + 2), .inl (cy 0, 2, .inl ((dF_spot 2)))), ((da_spot + 1 + 3), .inl (cy 0, 2, .inl ((dF_spot 3)))), ((da_spot + 1 + 4), .inl (cy 0, 2, .inl ((dF_spot 4)))), ((da_spot + 1 + 5), .inl (cy 0, 2, .inl ((dF_spot 5))))]) (Qc := fun A => (va_Qi (fun (r : Int32) (u : (Nat → Int32) × (Nat → Nat → Int32)) => True) (kB D A (fun (u : (Nat → Int32) × (Nat → Nat → Int32)) => [(da, .inr (13, [.int ((u.1 0)), .int d_tape, .int d_size, .int d_place, .int d_at, .int d_fault, .int d_faultAt, .int d_clauses, .ref da_fed, .ref da_readBody, .ref da_body, .ref da_readMany, .ref da_many, .ref da_without, .ref da_did, .ref da_done, .ref da_bed, .int d_now, .int d_mindAt, .int d_way, .int d_harm, .int d_worth, .int d_passes, .int d_passings, .int d_spots, .int d_images, .ref da_passing, .ref da_spot, .ref da_kept, .ref da_aside, .int d_spare, .ref da_ran, .ref da_who, .ref da_cap, .ref da_w, .ref da_laid, .int d_whoMany, .int d_drifted, .int d_seed, .ref da_cries, .ref da_holds, .ref da_came, .ref da_least, .ref da_firstTo, .int d_steps, .int d_roundFrom, .int d_roundMany, .int d_numberAt])), (da_many, .inl (cy 0, 5, .inl df_many)), (da_spot, .inl (cy 5, 6, .inr (.inr (.inr (.inr (fun i => if i < 6 then some (da_spot + 1 + i) else none)))))), ((da_spot + 1 + 0), .inl (cy 0, 2, .inl ((dF_spot 0)))), ((da_spot + 1 + 1), .inl (cy 0, 2, .inl ((dF_spot 1)))), ((da_spot + 1 + 2), .inl (cy 0, 2, .inl ((dF_spot 2)))), ((da_spot + 1 + 3), .inl (cy 0, 2, .inl ((dF_spot 3)))), ((da_spot + 1 + 4), .inl (cy 0, 2, .inl ((dF_spot 4)))), ((da_spot + 1 + 5), .inl (cy 0, 2, .inl ((dF_spot 5))))])) A)) (by decide) (Nat.le_of_ble_eq_true rfl) ?_
  intro p e s m below meth c ls A E hA hP hD hG hS hl
  obtain ⟨Q0, hQ0⟩ : ∃ Q0 : State → Prop, Q0 = MQ below (va_Qi (fun (r : Int32) (u : (Nat → Int32) × (Nat → Nat → Int32)) => True) (kB D A (fun (u : (Nat → Int32) × (Nat → Nat → Int32)) => [(da, .inr (13, [.int ((u.1 0)), .int d_tape, .int d_size, .int d_place, .int d_at, .int d_fault, .int d_faultAt, .int d_clauses, .ref da_fed, .ref da_readBody, .ref da_body, .ref da_readMany, .ref da_many, .ref da_without, .ref da_did, .ref da_done, .ref da_bed, .int d_now, .int d_mindAt, .int d_way, .int d_harm, .int d_worth, .int d_passes, .int d_passings, .int d_spots, .int d_images, .ref da_passing, .ref da_spot, .ref da_kept, .ref da_aside, .int d_spare, .ref da_ran, .ref da_who, .ref da_cap, .ref da_w, .ref da_laid, .int d_whoMany, .int d_drifted, .int d_seed, .ref da_cries, .ref da_holds, .ref da_came, .ref da_least, .ref da_firstTo, .int d_steps, .int d_roundFrom, .int d_roundMany, .int d_numberAt])), (da_many, .inl (cy 0, 5, .inl df_many)), (da_spot, .inl (cy 5, 6, .inr (.inr (.inr (.inr (fun i => if i < 6 then some (da_spot + 1 + i) else none)))))), ((da_spot + 1 + 0), .inl (cy 0, 2, .inl ((dF_spot 0)))), ((da_spot + 1 + 1), .inl (cy 0, 2, .inl ((dF_spot 1)))), ((da_spot + 1 + 2), .inl (cy 0, 2, .inl ((dF_spot 2)))), ((da_spot + 1 + 3), .inl (cy 0, 2, .inl ((dF_spot 3)))), ((da_spot + 1 + 4), .inl (cy 0, 2, .inl ((dF_spot 4)))), ((da_spot + 1 + 5), .inl (cy 0, 2, .inl ((dF_spot 5))))])) A) ([.ref da, .int w0] : List Value).toArray s 0 0 A := ⟨_, rfl⟩
  rw [← hQ0]
  obtain ⟨hx, hb, hml, hown, hts, hr, hlk, hnm⟩ := id E
  have hown : s.vm.findClass RX12 = some m.cls := hown
  have hl : lv_has ls 7 [(0, .ref da), (1, .int w0)] := hl
  have g_w0 := k_rng w0
  obtain ⟨H, hH⟩ : ∃ H, H = s.heap := ⟨_, rfl⟩
  have hP : va_P D vwCl [(da, .inr (13, [.int d_thrown, .int d_tape, .int d_size, .int d_place, .int d_at, .int d_fault, .int d_faultAt, .int d_clauses, .ref da_fed, .ref da_readBody, .ref da_body, .ref da_readMany, .ref da_many, .ref da_without, .ref da_did, .ref da_done, .ref da_bed, .int d_now, .int d_mindAt, .int d_way, .int d_harm, .int d_worth, .int d_passes, .int d_passings, .int d_spots, .int d_images, .ref da_passing, .ref da_spot, .ref da_kept, .ref da_aside, .int d_spare, .ref da_ran, .ref da_who, .ref da_cap, .ref da_w, .ref da_laid, .int d_whoMany, .int d_drifted, .int d_seed, .ref da_cries, .ref da_holds, .ref da_came, .ref da_least, .ref da_firstTo, .int d_steps, .int d_roundFrom, .int d_roundMany, .int d_numberAt])), (da_many, .inl (cy 0, 5, .inl df_many)), (da_spot, .inl (cy 5, 6, .inr (.inr (.inr (.inr (fun i => if i < 6 then some (da_spot + 1 + i) else none)))))), ((da_spot + 1 + 0), .inl (cy 0, 2, .inl ((dF_spot 0)))), ((da_spot + 1 + 1), .inl (cy 0, 2, .inl ((dF_spot 1)))), ((da_spot + 1 + 2), .inl (cy 0, 2, .inl ((dF_spot 2)))), ((da_spot + 1 + 3), .inl (cy 0, 2, .inl ((dF_spot 3)))), ((da_spot + 1 + 4), .inl (cy 0, 2, .inl ((dF_spot 4)))), ((da_spot + 1 + 5), .inl (cy 0, 2, .inl ((dF_spot 5))))] H := by rw [hH]; exact hP
  have hS : va_S A s.heap H [] := by rw [hH]; exact va_S.rf
  rw [← hH]
  clear hH
  obtain ⟨locs, hlocs⟩ : ∃ locs : List Loc, locs = [] := ⟨_, rfl⟩
  rw [← hlocs] at hS ⊢
  refine lv_aload_n hx hb dX12_placed_0 rfl (lv_at hl 0 rfl) ?_
  refine lv_iconst (v := 0) hx hb dX12_placed_1 (by decide) ?_
  refine va_put (D := D) (ci := 13) (v := .int 0) (ty := .int) (C := RX12) (T := TX12) (N := 48) hx hb hts kin_RX12 tyX12 tyX12_ok nmX12 hown hG.1 hP hD hS 0 rfl rfl 0 (by decide) (hts _ wm_1519) (fun _ h9 => h9) rfl (by decide +kernel) rfl rfl (Nat.le_of_ble_eq_true rfl) dX12_placed_2 (fun H locs hP hD hS => ?_)
  have hP : va_P D vwCl [(da, .inr (13, [.int 0, .int d_tape, .int d_size, .int d_place, .int d_at, .int d_fault, .int d_faultAt, .int d_clauses, .ref da_fed, .ref da_readBody, .ref da_body, .ref da_readMany, .ref da_many, .ref da_without, .ref da_did, .ref da_done, .ref da_bed, .int d_now, .int d_mindAt, .int d_way, .int d_harm, .int d_worth, .int d_passes, .int d_passings, .int d_spots, .int d_images, .ref da_passing, .ref da_spot, .ref da_kept, .ref da_aside, .int d_spare, .ref da_ran, .ref da_who, .ref da_cap, .ref da_w, .ref da_laid, .int d_whoMany, .int d_drifted, .int d_seed, .ref da_cries, .ref da_holds, .ref da_came, .ref da_least, .ref da_firstTo, .int d_steps, .int d_roundFrom, .int d_roundMany, .int d_numberAt])), (da_many, .inl (cy 0, 5, .inl df_many)), (da_spot, .inl (cy 5, 6, .inr (.inr (.inr (.inr (fun i => if i < 6 then some (da_spot + 1 + i) else none)))))), ((da_spot + 1 + 0), .inl (cy 0, 2, .inl ((dF_spot 0)))), ((da_spot + 1 + 1), .inl (cy 0, 2, .inl ((dF_spot 1)))), ((da_spot + 1 + 2), .inl (cy 0, 2, .inl ((dF_spot 2)))), ((da_spot + 1 + 3), .inl (cy 0, 2, .inl ((dF_spot 3)))), ((da_spot + 1 + 4), .inl (cy 0, 2, .inl ((dF_spot 4)))), ((da_spot + 1 + 5), .inl (cy 0, 2, .inl ((dF_spot 5))))] H := hP
  have hD : va_D A [(da, .inr (13, [.int 0, .int d_tape, .int d_size, .int d_place, .int d_at, .int d_fault, .int d_faultAt, .int d_clauses, .ref da_fed, .ref da_readBody, .ref da_body, .ref da_readMany, .ref da_many, .ref da_without, .ref da_did, .ref da_done, .ref da_bed, .int d_now, .int d_mindAt, .int d_way, .int d_harm, .int d_worth, .int d_passes, .int d_passings, .int d_spots, .int d_images, .ref da_passing, .ref da_spot, .ref da_kept, .ref da_aside, .int d_spare, .ref da_ran, .ref da_who, .ref da_cap, .ref da_w, .ref da_laid, .int d_whoMany, .int d_drifted, .int d_seed, .ref da_cries, .ref da_holds, .ref da_came, .ref da_least, .ref da_firstTo, .int d_steps, .int d_roundFrom, .int d_roundMany, .int d_numberAt])), (da_many, .inl (cy 0, 5, .inl df_many)), (da_spot, .inl (cy 5, 6, .inr (.inr (.inr (.inr (fun i => if i < 6 then some (da_spot + 1 + i) else none)))))), ((da_spot + 1 + 0), .inl (cy 0, 2, .inl ((dF_spot 0)))), ((da_spot + 1 + 1), .inl (cy 0, 2, .inl ((dF_spot 1)))), ((da_spot + 1 + 2), .inl (cy 0, 2, .inl ((dF_spot 2)))), ((da_spot + 1 + 3), .inl (cy 0, 2, .inl ((dF_spot 3)))), ((da_spot + 1 + 4), .inl (cy 0, 2, .inl ((dF_spot 4)))), ((da_spot + 1 + 5), .inl (cy 0, 2, .inl ((dF_spot 5))))] := hD
  refine lv_aload_n hx hb dX12_placed_5 rfl (lv_at hl 0 rfl) ?_
  refine lv_iload_n hx hb dX12_placed_6 rfl (lv_at hl 1 rfl) ?_
  refine lv_iconst (v := 0) hx hb dX12_placed_7 (by decide) ?_
  refine lv_iconst (v := 1) hx hb dX12_placed_8 (by decide) ?_
  refine k_cali [0, 1, 2, 3, 4, 5, 6, 7, 8] (⟨hP, hD, hG, hS, hA, rfl, rfl⟩ : kAt D cy sa A s H _ _ [] []) (wr := [(da, .inr (13, [.int 0, .int d_tape, .int d_size, .int d_place, .int d_at, .int d_fault, .int d_faultAt, .int d_clauses, .ref da_fed, .ref da_readBody, .ref da_body, .ref da_readMany, .ref da_many, .ref da_without, .ref da_did, .ref da_done, .ref da_bed, .int d_now, .int d_mindAt, .int d_way, .int d_harm, .int d_worth, .int d_passes, .int d_passings, .int d_spots, .int d_images, .ref da_passing, .ref da_spot, .ref da_kept, .ref da_aside, .int d_spare, .ref da_ran, .ref da_who, .ref da_cap, .ref da_w, .ref da_laid, .int d_whoMany, .int d_drifted, .int d_seed, .ref da_cries, .ref da_holds, .ref da_came, .ref da_least, .ref da_firstTo, .int d_steps, .int d_roundFrom, .int d_roundMany, .int d_numberAt])), (da_many, .inl (cy 0, 5, .inl df_many)), (da_spot, .inl (cy 5, 6, .inr (.inr (.inr (.inr (fun i => if i < 6 then some (da_spot + 1 + i) else none)))))), ((da_spot + 1 + 0), .inl (cy 0, 2, .inl ((dF_spot 0)))), ((da_spot + 1 + 1), .inl (cy 0, 2, .inl ((dF_spot 1)))), ((da_spot + 1 + 2), .inl (cy 0, 2, .inl ((dF_spot 2)))), ((da_spot + 1 + 3), .inl (cy 0, 2, .inl ((dF_spot 3)))), ((da_spot + 1 + 4), .inl (cy 0, 2, .inl ((dF_spot 4)))), ((da_spot + 1 + 5), .inl (cy 0, 2, .inl ((dF_spot 5))))]) rfl rfl (by decide) (k_runS (As := [.int w0, .int 0, .int 1]) (rest := [.ref da]) E lk_SRX12_124 (m_in l hl0 D cy sa w0 0 1 H.size) (⟨hP, hD, hG, hS, hA, rfl, rfl⟩ : kAt D cy sa A s H _ _ [] []) hl.1 rfl rfl ⟨rfl, rfl, ⟨Nat.le_of_ble_eq_true rfl, Nat.le_of_ble_eq_true rfl⟩, ⟨Nat.le_of_ble_eq_true rfl, Nat.le_of_ble_eq_true rfl⟩, Nat.le_of_ble_eq_true rfl⟩ dX12_placed_9) (fun r1q u2q H locs hwu2q hP hD hS => ?_)
  have hP : va_P D vwCl [(da, .inr (13, [.int 0, .int d_tape, .int d_size, .int d_place, .int d_at, .int d_fault, .int d_faultAt, .int d_clauses, .ref da_fed, .ref da_readBody, .ref da_body, .ref da_readMany, .ref da_many, .ref da_without, .ref da_did, .ref da_done, .ref da_bed, .int d_now, .int d_mindAt, .int d_way, .int d_harm, .int d_worth, .int d_passes, .int d_passings, .int d_spots, .int d_images, .ref da_passing, .ref da_spot, .ref da_kept, .ref da_aside, .int d_spare, .ref da_ran, .ref da_who, .ref da_cap, .ref da_w, .ref da_laid, .int d_whoMany, .int d_drifted, .int d_seed, .ref da_cries, .ref da_holds, .ref da_came, .ref da_least, .ref da_firstTo, .int d_steps, .int d_roundFrom, .int d_roundMany, .int d_numberAt])), (da_many, .inl (cy 0, 5, .inl df_many)), (da_spot, .inl (cy 5, 6, .inr (.inr (.inr (.inr (fun i => if i < 6 then some (da_spot + 1 + i) else none)))))), ((da_spot + 1 + 0), .inl (cy 0, 2, .inl ((dF_spot 0)))), ((da_spot + 1 + 1), .inl (cy 0, 2, .inl ((dF_spot 1)))), ((da_spot + 1 + 2), .inl (cy 0, 2, .inl ((dF_spot 2)))), ((da_spot + 1 + 3), .inl (cy 0, 2, .inl ((dF_spot 3)))), ((da_spot + 1 + 4), .inl (cy 0, 2, .inl ((dF_spot 4)))), ((da_spot + 1 + 5), .inl (cy 0, 2, .inl ((dF_spot 5))))] H := hP
  have hD : va_D A [(da, .inr (13, [.int 0, .int d_tape, .int d_size, .int d_place, .int d_at, .int d_fault, .int d_faultAt, .int d_clauses, .ref da_fed, .ref da_readBody, .ref da_body, .ref da_readMany, .ref da_many, .ref da_without, .ref da_did, .ref da_done, .ref da_bed, .int d_now, .int d_mindAt, .int d_way, .int d_harm, .int d_worth, .int d_passes, .int d_passings, .int d_spots, .int d_images, .ref da_passing, .ref da_spot, .ref da_kept, .ref da_aside, .int d_spare, .ref da_ran, .ref da_who, .ref da_cap, .ref da_w, .ref da_laid, .int d_whoMany, .int d_drifted, .int d_seed, .ref da_cries, .ref da_holds, .ref da_came, .ref da_least, .ref da_firstTo, .int d_steps, .int d_roundFrom, .int d_roundMany, .int d_numberAt])), (da_many, .inl (cy 0, 5, .inl df_many)), (da_spot, .inl (cy 5, 6, .inr (.inr (.inr (.inr (fun i => if i < 6 then some (da_spot + 1 + i) else none)))))), ((da_spot + 1 + 0), .inl (cy 0, 2, .inl ((dF_spot 0)))), ((da_spot + 1 + 1), .inl (cy 0, 2, .inl ((dF_spot 1)))), ((da_spot + 1 + 2), .inl (cy 0, 2, .inl ((dF_spot 2)))), ((da_spot + 1 + 3), .inl (cy 0, 2, .inl ((dF_spot 3)))), ((da_spot + 1 + 4), .inl (cy 0, 2, .inl ((dF_spot 4)))), ((da_spot + 1 + 5), .inl (cy 0, 2, .inl ((dF_spot 5))))] := hD
  have p3q := hwu2q
  try simp only [n_L0, n_L1] at p3q
  refine lv_if_ne (tgt := 19) hx hb dX12_placed_12 (by decide) (fun c4q => ?_) (fun c4q => ?_)
  · simp only [k_lt, k_le, k_eq, ne_eq, ge_iff_le, gt_iff_lt, n_L0, n_L0] at c4q
    refine lv_iconst (v := 0) hx hb dX12_placed_19 (by decide) ?_
    refine lv_iconst (v := 1) hx hb dX12_placed_20 (by decide) ?_
    refine k_cali [1, 2, 3, 4, 5, 6, 7, 8] (⟨hP, hD, hG, hS, hA, rfl, rfl⟩ : kAt D cy sa A s H _ _ [(da, .inr (13, [.int 0, .int d_tape, .int d_size, .int d_place, .int d_at, .int d_fault, .int d_faultAt, .int d_clauses, .ref da_fed, .ref da_readBody, .ref da_body, .ref da_readMany, .ref da_many, .ref da_without, .ref da_did, .ref da_done, .ref da_bed, .int d_now, .int d_mindAt, .int d_way, .int d_harm, .int d_worth, .int d_passes, .int d_passings, .int d_spots, .int d_images, .ref da_passing, .ref da_spot, .ref da_kept, .ref da_aside, .int d_spare, .ref da_ran, .ref da_who, .ref da_cap, .ref da_w, .ref da_laid, .int d_whoMany, .int d_drifted, .int d_seed, .ref da_cries, .ref da_holds, .ref da_came, .ref da_least, .ref da_firstTo, .int d_steps, .int d_roundFrom, .int d_roundMany, .int d_numberAt]))] [0]) (wr := [(da_many, .inl (cy 0, 5, .inl df_many)), (da_spot, .inl (cy 5, 6, .inr (.inr (.inr (.inr (fun i => if i < 6 then some (da_spot + 1 + i) else none)))))), ((da_spot + 1 + 0), .inl (cy 0, 2, .inl ((dF_spot 0)))), ((da_spot + 1 + 1), .inl (cy 0, 2, .inl ((dF_spot 1)))), ((da_spot + 1 + 2), .inl (cy 0, 2, .inl ((dF_spot 2)))), ((da_spot + 1 + 3), .inl (cy 0, 2, .inl ((dF_spot 3)))), ((da_spot + 1 + 4), .inl (cy 0, 2, .inl ((dF_spot 4)))), ((da_spot + 1 + 5), .inl (cy 0, 2, .inl ((dF_spot 5))))]) rfl rfl (by decide) (k_runV 13 0 (As := [.int 0, .int 1]) (rest := []) E lk_VRX12_169 rfl rfl rfl (m_bad l hl0 D cy sa da da_fed da_readBody da_body da_readMany da_many da_without da_did da_done da_bed da_passing da_spot da_kept da_aside da_ran da_who da_cap da_w da_laid da_cries da_holds da_came da_least da_firstTo 0 d_tape d_size d_place d_at d_fault d_faultAt d_clauses d_now d_mindAt d_way d_harm d_worth d_passes d_passings d_spots d_images d_spare d_whoMany d_drifted d_seed d_steps d_roundFrom d_roundMany d_numberAt 0 1 ⟨by omega, by omega⟩ ⟨by omega, by omega⟩ ⟨by omega, by omega⟩ ⟨by omega, by omega⟩ ⟨by omega, by omega⟩ ⟨by omega, by omega⟩ ⟨by omega, by omega⟩ ⟨by omega, by omega⟩ ⟨by omega, by omega⟩ ⟨by omega, by omega⟩ (by decide) H.size) (⟨hP, hD, hG, hS, hA, rfl, rfl⟩ : kAt D cy sa A s H _ _ [(da, .inr (13, [.int 0, .int d_tape, .int d_size, .int d_place, .int d_at, .int d_fault, .int d_faultAt, .int d_clauses, .ref da_fed, .ref da_readBody, .ref da_body, .ref da_readMany, .ref da_many, .ref da_without, .ref da_did, .ref da_done, .ref da_bed, .int d_now, .int d_mindAt, .int d_way, .int d_harm, .int d_worth, .int d_passes, .int d_passings, .int d_spots, .int d_images, .ref da_passing, .ref da_spot, .ref da_kept, .ref da_aside, .int d_spare, .ref da_ran, .ref da_who, .ref da_cap, .ref da_w, .ref da_laid, .int d_whoMany, .int d_drifted, .int d_seed, .ref da_cries, .ref da_holds, .ref da_came, .ref da_least, .ref da_firstTo, .int d_steps, .int d_roundFrom, .int d_roundMany, .int d_numberAt]))] [0]) hl.1 rfl rfl ⟨rfl, rfl, ⟨Nat.le_of_ble_eq_true rfl, Nat.le_of_ble_eq_true rfl⟩, ⟨Nat.le_of_ble_eq_true rfl, Nat.le_of_ble_eq_true rfl⟩, Nat.le_of_ble_eq_true rfl⟩ dX12_placed_21) (fun r5q u6q H locs hwu6q hP hD hS => ?_)
    have hP : va_P D vwCl [(da_many, .inl (cy 0, 5, .inl df_many)), (da_spot, .inl (cy 5, 6, .inr (.inr (.inr (.inr (fun i => if i < 6 then some (da_spot + 1 + i) else none)))))), ((da_spot + 1 + 0), .inl (cy 0, 2, .inl ((dF_spot 0)))), ((da_spot + 1 + 1), .inl (cy 0, 2, .inl ((dF_spot 1)))), ((da_spot + 1 + 2), .inl (cy 0, 2, .inl ((dF_spot 2)))), ((da_spot + 1 + 3), .inl (cy 0, 2, .inl ((dF_spot 3)))), ((da_spot + 1 + 4), .inl (cy 0, 2, .inl ((dF_spot 4)))), ((da_spot + 1 + 5), .inl (cy 0, 2, .inl ((dF_spot 5)))), (da, .inr (13, [.int ((u6q.1 0)), .int d_tape, .int d_size, .int d_place, .int d_at, .int d_fault, .int d_faultAt, .int d_clauses, .ref da_fed, .ref da_readBody, .ref da_body, .ref da_readMany, .ref da_many, .ref da_without, .ref da_did, .ref da_done, .ref da_bed, .int d_now, .int d_mindAt, .int d_way, .int d_harm, .int d_worth, .int d_passes, .int d_passings, .int d_spots, .int d_images, .ref da_passing, .ref da_spot, .ref da_kept, .ref da_aside, .int d_spare, .ref da_ran, .ref da_who, .ref da_cap, .ref da_w, .ref da_laid, .int d_whoMany, .int d_drifted, .int d_seed, .ref da_cries, .ref da_holds, .ref da_came, .ref da_least, .ref da_firstTo, .int d_steps, .int d_roundFrom, .int d_roundMany, .int d_numberAt]))] H := hP
    have hD : va_D A [(da_many, .inl (cy 0, 5, .inl df_many)), (da_spot, .inl (cy 5, 6, .inr (.inr (.inr (.inr (fun i => if i < 6 then some (da_spot + 1 + i) else none)))))), ((da_spot + 1 + 0), .inl (cy 0, 2, .inl ((dF_spot 0)))), ((da_spot + 1 + 1), .inl (cy 0, 2, .inl ((dF_spot 1)))), ((da_spot + 1 + 2), .inl (cy 0, 2, .inl ((dF_spot 2)))), ((da_spot + 1 + 3), .inl (cy 0, 2, .inl ((dF_spot 3)))), ((da_spot + 1 + 4), .inl (cy 0, 2, .inl ((dF_spot 4)))), ((da_spot + 1 + 5), .inl (cy 0, 2, .inl ((dF_spot 5)))), (da, .inr (13, [.int ((u6q.1 0)), .int d_tape, .int d_size, .int d_place, .int d_at, .int d_fault, .int d_faultAt, .int d_clauses, .ref da_fed, .ref da_readBody, .ref da_body, .ref da_readMany, .ref da_many, .ref da_without, .ref da_did, .ref da_done, .ref da_bed, .int d_now, .int d_mindAt, .int d_way, .int d_harm, .int d_worth, .int d_passes, .int d_passings, .int d_spots, .int d_images, .ref da_passing, .ref da_spot, .ref da_kept, .ref da_aside, .int d_spare, .ref da_ran, .ref da_who, .ref da_cap, .ref da_w, .ref da_laid, .int d_whoMany, .int d_drifted, .int d_seed, .ref da_cries, .ref da_holds, .ref da_came, .ref da_least, .ref da_firstTo, .int d_steps, .int d_roundFrom, .int d_roundMany, .int d_numberAt]))] := hD
    have p7q := hwu6q
    try simp only [n_L0, n_L1] at p7q
    refine lv_if_eq (tgt := 29) hx hb dX12_placed_24 (by decide) (fun c8q => ?_) (fun c8q => ?_)
    · simp only [k_lt, k_le, k_eq, ne_eq, ge_iff_le, gt_iff_lt, n_L0, n_L0] at c8q
      refine lv_aload_n hx hb dX12_placed_29 rfl (lv_at hl 0 rfl) ?_
      refine va_get (D := D) (ci := 13) (v := .int d_spots) (C := RX12) (T := TX12) (N := 48) hx hb hts kin_RX12 hown hG.1 hP 8 rfl rfl 24 (by decide) (hts _ wm_1543) (fun _ h9 => h9) rfl dX12_placed_30 ?_
      refine lv_if_eq (tgt := 49) hx hb dX12_placed_33 (by decide) (fun c9q => ?_) (fun c9q => ?_)
      · simp only [k_lt, k_le, k_eq, ne_eq, ge_iff_le, gt_iff_lt, n_L0, n_L0] at c9q
        refine lv_iconst (v := (-1)) hx hb dX12_placed_49 (by decide) ?_
        rw [hQ0]
        exact k_iret (fun k => [((u6q.1 0))].getD k 0, fun k => [].getD k (fun _ => 0)) hx hb hr hlk (trivial) (hP.sub [8, 0, 1, 2, 3, 4, 5, 6, 7] rfl) (hD.sub [8, 0, 1, 2, 3, 4, 5, 6, 7] (by decide) rfl) hS (by decide) (by decide) dX12_placed_50
      · simp only [k_lt, k_le, k_eq, ne_eq, ge_iff_le, gt_iff_lt, n_L0, n_L0] at c9q
        refine lv_aload_n hx hb dX12_placed_36 rfl (lv_at hl 0 rfl) ?_
        refine va_get (D := D) (ci := 13) (v := .int d_spots) (C := RX12) (T := TX12) (N := 48) hx hb hts kin_RX12 hown hG.1 hP 8 rfl rfl 24 (by decide) (hts _ wm_1543) (fun _ h9 => h9) rfl dX12_placed_37 ?_
        refine lv_aload_n hx hb dX12_placed_40 rfl (lv_at hl 0 rfl) ?_
        refine va_get (D := D) (ci := 13) (v := .ref da_many) (C := RX12) (T := TX12) (N := 48) hx hb hts kin_RX12 hown hG.1 hP 8 rfl rfl 12 (by decide) (hts _ wm_1531) (fun _ h9 => h9) rfl dX12_placed_41 ?_
        refine lv_iconst (v := 0) hx hb dX12_placed_44 (by decide) ?_
        refine va_iald hx hb hG.1 hP 0 0 rfl rfl (by unfold vp_in; decide) dX12_placed_45 ?_
        refine lv_topi (fun x10q ex10q => ?_)
        have rx10q : x10q.toInt = (df_many 0).toInt := by rw [ex10q]; rfl
        refine lv_icmp_le (tgt := 51) hx hb dX12_placed_46 (by decide) (fun c11q => ?_) (fun c11q => ?_)
        · simp only [k_lt, k_le, k_eq, ne_eq, ge_iff_le, gt_iff_lt] at c11q
          rcases (show d_spots.toInt = 1 ∨ d_spots.toInt = 2 ∨ d_spots.toInt = 3 ∨ d_spots.toInt = 4 ∨ d_spots.toInt = 5 ∨ d_spots.toInt = 6 by omega) with h9 | h9 | h9 | h9 | h9 | h9
          · obtain rfl : d_spots = 1 := Int32.toInt_inj.mp (h9.trans (by decide))
            refine lv_iconst (v := 1) hx hb dX12_placed_51 (by decide) ?_
            refine lv_istore_n (lv' := [(2, .int 1), (0, .ref da), (1, .int w0)]) hx hb dX12_placed_52 rfl hl (by decide) rfl (fun ls hl => ?_)
            refine lv_iconst (v := (-1)) hx hb dX12_placed_53 (by decide) ?_
            refine lv_istore_n (lv' := [(3, .int (-1)), (2, .int 1), (0, .ref da), (1, .int w0)]) hx hb dX12_placed_54 rfl hl (by decide) rfl (fun ls hl => ?_)
            refine lv_iconst (v := 0) hx hb dX12_placed_55 (by decide) ?_
            refine lv_istore (lv' := [(4, .int 0), (3, .int (-1)), (2, .int 1), (0, .ref da), (1, .int w0)]) hx hb dX12_placed_56 hl (by decide) rfl (fun ls hl => ?_)
            refine lv_iconst (v := 0) hx hb dX12_placed_58 (by decide) ?_
            refine lv_istore (lv' := [(5, .int 0), (4, .int 0), (3, .int (-1)), (2, .int 1), (0, .ref da), (1, .int w0)]) hx hb dX12_placed_59 hl (by decide) rfl (fun ls hl => ?_)
            refine lv_iload hx hb dX12_placed_61 (lv_at hl 0 rfl) ?_
            refine lv_aload_n hx hb dX12_placed_63 rfl (lv_at hl 4 rfl) ?_
            refine va_get (D := D) (ci := 13) (v := .int 1) (C := RX12) (T := TX12) (N := 48) hx hb hts kin_RX12 hown hG.1 hP 8 rfl rfl 24 (by decide) (hts _ wm_1543) (fun _ h9 => h9) rfl dX12_placed_64 ?_
            refine lv_icmp_ge (tgt := 81) hx hb dX12_placed_67 (by decide) (fun h => absurd h (by decide)) (fun _ => ?_)
            refine lv_iload_n hx hb dX12_placed_70 rfl (lv_at hl 3 rfl) ?_
            refine lv_bipush (v := 6) hx hb dX12_placed_71 (by decide) ?_
            refine lv_imul hx hb dX12_placed_73 ?_
            refine lv_topi (fun x12q ex12q => ?_)
            obtain rfl : x12q = 6 := ex12q.trans (by decide)
            refine lv_istore_n (lv' := [(2, .int 6), (5, .int 0), (4, .int 0), (3, .int (-1)), (0, .ref da), (1, .int w0)]) hx hb dX12_placed_74 rfl hl (by decide) rfl (fun ls hl => ?_)
            refine lv_iinc (v := 1) (lv' := [(5, .int 1), (2, .int 6), (4, .int 0), (3, .int (-1)), (0, .ref da), (1, .int w0)]) hx hb dX12_placed_75 hl (k := 1) rfl (by decide) (by decide) rfl (fun ls hl => ?_)
            refine lv_goto (tgt := 61) hx hb dX12_placed_78 (by decide) ?_
            refine lv_iload hx hb dX12_placed_61 (lv_at hl 0 rfl) ?_
            refine lv_aload_n hx hb dX12_placed_63 rfl (lv_at hl 4 rfl) ?_
            refine va_get (D := D) (ci := 13) (v := .int 1) (C := RX12) (T := TX12) (N := 48) hx hb hts kin_RX12 hown hG.1 hP 8 rfl rfl 24 (by decide) (hts _ wm_1543) (fun _ h9 => h9) rfl dX12_placed_64 ?_
            refine lv_icmp_ge (tgt := 81) hx hb dX12_placed_67 (by decide) (fun _ => ?_) (fun h => absurd (by decide) h)
            refine lv_iconst (v := 0) hx hb dX12_placed_81 (by decide) ?_
            refine lv_istore (lv' := [(5, .int 0), (2, .int 6), (4, .int 0), (3, .int (-1)), (0, .ref da), (1, .int w0)]) hx hb dX12_placed_82 hl (by decide) rfl (fun ls hl => ?_)
            have k13q : ∀ (n : Nat) (k13qy3 : Int32) (k13qy4 : Int32) (k13qy5 : Int32) (H : Heap) (locs : List Loc) (ls : Array Slot), 0 ≤ k13qy5.toInt ∧ k13qy5.toInt ≤ 6 → (6 - k13qy5.toInt).toNat = n → va_P D vwCl [(da_many, .inl (cy 0, 5, .inl df_many)), (da_spot, .inl (cy 5, 6, .inr (.inr (.inr (.inr (fun i => if i < 6 then some (da_spot + 1 + i) else none)))))), ((da_spot + 1 + 0), .inl (cy 0, 2, .inl ((dF_spot 0)))), ((da_spot + 1 + 1), .inl (cy 0, 2, .inl ((dF_spot 1)))), ((da_spot + 1 + 2), .inl (cy 0, 2, .inl ((dF_spot 2)))), ((da_spot + 1 + 3), .inl (cy 0, 2, .inl ((dF_spot 3)))), ((da_spot + 1 + 4), .inl (cy 0, 2, .inl ((dF_spot 4)))), ((da_spot + 1 + 5), .inl (cy 0, 2, .inl ((dF_spot 5)))), (da, .inr (13, [.int ((u6q.1 0)), .int d_tape, .int d_size, .int d_place, .int d_at, .int d_fault, .int d_faultAt, .int d_clauses, .ref da_fed, .ref da_readBody, .ref da_body, .ref da_readMany, .ref da_many, .ref da_without, .ref da_did, .ref da_done, .ref da_bed, .int d_now, .int d_mindAt, .int d_way, .int d_harm, .int d_worth, .int d_passes, .int d_passings, .int 1, .int d_images, .ref da_passing, .ref da_spot, .ref da_kept, .ref da_aside, .int d_spare, .ref da_ran, .ref da_who, .ref da_cap, .ref da_w, .ref da_laid, .int d_whoMany, .int d_drifted, .int d_seed, .ref da_cries, .ref da_holds, .ref da_came, .ref da_least, .ref da_firstTo, .int d_steps, .int d_roundFrom, .int d_roundMany, .int d_numberAt]))] H → va_D A [(da_many, .inl (cy 0, 5, .inl df_many)), (da_spot, .inl (cy 5, 6, .inr (.inr (.inr (.inr (fun i => if i < 6 then some (da_spot + 1 + i) else none)))))), ((da_spot + 1 + 0), .inl (cy 0, 2, .inl ((dF_spot 0)))), ((da_spot + 1 + 1), .inl (cy 0, 2, .inl ((dF_spot 1)))), ((da_spot + 1 + 2), .inl (cy 0, 2, .inl ((dF_spot 2)))), ((da_spot + 1 + 3), .inl (cy 0, 2, .inl ((dF_spot 3)))), ((da_spot + 1 + 4), .inl (cy 0, 2, .inl ((dF_spot 4)))), ((da_spot + 1 + 5), .inl (cy 0, 2, .inl ((dF_spot 5)))), (da, .inr (13, [.int ((u6q.1 0)), .int d_tape, .int d_size, .int d_place, .int d_at, .int d_fault, .int d_faultAt, .int d_clauses, .ref da_fed, .ref da_readBody, .ref da_body, .ref da_readMany, .ref da_many, .ref da_without, .ref da_did, .ref da_done, .ref da_bed, .int d_now, .int d_mindAt, .int d_way, .int d_harm, .int d_worth, .int d_passes, .int d_passings, .int 1, .int d_images, .ref da_passing, .ref da_spot, .ref da_kept, .ref da_aside, .int d_spare, .ref da_ran, .ref da_who, .ref da_cap, .ref da_w, .ref da_laid, .int d_whoMany, .int d_drifted, .int d_seed, .ref da_cries, .ref da_holds, .ref da_came, .ref da_least, .ref da_firstTo, .int d_steps, .int d_roundFrom, .int d_roundMany, .int d_numberAt]))] → va_S A s.heap H locs → lv_has ls 7 [(5, .int k13qy5), (2, .int 6), (4, .int k13qy4), (3, .int k13qy3), (0, .ref da), (1, .int w0)] → W p l e ({ frames := 13, cells := 0, slots := 0, locals := 480 }) s m ([.ref da, .int w0] : List Value).toArray below meth c H locs 0 0 Q0 (F0 m 84 ls []) := by
              intro n
              induction n using Nat.strongRecOn with
              | ind n k13qih =>
                intro k13qy3 k13qy4 k13qy5 H locs ls hk13qy5 k13qm hP hD hS hl
                have gk13qy3 := k_rng k13qy3
                have gk13qy4 := k_rng k13qy4
                refine lv_iload hx hb dX12_placed_84 (lv_at hl 0 rfl) ?_
                refine lv_iload_n hx hb dX12_placed_86 rfl (lv_at hl 1 rfl) ?_
                refine lv_icmp_ge (tgt := 133) hx hb dX12_placed_87 (by decide) (fun c14q => ?_) (fun c14q => ?_)
                · simp only [k_lt, k_le, k_eq, ne_eq, ge_iff_le, gt_iff_lt, n_L6] at c14q
                  refine lv_iload_n hx hb dX12_placed_133 rfl (lv_at hl 5 rfl) ?_
                  refine lv_if_ne (tgt := 142) hx hb dX12_placed_134 (by decide) (fun c15q => ?_) (fun c15q => ?_)
                  · simp only [k_lt, k_le, k_eq, ne_eq, ge_iff_le, gt_iff_lt, n_L0, n_L0] at c15q
                    refine lv_iload_n hx hb dX12_placed_142 rfl (lv_at hl 3 rfl) ?_
                    rw [hQ0]
                    exact k_iret (fun k => [((u6q.1 0))].getD k 0, fun k => [].getD k (fun _ => 0)) hx hb hr hlk (trivial) (hP.sub [8, 0, 1, 2, 3, 4, 5, 6, 7] rfl) (hD.sub [8, 0, 1, 2, 3, 4, 5, 6, 7] (by decide) rfl) hS (by decide) (by decide) dX12_placed_143
                  · simp only [k_lt, k_le, k_eq, ne_eq, ge_iff_le, gt_iff_lt, n_L0, n_L0] at c15q
                    refine lv_iload hx hb dX12_placed_137 (lv_at hl 2 rfl) ?_
                    refine lv_goto (tgt := 143) hx hb dX12_placed_139 (by decide) ?_
                    rw [hQ0]
                    exact k_iret (fun k => [((u6q.1 0))].getD k 0, fun k => [].getD k (fun _ => 0)) hx hb hr hlk (trivial) (hP.sub [8, 0, 1, 2, 3, 4, 5, 6, 7] rfl) (hD.sub [8, 0, 1, 2, 3, 4, 5, 6, 7] (by decide) rfl) hS (by decide) (by decide) dX12_placed_143
                · simp only [k_lt, k_le, k_eq, ne_eq, ge_iff_le, gt_iff_lt, n_L6] at c14q
                  refine lv_aload_n hx hb dX12_placed_90 rfl (lv_at hl 4 rfl) ?_
                  refine lv_iload hx hb dX12_placed_91 (lv_at hl 0 rfl) ?_
                  refine lv_iload_n hx hb dX12_placed_93 rfl (lv_at hl 1 rfl) ?_
                  refine k_cali [] (⟨hP, hD, hG, hS, hA, rfl, rfl⟩ : kAt D cy sa A s H _ _ [(da, .inr (13, [.int ((u6q.1 0)), .int d_tape, .int d_size, .int d_place, .int d_at, .int d_fault, .int d_faultAt, .int d_clauses, .ref da_fed, .ref da_readBody, .ref da_body, .ref da_readMany, .ref da_many, .ref da_without, .ref da_did, .ref da_done, .ref da_bed, .int d_now, .int d_mindAt, .int d_way, .int d_harm, .int d_worth, .int d_passes, .int d_passings, .int 1, .int d_images, .ref da_passing, .ref da_spot, .ref da_kept, .ref da_aside, .int d_spare, .ref da_ran, .ref da_who, .ref da_cap, .ref da_w, .ref da_laid, .int d_whoMany, .int d_drifted, .int d_seed, .ref da_cries, .ref da_holds, .ref da_came, .ref da_least, .ref da_firstTo, .int d_steps, .int d_roundFrom, .int d_roundMany, .int d_numberAt])), (da_many, .inl (cy 0, 5, .inl df_many)), (da_spot, .inl (cy 5, 6, .inr (.inr (.inr (.inr (fun i => if i < 6 then some (da_spot + 1 + i) else none)))))), ((da_spot + 1 + 0), .inl (cy 0, 2, .inl ((dF_spot 0)))), ((da_spot + 1 + 1), .inl (cy 0, 2, .inl ((dF_spot 1)))), ((da_spot + 1 + 2), .inl (cy 0, 2, .inl ((dF_spot 2)))), ((da_spot + 1 + 3), .inl (cy 0, 2, .inl ((dF_spot 3)))), ((da_spot + 1 + 4), .inl (cy 0, 2, .inl ((dF_spot 4)))), ((da_spot + 1 + 5), .inl (cy 0, 2, .inl ((dF_spot 5))))] [8, 0, 1, 2, 3, 4, 5, 6, 7]) (wr := []) rfl rfl (by decide) (k_runV 13 8 (As := [.int k13qy5, .int 6]) (rest := []) E lk_VRX12_340 rfl rfl rfl (m_roundOf l hl0 D cy sa da da_fed da_readBody da_body da_readMany da_many da_without da_did da_done da_bed da_passing da_spot da_kept da_aside da_ran da_who da_cap da_w da_laid da_cries da_holds da_came da_least da_firstTo ((u6q.1 0)) d_tape d_size d_place d_at d_fault d_faultAt d_clauses d_now d_mindAt d_way d_harm d_worth d_passes d_passings 1 d_images d_spare d_whoMany d_drifted d_seed d_steps d_roundFrom d_roundMany d_numberAt k13qy5 6 df_many dF_spot ⟨by omega, by omega⟩ ⟨by omega, by omega⟩ ⟨by omega, by omega⟩ ⟨by omega, by omega⟩ ⟨by omega, by omega⟩ ⟨by omega, by omega⟩ ⟨by omega, by omega⟩ (by decide) ⟨by omega, by omega⟩ ⟨by omega, by omega⟩ (by assumption) (by assumption) (by assumption) ⟨by omega, by omega⟩ (by first | omega | (simp only [n_L6]; omega) | (simp only [n_L6]; done) | decide) (by first | omega | (simp only [n_L6]; omega) | (simp only [n_L6]; done) | decide) H.size) (⟨hP, hD, hG, hS, hA, rfl, rfl⟩ : kAt D cy sa A s H _ _ [(da, .inr (13, [.int ((u6q.1 0)), .int d_tape, .int d_size, .int d_place, .int d_at, .int d_fault, .int d_faultAt, .int d_clauses, .ref da_fed, .ref da_readBody, .ref da_body, .ref da_readMany, .ref da_many, .ref da_without, .ref da_did, .ref da_done, .ref da_bed, .int d_now, .int d_mindAt, .int d_way, .int d_harm, .int d_worth, .int d_passes, .int d_passings, .int 1, .int d_images, .ref da_passing, .ref da_spot, .ref da_kept, .ref da_aside, .int d_spare, .ref da_ran, .ref da_who, .ref da_cap, .ref da_w, .ref da_laid, .int d_whoMany, .int d_drifted, .int d_seed, .ref da_cries, .ref da_holds, .ref da_came, .ref da_least, .ref da_firstTo, .int d_steps, .int d_roundFrom, .int d_roundMany, .int d_numberAt])), (da_many, .inl (cy 0, 5, .inl df_many)), (da_spot, .inl (cy 5, 6, .inr (.inr (.inr (.inr (fun i => if i < 6 then some (da_spot + 1 + i) else none)))))), ((da_spot + 1 + 0), .inl (cy 0, 2, .inl ((dF_spot 0)))), ((da_spot + 1 + 1), .inl (cy 0, 2, .inl ((dF_spot 1)))), ((da_spot + 1 + 2), .inl (cy 0, 2, .inl ((dF_spot 2)))), ((da_spot + 1 + 3), .inl (cy 0, 2, .inl ((dF_spot 3)))), ((da_spot + 1 + 4), .inl (cy 0, 2, .inl ((dF_spot 4)))), ((da_spot + 1 + 5), .inl (cy 0, 2, .inl ((dF_spot 5))))] [8, 0, 1, 2, 3, 4, 5, 6, 7]) hl.1 rfl rfl ⟨rfl, rfl, ⟨Nat.le_of_ble_eq_true rfl, Nat.le_of_ble_eq_true rfl⟩, ⟨Nat.le_of_ble_eq_true rfl, Nat.le_of_ble_eq_true rfl⟩, Nat.le_of_ble_eq_true rfl⟩ dX12_placed_94) (fun r16q u17q H locs hwu17q hP hD hS => ?_)
                  have hP : va_P D vwCl [(da, .inr (13, [.int ((u6q.1 0)), .int d_tape, .int d_size, .int d_place, .int d_at, .int d_fault, .int d_faultAt, .int d_clauses, .ref da_fed, .ref da_readBody, .ref da_body, .ref da_readMany, .ref da_many, .ref da_without, .ref da_did, .ref da_done, .ref da_bed, .int d_now, .int d_mindAt, .int d_way, .int d_harm, .int d_worth, .int d_passes, .int d_passings, .int 1, .int d_images, .ref da_passing, .ref da_spot, .ref da_kept, .ref da_aside, .int d_spare, .ref da_ran, .ref da_who, .ref da_cap, .ref da_w, .ref da_laid, .int d_whoMany, .int d_drifted, .int d_seed, .ref da_cries, .ref da_holds, .ref da_came, .ref da_least, .ref da_firstTo, .int d_steps, .int d_roundFrom, .int d_roundMany, .int d_numberAt])), (da_many, .inl (cy 0, 5, .inl df_many)), (da_spot, .inl (cy 5, 6, .inr (.inr (.inr (.inr (fun i => if i < 6 then some (da_spot + 1 + i) else none)))))), ((da_spot + 1 + 0), .inl (cy 0, 2, .inl ((dF_spot 0)))), ((da_spot + 1 + 1), .inl (cy 0, 2, .inl ((dF_spot 1)))), ((da_spot + 1 + 2), .inl (cy 0, 2, .inl ((dF_spot 2)))), ((da_spot + 1 + 3), .inl (cy 0, 2, .inl ((dF_spot 3)))), ((da_spot + 1 + 4), .inl (cy 0, 2, .inl ((dF_spot 4)))), ((da_spot + 1 + 5), .inl (cy 0, 2, .inl ((dF_spot 5))))] H := hP
                  have hD : va_D A [(da, .inr (13, [.int ((u6q.1 0)), .int d_tape, .int d_size, .int d_place, .int d_at, .int d_fault, .int d_faultAt, .int d_clauses, .ref da_fed, .ref da_readBody, .ref da_body, .ref da_readMany, .ref da_many, .ref da_without, .ref da_did, .ref da_done, .ref da_bed, .int d_now, .int d_mindAt, .int d_way, .int d_harm, .int d_worth, .int d_passes, .int d_passings, .int 1, .int d_images, .ref da_passing, .ref da_spot, .ref da_kept, .ref da_aside, .int d_spare, .ref da_ran, .ref da_who, .ref da_cap, .ref da_w, .ref da_laid, .int d_whoMany, .int d_drifted, .int d_seed, .ref da_cries, .ref da_holds, .ref da_came, .ref da_least, .ref da_firstTo, .int d_steps, .int d_roundFrom, .int d_roundMany, .int d_numberAt])), (da_many, .inl (cy 0, 5, .inl df_many)), (da_spot, .inl (cy 5, 6, .inr (.inr (.inr (.inr (fun i => if i < 6 then some (da_spot + 1 + i) else none)))))), ((da_spot + 1 + 0), .inl (cy 0, 2, .inl ((dF_spot 0)))), ((da_spot + 1 + 1), .inl (cy 0, 2, .inl ((dF_spot 1)))), ((da_spot + 1 + 2), .inl (cy 0, 2, .inl ((dF_spot 2)))), ((da_spot + 1 + 3), .inl (cy 0, 2, .inl ((dF_spot 3)))), ((da_spot + 1 + 4), .inl (cy 0, 2, .inl ((dF_spot 4)))), ((da_spot + 1 + 5), .inl (cy 0, 2, .inl ((dF_spot 5))))] := hD
                  refine lv_istore (lv' := [(6, .int r16q), (5, .int k13qy5), (2, .int 6), (4, .int k13qy4), (3, .int k13qy3), (0, .ref da), (1, .int w0)]) hx hb dX12_placed_97 hl (by decide) rfl (fun ls hl => ?_)
                  refine lv_iload hx hb dX12_placed_99 (lv_at hl 0 rfl) ?_
                  refine lv_iconst (v := (-1)) hx hb dX12_placed_101 (by decide) ?_
                  refine lv_icmp_eq (tgt := 127) hx hb dX12_placed_102 (by decide) (fun c18q => ?_) (fun c18q => ?_)
                  · simp only [k_lt, k_le, k_eq, ne_eq, ge_iff_le, gt_iff_lt, n_Lm1] at c18q
                    obtain ⟨x19q, ex19q⟩ : ∃ z : Int32, z = k13qy5 + 1 := ⟨_, rfl⟩
                    refine lv_iinc (v := x19q) (lv' := [(5, .int x19q), (6, .int r16q), (2, .int 6), (4, .int k13qy4), (3, .int k13qy3), (0, .ref da), (1, .int w0)]) hx hb dX12_placed_127 hl (k := 1) rfl (by rw [ex19q]; rfl) (by decide) rfl (fun ls hl => ?_)
                    have rx19q := n_add ex19q (a := k13qy5.toInt) (b := 1) rfl n_L1 (by omega) (by omega)
                    refine lv_goto (tgt := 84) hx hb dX12_placed_130 (by decide) ?_
                    exact k13qih ((6 - x19q.toInt).toNat) (by omega) k13qy3 k13qy4 x19q H locs ls ⟨by omega, by omega⟩ rfl (hP.sub [1, 2, 3, 4, 5, 6, 7, 8, 0] rfl) (hD.sub [1, 2, 3, 4, 5, 6, 7, 8, 0] (by decide) rfl) hS (lv_sub hl [0, 2, 3, 4, 5, 6] rfl)
                  · simp only [k_lt, k_le, k_eq, ne_eq, ge_iff_le, gt_iff_lt, n_Lm1] at c18q
                    refine lv_iload_n hx hb dX12_placed_105 rfl (lv_at hl 4 rfl) ?_
                    refine lv_iconst (v := (-1)) hx hb dX12_placed_106 (by decide) ?_
                    refine lv_icmp_eq (tgt := 120) hx hb dX12_placed_107 (by decide) (fun c20q => ?_) (fun c20q => ?_)
                    · simp only [k_lt, k_le, k_eq, ne_eq, ge_iff_le, gt_iff_lt, n_Lm1] at c20q
                      refine lv_iload hx hb dX12_placed_120 (lv_at hl 1 rfl) ?_
                      refine lv_istore_n (lv' := [(3, .int k13qy5), (6, .int r16q), (5, .int k13qy5), (2, .int 6), (4, .int k13qy4), (0, .ref da), (1, .int w0)]) hx hb dX12_placed_122 rfl hl (by decide) rfl (fun ls hl => ?_)
                      refine lv_iload hx hb dX12_placed_123 (lv_at hl 1 rfl) ?_
                      refine lv_istore (lv' := [(4, .int r16q), (3, .int k13qy5), (6, .int r16q), (5, .int k13qy5), (2, .int 6), (0, .ref da), (1, .int w0)]) hx hb dX12_placed_125 hl (by decide) rfl (fun ls hl => ?_)
                      obtain ⟨x21q, ex21q⟩ : ∃ z : Int32, z = k13qy5 + 1 := ⟨_, rfl⟩
                      refine lv_iinc (v := x21q) (lv' := [(5, .int x21q), (4, .int r16q), (3, .int k13qy5), (6, .int r16q), (2, .int 6), (0, .ref da), (1, .int w0)]) hx hb dX12_placed_127 hl (k := 3) rfl (by rw [ex21q]; rfl) (by decide) rfl (fun ls hl => ?_)
                      have rx21q := n_add ex21q (a := k13qy5.toInt) (b := 1) rfl n_L1 (by omega) (by omega)
                      refine lv_goto (tgt := 84) hx hb dX12_placed_130 (by decide) ?_
                      exact k13qih ((6 - x21q.toInt).toNat) (by omega) k13qy5 r16q x21q H locs ls ⟨by omega, by omega⟩ rfl (hP.sub [1, 2, 3, 4, 5, 6, 7, 8, 0] rfl) (hD.sub [1, 2, 3, 4, 5, 6, 7, 8, 0] (by decide) rfl) hS (lv_sub hl [0, 4, 1, 2, 5, 6] rfl)
                    · simp only [k_lt, k_le, k_eq, ne_eq, ge_iff_le, gt_iff_lt, n_Lm1] at c20q
                      refine lv_iload hx hb dX12_placed_110 (lv_at hl 0 rfl) ?_
                      refine lv_iload hx hb dX12_placed_112 (lv_at hl 3 rfl) ?_
                      refine lv_icmp_lt (tgt := 120) hx hb dX12_placed_114 (by decide) (fun c22q => ?_) (fun c22q => ?_)
                      · simp only [k_lt, k_le, k_eq, ne_eq, ge_iff_le, gt_iff_lt] at c22q
                        refine lv_iload hx hb dX12_placed_120 (lv_at hl 1 rfl) ?_
                        refine lv_istore_n (lv' := [(3, .int k13qy5), (6, .int r16q), (5, .int k13qy5), (2, .int 6), (4, .int k13qy4), (0, .ref da), (1, .int w0)]) hx hb dX12_placed_122 rfl hl (by decide) rfl (fun ls hl => ?_)
                        refine lv_iload hx hb dX12_placed_123 (lv_at hl 1 rfl) ?_
                        refine lv_istore (lv' := [(4, .int r16q), (3, .int k13qy5), (6, .int r16q), (5, .int k13qy5), (2, .int 6), (0, .ref da), (1, .int w0)]) hx hb dX12_placed_125 hl (by decide) rfl (fun ls hl => ?_)
                        obtain ⟨x23q, ex23q⟩ : ∃ z : Int32, z = k13qy5 + 1 := ⟨_, rfl⟩
                        refine lv_iinc (v := x23q) (lv' := [(5, .int x23q), (4, .int r16q), (3, .int k13qy5), (6, .int r16q), (2, .int 6), (0, .ref da), (1, .int w0)]) hx hb dX12_placed_127 hl (k := 3) rfl (by rw [ex23q]; rfl) (by decide) rfl (fun ls hl => ?_)
                        have rx23q := n_add ex23q (a := k13qy5.toInt) (b := 1) rfl n_L1 (by omega) (by omega)
                        refine lv_goto (tgt := 84) hx hb dX12_placed_130 (by decide) ?_
                        exact k13qih ((6 - x23q.toInt).toNat) (by omega) k13qy5 r16q x23q H locs ls ⟨by omega, by omega⟩ rfl (hP.sub [1, 2, 3, 4, 5, 6, 7, 8, 0] rfl) (hD.sub [1, 2, 3, 4, 5, 6, 7, 8, 0] (by decide) rfl) hS (lv_sub hl [0, 4, 1, 2, 5, 6] rfl)
                      · simp only [k_lt, k_le, k_eq, ne_eq, ge_iff_le, gt_iff_lt] at c22q
                        refine lv_goto (tgt := 127) hx hb dX12_placed_117 (by decide) ?_
                        obtain ⟨x24q, ex24q⟩ : ∃ z : Int32, z = k13qy5 + 1 := ⟨_, rfl⟩
                        refine lv_iinc (v := x24q) (lv' := [(5, .int x24q), (6, .int r16q), (2, .int 6), (4, .int k13qy4), (3, .int k13qy3), (0, .ref da), (1, .int w0)]) hx hb dX12_placed_127 hl (k := 1) rfl (by rw [ex24q]; rfl) (by decide) rfl (fun ls hl => ?_)
                        have rx24q := n_add ex24q (a := k13qy5.toInt) (b := 1) rfl n_L1 (by omega) (by omega)
                        refine lv_goto (tgt := 84) hx hb dX12_placed_130 (by decide) ?_
                        exact k13qih ((6 - x24q.toInt).toNat) (by omega) k13qy3 k13qy4 x24q H locs ls ⟨by omega, by omega⟩ rfl (hP.sub [1, 2, 3, 4, 5, 6, 7, 8, 0] rfl) (hD.sub [1, 2, 3, 4, 5, 6, 7, 8, 0] (by decide) rfl) hS (lv_sub hl [0, 2, 3, 4, 5, 6] rfl)
            exact k13q _ (-1) 0 0 H locs ls ⟨by rw [n_L0]; omega, by rw [n_L0]; omega⟩ rfl hP hD hS (lv_sub hl [0, 1, 2, 3, 4, 5] rfl)
          · obtain rfl : d_spots = 2 := Int32.toInt_inj.mp (h9.trans (by decide))
            refine lv_iconst (v := 1) hx hb dX12_placed_51 (by decide) ?_
            refine lv_istore_n (lv' := [(2, .int 1), (0, .ref da), (1, .int w0)]) hx hb dX12_placed_52 rfl hl (by decide) rfl (fun ls hl => ?_)
            refine lv_iconst (v := (-1)) hx hb dX12_placed_53 (by decide) ?_
            refine lv_istore_n (lv' := [(3, .int (-1)), (2, .int 1), (0, .ref da), (1, .int w0)]) hx hb dX12_placed_54 rfl hl (by decide) rfl (fun ls hl => ?_)
            refine lv_iconst (v := 0) hx hb dX12_placed_55 (by decide) ?_
            refine lv_istore (lv' := [(4, .int 0), (3, .int (-1)), (2, .int 1), (0, .ref da), (1, .int w0)]) hx hb dX12_placed_56 hl (by decide) rfl (fun ls hl => ?_)
            refine lv_iconst (v := 0) hx hb dX12_placed_58 (by decide) ?_
            refine lv_istore (lv' := [(5, .int 0), (4, .int 0), (3, .int (-1)), (2, .int 1), (0, .ref da), (1, .int w0)]) hx hb dX12_placed_59 hl (by decide) rfl (fun ls hl => ?_)
            refine lv_iload hx hb dX12_placed_61 (lv_at hl 0 rfl) ?_
            refine lv_aload_n hx hb dX12_placed_63 rfl (lv_at hl 4 rfl) ?_
            refine va_get (D := D) (ci := 13) (v := .int 2) (C := RX12) (T := TX12) (N := 48) hx hb hts kin_RX12 hown hG.1 hP 8 rfl rfl 24 (by decide) (hts _ wm_1543) (fun _ h9 => h9) rfl dX12_placed_64 ?_
            refine lv_icmp_ge (tgt := 81) hx hb dX12_placed_67 (by decide) (fun h => absurd h (by decide)) (fun _ => ?_)
            refine lv_iload_n hx hb dX12_placed_70 rfl (lv_at hl 3 rfl) ?_
            refine lv_bipush (v := 6) hx hb dX12_placed_71 (by decide) ?_
            refine lv_imul hx hb dX12_placed_73 ?_
            refine lv_topi (fun x25q ex25q => ?_)
            obtain rfl : x25q = 6 := ex25q.trans (by decide)
            refine lv_istore_n (lv' := [(2, .int 6), (5, .int 0), (4, .int 0), (3, .int (-1)), (0, .ref da), (1, .int w0)]) hx hb dX12_placed_74 rfl hl (by decide) rfl (fun ls hl => ?_)
            refine lv_iinc (v := 1) (lv' := [(5, .int 1), (2, .int 6), (4, .int 0), (3, .int (-1)), (0, .ref da), (1, .int w0)]) hx hb dX12_placed_75 hl (k := 1) rfl (by decide) (by decide) rfl (fun ls hl => ?_)
            refine lv_goto (tgt := 61) hx hb dX12_placed_78 (by decide) ?_
            refine lv_iload hx hb dX12_placed_61 (lv_at hl 0 rfl) ?_
            refine lv_aload_n hx hb dX12_placed_63 rfl (lv_at hl 4 rfl) ?_
            refine va_get (D := D) (ci := 13) (v := .int 2) (C := RX12) (T := TX12) (N := 48) hx hb hts kin_RX12 hown hG.1 hP 8 rfl rfl 24 (by decide) (hts _ wm_1543) (fun _ h9 => h9) rfl dX12_placed_64 ?_
            refine lv_icmp_ge (tgt := 81) hx hb dX12_placed_67 (by decide) (fun h => absurd h (by decide)) (fun _ => ?_)
            refine lv_iload_n hx hb dX12_placed_70 rfl (lv_at hl 1 rfl) ?_
            refine lv_bipush (v := 6) hx hb dX12_placed_71 (by decide) ?_
            refine lv_imul hx hb dX12_placed_73 ?_
            refine lv_topi (fun x26q ex26q => ?_)
            obtain rfl : x26q = 36 := ex26q.trans (by decide)
            refine lv_istore_n (lv' := [(2, .int 36), (5, .int 1), (4, .int 0), (3, .int (-1)), (0, .ref da), (1, .int w0)]) hx hb dX12_placed_74 rfl hl (by decide) rfl (fun ls hl => ?_)
            refine lv_iinc (v := 2) (lv' := [(5, .int 2), (2, .int 36), (4, .int 0), (3, .int (-1)), (0, .ref da), (1, .int w0)]) hx hb dX12_placed_75 hl (k := 1) rfl (by decide) (by decide) rfl (fun ls hl => ?_)
            refine lv_goto (tgt := 61) hx hb dX12_placed_78 (by decide) ?_
            refine lv_iload hx hb dX12_placed_61 (lv_at hl 0 rfl) ?_
            refine lv_aload_n hx hb dX12_placed_63 rfl (lv_at hl 4 rfl) ?_
            refine va_get (D := D) (ci := 13) (v := .int 2) (C := RX12) (T := TX12) (N := 48) hx hb hts kin_RX12 hown hG.1 hP 8 rfl rfl 24 (by decide) (hts _ wm_1543) (fun _ h9 => h9) rfl dX12_placed_64 ?_
            refine lv_icmp_ge (tgt := 81) hx hb dX12_placed_67 (by decide) (fun _ => ?_) (fun h => absurd (by decide) h)
            refine lv_iconst (v := 0) hx hb dX12_placed_81 (by decide) ?_
            refine lv_istore (lv' := [(5, .int 0), (2, .int 36), (4, .int 0), (3, .int (-1)), (0, .ref da), (1, .int w0)]) hx hb dX12_placed_82 hl (by decide) rfl (fun ls hl => ?_)
            have k27q : ∀ (n : Nat) (k27qy3 : Int32) (k27qy4 : Int32) (k27qy5 : Int32) (H : Heap) (locs : List Loc) (ls : Array Slot), 0 ≤ k27qy5.toInt ∧ k27qy5.toInt ≤ 36 → (36 - k27qy5.toInt).toNat = n → va_P D vwCl [(da_many, .inl (cy 0, 5, .inl df_many)), (da_spot, .inl (cy 5, 6, .inr (.inr (.inr (.inr (fun i => if i < 6 then some (da_spot + 1 + i) else none)))))), ((da_spot + 1 + 0), .inl (cy 0, 2, .inl ((dF_spot 0)))), ((da_spot + 1 + 1), .inl (cy 0, 2, .inl ((dF_spot 1)))), ((da_spot + 1 + 2), .inl (cy 0, 2, .inl ((dF_spot 2)))), ((da_spot + 1 + 3), .inl (cy 0, 2, .inl ((dF_spot 3)))), ((da_spot + 1 + 4), .inl (cy 0, 2, .inl ((dF_spot 4)))), ((da_spot + 1 + 5), .inl (cy 0, 2, .inl ((dF_spot 5)))), (da, .inr (13, [.int ((u6q.1 0)), .int d_tape, .int d_size, .int d_place, .int d_at, .int d_fault, .int d_faultAt, .int d_clauses, .ref da_fed, .ref da_readBody, .ref da_body, .ref da_readMany, .ref da_many, .ref da_without, .ref da_did, .ref da_done, .ref da_bed, .int d_now, .int d_mindAt, .int d_way, .int d_harm, .int d_worth, .int d_passes, .int d_passings, .int 2, .int d_images, .ref da_passing, .ref da_spot, .ref da_kept, .ref da_aside, .int d_spare, .ref da_ran, .ref da_who, .ref da_cap, .ref da_w, .ref da_laid, .int d_whoMany, .int d_drifted, .int d_seed, .ref da_cries, .ref da_holds, .ref da_came, .ref da_least, .ref da_firstTo, .int d_steps, .int d_roundFrom, .int d_roundMany, .int d_numberAt]))] H → va_D A [(da_many, .inl (cy 0, 5, .inl df_many)), (da_spot, .inl (cy 5, 6, .inr (.inr (.inr (.inr (fun i => if i < 6 then some (da_spot + 1 + i) else none)))))), ((da_spot + 1 + 0), .inl (cy 0, 2, .inl ((dF_spot 0)))), ((da_spot + 1 + 1), .inl (cy 0, 2, .inl ((dF_spot 1)))), ((da_spot + 1 + 2), .inl (cy 0, 2, .inl ((dF_spot 2)))), ((da_spot + 1 + 3), .inl (cy 0, 2, .inl ((dF_spot 3)))), ((da_spot + 1 + 4), .inl (cy 0, 2, .inl ((dF_spot 4)))), ((da_spot + 1 + 5), .inl (cy 0, 2, .inl ((dF_spot 5)))), (da, .inr (13, [.int ((u6q.1 0)), .int d_tape, .int d_size, .int d_place, .int d_at, .int d_fault, .int d_faultAt, .int d_clauses, .ref da_fed, .ref da_readBody, .ref da_body, .ref da_readMany, .ref da_many, .ref da_without, .ref da_did, .ref da_done, .ref da_bed, .int d_now, .int d_mindAt, .int d_way, .int d_harm, .int d_worth, .int d_passes, .int d_passings, .int 2, .int d_images, .ref da_passing, .ref da_spot, .ref da_kept, .ref da_aside, .int d_spare, .ref da_ran, .ref da_who, .ref da_cap, .ref da_w, .ref da_laid, .int d_whoMany, .int d_drifted, .int d_seed, .ref da_cries, .ref da_holds, .ref da_came, .ref da_least, .ref da_firstTo, .int d_steps, .int d_roundFrom, .int d_roundMany, .int d_numberAt]))] → va_S A s.heap H locs → lv_has ls 7 [(5, .int k27qy5), (2, .int 36), (4, .int k27qy4), (3, .int k27qy3), (0, .ref da), (1, .int w0)] → W p l e ({ frames := 13, cells := 0, slots := 0, locals := 480 }) s m ([.ref da, .int w0] : List Value).toArray below meth c H locs 0 0 Q0 (F0 m 84 ls []) := by
              intro n
              induction n using Nat.strongRecOn with
              | ind n k27qih =>
                intro k27qy3 k27qy4 k27qy5 H locs ls hk27qy5 k27qm hP hD hS hl
                have gk27qy3 := k_rng k27qy3
                have gk27qy4 := k_rng k27qy4
                refine lv_iload hx hb dX12_placed_84 (lv_at hl 0 rfl) ?_
                refine lv_iload_n hx hb dX12_placed_86 rfl (lv_at hl 1 rfl) ?_
                refine lv_icmp_ge (tgt := 133) hx hb dX12_placed_87 (by decide) (fun c28q => ?_) (fun c28q => ?_)
                · simp only [k_lt, k_le, k_eq, ne_eq, ge_iff_le, gt_iff_lt, n_L36] at c28q
                  refine lv_iload_n hx hb dX12_placed_133 rfl (lv_at hl 5 rfl) ?_
                  refine lv_if_ne (tgt := 142) hx hb dX12_placed_134 (by decide) (fun c29q => ?_) (fun c29q => ?_)
                  · simp only [k_lt, k_le, k_eq, ne_eq, ge_iff_le, gt_iff_lt, n_L0, n_L0] at c29q
                    refine lv_iload_n hx hb dX12_placed_142 rfl (lv_at hl 3 rfl) ?_
                    rw [hQ0]
                    exact k_iret (fun k => [((u6q.1 0))].getD k 0, fun k => [].getD k (fun _ => 0)) hx hb hr hlk (trivial) (hP.sub [8, 0, 1, 2, 3, 4, 5, 6, 7] rfl) (hD.sub [8, 0, 1, 2, 3, 4, 5, 6, 7] (by decide) rfl) hS (by decide) (by decide) dX12_placed_143
                  · simp only [k_lt, k_le, k_eq, ne_eq, ge_iff_le, gt_iff_lt, n_L0, n_L0] at c29q
                    refine lv_iload hx hb dX12_placed_137 (lv_at hl 2 rfl) ?_
                    refine lv_goto (tgt := 143) hx hb dX12_placed_139 (by decide) ?_
                    rw [hQ0]
                    exact k_iret (fun k => [((u6q.1 0))].getD k 0, fun k => [].getD k (fun _ => 0)) hx hb hr hlk (trivial) (hP.sub [8, 0, 1, 2, 3, 4, 5, 6, 7] rfl) (hD.sub [8, 0, 1, 2, 3, 4, 5, 6, 7] (by decide) rfl) hS (by decide) (by decide) dX12_placed_143
                · simp only [k_lt, k_le, k_eq, ne_eq, ge_iff_le, gt_iff_lt, n_L36] at c28q
                  refine lv_aload_n hx hb dX12_placed_90 rfl (lv_at hl 4 rfl) ?_
                  refine lv_iload hx hb dX12_placed_91 (lv_at hl 0 rfl) ?_
                  refine lv_iload_n hx hb dX12_placed_93 rfl (lv_at hl 1 rfl) ?_
                  refine k_cali [] (⟨hP, hD, hG, hS, hA, rfl, rfl⟩ : kAt D cy sa A s H _ _ [(da, .inr (13, [.int ((u6q.1 0)), .int d_tape, .int d_size, .int d_place, .int d_at, .int d_fault, .int d_faultAt, .int d_clauses, .ref da_fed, .ref da_readBody, .ref da_body, .ref da_readMany, .ref da_many, .ref da_without, .ref da_did, .ref da_done, .ref da_bed, .int d_now, .int d_mindAt, .int d_way, .int d_harm, .int d_worth, .int d_passes, .int d_passings, .int 2, .int d_images, .ref da_passing, .ref da_spot, .ref da_kept, .ref da_aside, .int d_spare, .ref da_ran, .ref da_who, .ref da_cap, .ref da_w, .ref da_laid, .int d_whoMany, .int d_drifted, .int d_seed, .ref da_cries, .ref da_holds, .ref da_came, .ref da_least, .ref da_firstTo, .int d_steps, .int d_roundFrom, .int d_roundMany, .int d_numberAt])), (da_many, .inl (cy 0, 5, .inl df_many)), (da_spot, .inl (cy 5, 6, .inr (.inr (.inr (.inr (fun i => if i < 6 then some (da_spot + 1 + i) else none)))))), ((da_spot + 1 + 0), .inl (cy 0, 2, .inl ((dF_spot 0)))), ((da_spot + 1 + 1), .inl (cy 0, 2, .inl ((dF_spot 1)))), ((da_spot + 1 + 2), .inl (cy 0, 2, .inl ((dF_spot 2)))), ((da_spot + 1 + 3), .inl (cy 0, 2, .inl ((dF_spot 3)))), ((da_spot + 1 + 4), .inl (cy 0, 2, .inl ((dF_spot 4)))), ((da_spot + 1 + 5), .inl (cy 0, 2, .inl ((dF_spot 5))))] [8, 0, 1, 2, 3, 4, 5, 6, 7]) (wr := []) rfl rfl (by decide) (k_runV 13 8 (As := [.int k27qy5, .int 36]) (rest := []) E lk_VRX12_340 rfl rfl rfl (m_roundOf l hl0 D cy sa da da_fed da_readBody da_body da_readMany da_many da_without da_did da_done da_bed da_passing da_spot da_kept da_aside da_ran da_who da_cap da_w da_laid da_cries da_holds da_came da_least da_firstTo ((u6q.1 0)) d_tape d_size d_place d_at d_fault d_faultAt d_clauses d_now d_mindAt d_way d_harm d_worth d_passes d_passings 2 d_images d_spare d_whoMany d_drifted d_seed d_steps d_roundFrom d_roundMany d_numberAt k27qy5 36 df_many dF_spot ⟨by omega, by omega⟩ ⟨by omega, by omega⟩ ⟨by omega, by omega⟩ ⟨by omega, by omega⟩ ⟨by omega, by omega⟩ ⟨by omega, by omega⟩ ⟨by omega, by omega⟩ (by decide) ⟨by omega, by omega⟩ ⟨by omega, by omega⟩ (by assumption) (by assumption) (by assumption) ⟨by omega, by omega⟩ (by first | omega | (simp only [n_L36]; omega) | (simp only [n_L36]; done) | decide) (by first | omega | (simp only [n_L36]; omega) | (simp only [n_L36]; done) | decide) H.size) (⟨hP, hD, hG, hS, hA, rfl, rfl⟩ : kAt D cy sa A s H _ _ [(da, .inr (13, [.int ((u6q.1 0)), .int d_tape, .int d_size, .int d_place, .int d_at, .int d_fault, .int d_faultAt, .int d_clauses, .ref da_fed, .ref da_readBody, .ref da_body, .ref da_readMany, .ref da_many, .ref da_without, .ref da_did, .ref da_done, .ref da_bed, .int d_now, .int d_mindAt, .int d_way, .int d_harm, .int d_worth, .int d_passes, .int d_passings, .int 2, .int d_images, .ref da_passing, .ref da_spot, .ref da_kept, .ref da_aside, .int d_spare, .ref da_ran, .ref da_who, .ref da_cap, .ref da_w, .ref da_laid, .int d_whoMany, .int d_drifted, .int d_seed, .ref da_cries, .ref da_holds, .ref da_came, .ref da_least, .ref da_firstTo, .int d_steps, .int d_roundFrom, .int d_roundMany, .int d_numberAt])), (da_many, .inl (cy 0, 5, .inl df_many)), (da_spot, .inl (cy 5, 6, .inr (.inr (.inr (.inr (fun i => if i < 6 then some (da_spot + 1 + i) else none)))))), ((da_spot + 1 + 0), .inl (cy 0, 2, .inl ((dF_spot 0)))), ((da_spot + 1 + 1), .inl (cy 0, 2, .inl ((dF_spot 1)))), ((da_spot + 1 + 2), .inl (cy 0, 2, .inl ((dF_spot 2)))), ((da_spot + 1 + 3), .inl (cy 0, 2, .inl ((dF_spot 3)))), ((da_spot + 1 + 4), .inl (cy 0, 2, .inl ((dF_spot 4)))), ((da_spot + 1 + 5), .inl (cy 0, 2, .inl ((dF_spot 5))))] [8, 0, 1, 2, 3, 4, 5, 6, 7]) hl.1 rfl rfl ⟨rfl, rfl, ⟨Nat.le_of_ble_eq_true rfl, Nat.le_of_ble_eq_true rfl⟩, ⟨Nat.le_of_ble_eq_true rfl, Nat.le_of_ble_eq_true rfl⟩, Nat.le_of_ble_eq_true rfl⟩ dX12_placed_94) (fun r30q u31q H locs hwu31q hP hD hS => ?_)
                  have hP : va_P D vwCl [(da, .inr (13, [.int ((u6q.1 0)), .int d_tape, .int d_size, .int d_place, .int d_at, .int d_fault, .int d_faultAt, .int d_clauses, .ref da_fed, .ref da_readBody, .ref da_body, .ref da_readMany, .ref da_many, .ref da_without, .ref da_did, .ref da_done, .ref da_bed, .int d_now, .int d_mindAt, .int d_way, .int d_harm, .int d_worth, .int d_passes, .int d_passings, .int 2, .int d_images, .ref da_passing, .ref da_spot, .ref da_kept, .ref da_aside, .int d_spare, .ref da_ran, .ref da_who, .ref da_cap, .ref da_w, .ref da_laid, .int d_whoMany, .int d_drifted, .int d_seed, .ref da_cries, .ref da_holds, .ref da_came, .ref da_least, .ref da_firstTo, .int d_steps, .int d_roundFrom, .int d_roundMany, .int d_numberAt])), (da_many, .inl (cy 0, 5, .inl df_many)), (da_spot, .inl (cy 5, 6, .inr (.inr (.inr (.inr (fun i => if i < 6 then some (da_spot + 1 + i) else none)))))), ((da_spot + 1 + 0), .inl (cy 0, 2, .inl ((dF_spot 0)))), ((da_spot + 1 + 1), .inl (cy 0, 2, .inl ((dF_spot 1)))), ((da_spot + 1 + 2), .inl (cy 0, 2, .inl ((dF_spot 2)))), ((da_spot + 1 + 3), .inl (cy 0, 2, .inl ((dF_spot 3)))), ((da_spot + 1 + 4), .inl (cy 0, 2, .inl ((dF_spot 4)))), ((da_spot + 1 + 5), .inl (cy 0, 2, .inl ((dF_spot 5))))] H := hP
                  have hD : va_D A [(da, .inr (13, [.int ((u6q.1 0)), .int d_tape, .int d_size, .int d_place, .int d_at, .int d_fault, .int d_faultAt, .int d_clauses, .ref da_fed, .ref da_readBody, .ref da_body, .ref da_readMany, .ref da_many, .ref da_without, .ref da_did, .ref da_done, .ref da_bed, .int d_now, .int d_mindAt, .int d_way, .int d_harm, .int d_worth, .int d_passes, .int d_passings, .int 2, .int d_images, .ref da_passing, .ref da_spot, .ref da_kept, .ref da_aside, .int d_spare, .ref da_ran, .ref da_who, .ref da_cap, .ref da_w, .ref da_laid, .int d_whoMany, .int d_drifted, .int d_seed, .ref da_cries, .ref da_holds, .ref da_came, .ref da_least, .ref da_firstTo, .int d_steps, .int d_roundFrom, .int d_roundMany, .int d_numberAt])), (da_many, .inl (cy 0, 5, .inl df_many)), (da_spot, .inl (cy 5, 6, .inr (.inr (.inr (.inr (fun i => if i < 6 then some (da_spot + 1 + i) else none)))))), ((da_spot + 1 + 0), .inl (cy 0, 2, .inl ((dF_spot 0)))), ((da_spot + 1 + 1), .inl (cy 0, 2, .inl ((dF_spot 1)))), ((da_spot + 1 + 2), .inl (cy 0, 2, .inl ((dF_spot 2)))), ((da_spot + 1 + 3), .inl (cy 0, 2, .inl ((dF_spot 3)))), ((da_spot + 1 + 4), .inl (cy 0, 2, .inl ((dF_spot 4)))), ((da_spot + 1 + 5), .inl (cy 0, 2, .inl ((dF_spot 5))))] := hD
                  refine lv_istore (lv' := [(6, .int r30q), (5, .int k27qy5), (2, .int 36), (4, .int k27qy4), (3, .int k27qy3), (0, .ref da), (1, .int w0)]) hx hb dX12_placed_97 hl (by decide) rfl (fun ls hl => ?_)
                  refine lv_iload hx hb dX12_placed_99 (lv_at hl 0 rfl) ?_
                  refine lv_iconst (v := (-1)) hx hb dX12_placed_101 (by decide) ?_
                  refine lv_icmp_eq (tgt := 127) hx hb dX12_placed_102 (by decide) (fun c32q => ?_) (fun c32q => ?_)
                  · simp only [k_lt, k_le, k_eq, ne_eq, ge_iff_le, gt_iff_lt, n_Lm1] at c32q
                    obtain ⟨x33q, ex33q⟩ : ∃ z : Int32, z = k27qy5 + 1 := ⟨_, rfl⟩
                    refine lv_iinc (v := x33q) (lv' := [(5, .int x33q), (6, .int r30q), (2, .int 36), (4, .int k27qy4), (3, .int k27qy3), (0, .ref da), (1, .int w0)]) hx hb dX12_placed_127 hl (k := 1) rfl (by rw [ex33q]; rfl) (by decide) rfl (fun ls hl => ?_)
                    have rx33q := n_add ex33q (a := k27qy5.toInt) (b := 1) rfl n_L1 (by omega) (by omega)
                    refine lv_goto (tgt := 84) hx hb dX12_placed_130 (by decide) ?_
                    exact k27qih ((36 - x33q.toInt).toNat) (by omega) k27qy3 k27qy4 x33q H locs ls ⟨by omega, by omega⟩ rfl (hP.sub [1, 2, 3, 4, 5, 6, 7, 8, 0] rfl) (hD.sub [1, 2, 3, 4, 5, 6, 7, 8, 0] (by decide) rfl) hS (lv_sub hl [0, 2, 3, 4, 5, 6] rfl)
                  · simp only [k_lt, k_le, k_eq, ne_eq, ge_iff_le, gt_iff_lt, n_Lm1] at c32q
                    refine lv_iload_n hx hb dX12_placed_105 rfl (lv_at hl 4 rfl) ?_
                    refine lv_iconst (v := (-1)) hx hb dX12_placed_106 (by decide) ?_
                    refine lv_icmp_eq (tgt := 120) hx hb dX12_placed_107 (by decide) (fun c34q => ?_) (fun c34q => ?_)
                    · simp only [k_lt, k_le, k_eq, ne_eq, ge_iff_le, gt_iff_lt, n_Lm1] at c34q
                      refine lv_iload hx hb dX12_placed_120 (lv_at hl 1 rfl) ?_
                      refine lv_istore_n (lv' := [(3, .int k27qy5), (6, .int r30q), (5, .int k27qy5), (2, .int 36), (4, .int k27qy4), (0, .ref da), (1, .int w0)]) hx hb dX12_placed_122 rfl hl (by decide) rfl (fun ls hl => ?_)
                      refine lv_iload hx hb dX12_placed_123 (lv_at hl 1 rfl) ?_
                      refine lv_istore (lv' := [(4, .int r30q), (3, .int k27qy5), (6, .int r30q), (5, .int k27qy5), (2, .int 36), (0, .ref da), (1, .int w0)]) hx hb dX12_placed_125 hl (by decide) rfl (fun ls hl => ?_)
                      obtain ⟨x35q, ex35q⟩ : ∃ z : Int32, z = k27qy5 + 1 := ⟨_, rfl⟩
                      refine lv_iinc (v := x35q) (lv' := [(5, .int x35q), (4, .int r30q), (3, .int k27qy5), (6, .int r30q), (2, .int 36), (0, .ref da), (1, .int w0)]) hx hb dX12_placed_127 hl (k := 3) rfl (by rw [ex35q]; rfl) (by decide) rfl (fun ls hl => ?_)
                      have rx35q := n_add ex35q (a := k27qy5.toInt) (b := 1) rfl n_L1 (by omega) (by omega)
                      refine lv_goto (tgt := 84) hx hb dX12_placed_130 (by decide) ?_
                      exact k27qih ((36 - x35q.toInt).toNat) (by omega) k27qy5 r30q x35q H locs ls ⟨by omega, by omega⟩ rfl (hP.sub [1, 2, 3, 4, 5, 6, 7, 8, 0] rfl) (hD.sub [1, 2, 3, 4, 5, 6, 7, 8, 0] (by decide) rfl) hS (lv_sub hl [0, 4, 1, 2, 5, 6] rfl)
                    · simp only [k_lt, k_le, k_eq, ne_eq, ge_iff_le, gt_iff_lt, n_Lm1] at c34q
                      refine lv_iload hx hb dX12_placed_110 (lv_at hl 0 rfl) ?_
                      refine lv_iload hx hb dX12_placed_112 (lv_at hl 3 rfl) ?_
                      refine lv_icmp_lt (tgt := 120) hx hb dX12_placed_114 (by decide) (fun c36q => ?_) (fun c36q => ?_)
                      · simp only [k_lt, k_le, k_eq, ne_eq, ge_iff_le, gt_iff_lt] at c36q
                        refine lv_iload hx hb dX12_placed_120 (lv_at hl 1 rfl) ?_
                        refine lv_istore_n (lv' := [(3, .int k27qy5), (6, .int r30q), (5, .int k27qy5), (2, .int 36), (4, .int k27qy4), (0, .ref da), (1, .int w0)]) hx hb dX12_placed_122 rfl hl (by decide) rfl (fun ls hl => ?_)
                        refine lv_iload hx hb dX12_placed_123 (lv_at hl 1 rfl) ?_
                        refine lv_istore (lv' := [(4, .int r30q), (3, .int k27qy5), (6, .int r30q), (5, .int k27qy5), (2, .int 36), (0, .ref da), (1, .int w0)]) hx hb dX12_placed_125 hl (by decide) rfl (fun ls hl => ?_)
                        obtain ⟨x37q, ex37q⟩ : ∃ z : Int32, z = k27qy5 + 1 := ⟨_, rfl⟩
                        refine lv_iinc (v := x37q) (lv' := [(5, .int x37q), (4, .int r30q), (3, .int k27qy5), (6, .int r30q), (2, .int 36), (0, .ref da), (1, .int w0)]) hx hb dX12_placed_127 hl (k := 3) rfl (by rw [ex37q]; rfl) (by decide) rfl (fun ls hl => ?_)
                        have rx37q := n_add ex37q (a := k27qy5.toInt) (b := 1) rfl n_L1 (by omega) (by omega)
                        refine lv_goto (tgt := 84) hx hb dX12_placed_130 (by decide) ?_
                        exact k27qih ((36 - x37q.toInt).toNat) (by omega) k27qy5 r30q x37q H locs ls ⟨by omega, by omega⟩ rfl (hP.sub [1, 2, 3, 4, 5, 6, 7, 8, 0] rfl) (hD.sub [1, 2, 3, 4, 5, 6, 7, 8, 0] (by decide) rfl) hS (lv_sub hl [0, 4, 1, 2, 5, 6] rfl)
                      · simp only [k_lt, k_le, k_eq, ne_eq, ge_iff_le, gt_iff_lt] at c36q
                        refine lv_goto (tgt := 127) hx hb dX12_placed_117 (by decide) ?_
                        obtain ⟨x38q, ex38q⟩ : ∃ z : Int32, z = k27qy5 + 1 := ⟨_, rfl⟩
                        refine lv_iinc (v := x38q) (lv' := [(5, .int x38q), (6, .int r30q), (2, .int 36), (4, .int k27qy4), (3, .int k27qy3), (0, .ref da), (1, .int w0)]) hx hb dX12_placed_127 hl (k := 1) rfl (by rw [ex38q]; rfl) (by decide) rfl (fun ls hl => ?_)
                        have rx38q := n_add ex38q (a := k27qy5.toInt) (b := 1) rfl n_L1 (by omega) (by omega)
                        refine lv_goto (tgt := 84) hx hb dX12_placed_130 (by decide) ?_
                        exact k27qih ((36 - x38q.toInt).toNat) (by omega) k27qy3 k27qy4 x38q H locs ls ⟨by omega, by omega⟩ rfl (hP.sub [1, 2, 3, 4, 5, 6, 7, 8, 0] rfl) (hD.sub [1, 2, 3, 4, 5, 6, 7, 8, 0] (by decide) rfl) hS (lv_sub hl [0, 2, 3, 4, 5, 6] rfl)
            exact k27q _ (-1) 0 0 H locs ls ⟨by rw [n_L0]; omega, by rw [n_L0]; omega⟩ rfl hP hD hS (lv_sub hl [0, 1, 2, 3, 4, 5] rfl)
          · obtain rfl : d_spots = 3 := Int32.toInt_inj.mp (h9.trans (by decide))
            refine lv_iconst (v := 1) hx hb dX12_placed_51 (by decide) ?_
            refine lv_istore_n (lv' := [(2, .int 1), (0, .ref da), (1, .int w0)]) hx hb dX12_placed_52 rfl hl (by decide) rfl (fun ls hl => ?_)
            refine lv_iconst (v := (-1)) hx hb dX12_placed_53 (by decide) ?_
            refine lv_istore_n (lv' := [(3, .int (-1)), (2, .int 1), (0, .ref da), (1, .int w0)]) hx hb dX12_placed_54 rfl hl (by decide) rfl (fun ls hl => ?_)
            refine lv_iconst (v := 0) hx hb dX12_placed_55 (by decide) ?_
            refine lv_istore (lv' := [(4, .int 0), (3, .int (-1)), (2, .int 1), (0, .ref da), (1, .int w0)]) hx hb dX12_placed_56 hl (by decide) rfl (fun ls hl => ?_)
            refine lv_iconst (v := 0) hx hb dX12_placed_58 (by decide) ?_
            refine lv_istore (lv' := [(5, .int 0), (4, .int 0), (3, .int (-1)), (2, .int 1), (0, .ref da), (1, .int w0)]) hx hb dX12_placed_59 hl (by decide) rfl (fun ls hl => ?_)
            refine lv_iload hx hb dX12_placed_61 (lv_at hl 0 rfl) ?_
            refine lv_aload_n hx hb dX12_placed_63 rfl (lv_at hl 4 rfl) ?_
            refine va_get (D := D) (ci := 13) (v := .int 3) (C := RX12) (T := TX12) (N := 48) hx hb hts kin_RX12 hown hG.1 hP 8 rfl rfl 24 (by decide) (hts _ wm_1543) (fun _ h9 => h9) rfl dX12_placed_64 ?_
            refine lv_icmp_ge (tgt := 81) hx hb dX12_placed_67 (by decide) (fun h => absurd h (by decide)) (fun _ => ?_)
            refine lv_iload_n hx hb dX12_placed_70 rfl (lv_at hl 3 rfl) ?_
            refine lv_bipush (v := 6) hx hb dX12_placed_71 (by decide) ?_
            refine lv_imul hx hb dX12_placed_73 ?_
            refine lv_topi (fun x39q ex39q => ?_)
            obtain rfl : x39q = 6 := ex39q.trans (by decide)
            refine lv_istore_n (lv' := [(2, .int 6), (5, .int 0), (4, .int 0), (3, .int (-1)), (0, .ref da), (1, .int w0)]) hx hb dX12_placed_74 rfl hl (by decide) rfl (fun ls hl => ?_)
            refine lv_iinc (v := 1) (lv' := [(5, .int 1), (2, .int 6), (4, .int 0), (3, .int (-1)), (0, .ref da), (1, .int w0)]) hx hb dX12_placed_75 hl (k := 1) rfl (by decide) (by decide) rfl (fun ls hl => ?_)
            refine lv_goto (tgt := 61) hx hb dX12_placed_78 (by decide) ?_
            refine lv_iload hx hb dX12_placed_61 (lv_at hl 0 rfl) ?_
            refine lv_aload_n hx hb dX12_placed_63 rfl (lv_at hl 4 rfl) ?_
            refine va_get (D := D) (ci := 13) (v := .int 3) (C := RX12) (T := TX12) (N := 48) hx hb hts kin_RX12 hown hG.1 hP 8 rfl rfl 24 (by decide) (hts _ wm_1543) (fun _ h9 => h9) rfl dX12_placed_64 ?_
            refine lv_icmp_ge (tgt := 81) hx hb dX12_placed_67 (by decide) (fun h => absurd h (by decide)) (fun _ => ?_)
            refine lv_iload_n hx hb dX12_placed_70 rfl (lv_at hl 1 rfl) ?_
            refine lv_bipush (v := 6) hx hb dX12_placed_71 (by decide) ?_
            refine lv_imul hx hb dX12_placed_73 ?_
            refine lv_topi (fun x40q ex40q => ?_)
            obtain rfl : x40q = 36 := ex40q.trans (by decide)
            refine lv_istore_n (lv' := [(2, .int 36), (5, .int 1), (4, .int 0), (3, .int (-1)), (0, .ref da), (1, .int w0)]) hx hb dX12_placed_74 rfl hl (by decide) rfl (fun ls hl => ?_)
            refine lv_iinc (v := 2) (lv' := [(5, .int 2), (2, .int 36), (4, .int 0), (3, .int (-1)), (0, .ref da), (1, .int w0)]) hx hb dX12_placed_75 hl (k := 1) rfl (by decide) (by decide) rfl (fun ls hl => ?_)
            refine lv_goto (tgt := 61) hx hb dX12_placed_78 (by decide) ?_
            refine lv_iload hx hb dX12_placed_61 (lv_at hl 0 rfl) ?_
            refine lv_aload_n hx hb dX12_placed_63 rfl (lv_at hl 4 rfl) ?_
            refine va_get (D := D) (ci := 13) (v := .int 3) (C := RX12) (T := TX12) (N := 48) hx hb hts kin_RX12 hown hG.1 hP 8 rfl rfl 24 (by decide) (hts _ wm_1543) (fun _ h9 => h9) rfl dX12_placed_64 ?_
            refine lv_icmp_ge (tgt := 81) hx hb dX12_placed_67 (by decide) (fun h => absurd h (by decide)) (fun _ => ?_)
            refine lv_iload_n hx hb dX12_placed_70 rfl (lv_at hl 1 rfl) ?_
            refine lv_bipush (v := 6) hx hb dX12_placed_71 (by decide) ?_
            refine lv_imul hx hb dX12_placed_73 ?_
            refine lv_topi (fun x41q ex41q => ?_)
            obtain rfl : x41q = 216 := ex41q.trans (by decide)
            refine lv_istore_n (lv' := [(2, .int 216), (5, .int 2), (4, .int 0), (3, .int (-1)), (0, .ref da), (1, .int w0)]) hx hb dX12_placed_74 rfl hl (by decide) rfl (fun ls hl => ?_)
            refine lv_iinc (v := 3) (lv' := [(5, .int 3), (2, .int 216), (4, .int 0), (3, .int (-1)), (0, .ref da), (1, .int w0)]) hx hb dX12_placed_75 hl (k := 1) rfl (by decide) (by decide) rfl (fun ls hl => ?_)
            refine lv_goto (tgt := 61) hx hb dX12_placed_78 (by decide) ?_
            refine lv_iload hx hb dX12_placed_61 (lv_at hl 0 rfl) ?_
            refine lv_aload_n hx hb dX12_placed_63 rfl (lv_at hl 4 rfl) ?_
            refine va_get (D := D) (ci := 13) (v := .int 3) (C := RX12) (T := TX12) (N := 48) hx hb hts kin_RX12 hown hG.1 hP 8 rfl rfl 24 (by decide) (hts _ wm_1543) (fun _ h9 => h9) rfl dX12_placed_64 ?_
            refine lv_icmp_ge (tgt := 81) hx hb dX12_placed_67 (by decide) (fun _ => ?_) (fun h => absurd (by decide) h)
            refine lv_iconst (v := 0) hx hb dX12_placed_81 (by decide) ?_
            refine lv_istore (lv' := [(5, .int 0), (2, .int 216), (4, .int 0), (3, .int (-1)), (0, .ref da), (1, .int w0)]) hx hb dX12_placed_82 hl (by decide) rfl (fun ls hl => ?_)
            have k42q : ∀ (n : Nat) (k42qy3 : Int32) (k42qy4 : Int32) (k42qy5 : Int32) (H : Heap) (locs : List Loc) (ls : Array Slot), 0 ≤ k42qy5.toInt ∧ k42qy5.toInt ≤ 216 → (216 - k42qy5.toInt).toNat = n → va_P D vwCl [(da_many, .inl (cy 0, 5, .inl df_many)), (da_spot, .inl (cy 5, 6, .inr (.inr (.inr (.inr (fun i => if i < 6 then some (da_spot + 1 + i) else none)))))), ((da_spot + 1 + 0), .inl (cy 0, 2, .inl ((dF_spot 0)))), ((da_spot + 1 + 1), .inl (cy 0, 2, .inl ((dF_spot 1)))), ((da_spot + 1 + 2), .inl (cy 0, 2, .inl ((dF_spot 2)))), ((da_spot + 1 + 3), .inl (cy 0, 2, .inl ((dF_spot 3)))), ((da_spot + 1 + 4), .inl (cy 0, 2, .inl ((dF_spot 4)))), ((da_spot + 1 + 5), .inl (cy 0, 2, .inl ((dF_spot 5)))), (da, .inr (13, [.int ((u6q.1 0)), .int d_tape, .int d_size, .int d_place, .int d_at, .int d_fault, .int d_faultAt, .int d_clauses, .ref da_fed, .ref da_readBody, .ref da_body, .ref da_readMany, .ref da_many, .ref da_without, .ref da_did, .ref da_done, .ref da_bed, .int d_now, .int d_mindAt, .int d_way, .int d_harm, .int d_worth, .int d_passes, .int d_passings, .int 3, .int d_images, .ref da_passing, .ref da_spot, .ref da_kept, .ref da_aside, .int d_spare, .ref da_ran, .ref da_who, .ref da_cap, .ref da_w, .ref da_laid, .int d_whoMany, .int d_drifted, .int d_seed, .ref da_cries, .ref da_holds, .ref da_came, .ref da_least, .ref da_firstTo, .int d_steps, .int d_roundFrom, .int d_roundMany, .int d_numberAt]))] H → va_D A [(da_many, .inl (cy 0, 5, .inl df_many)), (da_spot, .inl (cy 5, 6, .inr (.inr (.inr (.inr (fun i => if i < 6 then some (da_spot + 1 + i) else none)))))), ((da_spot + 1 + 0), .inl (cy 0, 2, .inl ((dF_spot 0)))), ((da_spot + 1 + 1), .inl (cy 0, 2, .inl ((dF_spot 1)))), ((da_spot + 1 + 2), .inl (cy 0, 2, .inl ((dF_spot 2)))), ((da_spot + 1 + 3), .inl (cy 0, 2, .inl ((dF_spot 3)))), ((da_spot + 1 + 4), .inl (cy 0, 2, .inl ((dF_spot 4)))), ((da_spot + 1 + 5), .inl (cy 0, 2, .inl ((dF_spot 5)))), (da, .inr (13, [.int ((u6q.1 0)), .int d_tape, .int d_size, .int d_place, .int d_at, .int d_fault, .int d_faultAt, .int d_clauses, .ref da_fed, .ref da_readBody, .ref da_body, .ref da_readMany, .ref da_many, .ref da_without, .ref da_did, .ref da_done, .ref da_bed, .int d_now, .int d_mindAt, .int d_way, .int d_harm, .int d_worth, .int d_passes, .int d_passings, .int 3, .int d_images, .ref da_passing, .ref da_spot, .ref da_kept, .ref da_aside, .int d_spare, .ref da_ran, .ref da_who, .ref da_cap, .ref da_w, .ref da_laid, .int d_whoMany, .int d_drifted, .int d_seed, .ref da_cries, .ref da_holds, .ref da_came, .ref da_least, .ref da_firstTo, .int d_steps, .int d_roundFrom, .int d_roundMany, .int d_numberAt]))] → va_S A s.heap H locs → lv_has ls 7 [(5, .int k42qy5), (2, .int 216), (4, .int k42qy4), (3, .int k42qy3), (0, .ref da), (1, .int w0)] → W p l e ({ frames := 13, cells := 0, slots := 0, locals := 480 }) s m ([.ref da, .int w0] : List Value).toArray below meth c H locs 0 0 Q0 (F0 m 84 ls []) := by
              intro n
              induction n using Nat.strongRecOn with
              | ind n k42qih =>
                intro k42qy3 k42qy4 k42qy5 H locs ls hk42qy5 k42qm hP hD hS hl
                have gk42qy3 := k_rng k42qy3
                have gk42qy4 := k_rng k42qy4
                refine lv_iload hx hb dX12_placed_84 (lv_at hl 0 rfl) ?_
                refine lv_iload_n hx hb dX12_placed_86 rfl (lv_at hl 1 rfl) ?_
                refine lv_icmp_ge (tgt := 133) hx hb dX12_placed_87 (by decide) (fun c43q => ?_) (fun c43q => ?_)
                · simp only [k_lt, k_le, k_eq, ne_eq, ge_iff_le, gt_iff_lt, n_L216] at c43q
                  refine lv_iload_n hx hb dX12_placed_133 rfl (lv_at hl 5 rfl) ?_
                  refine lv_if_ne (tgt := 142) hx hb dX12_placed_134 (by decide) (fun c44q => ?_) (fun c44q => ?_)
                  · simp only [k_lt, k_le, k_eq, ne_eq, ge_iff_le, gt_iff_lt, n_L0, n_L0] at c44q
                    refine lv_iload_n hx hb dX12_placed_142 rfl (lv_at hl 3 rfl) ?_
                    rw [hQ0]
                    exact k_iret (fun k => [((u6q.1 0))].getD k 0, fun k => [].getD k (fun _ => 0)) hx hb hr hlk (trivial) (hP.sub [8, 0, 1, 2, 3, 4, 5, 6, 7] rfl) (hD.sub [8, 0, 1, 2, 3, 4, 5, 6, 7] (by decide) rfl) hS (by decide) (by decide) dX12_placed_143
                  · simp only [k_lt, k_le, k_eq, ne_eq, ge_iff_le, gt_iff_lt, n_L0, n_L0] at c44q
                    refine lv_iload hx hb dX12_placed_137 (lv_at hl 2 rfl) ?_
                    refine lv_goto (tgt := 143) hx hb dX12_placed_139 (by decide) ?_
                    rw [hQ0]
                    exact k_iret (fun k => [((u6q.1 0))].getD k 0, fun k => [].getD k (fun _ => 0)) hx hb hr hlk (trivial) (hP.sub [8, 0, 1, 2, 3, 4, 5, 6, 7] rfl) (hD.sub [8, 0, 1, 2, 3, 4, 5, 6, 7] (by decide) rfl) hS (by decide) (by decide) dX12_placed_143
                · simp only [k_lt, k_le, k_eq, ne_eq, ge_iff_le, gt_iff_lt, n_L216] at c43q
                  refine lv_aload_n hx hb dX12_placed_90 rfl (lv_at hl 4 rfl) ?_
                  refine lv_iload hx hb dX12_placed_91 (lv_at hl 0 rfl) ?_
                  refine lv_iload_n hx hb dX12_placed_93 rfl (lv_at hl 1 rfl) ?_
                  refine k_cali [] (⟨hP, hD, hG, hS, hA, rfl, rfl⟩ : kAt D cy sa A s H _ _ [(da, .inr (13, [.int ((u6q.1 0)), .int d_tape, .int d_size, .int d_place, .int d_at, .int d_fault, .int d_faultAt, .int d_clauses, .ref da_fed, .ref da_readBody, .ref da_body, .ref da_readMany, .ref da_many, .ref da_without, .ref da_did, .ref da_done, .ref da_bed, .int d_now, .int d_mindAt, .int d_way, .int d_harm, .int d_worth, .int d_passes, .int d_passings, .int 3, .int d_images, .ref da_passing, .ref da_spot, .ref da_kept, .ref da_aside, .int d_spare, .ref da_ran, .ref da_who, .ref da_cap, .ref da_w, .ref da_laid, .int d_whoMany, .int d_drifted, .int d_seed, .ref da_cries, .ref da_holds, .ref da_came, .ref da_least, .ref da_firstTo, .int d_steps, .int d_roundFrom, .int d_roundMany, .int d_numberAt])), (da_many, .inl (cy 0, 5, .inl df_many)), (da_spot, .inl (cy 5, 6, .inr (.inr (.inr (.inr (fun i => if i < 6 then some (da_spot + 1 + i) else none)))))), ((da_spot + 1 + 0), .inl (cy 0, 2, .inl ((dF_spot 0)))), ((da_spot + 1 + 1), .inl (cy 0, 2, .inl ((dF_spot 1)))), ((da_spot + 1 + 2), .inl (cy 0, 2, .inl ((dF_spot 2)))), ((da_spot + 1 + 3), .inl (cy 0, 2, .inl ((dF_spot 3)))), ((da_spot + 1 + 4), .inl (cy 0, 2, .inl ((dF_spot 4)))), ((da_spot + 1 + 5), .inl (cy 0, 2, .inl ((dF_spot 5))))] [8, 0, 1, 2, 3, 4, 5, 6, 7]) (wr := []) rfl rfl (by decide) (k_runV 13 8 (As := [.int k42qy5, .int 216]) (rest := []) E lk_VRX12_340 rfl rfl rfl (m_roundOf l hl0 D cy sa da da_fed da_readBody da_body da_readMany da_many da_without da_did da_done da_bed da_passing da_spot da_kept da_aside da_ran da_who da_cap da_w da_laid da_cries da_holds da_came da_least da_firstTo ((u6q.1 0)) d_tape d_size d_place d_at d_fault d_faultAt d_clauses d_now d_mindAt d_way d_harm d_worth d_passes d_passings 3 d_images d_spare d_whoMany d_drifted d_seed d_steps d_roundFrom d_roundMany d_numberAt k42qy5 216 df_many dF_spot ⟨by omega, by omega⟩ ⟨by omega, by omega⟩ ⟨by omega, by omega⟩ ⟨by omega, by omega⟩ ⟨by omega, by omega⟩ ⟨by omega, by omega⟩ ⟨by omega, by omega⟩ (by decide) ⟨by omega, by omega⟩ ⟨by omega, by omega⟩ (by assumption) (by assumption) (by assumption) ⟨by omega, by omega⟩ (by first | omega | (simp only [n_L216]; omega) | (simp only [n_L216]; done) | decide) (by first | omega | (simp only [n_L216]; omega) | (simp only [n_L216]; done) | decide) H.size) (⟨hP, hD, hG, hS, hA, rfl, rfl⟩ : kAt D cy sa A s H _ _ [(da, .inr (13, [.int ((u6q.1 0)), .int d_tape, .int d_size, .int d_place, .int d_at, .int d_fault, .int d_faultAt, .int d_clauses, .ref da_fed, .ref da_readBody, .ref da_body, .ref da_readMany, .ref da_many, .ref da_without, .ref da_did, .ref da_done, .ref da_bed, .int d_now, .int d_mindAt, .int d_way, .int d_harm, .int d_worth, .int d_passes, .int d_passings, .int 3, .int d_images, .ref da_passing, .ref da_spot, .ref da_kept, .ref da_aside, .int d_spare, .ref da_ran, .ref da_who, .ref da_cap, .ref da_w, .ref da_laid, .int d_whoMany, .int d_drifted, .int d_seed, .ref da_cries, .ref da_holds, .ref da_came, .ref da_least, .ref da_firstTo, .int d_steps, .int d_roundFrom, .int d_roundMany, .int d_numberAt])), (da_many, .inl (cy 0, 5, .inl df_many)), (da_spot, .inl (cy 5, 6, .inr (.inr (.inr (.inr (fun i => if i < 6 then some (da_spot + 1 + i) else none)))))), ((da_spot + 1 + 0), .inl (cy 0, 2, .inl ((dF_spot 0)))), ((da_spot + 1 + 1), .inl (cy 0, 2, .inl ((dF_spot 1)))), ((da_spot + 1 + 2), .inl (cy 0, 2, .inl ((dF_spot 2)))), ((da_spot + 1 + 3), .inl (cy 0, 2, .inl ((dF_spot 3)))), ((da_spot + 1 + 4), .inl (cy 0, 2, .inl ((dF_spot 4)))), ((da_spot + 1 + 5), .inl (cy 0, 2, .inl ((dF_spot 5))))] [8, 0, 1, 2, 3, 4, 5, 6, 7]) hl.1 rfl rfl ⟨rfl, rfl, ⟨Nat.le_of_ble_eq_true rfl, Nat.le_of_ble_eq_true rfl⟩, ⟨Nat.le_of_ble_eq_true rfl, Nat.le_of_ble_eq_true rfl⟩, Nat.le_of_ble_eq_true rfl⟩ dX12_placed_94) (fun r45q u46q H locs hwu46q hP hD hS => ?_)
                  have hP : va_P D vwCl [(da, .inr (13, [.int ((u6q.1 0)), .int d_tape, .int d_size, .int d_place, .int d_at, .int d_fault, .int d_faultAt, .int d_clauses, .ref da_fed, .ref da_readBody, .ref da_body, .ref da_readMany, .ref da_many, .ref da_without, .ref da_did, .ref da_done, .ref da_bed, .int d_now, .int d_mindAt, .int d_way, .int d_harm, .int d_worth, .int d_passes, .int d_passings, .int 3, .int d_images, .ref da_passing, .ref da_spot, .ref da_kept, .ref da_aside, .int d_spare, .ref da_ran, .ref da_who, .ref da_cap, .ref da_w, .ref da_laid, .int d_whoMany, .int d_drifted, .int d_seed, .ref da_cries, .ref da_holds, .ref da_came, .ref da_least, .ref da_firstTo, .int d_steps, .int d_roundFrom, .int d_roundMany, .int d_numberAt])), (da_many, .inl (cy 0, 5, .inl df_many)), (da_spot, .inl (cy 5, 6, .inr (.inr (.inr (.inr (fun i => if i < 6 then some (da_spot + 1 + i) else none)))))), ((da_spot + 1 + 0), .inl (cy 0, 2, .inl ((dF_spot 0)))), ((da_spot + 1 + 1), .inl (cy 0, 2, .inl ((dF_spot 1)))), ((da_spot + 1 + 2), .inl (cy 0, 2, .inl ((dF_spot 2)))), ((da_spot + 1 + 3), .inl (cy 0, 2, .inl ((dF_spot 3)))), ((da_spot + 1 + 4), .inl (cy 0, 2, .inl ((dF_spot 4)))), ((da_spot + 1 + 5), .inl (cy 0, 2, .inl ((dF_spot 5))))] H := hP
                  have hD : va_D A [(da, .inr (13, [.int ((u6q.1 0)), .int d_tape, .int d_size, .int d_place, .int d_at, .int d_fault, .int d_faultAt, .int d_clauses, .ref da_fed, .ref da_readBody, .ref da_body, .ref da_readMany, .ref da_many, .ref da_without, .ref da_did, .ref da_done, .ref da_bed, .int d_now, .int d_mindAt, .int d_way, .int d_harm, .int d_worth, .int d_passes, .int d_passings, .int 3, .int d_images, .ref da_passing, .ref da_spot, .ref da_kept, .ref da_aside, .int d_spare, .ref da_ran, .ref da_who, .ref da_cap, .ref da_w, .ref da_laid, .int d_whoMany, .int d_drifted, .int d_seed, .ref da_cries, .ref da_holds, .ref da_came, .ref da_least, .ref da_firstTo, .int d_steps, .int d_roundFrom, .int d_roundMany, .int d_numberAt])), (da_many, .inl (cy 0, 5, .inl df_many)), (da_spot, .inl (cy 5, 6, .inr (.inr (.inr (.inr (fun i => if i < 6 then some (da_spot + 1 + i) else none)))))), ((da_spot + 1 + 0), .inl (cy 0, 2, .inl ((dF_spot 0)))), ((da_spot + 1 + 1), .inl (cy 0, 2, .inl ((dF_spot 1)))), ((da_spot + 1 + 2), .inl (cy 0, 2, .inl ((dF_spot 2)))), ((da_spot + 1 + 3), .inl (cy 0, 2, .inl ((dF_spot 3)))), ((da_spot + 1 + 4), .inl (cy 0, 2, .inl ((dF_spot 4)))), ((da_spot + 1 + 5), .inl (cy 0, 2, .inl ((dF_spot 5))))] := hD
                  refine lv_istore (lv' := [(6, .int r45q), (5, .int k42qy5), (2, .int 216), (4, .int k42qy4), (3, .int k42qy3), (0, .ref da), (1, .int w0)]) hx hb dX12_placed_97 hl (by decide) rfl (fun ls hl => ?_)
                  refine lv_iload hx hb dX12_placed_99 (lv_at hl 0 rfl) ?_
                  refine lv_iconst (v := (-1)) hx hb dX12_placed_101 (by decide) ?_
                  refine lv_icmp_eq (tgt := 127) hx hb dX12_placed_102 (by decide) (fun c47q => ?_) (fun c47q => ?_)
                  · simp only [k_lt, k_le, k_eq, ne_eq, ge_iff_le, gt_iff_lt, n_Lm1] at c47q
                    obtain ⟨x48q, ex48q⟩ : ∃ z : Int32, z = k42qy5 + 1 := ⟨_, rfl⟩
                    refine lv_iinc (v := x48q) (lv' := [(5, .int x48q), (6, .int r45q), (2, .int 216), (4, .int k42qy4), (3, .int k42qy3), (0, .ref da), (1, .int w0)]) hx hb dX12_placed_127 hl (k := 1) rfl (by rw [ex48q]; rfl) (by decide) rfl (fun ls hl => ?_)
                    have rx48q := n_add ex48q (a := k42qy5.toInt) (b := 1) rfl n_L1 (by omega) (by omega)
                    refine lv_goto (tgt := 84) hx hb dX12_placed_130 (by decide) ?_
                    exact k42qih ((216 - x48q.toInt).toNat) (by omega) k42qy3 k42qy4 x48q H locs ls ⟨by omega, by omega⟩ rfl (hP.sub [1, 2, 3, 4, 5, 6, 7, 8, 0] rfl) (hD.sub [1, 2, 3, 4, 5, 6, 7, 8, 0] (by decide) rfl) hS (lv_sub hl [0, 2, 3, 4, 5, 6] rfl)
                  · simp only [k_lt, k_le, k_eq, ne_eq, ge_iff_le, gt_iff_lt, n_Lm1] at c47q
                    refine lv_iload_n hx hb dX12_placed_105 rfl (lv_at hl 4 rfl) ?_
                    refine lv_iconst (v := (-1)) hx hb dX12_placed_106 (by decide) ?_
                    refine lv_icmp_eq (tgt := 120) hx hb dX12_placed_107 (by decide) (fun c49q => ?_) (fun c49q => ?_)
                    · simp only [k_lt, k_le, k_eq, ne_eq, ge_iff_le, gt_iff_lt, n_Lm1] at c49q
                      refine lv_iload hx hb dX12_placed_120 (lv_at hl 1 rfl) ?_
                      refine lv_istore_n (lv' := [(3, .int k42qy5), (6, .int r45q), (5, .int k42qy5), (2, .int 216), (4, .int k42qy4), (0, .ref da), (1, .int w0)]) hx hb dX12_placed_122 rfl hl (by decide) rfl (fun ls hl => ?_)
                      refine lv_iload hx hb dX12_placed_123 (lv_at hl 1 rfl) ?_
                      refine lv_istore (lv' := [(4, .int r45q), (3, .int k42qy5), (6, .int r45q), (5, .int k42qy5), (2, .int 216), (0, .ref da), (1, .int w0)]) hx hb dX12_placed_125 hl (by decide) rfl (fun ls hl => ?_)
                      obtain ⟨x50q, ex50q⟩ : ∃ z : Int32, z = k42qy5 + 1 := ⟨_, rfl⟩
                      refine lv_iinc (v := x50q) (lv' := [(5, .int x50q), (4, .int r45q), (3, .int k42qy5), (6, .int r45q), (2, .int 216), (0, .ref da), (1, .int w0)]) hx hb dX12_placed_127 hl (k := 3) rfl (by rw [ex50q]; rfl) (by decide) rfl (fun ls hl => ?_)
                      have rx50q := n_add ex50q (a := k42qy5.toInt) (b := 1) rfl n_L1 (by omega) (by omega)
                      refine lv_goto (tgt := 84) hx hb dX12_placed_130 (by decide) ?_
                      exact k42qih ((216 - x50q.toInt).toNat) (by omega) k42qy5 r45q x50q H locs ls ⟨by omega, by omega⟩ rfl (hP.sub [1, 2, 3, 4, 5, 6, 7, 8, 0] rfl) (hD.sub [1, 2, 3, 4, 5, 6, 7, 8, 0] (by decide) rfl) hS (lv_sub hl [0, 4, 1, 2, 5, 6] rfl)
                    · simp only [k_lt, k_le, k_eq, ne_eq, ge_iff_le, gt_iff_lt, n_Lm1] at c49q
                      refine lv_iload hx hb dX12_placed_110 (lv_at hl 0 rfl) ?_
                      refine lv_iload hx hb dX12_placed_112 (lv_at hl 3 rfl) ?_
                      refine lv_icmp_lt (tgt := 120) hx hb dX12_placed_114 (by decide) (fun c51q => ?_) (fun c51q => ?_)
                      · simp only [k_lt, k_le, k_eq, ne_eq, ge_iff_le, gt_iff_lt] at c51q
                        refine lv_iload hx hb dX12_placed_120 (lv_at hl 1 rfl) ?_
                        refine lv_istore_n (lv' := [(3, .int k42qy5), (6, .int r45q), (5, .int k42qy5), (2, .int 216), (4, .int k42qy4), (0, .ref da), (1, .int w0)]) hx hb dX12_placed_122 rfl hl (by decide) rfl (fun ls hl => ?_)
                        refine lv_iload hx hb dX12_placed_123 (lv_at hl 1 rfl) ?_
                        refine lv_istore (lv' := [(4, .int r45q), (3, .int k42qy5), (6, .int r45q), (5, .int k42qy5), (2, .int 216), (0, .ref da), (1, .int w0)]) hx hb dX12_placed_125 hl (by decide) rfl (fun ls hl => ?_)
                        obtain ⟨x52q, ex52q⟩ : ∃ z : Int32, z = k42qy5 + 1 := ⟨_, rfl⟩
                        refine lv_iinc (v := x52q) (lv' := [(5, .int x52q), (4, .int r45q), (3, .int k42qy5), (6, .int r45q), (2, .int 216), (0, .ref da), (1, .int w0)]) hx hb dX12_placed_127 hl (k := 3) rfl (by rw [ex52q]; rfl) (by decide) rfl (fun ls hl => ?_)
                        have rx52q := n_add ex52q (a := k42qy5.toInt) (b := 1) rfl n_L1 (by omega) (by omega)
                        refine lv_goto (tgt := 84) hx hb dX12_placed_130 (by decide) ?_
                        exact k42qih ((216 - x52q.toInt).toNat) (by omega) k42qy5 r45q x52q H locs ls ⟨by omega, by omega⟩ rfl (hP.sub [1, 2, 3, 4, 5, 6, 7, 8, 0] rfl) (hD.sub [1, 2, 3, 4, 5, 6, 7, 8, 0] (by decide) rfl) hS (lv_sub hl [0, 4, 1, 2, 5, 6] rfl)
                      · simp only [k_lt, k_le, k_eq, ne_eq, ge_iff_le, gt_iff_lt] at c51q
                        refine lv_goto (tgt := 127) hx hb dX12_placed_117 (by decide) ?_
                        obtain ⟨x53q, ex53q⟩ : ∃ z : Int32, z = k42qy5 + 1 := ⟨_, rfl⟩
                        refine lv_iinc (v := x53q) (lv' := [(5, .int x53q), (6, .int r45q), (2, .int 216), (4, .int k42qy4), (3, .int k42qy3), (0, .ref da), (1, .int w0)]) hx hb dX12_placed_127 hl (k := 1) rfl (by rw [ex53q]; rfl) (by decide) rfl (fun ls hl => ?_)
                        have rx53q := n_add ex53q (a := k42qy5.toInt) (b := 1) rfl n_L1 (by omega) (by omega)
                        refine lv_goto (tgt := 84) hx hb dX12_placed_130 (by decide) ?_
                        exact k42qih ((216 - x53q.toInt).toNat) (by omega) k42qy3 k42qy4 x53q H locs ls ⟨by omega, by omega⟩ rfl (hP.sub [1, 2, 3, 4, 5, 6, 7, 8, 0] rfl) (hD.sub [1, 2, 3, 4, 5, 6, 7, 8, 0] (by decide) rfl) hS (lv_sub hl [0, 2, 3, 4, 5, 6] rfl)
            exact k42q _ (-1) 0 0 H locs ls ⟨by rw [n_L0]; omega, by rw [n_L0]; omega⟩ rfl hP hD hS (lv_sub hl [0, 1, 2, 3, 4, 5] rfl)
          · obtain rfl : d_spots = 4 := Int32.toInt_inj.mp (h9.trans (by decide))
            refine lv_iconst (v := 1) hx hb dX12_placed_51 (by decide) ?_
            refine lv_istore_n (lv' := [(2, .int 1), (0, .ref da), (1, .int w0)]) hx hb dX12_placed_52 rfl hl (by decide) rfl (fun ls hl => ?_)
            refine lv_iconst (v := (-1)) hx hb dX12_placed_53 (by decide) ?_
            refine lv_istore_n (lv' := [(3, .int (-1)), (2, .int 1), (0, .ref da), (1, .int w0)]) hx hb dX12_placed_54 rfl hl (by decide) rfl (fun ls hl => ?_)
            refine lv_iconst (v := 0) hx hb dX12_placed_55 (by decide) ?_
            refine lv_istore (lv' := [(4, .int 0), (3, .int (-1)), (2, .int 1), (0, .ref da), (1, .int w0)]) hx hb dX12_placed_56 hl (by decide) rfl (fun ls hl => ?_)
            refine lv_iconst (v := 0) hx hb dX12_placed_58 (by decide) ?_
            refine lv_istore (lv' := [(5, .int 0), (4, .int 0), (3, .int (-1)), (2, .int 1), (0, .ref da), (1, .int w0)]) hx hb dX12_placed_59 hl (by decide) rfl (fun ls hl => ?_)
            refine lv_iload hx hb dX12_placed_61 (lv_at hl 0 rfl) ?_
            refine lv_aload_n hx hb dX12_placed_63 rfl (lv_at hl 4 rfl) ?_
            refine va_get (D := D) (ci := 13) (v := .int 4) (C := RX12) (T := TX12) (N := 48) hx hb hts kin_RX12 hown hG.1 hP 8 rfl rfl 24 (by decide) (hts _ wm_1543) (fun _ h9 => h9) rfl dX12_placed_64 ?_
            refine lv_icmp_ge (tgt := 81) hx hb dX12_placed_67 (by decide) (fun h => absurd h (by decide)) (fun _ => ?_)
            refine lv_iload_n hx hb dX12_placed_70 rfl (lv_at hl 3 rfl) ?_
            refine lv_bipush (v := 6) hx hb dX12_placed_71 (by decide) ?_
            refine lv_imul hx hb dX12_placed_73 ?_
            refine lv_topi (fun x54q ex54q => ?_)
            obtain rfl : x54q = 6 := ex54q.trans (by decide)
            refine lv_istore_n (lv' := [(2, .int 6), (5, .int 0), (4, .int 0), (3, .int (-1)), (0, .ref da), (1, .int w0)]) hx hb dX12_placed_74 rfl hl (by decide) rfl (fun ls hl => ?_)
            refine lv_iinc (v := 1) (lv' := [(5, .int 1), (2, .int 6), (4, .int 0), (3, .int (-1)), (0, .ref da), (1, .int w0)]) hx hb dX12_placed_75 hl (k := 1) rfl (by decide) (by decide) rfl (fun ls hl => ?_)
            refine lv_goto (tgt := 61) hx hb dX12_placed_78 (by decide) ?_
            refine lv_iload hx hb dX12_placed_61 (lv_at hl 0 rfl) ?_
            refine lv_aload_n hx hb dX12_placed_63 rfl (lv_at hl 4 rfl) ?_
            refine va_get (D := D) (ci := 13) (v := .int 4) (C := RX12) (T := TX12) (N := 48) hx hb hts kin_RX12 hown hG.1 hP 8 rfl rfl 24 (by decide) (hts _ wm_1543) (fun _ h9 => h9) rfl dX12_placed_64 ?_
            refine lv_icmp_ge (tgt := 81) hx hb dX12_placed_67 (by decide) (fun h => absurd h (by decide)) (fun _ => ?_)
            refine lv_iload_n hx hb dX12_placed_70 rfl (lv_at hl 1 rfl) ?_
            refine lv_bipush (v := 6) hx hb dX12_placed_71 (by decide) ?_
            refine lv_imul hx hb dX12_placed_73 ?_
            refine lv_topi (fun x55q ex55q => ?_)
            obtain rfl : x55q = 36 := ex55q.trans (by decide)
            refine lv_istore_n (lv' := [(2, .int 36), (5, .int 1), (4, .int 0), (3, .int (-1)), (0, .ref da), (1, .int w0)]) hx hb dX12_placed_74 rfl hl (by decide) rfl (fun ls hl => ?_)
            refine lv_iinc (v := 2) (lv' := [(5, .int 2), (2, .int 36), (4, .int 0), (3, .int (-1)), (0, .ref da), (1, .int w0)]) hx hb dX12_placed_75 hl (k := 1) rfl (by decide) (by decide) rfl (fun ls hl => ?_)
            refine lv_goto (tgt := 61) hx hb dX12_placed_78 (by decide) ?_
            refine lv_iload hx hb dX12_placed_61 (lv_at hl 0 rfl) ?_
            refine lv_aload_n hx hb dX12_placed_63 rfl (lv_at hl 4 rfl) ?_
            refine va_get (D := D) (ci := 13) (v := .int 4) (C := RX12) (T := TX12) (N := 48) hx hb hts kin_RX12 hown hG.1 hP 8 rfl rfl 24 (by decide) (hts _ wm_1543) (fun _ h9 => h9) rfl dX12_placed_64 ?_
            refine lv_icmp_ge (tgt := 81) hx hb dX12_placed_67 (by decide) (fun h => absurd h (by decide)) (fun _ => ?_)
            refine lv_iload_n hx hb dX12_placed_70 rfl (lv_at hl 1 rfl) ?_
            refine lv_bipush (v := 6) hx hb dX12_placed_71 (by decide) ?_
            refine lv_imul hx hb dX12_placed_73 ?_
            refine lv_topi (fun x56q ex56q => ?_)
            obtain rfl : x56q = 216 := ex56q.trans (by decide)
            refine lv_istore_n (lv' := [(2, .int 216), (5, .int 2), (4, .int 0), (3, .int (-1)), (0, .ref da), (1, .int w0)]) hx hb dX12_placed_74 rfl hl (by decide) rfl (fun ls hl => ?_)
            refine lv_iinc (v := 3) (lv' := [(5, .int 3), (2, .int 216), (4, .int 0), (3, .int (-1)), (0, .ref da), (1, .int w0)]) hx hb dX12_placed_75 hl (k := 1) rfl (by decide) (by decide) rfl (fun ls hl => ?_)
            refine lv_goto (tgt := 61) hx hb dX12_placed_78 (by decide) ?_
            refine lv_iload hx hb dX12_placed_61 (lv_at hl 0 rfl) ?_
            refine lv_aload_n hx hb dX12_placed_63 rfl (lv_at hl 4 rfl) ?_
            refine va_get (D := D) (ci := 13) (v := .int 4) (C := RX12) (T := TX12) (N := 48) hx hb hts kin_RX12 hown hG.1 hP 8 rfl rfl 24 (by decide) (hts _ wm_1543) (fun _ h9 => h9) rfl dX12_placed_64 ?_
            refine lv_icmp_ge (tgt := 81) hx hb dX12_placed_67 (by decide) (fun h => absurd h (by decide)) (fun _ => ?_)
            refine lv_iload_n hx hb dX12_placed_70 rfl (lv_at hl 1 rfl) ?_
            refine lv_bipush (v := 6) hx hb dX12_placed_71 (by decide) ?_
            refine lv_imul hx hb dX12_placed_73 ?_
            refine lv_topi (fun x57q ex57q => ?_)
            obtain rfl : x57q = 1296 := ex57q.trans (by decide)
            refine lv_istore_n (lv' := [(2, .int 1296), (5, .int 3), (4, .int 0), (3, .int (-1)), (0, .ref da), (1, .int w0)]) hx hb dX12_placed_74 rfl hl (by decide) rfl (fun ls hl => ?_)
            refine lv_iinc (v := 4) (lv' := [(5, .int 4), (2, .int 1296), (4, .int 0), (3, .int (-1)), (0, .ref da), (1, .int w0)]) hx hb dX12_placed_75 hl (k := 1) rfl (by decide) (by decide) rfl (fun ls hl => ?_)
            refine lv_goto (tgt := 61) hx hb dX12_placed_78 (by decide) ?_
            refine lv_iload hx hb dX12_placed_61 (lv_at hl 0 rfl) ?_
            refine lv_aload_n hx hb dX12_placed_63 rfl (lv_at hl 4 rfl) ?_
            refine va_get (D := D) (ci := 13) (v := .int 4) (C := RX12) (T := TX12) (N := 48) hx hb hts kin_RX12 hown hG.1 hP 8 rfl rfl 24 (by decide) (hts _ wm_1543) (fun _ h9 => h9) rfl dX12_placed_64 ?_
            refine lv_icmp_ge (tgt := 81) hx hb dX12_placed_67 (by decide) (fun _ => ?_) (fun h => absurd (by decide) h)
            refine lv_iconst (v := 0) hx hb dX12_placed_81 (by decide) ?_
            refine lv_istore (lv' := [(5, .int 0), (2, .int 1296), (4, .int 0), (3, .int (-1)), (0, .ref da), (1, .int w0)]) hx hb dX12_placed_82 hl (by decide) rfl (fun ls hl => ?_)
            have k58q : ∀ (n : Nat) (k58qy3 : Int32) (k58qy4 : Int32) (k58qy5 : Int32) (H : Heap) (locs : List Loc) (ls : Array Slot), 0 ≤ k58qy5.toInt ∧ k58qy5.toInt ≤ 1296 → (1296 - k58qy5.toInt).toNat = n → va_P D vwCl [(da_many, .inl (cy 0, 5, .inl df_many)), (da_spot, .inl (cy 5, 6, .inr (.inr (.inr (.inr (fun i => if i < 6 then some (da_spot + 1 + i) else none)))))), ((da_spot + 1 + 0), .inl (cy 0, 2, .inl ((dF_spot 0)))), ((da_spot + 1 + 1), .inl (cy 0, 2, .inl ((dF_spot 1)))), ((da_spot + 1 + 2), .inl (cy 0, 2, .inl ((dF_spot 2)))), ((da_spot + 1 + 3), .inl (cy 0, 2, .inl ((dF_spot 3)))), ((da_spot + 1 + 4), .inl (cy 0, 2, .inl ((dF_spot 4)))), ((da_spot + 1 + 5), .inl (cy 0, 2, .inl ((dF_spot 5)))), (da, .inr (13, [.int ((u6q.1 0)), .int d_tape, .int d_size, .int d_place, .int d_at, .int d_fault, .int d_faultAt, .int d_clauses, .ref da_fed, .ref da_readBody, .ref da_body, .ref da_readMany, .ref da_many, .ref da_without, .ref da_did, .ref da_done, .ref da_bed, .int d_now, .int d_mindAt, .int d_way, .int d_harm, .int d_worth, .int d_passes, .int d_passings, .int 4, .int d_images, .ref da_passing, .ref da_spot, .ref da_kept, .ref da_aside, .int d_spare, .ref da_ran, .ref da_who, .ref da_cap, .ref da_w, .ref da_laid, .int d_whoMany, .int d_drifted, .int d_seed, .ref da_cries, .ref da_holds, .ref da_came, .ref da_least, .ref da_firstTo, .int d_steps, .int d_roundFrom, .int d_roundMany, .int d_numberAt]))] H → va_D A [(da_many, .inl (cy 0, 5, .inl df_many)), (da_spot, .inl (cy 5, 6, .inr (.inr (.inr (.inr (fun i => if i < 6 then some (da_spot + 1 + i) else none)))))), ((da_spot + 1 + 0), .inl (cy 0, 2, .inl ((dF_spot 0)))), ((da_spot + 1 + 1), .inl (cy 0, 2, .inl ((dF_spot 1)))), ((da_spot + 1 + 2), .inl (cy 0, 2, .inl ((dF_spot 2)))), ((da_spot + 1 + 3), .inl (cy 0, 2, .inl ((dF_spot 3)))), ((da_spot + 1 + 4), .inl (cy 0, 2, .inl ((dF_spot 4)))), ((da_spot + 1 + 5), .inl (cy 0, 2, .inl ((dF_spot 5)))), (da, .inr (13, [.int ((u6q.1 0)), .int d_tape, .int d_size, .int d_place, .int d_at, .int d_fault, .int d_faultAt, .int d_clauses, .ref da_fed, .ref da_readBody, .ref da_body, .ref da_readMany, .ref da_many, .ref da_without, .ref da_did, .ref da_done, .ref da_bed, .int d_now, .int d_mindAt, .int d_way, .int d_harm, .int d_worth, .int d_passes, .int d_passings, .int 4, .int d_images, .ref da_passing, .ref da_spot, .ref da_kept, .ref da_aside, .int d_spare, .ref da_ran, .ref da_who, .ref da_cap, .ref da_w, .ref da_laid, .int d_whoMany, .int d_drifted, .int d_seed, .ref da_cries, .ref da_holds, .ref da_came, .ref da_least, .ref da_firstTo, .int d_steps, .int d_roundFrom, .int d_roundMany, .int d_numberAt]))] → va_S A s.heap H locs → lv_has ls 7 [(5, .int k58qy5), (2, .int 1296), (4, .int k58qy4), (3, .int k58qy3), (0, .ref da), (1, .int w0)] → W p l e ({ frames := 13, cells := 0, slots := 0, locals := 480 }) s m ([.ref da, .int w0] : List Value).toArray below meth c H locs 0 0 Q0 (F0 m 84 ls []) := by
              intro n
              induction n using Nat.strongRecOn with
              | ind n k58qih =>
                intro k58qy3 k58qy4 k58qy5 H locs ls hk58qy5 k58qm hP hD hS hl
                have gk58qy3 := k_rng k58qy3
                have gk58qy4 := k_rng k58qy4
                refine lv_iload hx hb dX12_placed_84 (lv_at hl 0 rfl) ?_
                refine lv_iload_n hx hb dX12_placed_86 rfl (lv_at hl 1 rfl) ?_
                refine lv_icmp_ge (tgt := 133) hx hb dX12_placed_87 (by decide) (fun c59q => ?_) (fun c59q => ?_)
                · simp only [k_lt, k_le, k_eq, ne_eq, ge_iff_le, gt_iff_lt, n_L1296] at c59q
                  refine lv_iload_n hx hb dX12_placed_133 rfl (lv_at hl 5 rfl) ?_
                  refine lv_if_ne (tgt := 142) hx hb dX12_placed_134 (by decide) (fun c60q => ?_) (fun c60q => ?_)
                  · simp only [k_lt, k_le, k_eq, ne_eq, ge_iff_le, gt_iff_lt, n_L0, n_L0] at c60q
                    refine lv_iload_n hx hb dX12_placed_142 rfl (lv_at hl 3 rfl) ?_
                    rw [hQ0]
                    exact k_iret (fun k => [((u6q.1 0))].getD k 0, fun k => [].getD k (fun _ => 0)) hx hb hr hlk (trivial) (hP.sub [8, 0, 1, 2, 3, 4, 5, 6, 7] rfl) (hD.sub [8, 0, 1, 2, 3, 4, 5, 6, 7] (by decide) rfl) hS (by decide) (by decide) dX12_placed_143
                  · simp only [k_lt, k_le, k_eq, ne_eq, ge_iff_le, gt_iff_lt, n_L0, n_L0] at c60q
                    refine lv_iload hx hb dX12_placed_137 (lv_at hl 2 rfl) ?_
                    refine lv_goto (tgt := 143) hx hb dX12_placed_139 (by decide) ?_
                    rw [hQ0]
                    exact k_iret (fun k => [((u6q.1 0))].getD k 0, fun k => [].getD k (fun _ => 0)) hx hb hr hlk (trivial) (hP.sub [8, 0, 1, 2, 3, 4, 5, 6, 7] rfl) (hD.sub [8, 0, 1, 2, 3, 4, 5, 6, 7] (by decide) rfl) hS (by decide) (by decide) dX12_placed_143
                · simp only [k_lt, k_le, k_eq, ne_eq, ge_iff_le, gt_iff_lt, n_L1296] at c59q
                  refine lv_aload_n hx hb dX12_placed_90 rfl (lv_at hl 4 rfl) ?_
                  refine lv_iload hx hb dX12_placed_91 (lv_at hl 0 rfl) ?_
                  refine lv_iload_n hx hb dX12_placed_93 rfl (lv_at hl 1 rfl) ?_
                  refine k_cali [] (⟨hP, hD, hG, hS, hA, rfl, rfl⟩ : kAt D cy sa A s H _ _ [(da, .inr (13, [.int ((u6q.1 0)), .int d_tape, .int d_size, .int d_place, .int d_at, .int d_fault, .int d_faultAt, .int d_clauses, .ref da_fed, .ref da_readBody, .ref da_body, .ref da_readMany, .ref da_many, .ref da_without, .ref da_did, .ref da_done, .ref da_bed, .int d_now, .int d_mindAt, .int d_way, .int d_harm, .int d_worth, .int d_passes, .int d_passings, .int 4, .int d_images, .ref da_passing, .ref da_spot, .ref da_kept, .ref da_aside, .int d_spare, .ref da_ran, .ref da_who, .ref da_cap, .ref da_w, .ref da_laid, .int d_whoMany, .int d_drifted, .int d_seed, .ref da_cries, .ref da_holds, .ref da_came, .ref da_least, .ref da_firstTo, .int d_steps, .int d_roundFrom, .int d_roundMany, .int d_numberAt])), (da_many, .inl (cy 0, 5, .inl df_many)), (da_spot, .inl (cy 5, 6, .inr (.inr (.inr (.inr (fun i => if i < 6 then some (da_spot + 1 + i) else none)))))), ((da_spot + 1 + 0), .inl (cy 0, 2, .inl ((dF_spot 0)))), ((da_spot + 1 + 1), .inl (cy 0, 2, .inl ((dF_spot 1)))), ((da_spot + 1 + 2), .inl (cy 0, 2, .inl ((dF_spot 2)))), ((da_spot + 1 + 3), .inl (cy 0, 2, .inl ((dF_spot 3)))), ((da_spot + 1 + 4), .inl (cy 0, 2, .inl ((dF_spot 4)))), ((da_spot + 1 + 5), .inl (cy 0, 2, .inl ((dF_spot 5))))] [8, 0, 1, 2, 3, 4, 5, 6, 7]) (wr := []) rfl rfl (by decide) (k_runV 13 8 (As := [.int k58qy5, .int 1296]) (rest := []) E lk_VRX12_340 rfl rfl rfl (m_roundOf l hl0 D cy sa da da_fed da_readBody da_body da_readMany da_many da_without da_did da_done da_bed da_passing da_spot da_kept da_aside da_ran da_who da_cap da_w da_laid da_cries da_holds da_came da_least da_firstTo ((u6q.1 0)) d_tape d_size d_place d_at d_fault d_faultAt d_clauses d_now d_mindAt d_way d_harm d_worth d_passes d_passings 4 d_images d_spare d_whoMany d_drifted d_seed d_steps d_roundFrom d_roundMany d_numberAt k58qy5 1296 df_many dF_spot ⟨by omega, by omega⟩ ⟨by omega, by omega⟩ ⟨by omega, by omega⟩ ⟨by omega, by omega⟩ ⟨by omega, by omega⟩ ⟨by omega, by omega⟩ ⟨by omega, by omega⟩ (by decide) ⟨by omega, by omega⟩ ⟨by omega, by omega⟩ (by assumption) (by assumption) (by assumption) ⟨by omega, by omega⟩ (by first | omega | (simp only [n_L1296]; omega) | (simp only [n_L1296]; done) | decide) (by first | omega | (simp only [n_L1296]; omega) | (simp only [n_L1296]; done) | decide) H.size) (⟨hP, hD, hG, hS, hA, rfl, rfl⟩ : kAt D cy sa A s H _ _ [(da, .inr (13, [.int ((u6q.1 0)), .int d_tape, .int d_size, .int d_place, .int d_at, .int d_fault, .int d_faultAt, .int d_clauses, .ref da_fed, .ref da_readBody, .ref da_body, .ref da_readMany, .ref da_many, .ref da_without, .ref da_did, .ref da_done, .ref da_bed, .int d_now, .int d_mindAt, .int d_way, .int d_harm, .int d_worth, .int d_passes, .int d_passings, .int 4, .int d_images, .ref da_passing, .ref da_spot, .ref da_kept, .ref da_aside, .int d_spare, .ref da_ran, .ref da_who, .ref da_cap, .ref da_w, .ref da_laid, .int d_whoMany, .int d_drifted, .int d_seed, .ref da_cries, .ref da_holds, .ref da_came, .ref da_least, .ref da_firstTo, .int d_steps, .int d_roundFrom, .int d_roundMany, .int d_numberAt])), (da_many, .inl (cy 0, 5, .inl df_many)), (da_spot, .inl (cy 5, 6, .inr (.inr (.inr (.inr (fun i => if i < 6 then some (da_spot + 1 + i) else none)))))), ((da_spot + 1 + 0), .inl (cy 0, 2, .inl ((dF_spot 0)))), ((da_spot + 1 + 1), .inl (cy 0, 2, .inl ((dF_spot 1)))), ((da_spot + 1 + 2), .inl (cy 0, 2, .inl ((dF_spot 2)))), ((da_spot + 1 + 3), .inl (cy 0, 2, .inl ((dF_spot 3)))), ((da_spot + 1 + 4), .inl (cy 0, 2, .inl ((dF_spot 4)))), ((da_spot + 1 + 5), .inl (cy 0, 2, .inl ((dF_spot 5))))] [8, 0, 1, 2, 3, 4, 5, 6, 7]) hl.1 rfl rfl ⟨rfl, rfl, ⟨Nat.le_of_ble_eq_true rfl, Nat.le_of_ble_eq_true rfl⟩, ⟨Nat.le_of_ble_eq_true rfl, Nat.le_of_ble_eq_true rfl⟩, Nat.le_of_ble_eq_true rfl⟩ dX12_placed_94) (fun r61q u62q H locs hwu62q hP hD hS => ?_)
                  have hP : va_P D vwCl [(da, .inr (13, [.int ((u6q.1 0)), .int d_tape, .int d_size, .int d_place, .int d_at, .int d_fault, .int d_faultAt, .int d_clauses, .ref da_fed, .ref da_readBody, .ref da_body, .ref da_readMany, .ref da_many, .ref da_without, .ref da_did, .ref da_done, .ref da_bed, .int d_now, .int d_mindAt, .int d_way, .int d_harm, .int d_worth, .int d_passes, .int d_passings, .int 4, .int d_images, .ref da_passing, .ref da_spot, .ref da_kept, .ref da_aside, .int d_spare, .ref da_ran, .ref da_who, .ref da_cap, .ref da_w, .ref da_laid, .int d_whoMany, .int d_drifted, .int d_seed, .ref da_cries, .ref da_holds, .ref da_came, .ref da_least, .ref da_firstTo, .int d_steps, .int d_roundFrom, .int d_roundMany, .int d_numberAt])), (da_many, .inl (cy 0, 5, .inl df_many)), (da_spot, .inl (cy 5, 6, .inr (.inr (.inr (.inr (fun i => if i < 6 then some (da_spot + 1 + i) else none)))))), ((da_spot + 1 + 0), .inl (cy 0, 2, .inl ((dF_spot 0)))), ((da_spot + 1 + 1), .inl (cy 0, 2, .inl ((dF_spot 1)))), ((da_spot + 1 + 2), .inl (cy 0, 2, .inl ((dF_spot 2)))), ((da_spot + 1 + 3), .inl (cy 0, 2, .inl ((dF_spot 3)))), ((da_spot + 1 + 4), .inl (cy 0, 2, .inl ((dF_spot 4)))), ((da_spot + 1 + 5), .inl (cy 0, 2, .inl ((dF_spot 5))))] H := hP
                  have hD : va_D A [(da, .inr (13, [.int ((u6q.1 0)), .int d_tape, .int d_size, .int d_place, .int d_at, .int d_fault, .int d_faultAt, .int d_clauses, .ref da_fed, .ref da_readBody, .ref da_body, .ref da_readMany, .ref da_many, .ref da_without, .ref da_did, .ref da_done, .ref da_bed, .int d_now, .int d_mindAt, .int d_way, .int d_harm, .int d_worth, .int d_passes, .int d_passings, .int 4, .int d_images, .ref da_passing, .ref da_spot, .ref da_kept, .ref da_aside, .int d_spare, .ref da_ran, .ref da_who, .ref da_cap, .ref da_w, .ref da_laid, .int d_whoMany, .int d_drifted, .int d_seed, .ref da_cries, .ref da_holds, .ref da_came, .ref da_least, .ref da_firstTo, .int d_steps, .int d_roundFrom, .int d_roundMany, .int d_numberAt])), (da_many, .inl (cy 0, 5, .inl df_many)), (da_spot, .inl (cy 5, 6, .inr (.inr (.inr (.inr (fun i => if i < 6 then some (da_spot + 1 + i) else none)))))), ((da_spot + 1 + 0), .inl (cy 0, 2, .inl ((dF_spot 0)))), ((da_spot + 1 + 1), .inl (cy 0, 2, .inl ((dF_spot 1)))), ((da_spot + 1 + 2), .inl (cy 0, 2, .inl ((dF_spot 2)))), ((da_spot + 1 + 3), .inl (cy 0, 2, .inl ((dF_spot 3)))), ((da_spot + 1 + 4), .inl (cy 0, 2, .inl ((dF_spot 4)))), ((da_spot + 1 + 5), .inl (cy 0, 2, .inl ((dF_spot 5))))] := hD
                  refine lv_istore (lv' := [(6, .int r61q), (5, .int k58qy5), (2, .int 1296), (4, .int k58qy4), (3, .int k58qy3), (0, .ref da), (1, .int w0)]) hx hb dX12_placed_97 hl (by decide) rfl (fun ls hl => ?_)
                  refine lv_iload hx hb dX12_placed_99 (lv_at hl 0 rfl) ?_
                  refine lv_iconst (v := (-1)) hx hb dX12_placed_101 (by decide) ?_
                  refine lv_icmp_eq (tgt := 127) hx hb dX12_placed_102 (by decide) (fun c63q => ?_) (fun c63q => ?_)
                  · simp only [k_lt, k_le, k_eq, ne_eq, ge_iff_le, gt_iff_lt, n_Lm1] at c63q
                    obtain ⟨x64q, ex64q⟩ : ∃ z : Int32, z = k58qy5 + 1 := ⟨_, rfl⟩
                    refine lv_iinc (v := x64q) (lv' := [(5, .int x64q), (6, .int r61q), (2, .int 1296), (4, .int k58qy4), (3, .int k58qy3), (0, .ref da), (1, .int w0)]) hx hb dX12_placed_127 hl (k := 1) rfl (by rw [ex64q]; rfl) (by decide) rfl (fun ls hl => ?_)
                    have rx64q := n_add ex64q (a := k58qy5.toInt) (b := 1) rfl n_L1 (by omega) (by omega)
                    refine lv_goto (tgt := 84) hx hb dX12_placed_130 (by decide) ?_
                    exact k58qih ((1296 - x64q.toInt).toNat) (by omega) k58qy3 k58qy4 x64q H locs ls ⟨by omega, by omega⟩ rfl (hP.sub [1, 2, 3, 4, 5, 6, 7, 8, 0] rfl) (hD.sub [1, 2, 3, 4, 5, 6, 7, 8, 0] (by decide) rfl) hS (lv_sub hl [0, 2, 3, 4, 5, 6] rfl)
                  · simp only [k_lt, k_le, k_eq, ne_eq, ge_iff_le, gt_iff_lt, n_Lm1] at c63q
                    refine lv_iload_n hx hb dX12_placed_105 rfl (lv_at hl 4 rfl) ?_
                    refine lv_iconst (v := (-1)) hx hb dX12_placed_106 (by decide) ?_
                    refine lv_icmp_eq (tgt := 120) hx hb dX12_placed_107 (by decide) (fun c65q => ?_) (fun c65q => ?_)
                    · simp only [k_lt, k_le, k_eq, ne_eq, ge_iff_le, gt_iff_lt, n_Lm1] at c65q
                      refine lv_iload hx hb dX12_placed_120 (lv_at hl 1 rfl) ?_
                      refine lv_istore_n (lv' := [(3, .int k58qy5), (6, .int r61q), (5, .int k58qy5), (2, .int 1296), (4, .int k58qy4), (0, .ref da), (1, .int w0)]) hx hb dX12_placed_122 rfl hl (by decide) rfl (fun ls hl => ?_)
                      refine lv_iload hx hb dX12_placed_123 (lv_at hl 1 rfl) ?_
                      refine lv_istore (lv' := [(4, .int r61q), (3, .int k58qy5), (6, .int r61q), (5, .int k58qy5), (2, .int 1296), (0, .ref da), (1, .int w0)]) hx hb dX12_placed_125 hl (by decide) rfl (fun ls hl => ?_)
                      obtain ⟨x66q, ex66q⟩ : ∃ z : Int32, z = k58qy5 + 1 := ⟨_, rfl⟩
                      refine lv_iinc (v := x66q) (lv' := [(5, .int x66q), (4, .int r61q), (3, .int k58qy5), (6, .int r61q), (2, .int 1296), (0, .ref da), (1, .int w0)]) hx hb dX12_placed_127 hl (k := 3) rfl (by rw [ex66q]; rfl) (by decide) rfl (fun ls hl => ?_)
                      have rx66q := n_add ex66q (a := k58qy5.toInt) (b := 1) rfl n_L1 (by omega) (by omega)
                      refine lv_goto (tgt := 84) hx hb dX12_placed_130 (by decide) ?_
                      exact k58qih ((1296 - x66q.toInt).toNat) (by omega) k58qy5 r61q x66q H locs ls ⟨by omega, by omega⟩ rfl (hP.sub [1, 2, 3, 4, 5, 6, 7, 8, 0] rfl) (hD.sub [1, 2, 3, 4, 5, 6, 7, 8, 0] (by decide) rfl) hS (lv_sub hl [0, 4, 1, 2, 5, 6] rfl)
                    · simp only [k_lt, k_le, k_eq, ne_eq, ge_iff_le, gt_iff_lt, n_Lm1] at c65q
                      refine lv_iload hx hb dX12_placed_110 (lv_at hl 0 rfl) ?_
                      refine lv_iload hx hb dX12_placed_112 (lv_at hl 3 rfl) ?_
                      refine lv_icmp_lt (tgt := 120) hx hb dX12_placed_114 (by decide) (fun c67q => ?_) (fun c67q => ?_)
                      · simp only [k_lt, k_le, k_eq, ne_eq, ge_iff_le, gt_iff_lt] at c67q
                        refine lv_iload hx hb dX12_placed_120 (lv_at hl 1 rfl) ?_
                        refine lv_istore_n (lv' := [(3, .int k58qy5), (6, .int r61q), (5, .int k58qy5), (2, .int 1296), (4, .int k58qy4), (0, .ref da), (1, .int w0)]) hx hb dX12_placed_122 rfl hl (by decide) rfl (fun ls hl => ?_)
                        refine lv_iload hx hb dX12_placed_123 (lv_at hl 1 rfl) ?_
                        refine lv_istore (lv' := [(4, .int r61q), (3, .int k58qy5), (6, .int r61q), (5, .int k58qy5), (2, .int 1296), (0, .ref da), (1, .int w0)]) hx hb dX12_placed_125 hl (by decide) rfl (fun ls hl => ?_)
                        obtain ⟨x68q, ex68q⟩ : ∃ z : Int32, z = k58qy5 + 1 := ⟨_, rfl⟩
                        refine lv_iinc (v := x68q) (lv' := [(5, .int x68q), (4, .int r61q), (3, .int k58qy5), (6, .int r61q), (2, .int 1296), (0, .ref da), (1, .int w0)]) hx hb dX12_placed_127 hl (k := 3) rfl (by rw [ex68q]; rfl) (by decide) rfl (fun ls hl => ?_)
                        have rx68q := n_add ex68q (a := k58qy5.toInt) (b := 1) rfl n_L1 (by omega) (by omega)
                        refine lv_goto (tgt := 84) hx hb dX12_placed_130 (by decide) ?_
                        exact k58qih ((1296 - x68q.toInt).toNat) (by omega) k58qy5 r61q x68q H locs ls ⟨by omega, by omega⟩ rfl (hP.sub [1, 2, 3, 4, 5, 6, 7, 8, 0] rfl) (hD.sub [1, 2, 3, 4, 5, 6, 7, 8, 0] (by decide) rfl) hS (lv_sub hl [0, 4, 1, 2, 5, 6] rfl)
                      · simp only [k_lt, k_le, k_eq, ne_eq, ge_iff_le, gt_iff_lt] at c67q
                        refine lv_goto (tgt := 127) hx hb dX12_placed_117 (by decide) ?_
                        obtain ⟨x69q, ex69q⟩ : ∃ z : Int32, z = k58qy5 + 1 := ⟨_, rfl⟩
                        refine lv_iinc (v := x69q) (lv' := [(5, .int x69q), (6, .int r61q), (2, .int 1296), (4, .int k58qy4), (3, .int k58qy3), (0, .ref da), (1, .int w0)]) hx hb dX12_placed_127 hl (k := 1) rfl (by rw [ex69q]; rfl) (by decide) rfl (fun ls hl => ?_)
                        have rx69q := n_add ex69q (a := k58qy5.toInt) (b := 1) rfl n_L1 (by omega) (by omega)
                        refine lv_goto (tgt := 84) hx hb dX12_placed_130 (by decide) ?_
                        exact k58qih ((1296 - x69q.toInt).toNat) (by omega) k58qy3 k58qy4 x69q H locs ls ⟨by omega, by omega⟩ rfl (hP.sub [1, 2, 3, 4, 5, 6, 7, 8, 0] rfl) (hD.sub [1, 2, 3, 4, 5, 6, 7, 8, 0] (by decide) rfl) hS (lv_sub hl [0, 2, 3, 4, 5, 6] rfl)
            exact k58q _ (-1) 0 0 H locs ls ⟨by rw [n_L0]; omega, by rw [n_L0]; omega⟩ rfl hP hD hS (lv_sub hl [0, 1, 2, 3, 4, 5] rfl)
          · obtain rfl : d_spots = 5 := Int32.toInt_inj.mp (h9.trans (by decide))
            refine lv_iconst (v := 1) hx hb dX12_placed_51 (by decide) ?_
            refine lv_istore_n (lv' := [(2, .int 1), (0, .ref da), (1, .int w0)]) hx hb dX12_placed_52 rfl hl (by decide) rfl (fun ls hl => ?_)
            refine lv_iconst (v := (-1)) hx hb dX12_placed_53 (by decide) ?_
            refine lv_istore_n (lv' := [(3, .int (-1)), (2, .int 1), (0, .ref da), (1, .int w0)]) hx hb dX12_placed_54 rfl hl (by decide) rfl (fun ls hl => ?_)
            refine lv_iconst (v := 0) hx hb dX12_placed_55 (by decide) ?_
            refine lv_istore (lv' := [(4, .int 0), (3, .int (-1)), (2, .int 1), (0, .ref da), (1, .int w0)]) hx hb dX12_placed_56 hl (by decide) rfl (fun ls hl => ?_)
            refine lv_iconst (v := 0) hx hb dX12_placed_58 (by decide) ?_
            refine lv_istore (lv' := [(5, .int 0), (4, .int 0), (3, .int (-1)), (2, .int 1), (0, .ref da), (1, .int w0)]) hx hb dX12_placed_59 hl (by decide) rfl (fun ls hl => ?_)
            refine lv_iload hx hb dX12_placed_61 (lv_at hl 0 rfl) ?_
            refine lv_aload_n hx hb dX12_placed_63 rfl (lv_at hl 4 rfl) ?_
            refine va_get (D := D) (ci := 13) (v := .int 5) (C := RX12) (T := TX12) (N := 48) hx hb hts kin_RX12 hown hG.1 hP 8 rfl rfl 24 (by decide) (hts _ wm_1543) (fun _ h9 => h9) rfl dX12_placed_64 ?_
            refine lv_icmp_ge (tgt := 81) hx hb dX12_placed_67 (by decide) (fun h => absurd h (by decide)) (fun _ => ?_)
            refine lv_iload_n hx hb dX12_placed_70 rfl (lv_at hl 3 rfl) ?_
            refine lv_bipush (v := 6) hx hb dX12_placed_71 (by decide) ?_
            refine lv_imul hx hb dX12_placed_73 ?_
            refine lv_topi (fun x70q ex70q => ?_)
            obtain rfl : x70q = 6 := ex70q.trans (by decide)
            refine lv_istore_n (lv' := [(2, .int 6), (5, .int 0), (4, .int 0), (3, .int (-1)), (0, .ref da), (1, .int w0)]) hx hb dX12_placed_74 rfl hl (by decide) rfl (fun ls hl => ?_)
            refine lv_iinc (v := 1) (lv' := [(5, .int 1), (2, .int 6), (4, .int 0), (3, .int (-1)), (0, .ref da), (1, .int w0)]) hx hb dX12_placed_75 hl (k := 1) rfl (by decide) (by decide) rfl (fun ls hl => ?_)
            refine lv_goto (tgt := 61) hx hb dX12_placed_78 (by decide) ?_
            refine lv_iload hx hb dX12_placed_61 (lv_at hl 0 rfl) ?_
            refine lv_aload_n hx hb dX12_placed_63 rfl (lv_at hl 4 rfl) ?_
            refine va_get (D := D) (ci := 13) (v := .int 5) (C := RX12) (T := TX12) (N := 48) hx hb hts kin_RX12 hown hG.1 hP 8 rfl rfl 24 (by decide) (hts _ wm_1543) (fun _ h9 => h9) rfl dX12_placed_64 ?_
            refine lv_icmp_ge (tgt := 81) hx hb dX12_placed_67 (by decide) (fun h => absurd h (by decide)) (fun _ => ?_)
            refine lv_iload_n hx hb dX12_placed_70 rfl (lv_at hl 1 rfl) ?_
            refine lv_bipush (v := 6) hx hb dX12_placed_71 (by decide) ?_
            refine lv_imul hx hb dX12_placed_73 ?_
            refine lv_topi (fun x71q ex71q => ?_)
            obtain rfl : x71q = 36 := ex71q.trans (by decide)
            refine lv_istore_n (lv' := [(2, .int 36), (5, .int 1), (4, .int 0), (3, .int (-1)), (0, .ref da), (1, .int w0)]) hx hb dX12_placed_74 rfl hl (by decide) rfl (fun ls hl => ?_)
            refine lv_iinc (v := 2) (lv' := [(5, .int 2), (2, .int 36), (4, .int 0), (3, .int (-1)), (0, .ref da), (1, .int w0)]) hx hb dX12_placed_75 hl (k := 1) rfl (by decide) (by decide) rfl (fun ls hl => ?_)
            refine lv_goto (tgt := 61) hx hb dX12_placed_78 (by decide) ?_
            refine lv_iload hx hb dX12_placed_61 (lv_at hl 0 rfl) ?_
            refine lv_aload_n hx hb dX12_placed_63 rfl (lv_at hl 4 rfl) ?_
            refine va_get (D := D) (ci := 13) (v := .int 5) (C := RX12) (T := TX12) (N := 48) hx hb hts kin_RX12 hown hG.1 hP 8 rfl rfl 24 (by decide) (hts _ wm_1543) (fun _ h9 => h9) rfl dX12_placed_64 ?_
            refine lv_icmp_ge (tgt := 81) hx hb dX12_placed_67 (by decide) (fun h => absurd h (by decide)) (fun _ => ?_)
            refine lv_iload_n hx hb dX12_placed_70 rfl (lv_at hl 1 rfl) ?_
            refine lv_bipush (v := 6) hx hb dX12_placed_71 (by decide) ?_
            refine lv_imul hx hb dX12_placed_73 ?_
            refine lv_topi (fun x72q ex72q => ?_)
            obtain rfl : x72q = 216 := ex72q.trans (by decide)
            refine lv_istore_n (lv' := [(2, .int 216), (5, .int 2), (4, .int 0), (3, .int (-1)), (0, .ref da), (1, .int w0)]) hx hb dX12_placed_74 rfl hl (by decide) rfl (fun ls hl => ?_)
            refine lv_iinc (v := 3) (lv' := [(5, .int 3), (2, .int 216), (4, .int 0), (3, .int (-1)), (0, .ref da), (1, .int w0)]) hx hb dX12_placed_75 hl (k := 1) rfl (by decide) (by decide) rfl (fun ls hl => ?_)
            refine lv_goto (tgt := 61) hx hb dX12_placed_78 (by decide) ?_
            refine lv_iload hx hb dX12_placed_61 (lv_at hl 0 rfl) ?_
            refine lv_aload_n hx hb dX12_placed_63 rfl (lv_at hl 4 rfl) ?_
            refine va_get (D := D) (ci := 13) (v := .int 5) (C := RX12) (T := TX12) (N := 48) hx hb hts kin_RX12 hown hG.1 hP 8 rfl rfl 24 (by decide) (hts _ wm_1543) (fun _ h9 => h9) rfl dX12_placed_64 ?_
            refine lv_icmp_ge (tgt := 81) hx hb dX12_placed_67 (by decide) (fun h => absurd h (by decide)) (fun _ => ?_)
            refine lv_iload_n hx hb dX12_placed_70 rfl (lv_at hl 1 rfl) ?_
            refine lv_bipush (v := 6) hx hb dX12_placed_71 (by decide) ?_
            refine lv_imul hx hb dX12_placed_73 ?_
            refine lv_topi (fun x73q ex73q => ?_)
            obtain rfl : x73q = 1296 := ex73q.trans (by decide)
            refine lv_istore_n (lv' := [(2, .int 1296), (5, .int 3), (4, .int 0), (3, .int (-1)), (0, .ref da), (1, .int w0)]) hx hb dX12_placed_74 rfl hl (by decide) rfl (fun ls hl => ?_)
            refine lv_iinc (v := 4) (lv' := [(5, .int 4), (2, .int 1296), (4, .int 0), (3, .int (-1)), (0, .ref da), (1, .int w0)]) hx hb dX12_placed_75 hl (k := 1) rfl (by decide) (by decide) rfl (fun ls hl => ?_)
            refine lv_goto (tgt := 61) hx hb dX12_placed_78 (by decide) ?_
            refine lv_iload hx hb dX12_placed_61 (lv_at hl 0 rfl) ?_
            refine lv_aload_n hx hb dX12_placed_63 rfl (lv_at hl 4 rfl) ?_
            refine va_get (D := D) (ci := 13) (v := .int 5) (C := RX12) (T := TX12) (N := 48) hx hb hts kin_RX12 hown hG.1 hP 8 rfl rfl 24 (by decide) (hts _ wm_1543) (fun _ h9 => h9) rfl dX12_placed_64 ?_
            refine lv_icmp_ge (tgt := 81) hx hb dX12_placed_67 (by decide) (fun h => absurd h (by decide)) (fun _ => ?_)
            refine lv_iload_n hx hb dX12_placed_70 rfl (lv_at hl 1 rfl) ?_
            refine lv_bipush (v := 6) hx hb dX12_placed_71 (by decide) ?_
            refine lv_imul hx hb dX12_placed_73 ?_
            refine lv_topi (fun x74q ex74q => ?_)
            obtain rfl : x74q = 7776 := ex74q.trans (by decide)
            refine lv_istore_n (lv' := [(2, .int 7776), (5, .int 4), (4, .int 0), (3, .int (-1)), (0, .ref da), (1, .int w0)]) hx hb dX12_placed_74 rfl hl (by decide) rfl (fun ls hl => ?_)
            refine lv_iinc (v := 5) (lv' := [(5, .int 5), (2, .int 7776), (4, .int 0), (3, .int (-1)), (0, .ref da), (1, .int w0)]) hx hb dX12_placed_75 hl (k := 1) rfl (by decide) (by decide) rfl (fun ls hl => ?_)
            refine lv_goto (tgt := 61) hx hb dX12_placed_78 (by decide) ?_
            refine lv_iload hx hb dX12_placed_61 (lv_at hl 0 rfl) ?_
            refine lv_aload_n hx hb dX12_placed_63 rfl (lv_at hl 4 rfl) ?_
            refine va_get (D := D) (ci := 13) (v := .int 5) (C := RX12) (T := TX12) (N := 48) hx hb hts kin_RX12 hown hG.1 hP 8 rfl rfl 24 (by decide) (hts _ wm_1543) (fun _ h9 => h9) rfl dX12_placed_64 ?_
            refine lv_icmp_ge (tgt := 81) hx hb dX12_placed_67 (by decide) (fun _ => ?_) (fun h => absurd (by decide) h)
            refine lv_iconst (v := 0) hx hb dX12_placed_81 (by decide) ?_
            refine lv_istore (lv' := [(5, .int 0), (2, .int 7776), (4, .int 0), (3, .int (-1)), (0, .ref da), (1, .int w0)]) hx hb dX12_placed_82 hl (by decide) rfl (fun ls hl => ?_)
            have k75q : ∀ (n : Nat) (k75qy3 : Int32) (k75qy4 : Int32) (k75qy5 : Int32) (H : Heap) (locs : List Loc) (ls : Array Slot), 0 ≤ k75qy5.toInt ∧ k75qy5.toInt ≤ 7776 → (7776 - k75qy5.toInt).toNat = n → va_P D vwCl [(da_many, .inl (cy 0, 5, .inl df_many)), (da_spot, .inl (cy 5, 6, .inr (.inr (.inr (.inr (fun i => if i < 6 then some (da_spot + 1 + i) else none)))))), ((da_spot + 1 + 0), .inl (cy 0, 2, .inl ((dF_spot 0)))), ((da_spot + 1 + 1), .inl (cy 0, 2, .inl ((dF_spot 1)))), ((da_spot + 1 + 2), .inl (cy 0, 2, .inl ((dF_spot 2)))), ((da_spot + 1 + 3), .inl (cy 0, 2, .inl ((dF_spot 3)))), ((da_spot + 1 + 4), .inl (cy 0, 2, .inl ((dF_spot 4)))), ((da_spot + 1 + 5), .inl (cy 0, 2, .inl ((dF_spot 5)))), (da, .inr (13, [.int ((u6q.1 0)), .int d_tape, .int d_size, .int d_place, .int d_at, .int d_fault, .int d_faultAt, .int d_clauses, .ref da_fed, .ref da_readBody, .ref da_body, .ref da_readMany, .ref da_many, .ref da_without, .ref da_did, .ref da_done, .ref da_bed, .int d_now, .int d_mindAt, .int d_way, .int d_harm, .int d_worth, .int d_passes, .int d_passings, .int 5, .int d_images, .ref da_passing, .ref da_spot, .ref da_kept, .ref da_aside, .int d_spare, .ref da_ran, .ref da_who, .ref da_cap, .ref da_w, .ref da_laid, .int d_whoMany, .int d_drifted, .int d_seed, .ref da_cries, .ref da_holds, .ref da_came, .ref da_least, .ref da_firstTo, .int d_steps, .int d_roundFrom, .int d_roundMany, .int d_numberAt]))] H → va_D A [(da_many, .inl (cy 0, 5, .inl df_many)), (da_spot, .inl (cy 5, 6, .inr (.inr (.inr (.inr (fun i => if i < 6 then some (da_spot + 1 + i) else none)))))), ((da_spot + 1 + 0), .inl (cy 0, 2, .inl ((dF_spot 0)))), ((da_spot + 1 + 1), .inl (cy 0, 2, .inl ((dF_spot 1)))), ((da_spot + 1 + 2), .inl (cy 0, 2, .inl ((dF_spot 2)))), ((da_spot + 1 + 3), .inl (cy 0, 2, .inl ((dF_spot 3)))), ((da_spot + 1 + 4), .inl (cy 0, 2, .inl ((dF_spot 4)))), ((da_spot + 1 + 5), .inl (cy 0, 2, .inl ((dF_spot 5)))), (da, .inr (13, [.int ((u6q.1 0)), .int d_tape, .int d_size, .int d_place, .int d_at, .int d_fault, .int d_faultAt, .int d_clauses, .ref da_fed, .ref da_readBody, .ref da_body, .ref da_readMany, .ref da_many, .ref da_without, .ref da_did, .ref da_done, .ref da_bed, .int d_now, .int d_mindAt, .int d_way, .int d_harm, .int d_worth, .int d_passes, .int d_passings, .int 5, .int d_images, .ref da_passing, .ref da_spot, .ref da_kept, .ref da_aside, .int d_spare, .ref da_ran, .ref da_who, .ref da_cap, .ref da_w, .ref da_laid, .int d_whoMany, .int d_drifted, .int d_seed, .ref da_cries, .ref da_holds, .ref da_came, .ref da_least, .ref da_firstTo, .int d_steps, .int d_roundFrom, .int d_roundMany, .int d_numberAt]))] → va_S A s.heap H locs → lv_has ls 7 [(5, .int k75qy5), (2, .int 7776), (4, .int k75qy4), (3, .int k75qy3), (0, .ref da), (1, .int w0)] → W p l e ({ frames := 13, cells := 0, slots := 0, locals := 480 }) s m ([.ref da, .int w0] : List Value).toArray below meth c H locs 0 0 Q0 (F0 m 84 ls []) := by
              intro n
              induction n using Nat.strongRecOn with
              | ind n k75qih =>
                intro k75qy3 k75qy4 k75qy5 H locs ls hk75qy5 k75qm hP hD hS hl
                have gk75qy3 := k_rng k75qy3
                have gk75qy4 := k_rng k75qy4
                refine lv_iload hx hb dX12_placed_84 (lv_at hl 0 rfl) ?_
                refine lv_iload_n hx hb dX12_placed_86 rfl (lv_at hl 1 rfl) ?_
                refine lv_icmp_ge (tgt := 133) hx hb dX12_placed_87 (by decide) (fun c76q => ?_) (fun c76q => ?_)
                · simp only [k_lt, k_le, k_eq, ne_eq, ge_iff_le, gt_iff_lt, n_L7776] at c76q
                  refine lv_iload_n hx hb dX12_placed_133 rfl (lv_at hl 5 rfl) ?_
                  refine lv_if_ne (tgt := 142) hx hb dX12_placed_134 (by decide) (fun c77q => ?_) (fun c77q => ?_)
                  · simp only [k_lt, k_le, k_eq, ne_eq, ge_iff_le, gt_iff_lt, n_L0, n_L0] at c77q
                    refine lv_iload_n hx hb dX12_placed_142 rfl (lv_at hl 3 rfl) ?_
                    rw [hQ0]
                    exact k_iret (fun k => [((u6q.1 0))].getD k 0, fun k => [].getD k (fun _ => 0)) hx hb hr hlk (trivial) (hP.sub [8, 0, 1, 2, 3, 4, 5, 6, 7] rfl) (hD.sub [8, 0, 1, 2, 3, 4, 5, 6, 7] (by decide) rfl) hS (by decide) (by decide) dX12_placed_143
                  · simp only [k_lt, k_le, k_eq, ne_eq, ge_iff_le, gt_iff_lt, n_L0, n_L0] at c77q
                    refine lv_iload hx hb dX12_placed_137 (lv_at hl 2 rfl) ?_
                    refine lv_goto (tgt := 143) hx hb dX12_placed_139 (by decide) ?_
                    rw [hQ0]
                    exact k_iret (fun k => [((u6q.1 0))].getD k 0, fun k => [].getD k (fun _ => 0)) hx hb hr hlk (trivial) (hP.sub [8, 0, 1, 2, 3, 4, 5, 6, 7] rfl) (hD.sub [8, 0, 1, 2, 3, 4, 5, 6, 7] (by decide) rfl) hS (by decide) (by decide) dX12_placed_143
                · simp only [k_lt, k_le, k_eq, ne_eq, ge_iff_le, gt_iff_lt, n_L7776] at c76q
                  refine lv_aload_n hx hb dX12_placed_90 rfl (lv_at hl 4 rfl) ?_
                  refine lv_iload hx hb dX12_placed_91 (lv_at hl 0 rfl) ?_
                  refine lv_iload_n hx hb dX12_placed_93 rfl (lv_at hl 1 rfl) ?_
                  refine k_cali [] (⟨hP, hD, hG, hS, hA, rfl, rfl⟩ : kAt D cy sa A s H _ _ [(da, .inr (13, [.int ((u6q.1 0)), .int d_tape, .int d_size, .int d_place, .int d_at, .int d_fault, .int d_faultAt, .int d_clauses, .ref da_fed, .ref da_readBody, .ref da_body, .ref da_readMany, .ref da_many, .ref da_without, .ref da_did, .ref da_done, .ref da_bed, .int d_now, .int d_mindAt, .int d_way, .int d_harm, .int d_worth, .int d_passes, .int d_passings, .int 5, .int d_images, .ref da_passing, .ref da_spot, .ref da_kept, .ref da_aside, .int d_spare, .ref da_ran, .ref da_who, .ref da_cap, .ref da_w, .ref da_laid, .int d_whoMany, .int d_drifted, .int d_seed, .ref da_cries, .ref da_holds, .ref da_came, .ref da_least, .ref da_firstTo, .int d_steps, .int d_roundFrom, .int d_roundMany, .int d_numberAt])), (da_many, .inl (cy 0, 5, .inl df_many)), (da_spot, .inl (cy 5, 6, .inr (.inr (.inr (.inr (fun i => if i < 6 then some (da_spot + 1 + i) else none)))))), ((da_spot + 1 + 0), .inl (cy 0, 2, .inl ((dF_spot 0)))), ((da_spot + 1 + 1), .inl (cy 0, 2, .inl ((dF_spot 1)))), ((da_spot + 1 + 2), .inl (cy 0, 2, .inl ((dF_spot 2)))), ((da_spot + 1 + 3), .inl (cy 0, 2, .inl ((dF_spot 3)))), ((da_spot + 1 + 4), .inl (cy 0, 2, .inl ((dF_spot 4)))), ((da_spot + 1 + 5), .inl (cy 0, 2, .inl ((dF_spot 5))))] [8, 0, 1, 2, 3, 4, 5, 6, 7]) (wr := []) rfl rfl (by decide) (k_runV 13 8 (As := [.int k75qy5, .int 7776]) (rest := []) E lk_VRX12_340 rfl rfl rfl (m_roundOf l hl0 D cy sa da da_fed da_readBody da_body da_readMany da_many da_without da_did da_done da_bed da_passing da_spot da_kept da_aside da_ran da_who da_cap da_w da_laid da_cries da_holds da_came da_least da_firstTo ((u6q.1 0)) d_tape d_size d_place d_at d_fault d_faultAt d_clauses d_now d_mindAt d_way d_harm d_worth d_passes d_passings 5 d_images d_spare d_whoMany d_drifted d_seed d_steps d_roundFrom d_roundMany d_numberAt k75qy5 7776 df_many dF_spot ⟨by omega, by omega⟩ ⟨by omega, by omega⟩ ⟨by omega, by omega⟩ ⟨by omega, by omega⟩ ⟨by omega, by omega⟩ ⟨by omega, by omega⟩ ⟨by omega, by omega⟩ (by decide) ⟨by omega, by omega⟩ ⟨by omega, by omega⟩ (by assumption) (by assumption) (by assumption) ⟨by omega, by omega⟩ (by first | omega | (simp only [n_L7776]; omega) | (simp only [n_L7776]; done) | decide) (by first | omega | (simp only [n_L7776]; omega) | (simp only [n_L7776]; done) | decide) H.size) (⟨hP, hD, hG, hS, hA, rfl, rfl⟩ : kAt D cy sa A s H _ _ [(da, .inr (13, [.int ((u6q.1 0)), .int d_tape, .int d_size, .int d_place, .int d_at, .int d_fault, .int d_faultAt, .int d_clauses, .ref da_fed, .ref da_readBody, .ref da_body, .ref da_readMany, .ref da_many, .ref da_without, .ref da_did, .ref da_done, .ref da_bed, .int d_now, .int d_mindAt, .int d_way, .int d_harm, .int d_worth, .int d_passes, .int d_passings, .int 5, .int d_images, .ref da_passing, .ref da_spot, .ref da_kept, .ref da_aside, .int d_spare, .ref da_ran, .ref da_who, .ref da_cap, .ref da_w, .ref da_laid, .int d_whoMany, .int d_drifted, .int d_seed, .ref da_cries, .ref da_holds, .ref da_came, .ref da_least, .ref da_firstTo, .int d_steps, .int d_roundFrom, .int d_roundMany, .int d_numberAt])), (da_many, .inl (cy 0, 5, .inl df_many)), (da_spot, .inl (cy 5, 6, .inr (.inr (.inr (.inr (fun i => if i < 6 then some (da_spot + 1 + i) else none)))))), ((da_spot + 1 + 0), .inl (cy 0, 2, .inl ((dF_spot 0)))), ((da_spot + 1 + 1), .inl (cy 0, 2, .inl ((dF_spot 1)))), ((da_spot + 1 + 2), .inl (cy 0, 2, .inl ((dF_spot 2)))), ((da_spot + 1 + 3), .inl (cy 0, 2, .inl ((dF_spot 3)))), ((da_spot + 1 + 4), .inl (cy 0, 2, .inl ((dF_spot 4)))), ((da_spot + 1 + 5), .inl (cy 0, 2, .inl ((dF_spot 5))))] [8, 0, 1, 2, 3, 4, 5, 6, 7]) hl.1 rfl rfl ⟨rfl, rfl, ⟨Nat.le_of_ble_eq_true rfl, Nat.le_of_ble_eq_true rfl⟩, ⟨Nat.le_of_ble_eq_true rfl, Nat.le_of_ble_eq_true rfl⟩, Nat.le_of_ble_eq_true rfl⟩ dX12_placed_94) (fun r78q u79q H locs hwu79q hP hD hS => ?_)
                  have hP : va_P D vwCl [(da, .inr (13, [.int ((u6q.1 0)), .int d_tape, .int d_size, .int d_place, .int d_at, .int d_fault, .int d_faultAt, .int d_clauses, .ref da_fed, .ref da_readBody, .ref da_body, .ref da_readMany, .ref da_many, .ref da_without, .ref da_did, .ref da_done, .ref da_bed, .int d_now, .int d_mindAt, .int d_way, .int d_harm, .int d_worth, .int d_passes, .int d_passings, .int 5, .int d_images, .ref da_passing, .ref da_spot, .ref da_kept, .ref da_aside, .int d_spare, .ref da_ran, .ref da_who, .ref da_cap, .ref da_w, .ref da_laid, .int d_whoMany, .int d_drifted, .int d_seed, .ref da_cries, .ref da_holds, .ref da_came, .ref da_least, .ref da_firstTo, .int d_steps, .int d_roundFrom, .int d_roundMany, .int d_numberAt])), (da_many, .inl (cy 0, 5, .inl df_many)), (da_spot, .inl (cy 5, 6, .inr (.inr (.inr (.inr (fun i => if i < 6 then some (da_spot + 1 + i) else none)))))), ((da_spot + 1 + 0), .inl (cy 0, 2, .inl ((dF_spot 0)))), ((da_spot + 1 + 1), .inl (cy 0, 2, .inl ((dF_spot 1)))), ((da_spot + 1 + 2), .inl (cy 0, 2, .inl ((dF_spot 2)))), ((da_spot + 1 + 3), .inl (cy 0, 2, .inl ((dF_spot 3)))), ((da_spot + 1 + 4), .inl (cy 0, 2, .inl ((dF_spot 4)))), ((da_spot + 1 + 5), .inl (cy 0, 2, .inl ((dF_spot 5))))] H := hP
                  have hD : va_D A [(da, .inr (13, [.int ((u6q.1 0)), .int d_tape, .int d_size, .int d_place, .int d_at, .int d_fault, .int d_faultAt, .int d_clauses, .ref da_fed, .ref da_readBody, .ref da_body, .ref da_readMany, .ref da_many, .ref da_without, .ref da_did, .ref da_done, .ref da_bed, .int d_now, .int d_mindAt, .int d_way, .int d_harm, .int d_worth, .int d_passes, .int d_passings, .int 5, .int d_images, .ref da_passing, .ref da_spot, .ref da_kept, .ref da_aside, .int d_spare, .ref da_ran, .ref da_who, .ref da_cap, .ref da_w, .ref da_laid, .int d_whoMany, .int d_drifted, .int d_seed, .ref da_cries, .ref da_holds, .ref da_came, .ref da_least, .ref da_firstTo, .int d_steps, .int d_roundFrom, .int d_roundMany, .int d_numberAt])), (da_many, .inl (cy 0, 5, .inl df_many)), (da_spot, .inl (cy 5, 6, .inr (.inr (.inr (.inr (fun i => if i < 6 then some (da_spot + 1 + i) else none)))))), ((da_spot + 1 + 0), .inl (cy 0, 2, .inl ((dF_spot 0)))), ((da_spot + 1 + 1), .inl (cy 0, 2, .inl ((dF_spot 1)))), ((da_spot + 1 + 2), .inl (cy 0, 2, .inl ((dF_spot 2)))), ((da_spot + 1 + 3), .inl (cy 0, 2, .inl ((dF_spot 3)))), ((da_spot + 1 + 4), .inl (cy 0, 2, .inl ((dF_spot 4)))), ((da_spot + 1 + 5), .inl (cy 0, 2, .inl ((dF_spot 5))))] := hD
                  refine lv_istore (lv' := [(6, .int r78q), (5, .int k75qy5), (2, .int 7776), (4, .int k75qy4), (3, .int k75qy3), (0, .ref da), (1, .int w0)]) hx hb dX12_placed_97 hl (by decide) rfl (fun ls hl => ?_)
                  refine lv_iload hx hb dX12_placed_99 (lv_at hl 0 rfl) ?_
                  refine lv_iconst (v := (-1)) hx hb dX12_placed_101 (by decide) ?_
                  refine lv_icmp_eq (tgt := 127) hx hb dX12_placed_102 (by decide) (fun c80q => ?_) (fun c80q => ?_)
                  · simp only [k_lt, k_le, k_eq, ne_eq, ge_iff_le, gt_iff_lt, n_Lm1] at c80q
                    obtain ⟨x81q, ex81q⟩ : ∃ z : Int32, z = k75qy5 + 1 := ⟨_, rfl⟩
                    refine lv_iinc (v := x81q) (lv' := [(5, .int x81q), (6, .int r78q), (2, .int 7776), (4, .int k75qy4), (3, .int k75qy3), (0, .ref da), (1, .int w0)]) hx hb dX12_placed_127 hl (k := 1) rfl (by rw [ex81q]; rfl) (by decide) rfl (fun ls hl => ?_)
                    have rx81q := n_add ex81q (a := k75qy5.toInt) (b := 1) rfl n_L1 (by omega) (by omega)
                    refine lv_goto (tgt := 84) hx hb dX12_placed_130 (by decide) ?_
                    exact k75qih ((7776 - x81q.toInt).toNat) (by omega) k75qy3 k75qy4 x81q H locs ls ⟨by omega, by omega⟩ rfl (hP.sub [1, 2, 3, 4, 5, 6, 7, 8, 0] rfl) (hD.sub [1, 2, 3, 4, 5, 6, 7, 8, 0] (by decide) rfl) hS (lv_sub hl [0, 2, 3, 4, 5, 6] rfl)
                  · simp only [k_lt, k_le, k_eq, ne_eq, ge_iff_le, gt_iff_lt, n_Lm1] at c80q
                    refine lv_iload_n hx hb dX12_placed_105 rfl (lv_at hl 4 rfl) ?_
                    refine lv_iconst (v := (-1)) hx hb dX12_placed_106 (by decide) ?_
                    refine lv_icmp_eq (tgt := 120) hx hb dX12_placed_107 (by decide) (fun c82q => ?_) (fun c82q => ?_)
                    · simp only [k_lt, k_le, k_eq, ne_eq, ge_iff_le, gt_iff_lt, n_Lm1] at c82q
                      refine lv_iload hx hb dX12_placed_120 (lv_at hl 1 rfl) ?_
                      refine lv_istore_n (lv' := [(3, .int k75qy5), (6, .int r78q), (5, .int k75qy5), (2, .int 7776), (4, .int k75qy4), (0, .ref da), (1, .int w0)]) hx hb dX12_placed_122 rfl hl (by decide) rfl (fun ls hl => ?_)
                      refine lv_iload hx hb dX12_placed_123 (lv_at hl 1 rfl) ?_
                      refine lv_istore (lv' := [(4, .int r78q), (3, .int k75qy5), (6, .int r78q), (5, .int k75qy5), (2, .int 7776), (0, .ref da), (1, .int w0)]) hx hb dX12_placed_125 hl (by decide) rfl (fun ls hl => ?_)
                      obtain ⟨x83q, ex83q⟩ : ∃ z : Int32, z = k75qy5 + 1 := ⟨_, rfl⟩
                      refine lv_iinc (v := x83q) (lv' := [(5, .int x83q), (4, .int r78q), (3, .int k75qy5), (6, .int r78q), (2, .int 7776), (0, .ref da), (1, .int w0)]) hx hb dX12_placed_127 hl (k := 3) rfl (by rw [ex83q]; rfl) (by decide) rfl (fun ls hl => ?_)
                      have rx83q := n_add ex83q (a := k75qy5.toInt) (b := 1) rfl n_L1 (by omega) (by omega)
                      refine lv_goto (tgt := 84) hx hb dX12_placed_130 (by decide) ?_
                      exact k75qih ((7776 - x83q.toInt).toNat) (by omega) k75qy5 r78q x83q H locs ls ⟨by omega, by omega⟩ rfl (hP.sub [1, 2, 3, 4, 5, 6, 7, 8, 0] rfl) (hD.sub [1, 2, 3, 4, 5, 6, 7, 8, 0] (by decide) rfl) hS (lv_sub hl [0, 4, 1, 2, 5, 6] rfl)
                    · simp only [k_lt, k_le, k_eq, ne_eq, ge_iff_le, gt_iff_lt, n_Lm1] at c82q
                      refine lv_iload hx hb dX12_placed_110 (lv_at hl 0 rfl) ?_
                      refine lv_iload hx hb dX12_placed_112 (lv_at hl 3 rfl) ?_
                      refine lv_icmp_lt (tgt := 120) hx hb dX12_placed_114 (by decide) (fun c84q => ?_) (fun c84q => ?_)
                      · simp only [k_lt, k_le, k_eq, ne_eq, ge_iff_le, gt_iff_lt] at c84q
                        refine lv_iload hx hb dX12_placed_120 (lv_at hl 1 rfl) ?_
                        refine lv_istore_n (lv' := [(3, .int k75qy5), (6, .int r78q), (5, .int k75qy5), (2, .int 7776), (4, .int k75qy4), (0, .ref da), (1, .int w0)]) hx hb dX12_placed_122 rfl hl (by decide) rfl (fun ls hl => ?_)
                        refine lv_iload hx hb dX12_placed_123 (lv_at hl 1 rfl) ?_
                        refine lv_istore (lv' := [(4, .int r78q), (3, .int k75qy5), (6, .int r78q), (5, .int k75qy5), (2, .int 7776), (0, .ref da), (1, .int w0)]) hx hb dX12_placed_125 hl (by decide) rfl (fun ls hl => ?_)
                        obtain ⟨x85q, ex85q⟩ : ∃ z : Int32, z = k75qy5 + 1 := ⟨_, rfl⟩
                        refine lv_iinc (v := x85q) (lv' := [(5, .int x85q), (4, .int r78q), (3, .int k75qy5), (6, .int r78q), (2, .int 7776), (0, .ref da), (1, .int w0)]) hx hb dX12_placed_127 hl (k := 3) rfl (by rw [ex85q]; rfl) (by decide) rfl (fun ls hl => ?_)
                        have rx85q := n_add ex85q (a := k75qy5.toInt) (b := 1) rfl n_L1 (by omega) (by omega)
                        refine lv_goto (tgt := 84) hx hb dX12_placed_130 (by decide) ?_
                        exact k75qih ((7776 - x85q.toInt).toNat) (by omega) k75qy5 r78q x85q H locs ls ⟨by omega, by omega⟩ rfl (hP.sub [1, 2, 3, 4, 5, 6, 7, 8, 0] rfl) (hD.sub [1, 2, 3, 4, 5, 6, 7, 8, 0] (by decide) rfl) hS (lv_sub hl [0, 4, 1, 2, 5, 6] rfl)
                      · simp only [k_lt, k_le, k_eq, ne_eq, ge_iff_le, gt_iff_lt] at c84q
                        refine lv_goto (tgt := 127) hx hb dX12_placed_117 (by decide) ?_
                        obtain ⟨x86q, ex86q⟩ : ∃ z : Int32, z = k75qy5 + 1 := ⟨_, rfl⟩
                        refine lv_iinc (v := x86q) (lv' := [(5, .int x86q), (6, .int r78q), (2, .int 7776), (4, .int k75qy4), (3, .int k75qy3), (0, .ref da), (1, .int w0)]) hx hb dX12_placed_127 hl (k := 1) rfl (by rw [ex86q]; rfl) (by decide) rfl (fun ls hl => ?_)
                        have rx86q := n_add ex86q (a := k75qy5.toInt) (b := 1) rfl n_L1 (by omega) (by omega)
                        refine lv_goto (tgt := 84) hx hb dX12_placed_130 (by decide) ?_
                        exact k75qih ((7776 - x86q.toInt).toNat) (by omega) k75qy3 k75qy4 x86q H locs ls ⟨by omega, by omega⟩ rfl (hP.sub [1, 2, 3, 4, 5, 6, 7, 8, 0] rfl) (hD.sub [1, 2, 3, 4, 5, 6, 7, 8, 0] (by decide) rfl) hS (lv_sub hl [0, 2, 3, 4, 5, 6] rfl)
            exact k75q _ (-1) 0 0 H locs ls ⟨by rw [n_L0]; omega, by rw [n_L0]; omega⟩ rfl hP hD hS (lv_sub hl [0, 1, 2, 3, 4, 5] rfl)
          · obtain rfl : d_spots = 6 := Int32.toInt_inj.mp (h9.trans (by decide))
            refine lv_iconst (v := 1) hx hb dX12_placed_51 (by decide) ?_
            refine lv_istore_n (lv' := [(2, .int 1), (0, .ref da), (1, .int w0)]) hx hb dX12_placed_52 rfl hl (by decide) rfl (fun ls hl => ?_)
            refine lv_iconst (v := (-1)) hx hb dX12_placed_53 (by decide) ?_
            refine lv_istore_n (lv' := [(3, .int (-1)), (2, .int 1), (0, .ref da), (1, .int w0)]) hx hb dX12_placed_54 rfl hl (by decide) rfl (fun ls hl => ?_)
            refine lv_iconst (v := 0) hx hb dX12_placed_55 (by decide) ?_
            refine lv_istore (lv' := [(4, .int 0), (3, .int (-1)), (2, .int 1), (0, .ref da), (1, .int w0)]) hx hb dX12_placed_56 hl (by decide) rfl (fun ls hl => ?_)
            refine lv_iconst (v := 0) hx hb dX12_placed_58 (by decide) ?_
            refine lv_istore (lv' := [(5, .int 0), (4, .int 0), (3, .int (-1)), (2, .int 1), (0, .ref da), (1, .int w0)]) hx hb dX12_placed_59 hl (by decide) rfl (fun ls hl => ?_)
            refine lv_iload hx hb dX12_placed_61 (lv_at hl 0 rfl) ?_
            refine lv_aload_n hx hb dX12_placed_63 rfl (lv_at hl 4 rfl) ?_
            refine va_get (D := D) (ci := 13) (v := .int 6) (C := RX12) (T := TX12) (N := 48) hx hb hts kin_RX12 hown hG.1 hP 8 rfl rfl 24 (by decide) (hts _ wm_1543) (fun _ h9 => h9) rfl dX12_placed_64 ?_
            refine lv_icmp_ge (tgt := 81) hx hb dX12_placed_67 (by decide) (fun h => absurd h (by decide)) (fun _ => ?_)
            refine lv_iload_n hx hb dX12_placed_70 rfl (lv_at hl 3 rfl) ?_
            refine lv_bipush (v := 6) hx hb dX12_placed_71 (by decide) ?_
            refine lv_imul hx hb dX12_placed_73 ?_
            refine lv_topi (fun x87q ex87q => ?_)
            obtain rfl : x87q = 6 := ex87q.trans (by decide)
            refine lv_istore_n (lv' := [(2, .int 6), (5, .int 0), (4, .int 0), (3, .int (-1)), (0, .ref da), (1, .int w0)]) hx hb dX12_placed_74 rfl hl (by decide) rfl (fun ls hl => ?_)
            refine lv_iinc (v := 1) (lv' := [(5, .int 1), (2, .int 6), (4, .int 0), (3, .int (-1)), (0, .ref da), (1, .int w0)]) hx hb dX12_placed_75 hl (k := 1) rfl (by decide) (by decide) rfl (fun ls hl => ?_)
            refine lv_goto (tgt := 61) hx hb dX12_placed_78 (by decide) ?_
            refine lv_iload hx hb dX12_placed_61 (lv_at hl 0 rfl) ?_
            refine lv_aload_n hx hb dX12_placed_63 rfl (lv_at hl 4 rfl) ?_
            refine va_get (D := D) (ci := 13) (v := .int 6) (C := RX12) (T := TX12) (N := 48) hx hb hts kin_RX12 hown hG.1 hP 8 rfl rfl 24 (by decide) (hts _ wm_1543) (fun _ h9 => h9) rfl dX12_placed_64 ?_
            refine lv_icmp_ge (tgt := 81) hx hb dX12_placed_67 (by decide) (fun h => absurd h (by decide)) (fun _ => ?_)
            refine lv_iload_n hx hb dX12_placed_70 rfl (lv_at hl 1 rfl) ?_
            refine lv_bipush (v := 6) hx hb dX12_placed_71 (by decide) ?_
            refine lv_imul hx hb dX12_placed_73 ?_
            refine lv_topi (fun x88q ex88q => ?_)
            obtain rfl : x88q = 36 := ex88q.trans (by decide)
            refine lv_istore_n (lv' := [(2, .int 36), (5, .int 1), (4, .int 0), (3, .int (-1)), (0, .ref da), (1, .int w0)]) hx hb dX12_placed_74 rfl hl (by decide) rfl (fun ls hl => ?_)
            refine lv_iinc (v := 2) (lv' := [(5, .int 2), (2, .int 36), (4, .int 0), (3, .int (-1)), (0, .ref da), (1, .int w0)]) hx hb dX12_placed_75 hl (k := 1) rfl (by decide) (by decide) rfl (fun ls hl => ?_)
            refine lv_goto (tgt := 61) hx hb dX12_placed_78 (by decide) ?_
            refine lv_iload hx hb dX12_placed_61 (lv_at hl 0 rfl) ?_
            refine lv_aload_n hx hb dX12_placed_63 rfl (lv_at hl 4 rfl) ?_
            refine va_get (D := D) (ci := 13) (v := .int 6) (C := RX12) (T := TX12) (N := 48) hx hb hts kin_RX12 hown hG.1 hP 8 rfl rfl 24 (by decide) (hts _ wm_1543) (fun _ h9 => h9) rfl dX12_placed_64 ?_
            refine lv_icmp_ge (tgt := 81) hx hb dX12_placed_67 (by decide) (fun h => absurd h (by decide)) (fun _ => ?_)
            refine lv_iload_n hx hb dX12_placed_70 rfl (lv_at hl 1 rfl) ?_
            refine lv_bipush (v := 6) hx hb dX12_placed_71 (by decide) ?_
            refine lv_imul hx hb dX12_placed_73 ?_
            refine lv_topi (fun x89q ex89q => ?_)
            obtain rfl : x89q = 216 := ex89q.trans (by decide)
            refine lv_istore_n (lv' := [(2, .int 216), (5, .int 2), (4, .int 0), (3, .int (-1)), (0, .ref da), (1, .int w0)]) hx hb dX12_placed_74 rfl hl (by decide) rfl (fun ls hl => ?_)
            refine lv_iinc (v := 3) (lv' := [(5, .int 3), (2, .int 216), (4, .int 0), (3, .int (-1)), (0, .ref da), (1, .int w0)]) hx hb dX12_placed_75 hl (k := 1) rfl (by decide) (by decide) rfl (fun ls hl => ?_)
            refine lv_goto (tgt := 61) hx hb dX12_placed_78 (by decide) ?_
            refine lv_iload hx hb dX12_placed_61 (lv_at hl 0 rfl) ?_
            refine lv_aload_n hx hb dX12_placed_63 rfl (lv_at hl 4 rfl) ?_
            refine va_get (D := D) (ci := 13) (v := .int 6) (C := RX12) (T := TX12) (N := 48) hx hb hts kin_RX12 hown hG.1 hP 8 rfl rfl 24 (by decide) (hts _ wm_1543) (fun _ h9 => h9) rfl dX12_placed_64 ?_
            refine lv_icmp_ge (tgt := 81) hx hb dX12_placed_67 (by decide) (fun h => absurd h (by decide)) (fun _ => ?_)
            refine lv_iload_n hx hb dX12_placed_70 rfl (lv_at hl 1 rfl) ?_
            refine lv_bipush (v := 6) hx hb dX12_placed_71 (by decide) ?_
            refine lv_imul hx hb dX12_placed_73 ?_
            refine lv_topi (fun x90q ex90q => ?_)
            obtain rfl : x90q = 1296 := ex90q.trans (by decide)
            refine lv_istore_n (lv' := [(2, .int 1296), (5, .int 3), (4, .int 0), (3, .int (-1)), (0, .ref da), (1, .int w0)]) hx hb dX12_placed_74 rfl hl (by decide) rfl (fun ls hl => ?_)
            refine lv_iinc (v := 4) (lv' := [(5, .int 4), (2, .int 1296), (4, .int 0), (3, .int (-1)), (0, .ref da), (1, .int w0)]) hx hb dX12_placed_75 hl (k := 1) rfl (by decide) (by decide) rfl (fun ls hl => ?_)
            refine lv_goto (tgt := 61) hx hb dX12_placed_78 (by decide) ?_
            refine lv_iload hx hb dX12_placed_61 (lv_at hl 0 rfl) ?_
            refine lv_aload_n hx hb dX12_placed_63 rfl (lv_at hl 4 rfl) ?_
            refine va_get (D := D) (ci := 13) (v := .int 6) (C := RX12) (T := TX12) (N := 48) hx hb hts kin_RX12 hown hG.1 hP 8 rfl rfl 24 (by decide) (hts _ wm_1543) (fun _ h9 => h9) rfl dX12_placed_64 ?_
            refine lv_icmp_ge (tgt := 81) hx hb dX12_placed_67 (by decide) (fun h => absurd h (by decide)) (fun _ => ?_)
            refine lv_iload_n hx hb dX12_placed_70 rfl (lv_at hl 1 rfl) ?_
            refine lv_bipush (v := 6) hx hb dX12_placed_71 (by decide) ?_
            refine lv_imul hx hb dX12_placed_73 ?_
            refine lv_topi (fun x91q ex91q => ?_)
            obtain rfl : x91q = 7776 := ex91q.trans (by decide)
            refine lv_istore_n (lv' := [(2, .int 7776), (5, .int 4), (4, .int 0), (3, .int (-1)), (0, .ref da), (1, .int w0)]) hx hb dX12_placed_74 rfl hl (by decide) rfl (fun ls hl => ?_)
            refine lv_iinc (v := 5) (lv' := [(5, .int 5), (2, .int 7776), (4, .int 0), (3, .int (-1)), (0, .ref da), (1, .int w0)]) hx hb dX12_placed_75 hl (k := 1) rfl (by decide) (by decide) rfl (fun ls hl => ?_)
            refine lv_goto (tgt := 61) hx hb dX12_placed_78 (by decide) ?_
            refine lv_iload hx hb dX12_placed_61 (lv_at hl 0 rfl) ?_
            refine lv_aload_n hx hb dX12_placed_63 rfl (lv_at hl 4 rfl) ?_
            refine va_get (D := D) (ci := 13) (v := .int 6) (C := RX12) (T := TX12) (N := 48) hx hb hts kin_RX12 hown hG.1 hP 8 rfl rfl 24 (by decide) (hts _ wm_1543) (fun _ h9 => h9) rfl dX12_placed_64 ?_
            refine lv_icmp_ge (tgt := 81) hx hb dX12_placed_67 (by decide) (fun h => absurd h (by decide)) (fun _ => ?_)
            refine lv_iload_n hx hb dX12_placed_70 rfl (lv_at hl 1 rfl) ?_
            refine lv_bipush (v := 6) hx hb dX12_placed_71 (by decide) ?_
            refine lv_imul hx hb dX12_placed_73 ?_
            refine lv_topi (fun x92q ex92q => ?_)
            obtain rfl : x92q = 46656 := ex92q.trans (by decide)
            refine lv_istore_n (lv' := [(2, .int 46656), (5, .int 5), (4, .int 0), (3, .int (-1)), (0, .ref da), (1, .int w0)]) hx hb dX12_placed_74 rfl hl (by decide) rfl (fun ls hl => ?_)
            refine lv_iinc (v := 6) (lv' := [(5, .int 6), (2, .int 46656), (4, .int 0), (3, .int (-1)), (0, .ref da), (1, .int w0)]) hx hb dX12_placed_75 hl (k := 1) rfl (by decide) (by decide) rfl (fun ls hl => ?_)
            refine lv_goto (tgt := 61) hx hb dX12_placed_78 (by decide) ?_
            refine lv_iload hx hb dX12_placed_61 (lv_at hl 0 rfl) ?_
            refine lv_aload_n hx hb dX12_placed_63 rfl (lv_at hl 4 rfl) ?_
            refine va_get (D := D) (ci := 13) (v := .int 6) (C := RX12) (T := TX12) (N := 48) hx hb hts kin_RX12 hown hG.1 hP 8 rfl rfl 24 (by decide) (hts _ wm_1543) (fun _ h9 => h9) rfl dX12_placed_64 ?_
            refine lv_icmp_ge (tgt := 81) hx hb dX12_placed_67 (by decide) (fun _ => ?_) (fun h => absurd (by decide) h)
            refine lv_iconst (v := 0) hx hb dX12_placed_81 (by decide) ?_
            refine lv_istore (lv' := [(5, .int 0), (2, .int 46656), (4, .int 0), (3, .int (-1)), (0, .ref da), (1, .int w0)]) hx hb dX12_placed_82 hl (by decide) rfl (fun ls hl => ?_)
            have k93q : ∀ (n : Nat) (k93qy3 : Int32) (k93qy4 : Int32) (k93qy5 : Int32) (H : Heap) (locs : List Loc) (ls : Array Slot), 0 ≤ k93qy5.toInt ∧ k93qy5.toInt ≤ 46656 → (46656 - k93qy5.toInt).toNat = n → va_P D vwCl [(da_many, .inl (cy 0, 5, .inl df_many)), (da_spot, .inl (cy 5, 6, .inr (.inr (.inr (.inr (fun i => if i < 6 then some (da_spot + 1 + i) else none)))))), ((da_spot + 1 + 0), .inl (cy 0, 2, .inl ((dF_spot 0)))), ((da_spot + 1 + 1), .inl (cy 0, 2, .inl ((dF_spot 1)))), ((da_spot + 1 + 2), .inl (cy 0, 2, .inl ((dF_spot 2)))), ((da_spot + 1 + 3), .inl (cy 0, 2, .inl ((dF_spot 3)))), ((da_spot + 1 + 4), .inl (cy 0, 2, .inl ((dF_spot 4)))), ((da_spot + 1 + 5), .inl (cy 0, 2, .inl ((dF_spot 5)))), (da, .inr (13, [.int ((u6q.1 0)), .int d_tape, .int d_size, .int d_place, .int d_at, .int d_fault, .int d_faultAt, .int d_clauses, .ref da_fed, .ref da_readBody, .ref da_body, .ref da_readMany, .ref da_many, .ref da_without, .ref da_did, .ref da_done, .ref da_bed, .int d_now, .int d_mindAt, .int d_way, .int d_harm, .int d_worth, .int d_passes, .int d_passings, .int 6, .int d_images, .ref da_passing, .ref da_spot, .ref da_kept, .ref da_aside, .int d_spare, .ref da_ran, .ref da_who, .ref da_cap, .ref da_w, .ref da_laid, .int d_whoMany, .int d_drifted, .int d_seed, .ref da_cries, .ref da_holds, .ref da_came, .ref da_least, .ref da_firstTo, .int d_steps, .int d_roundFrom, .int d_roundMany, .int d_numberAt]))] H → va_D A [(da_many, .inl (cy 0, 5, .inl df_many)), (da_spot, .inl (cy 5, 6, .inr (.inr (.inr (.inr (fun i => if i < 6 then some (da_spot + 1 + i) else none)))))), ((da_spot + 1 + 0), .inl (cy 0, 2, .inl ((dF_spot 0)))), ((da_spot + 1 + 1), .inl (cy 0, 2, .inl ((dF_spot 1)))), ((da_spot + 1 + 2), .inl (cy 0, 2, .inl ((dF_spot 2)))), ((da_spot + 1 + 3), .inl (cy 0, 2, .inl ((dF_spot 3)))), ((da_spot + 1 + 4), .inl (cy 0, 2, .inl ((dF_spot 4)))), ((da_spot + 1 + 5), .inl (cy 0, 2, .inl ((dF_spot 5)))), (da, .inr (13, [.int ((u6q.1 0)), .int d_tape, .int d_size, .int d_place, .int d_at, .int d_fault, .int d_faultAt, .int d_clauses, .ref da_fed, .ref da_readBody, .ref da_body, .ref da_readMany, .ref da_many, .ref da_without, .ref da_did, .ref da_done, .ref da_bed, .int d_now, .int d_mindAt, .int d_way, .int d_harm, .int d_worth, .int d_passes, .int d_passings, .int 6, .int d_images, .ref da_passing, .ref da_spot, .ref da_kept, .ref da_aside, .int d_spare, .ref da_ran, .ref da_who, .ref da_cap, .ref da_w, .ref da_laid, .int d_whoMany, .int d_drifted, .int d_seed, .ref da_cries, .ref da_holds, .ref da_came, .ref da_least, .ref da_firstTo, .int d_steps, .int d_roundFrom, .int d_roundMany, .int d_numberAt]))] → va_S A s.heap H locs → lv_has ls 7 [(5, .int k93qy5), (2, .int 46656), (4, .int k93qy4), (3, .int k93qy3), (0, .ref da), (1, .int w0)] → W p l e ({ frames := 13, cells := 0, slots := 0, locals := 480 }) s m ([.ref da, .int w0] : List Value).toArray below meth c H locs 0 0 Q0 (F0 m 84 ls []) := by
              intro n
              induction n using Nat.strongRecOn with
              | ind n k93qih =>
                intro k93qy3 k93qy4 k93qy5 H locs ls hk93qy5 k93qm hP hD hS hl
                have gk93qy3 := k_rng k93qy3
                have gk93qy4 := k_rng k93qy4
                refine lv_iload hx hb dX12_placed_84 (lv_at hl 0 rfl) ?_
                refine lv_iload_n hx hb dX12_placed_86 rfl (lv_at hl 1 rfl) ?_
                refine lv_icmp_ge (tgt := 133) hx hb dX12_placed_87 (by decide) (fun c94q => ?_) (fun c94q => ?_)
                · simp only [k_lt, k_le, k_eq, ne_eq, ge_iff_le, gt_iff_lt, n_L46656] at c94q
                  refine lv_iload_n hx hb dX12_placed_133 rfl (lv_at hl 5 rfl) ?_
                  refine lv_if_ne (tgt := 142) hx hb dX12_placed_134 (by decide) (fun c95q => ?_) (fun c95q => ?_)
                  · simp only [k_lt, k_le, k_eq, ne_eq, ge_iff_le, gt_iff_lt, n_L0, n_L0] at c95q
                    refine lv_iload_n hx hb dX12_placed_142 rfl (lv_at hl 3 rfl) ?_
                    rw [hQ0]
                    exact k_iret (fun k => [((u6q.1 0))].getD k 0, fun k => [].getD k (fun _ => 0)) hx hb hr hlk (trivial) (hP.sub [8, 0, 1, 2, 3, 4, 5, 6, 7] rfl) (hD.sub [8, 0, 1, 2, 3, 4, 5, 6, 7] (by decide) rfl) hS (by decide) (by decide) dX12_placed_143
                  · simp only [k_lt, k_le, k_eq, ne_eq, ge_iff_le, gt_iff_lt, n_L0, n_L0] at c95q
                    refine lv_iload hx hb dX12_placed_137 (lv_at hl 2 rfl) ?_
                    refine lv_goto (tgt := 143) hx hb dX12_placed_139 (by decide) ?_
                    rw [hQ0]
                    exact k_iret (fun k => [((u6q.1 0))].getD k 0, fun k => [].getD k (fun _ => 0)) hx hb hr hlk (trivial) (hP.sub [8, 0, 1, 2, 3, 4, 5, 6, 7] rfl) (hD.sub [8, 0, 1, 2, 3, 4, 5, 6, 7] (by decide) rfl) hS (by decide) (by decide) dX12_placed_143
                · simp only [k_lt, k_le, k_eq, ne_eq, ge_iff_le, gt_iff_lt, n_L46656] at c94q
                  refine lv_aload_n hx hb dX12_placed_90 rfl (lv_at hl 4 rfl) ?_
                  refine lv_iload hx hb dX12_placed_91 (lv_at hl 0 rfl) ?_
                  refine lv_iload_n hx hb dX12_placed_93 rfl (lv_at hl 1 rfl) ?_
                  refine k_cali [] (⟨hP, hD, hG, hS, hA, rfl, rfl⟩ : kAt D cy sa A s H _ _ [(da, .inr (13, [.int ((u6q.1 0)), .int d_tape, .int d_size, .int d_place, .int d_at, .int d_fault, .int d_faultAt, .int d_clauses, .ref da_fed, .ref da_readBody, .ref da_body, .ref da_readMany, .ref da_many, .ref da_without, .ref da_did, .ref da_done, .ref da_bed, .int d_now, .int d_mindAt, .int d_way, .int d_harm, .int d_worth, .int d_passes, .int d_passings, .int 6, .int d_images, .ref da_passing, .ref da_spot, .ref da_kept, .ref da_aside, .int d_spare, .ref da_ran, .ref da_who, .ref da_cap, .ref da_w, .ref da_laid, .int d_whoMany, .int d_drifted, .int d_seed, .ref da_cries, .ref da_holds, .ref da_came, .ref da_least, .ref da_firstTo, .int d_steps, .int d_roundFrom, .int d_roundMany, .int d_numberAt])), (da_many, .inl (cy 0, 5, .inl df_many)), (da_spot, .inl (cy 5, 6, .inr (.inr (.inr (.inr (fun i => if i < 6 then some (da_spot + 1 + i) else none)))))), ((da_spot + 1 + 0), .inl (cy 0, 2, .inl ((dF_spot 0)))), ((da_spot + 1 + 1), .inl (cy 0, 2, .inl ((dF_spot 1)))), ((da_spot + 1 + 2), .inl (cy 0, 2, .inl ((dF_spot 2)))), ((da_spot + 1 + 3), .inl (cy 0, 2, .inl ((dF_spot 3)))), ((da_spot + 1 + 4), .inl (cy 0, 2, .inl ((dF_spot 4)))), ((da_spot + 1 + 5), .inl (cy 0, 2, .inl ((dF_spot 5))))] [8, 0, 1, 2, 3, 4, 5, 6, 7]) (wr := []) rfl rfl (by decide) (k_runV 13 8 (As := [.int k93qy5, .int 46656]) (rest := []) E lk_VRX12_340 rfl rfl rfl (m_roundOf l hl0 D cy sa da da_fed da_readBody da_body da_readMany da_many da_without da_did da_done da_bed da_passing da_spot da_kept da_aside da_ran da_who da_cap da_w da_laid da_cries da_holds da_came da_least da_firstTo ((u6q.1 0)) d_tape d_size d_place d_at d_fault d_faultAt d_clauses d_now d_mindAt d_way d_harm d_worth d_passes d_passings 6 d_images d_spare d_whoMany d_drifted d_seed d_steps d_roundFrom d_roundMany d_numberAt k93qy5 46656 df_many dF_spot ⟨by omega, by omega⟩ ⟨by omega, by omega⟩ ⟨by omega, by omega⟩ ⟨by omega, by omega⟩ ⟨by omega, by omega⟩ ⟨by omega, by omega⟩ ⟨by omega, by omega⟩ (by decide) ⟨by omega, by omega⟩ ⟨by omega, by omega⟩ (by assumption) (by assumption) (by assumption) ⟨by omega, by omega⟩ (by first | omega | (simp only [n_L46656]; omega) | (simp only [n_L46656]; done) | decide) (by first | omega | (simp only [n_L46656]; omega) | (simp only [n_L46656]; done) | decide) H.size) (⟨hP, hD, hG, hS, hA, rfl, rfl⟩ : kAt D cy sa A s H _ _ [(da, .inr (13, [.int ((u6q.1 0)), .int d_tape, .int d_size, .int d_place, .int d_at, .int d_fault, .int d_faultAt, .int d_clauses, .ref da_fed, .ref da_readBody, .ref da_body, .ref da_readMany, .ref da_many, .ref da_without, .ref da_did, .ref da_done, .ref da_bed, .int d_now, .int d_mindAt, .int d_way, .int d_harm, .int d_worth, .int d_passes, .int d_passings, .int 6, .int d_images, .ref da_passing, .ref da_spot, .ref da_kept, .ref da_aside, .int d_spare, .ref da_ran, .ref da_who, .ref da_cap, .ref da_w, .ref da_laid, .int d_whoMany, .int d_drifted, .int d_seed, .ref da_cries, .ref da_holds, .ref da_came, .ref da_least, .ref da_firstTo, .int d_steps, .int d_roundFrom, .int d_roundMany, .int d_numberAt])), (da_many, .inl (cy 0, 5, .inl df_many)), (da_spot, .inl (cy 5, 6, .inr (.inr (.inr (.inr (fun i => if i < 6 then some (da_spot + 1 + i) else none)))))), ((da_spot + 1 + 0), .inl (cy 0, 2, .inl ((dF_spot 0)))), ((da_spot + 1 + 1), .inl (cy 0, 2, .inl ((dF_spot 1)))), ((da_spot + 1 + 2), .inl (cy 0, 2, .inl ((dF_spot 2)))), ((da_spot + 1 + 3), .inl (cy 0, 2, .inl ((dF_spot 3)))), ((da_spot + 1 + 4), .inl (cy 0, 2, .inl ((dF_spot 4)))), ((da_spot + 1 + 5), .inl (cy 0, 2, .inl ((dF_spot 5))))] [8, 0, 1, 2, 3, 4, 5, 6, 7]) hl.1 rfl rfl ⟨rfl, rfl, ⟨Nat.le_of_ble_eq_true rfl, Nat.le_of_ble_eq_true rfl⟩, ⟨Nat.le_of_ble_eq_true rfl, Nat.le_of_ble_eq_true rfl⟩, Nat.le_of_ble_eq_true rfl⟩ dX12_placed_94) (fun r96q u97q H locs hwu97q hP hD hS => ?_)
                  have hP : va_P D vwCl [(da, .inr (13, [.int ((u6q.1 0)), .int d_tape, .int d_size, .int d_place, .int d_at, .int d_fault, .int d_faultAt, .int d_clauses, .ref da_fed, .ref da_readBody, .ref da_body, .ref da_readMany, .ref da_many, .ref da_without, .ref da_did, .ref da_done, .ref da_bed, .int d_now, .int d_mindAt, .int d_way, .int d_harm, .int d_worth, .int d_passes, .int d_passings, .int 6, .int d_images, .ref da_passing, .ref da_spot, .ref da_kept, .ref da_aside, .int d_spare, .ref da_ran, .ref da_who, .ref da_cap, .ref da_w, .ref da_laid, .int d_whoMany, .int d_drifted, .int d_seed, .ref da_cries, .ref da_holds, .ref da_came, .ref da_least, .ref da_firstTo, .int d_steps, .int d_roundFrom, .int d_roundMany, .int d_numberAt])), (da_many, .inl (cy 0, 5, .inl df_many)), (da_spot, .inl (cy 5, 6, .inr (.inr (.inr (.inr (fun i => if i < 6 then some (da_spot + 1 + i) else none)))))), ((da_spot + 1 + 0), .inl (cy 0, 2, .inl ((dF_spot 0)))), ((da_spot + 1 + 1), .inl (cy 0, 2, .inl ((dF_spot 1)))), ((da_spot + 1 + 2), .inl (cy 0, 2, .inl ((dF_spot 2)))), ((da_spot + 1 + 3), .inl (cy 0, 2, .inl ((dF_spot 3)))), ((da_spot + 1 + 4), .inl (cy 0, 2, .inl ((dF_spot 4)))), ((da_spot + 1 + 5), .inl (cy 0, 2, .inl ((dF_spot 5))))] H := hP
                  have hD : va_D A [(da, .inr (13, [.int ((u6q.1 0)), .int d_tape, .int d_size, .int d_place, .int d_at, .int d_fault, .int d_faultAt, .int d_clauses, .ref da_fed, .ref da_readBody, .ref da_body, .ref da_readMany, .ref da_many, .ref da_without, .ref da_did, .ref da_done, .ref da_bed, .int d_now, .int d_mindAt, .int d_way, .int d_harm, .int d_worth, .int d_passes, .int d_passings, .int 6, .int d_images, .ref da_passing, .ref da_spot, .ref da_kept, .ref da_aside, .int d_spare, .ref da_ran, .ref da_who, .ref da_cap, .ref da_w, .ref da_laid, .int d_whoMany, .int d_drifted, .int d_seed, .ref da_cries, .ref da_holds, .ref da_came, .ref da_least, .ref da_firstTo, .int d_steps, .int d_roundFrom, .int d_roundMany, .int d_numberAt])), (da_many, .inl (cy 0, 5, .inl df_many)), (da_spot, .inl (cy 5, 6, .inr (.inr (.inr (.inr (fun i => if i < 6 then some (da_spot + 1 + i) else none)))))), ((da_spot + 1 + 0), .inl (cy 0, 2, .inl ((dF_spot 0)))), ((da_spot + 1 + 1), .inl (cy 0, 2, .inl ((dF_spot 1)))), ((da_spot + 1 + 2), .inl (cy 0, 2, .inl ((dF_spot 2)))), ((da_spot + 1 + 3), .inl (cy 0, 2, .inl ((dF_spot 3)))), ((da_spot + 1 + 4), .inl (cy 0, 2, .inl ((dF_spot 4)))), ((da_spot + 1 + 5), .inl (cy 0, 2, .inl ((dF_spot 5))))] := hD
                  refine lv_istore (lv' := [(6, .int r96q), (5, .int k93qy5), (2, .int 46656), (4, .int k93qy4), (3, .int k93qy3), (0, .ref da), (1, .int w0)]) hx hb dX12_placed_97 hl (by decide) rfl (fun ls hl => ?_)
                  refine lv_iload hx hb dX12_placed_99 (lv_at hl 0 rfl) ?_
                  refine lv_iconst (v := (-1)) hx hb dX12_placed_101 (by decide) ?_
                  refine lv_icmp_eq (tgt := 127) hx hb dX12_placed_102 (by decide) (fun c98q => ?_) (fun c98q => ?_)
                  · simp only [k_lt, k_le, k_eq, ne_eq, ge_iff_le, gt_iff_lt, n_Lm1] at c98q
                    obtain ⟨x99q, ex99q⟩ : ∃ z : Int32, z = k93qy5 + 1 := ⟨_, rfl⟩
                    refine lv_iinc (v := x99q) (lv' := [(5, .int x99q), (6, .int r96q), (2, .int 46656), (4, .int k93qy4), (3, .int k93qy3), (0, .ref da), (1, .int w0)]) hx hb dX12_placed_127 hl (k := 1) rfl (by rw [ex99q]; rfl) (by decide) rfl (fun ls hl => ?_)
                    have rx99q := n_add ex99q (a := k93qy5.toInt) (b := 1) rfl n_L1 (by omega) (by omega)
                    refine lv_goto (tgt := 84) hx hb dX12_placed_130 (by decide) ?_
                    exact k93qih ((46656 - x99q.toInt).toNat) (by omega) k93qy3 k93qy4 x99q H locs ls ⟨by omega, by omega⟩ rfl (hP.sub [1, 2, 3, 4, 5, 6, 7, 8, 0] rfl) (hD.sub [1, 2, 3, 4, 5, 6, 7, 8, 0] (by decide) rfl) hS (lv_sub hl [0, 2, 3, 4, 5, 6] rfl)
                  · simp only [k_lt, k_le, k_eq, ne_eq, ge_iff_le, gt_iff_lt, n_Lm1] at c98q
                    refine lv_iload_n hx hb dX12_placed_105 rfl (lv_at hl 4 rfl) ?_
                    refine lv_iconst (v := (-1)) hx hb dX12_placed_106 (by decide) ?_
                    refine lv_icmp_eq (tgt := 120) hx hb dX12_placed_107 (by decide) (fun c100q => ?_) (fun c100q => ?_)
                    · simp only [k_lt, k_le, k_eq, ne_eq, ge_iff_le, gt_iff_lt, n_Lm1] at c100q
                      refine lv_iload hx hb dX12_placed_120 (lv_at hl 1 rfl) ?_
                      refine lv_istore_n (lv' := [(3, .int k93qy5), (6, .int r96q), (5, .int k93qy5), (2, .int 46656), (4, .int k93qy4), (0, .ref da), (1, .int w0)]) hx hb dX12_placed_122 rfl hl (by decide) rfl (fun ls hl => ?_)
                      refine lv_iload hx hb dX12_placed_123 (lv_at hl 1 rfl) ?_
                      refine lv_istore (lv' := [(4, .int r96q), (3, .int k93qy5), (6, .int r96q), (5, .int k93qy5), (2, .int 46656), (0, .ref da), (1, .int w0)]) hx hb dX12_placed_125 hl (by decide) rfl (fun ls hl => ?_)
                      obtain ⟨x101q, ex101q⟩ : ∃ z : Int32, z = k93qy5 + 1 := ⟨_, rfl⟩
                      refine lv_iinc (v := x101q) (lv' := [(5, .int x101q), (4, .int r96q), (3, .int k93qy5), (6, .int r96q), (2, .int 46656), (0, .ref da), (1, .int w0)]) hx hb dX12_placed_127 hl (k := 3) rfl (by rw [ex101q]; rfl) (by decide) rfl (fun ls hl => ?_)
                      have rx101q := n_add ex101q (a := k93qy5.toInt) (b := 1) rfl n_L1 (by omega) (by omega)
                      refine lv_goto (tgt := 84) hx hb dX12_placed_130 (by decide) ?_
                      exact k93qih ((46656 - x101q.toInt).toNat) (by omega) k93qy5 r96q x101q H locs ls ⟨by omega, by omega⟩ rfl (hP.sub [1, 2, 3, 4, 5, 6, 7, 8, 0] rfl) (hD.sub [1, 2, 3, 4, 5, 6, 7, 8, 0] (by decide) rfl) hS (lv_sub hl [0, 4, 1, 2, 5, 6] rfl)
                    · simp only [k_lt, k_le, k_eq, ne_eq, ge_iff_le, gt_iff_lt, n_Lm1] at c100q
                      refine lv_iload hx hb dX12_placed_110 (lv_at hl 0 rfl) ?_
                      refine lv_iload hx hb dX12_placed_112 (lv_at hl 3 rfl) ?_
                      refine lv_icmp_lt (tgt := 120) hx hb dX12_placed_114 (by decide) (fun c102q => ?_) (fun c102q => ?_)
                      · simp only [k_lt, k_le, k_eq, ne_eq, ge_iff_le, gt_iff_lt] at c102q
                        refine lv_iload hx hb dX12_placed_120 (lv_at hl 1 rfl) ?_
                        refine lv_istore_n (lv' := [(3, .int k93qy5), (6, .int r96q), (5, .int k93qy5), (2, .int 46656), (4, .int k93qy4), (0, .ref da), (1, .int w0)]) hx hb dX12_placed_122 rfl hl (by decide) rfl (fun ls hl => ?_)
                        refine lv_iload hx hb dX12_placed_123 (lv_at hl 1 rfl) ?_
                        refine lv_istore (lv' := [(4, .int r96q), (3, .int k93qy5), (6, .int r96q), (5, .int k93qy5), (2, .int 46656), (0, .ref da), (1, .int w0)]) hx hb dX12_placed_125 hl (by decide) rfl (fun ls hl => ?_)
                        obtain ⟨x103q, ex103q⟩ : ∃ z : Int32, z = k93qy5 + 1 := ⟨_, rfl⟩
                        refine lv_iinc (v := x103q) (lv' := [(5, .int x103q), (4, .int r96q), (3, .int k93qy5), (6, .int r96q), (2, .int 46656), (0, .ref da), (1, .int w0)]) hx hb dX12_placed_127 hl (k := 3) rfl (by rw [ex103q]; rfl) (by decide) rfl (fun ls hl => ?_)
                        have rx103q := n_add ex103q (a := k93qy5.toInt) (b := 1) rfl n_L1 (by omega) (by omega)
                        refine lv_goto (tgt := 84) hx hb dX12_placed_130 (by decide) ?_
                        exact k93qih ((46656 - x103q.toInt).toNat) (by omega) k93qy5 r96q x103q H locs ls ⟨by omega, by omega⟩ rfl (hP.sub [1, 2, 3, 4, 5, 6, 7, 8, 0] rfl) (hD.sub [1, 2, 3, 4, 5, 6, 7, 8, 0] (by decide) rfl) hS (lv_sub hl [0, 4, 1, 2, 5, 6] rfl)
                      · simp only [k_lt, k_le, k_eq, ne_eq, ge_iff_le, gt_iff_lt] at c102q
                        refine lv_goto (tgt := 127) hx hb dX12_placed_117 (by decide) ?_
                        obtain ⟨x104q, ex104q⟩ : ∃ z : Int32, z = k93qy5 + 1 := ⟨_, rfl⟩
                        refine lv_iinc (v := x104q) (lv' := [(5, .int x104q), (6, .int r96q), (2, .int 46656), (4, .int k93qy4), (3, .int k93qy3), (0, .ref da), (1, .int w0)]) hx hb dX12_placed_127 hl (k := 1) rfl (by rw [ex104q]; rfl) (by decide) rfl (fun ls hl => ?_)
                        have rx104q := n_add ex104q (a := k93qy5.toInt) (b := 1) rfl n_L1 (by omega) (by omega)
                        refine lv_goto (tgt := 84) hx hb dX12_placed_130 (by decide) ?_
                        exact k93qih ((46656 - x104q.toInt).toNat) (by omega) k93qy3 k93qy4 x104q H locs ls ⟨by omega, by omega⟩ rfl (hP.sub [1, 2, 3, 4, 5, 6, 7, 8, 0] rfl) (hD.sub [1, 2, 3, 4, 5, 6, 7, 8, 0] (by decide) rfl) hS (lv_sub hl [0, 2, 3, 4, 5, 6] rfl)
            exact k93q _ (-1) 0 0 H locs ls ⟨by rw [n_L0]; omega, by rw [n_L0]; omega⟩ rfl hP hD hS (lv_sub hl [0, 1, 2, 3, 4, 5] rfl)
        · simp only [k_lt, k_le, k_eq, ne_eq, ge_iff_le, gt_iff_lt] at c11q
          refine lv_iconst (v := (-1)) hx hb dX12_placed_49 (by decide) ?_
          rw [hQ0]
          exact k_iret (fun k => [((u6q.1 0))].getD k 0, fun k => [].getD k (fun _ => 0)) hx hb hr hlk (trivial) (hP.sub [8, 0, 1, 2, 3, 4, 5, 6, 7] rfl) (hD.sub [8, 0, 1, 2, 3, 4, 5, 6, 7] (by decide) rfl) hS (by decide) (by decide) dX12_placed_50
    · simp only [k_lt, k_le, k_eq, ne_eq, ge_iff_le, gt_iff_lt, n_L0, n_L0] at c8q
      refine lv_iconst (v := 0) hx hb dX12_placed_27 (by decide) ?_
      rw [hQ0]
      exact k_iret (fun k => [((u6q.1 0))].getD k 0, fun k => [].getD k (fun _ => 0)) hx hb hr hlk (trivial) (hP.sub [8, 0, 1, 2, 3, 4, 5, 6, 7] rfl) (hD.sub [8, 0, 1, 2, 3, 4, 5, 6, 7] (by decide) rfl) hS (by decide) (by decide) dX12_placed_28
  · simp only [k_lt, k_le, k_eq, ne_eq, ge_iff_le, gt_iff_lt, n_L0, n_L0] at c4q
    refine lv_iconst (v := 1) hx hb dX12_placed_15 (by decide) ?_
    refine lv_goto (tgt := 20) hx hb dX12_placed_16 (by decide) ?_
    refine lv_iconst (v := 1) hx hb dX12_placed_20 (by decide) ?_
    refine k_cali [1, 2, 3, 4, 5, 6, 7, 8] (⟨hP, hD, hG, hS, hA, rfl, rfl⟩ : kAt D cy sa A s H _ _ [(da, .inr (13, [.int 0, .int d_tape, .int d_size, .int d_place, .int d_at, .int d_fault, .int d_faultAt, .int d_clauses, .ref da_fed, .ref da_readBody, .ref da_body, .ref da_readMany, .ref da_many, .ref da_without, .ref da_did, .ref da_done, .ref da_bed, .int d_now, .int d_mindAt, .int d_way, .int d_harm, .int d_worth, .int d_passes, .int d_passings, .int d_spots, .int d_images, .ref da_passing, .ref da_spot, .ref da_kept, .ref da_aside, .int d_spare, .ref da_ran, .ref da_who, .ref da_cap, .ref da_w, .ref da_laid, .int d_whoMany, .int d_drifted, .int d_seed, .ref da_cries, .ref da_holds, .ref da_came, .ref da_least, .ref da_firstTo, .int d_steps, .int d_roundFrom, .int d_roundMany, .int d_numberAt]))] [0]) (wr := [(da_many, .inl (cy 0, 5, .inl df_many)), (da_spot, .inl (cy 5, 6, .inr (.inr (.inr (.inr (fun i => if i < 6 then some (da_spot + 1 + i) else none)))))), ((da_spot + 1 + 0), .inl (cy 0, 2, .inl ((dF_spot 0)))), ((da_spot + 1 + 1), .inl (cy 0, 2, .inl ((dF_spot 1)))), ((da_spot + 1 + 2), .inl (cy 0, 2, .inl ((dF_spot 2)))), ((da_spot + 1 + 3), .inl (cy 0, 2, .inl ((dF_spot 3)))), ((da_spot + 1 + 4), .inl (cy 0, 2, .inl ((dF_spot 4)))), ((da_spot + 1 + 5), .inl (cy 0, 2, .inl ((dF_spot 5))))]) rfl rfl (by decide) (k_runV 13 0 (As := [.int 1, .int 1]) (rest := []) E lk_VRX12_169 rfl rfl rfl (m_bad l hl0 D cy sa da da_fed da_readBody da_body da_readMany da_many da_without da_did da_done da_bed da_passing da_spot da_kept da_aside da_ran da_who da_cap da_w da_laid da_cries da_holds da_came da_least da_firstTo 0 d_tape d_size d_place d_at d_fault d_faultAt d_clauses d_now d_mindAt d_way d_harm d_worth d_passes d_passings d_spots d_images d_spare d_whoMany d_drifted d_seed d_steps d_roundFrom d_roundMany d_numberAt 1 1 ⟨by omega, by omega⟩ ⟨by omega, by omega⟩ ⟨by omega, by omega⟩ ⟨by omega, by omega⟩ ⟨by omega, by omega⟩ ⟨by omega, by omega⟩ ⟨by omega, by omega⟩ ⟨by omega, by omega⟩ ⟨by omega, by omega⟩ ⟨by omega, by omega⟩ (by decide) H.size) (⟨hP, hD, hG, hS, hA, rfl, rfl⟩ : kAt D cy sa A s H _ _ [(da, .inr (13, [.int 0, .int d_tape, .int d_size, .int d_place, .int d_at, .int d_fault, .int d_faultAt, .int d_clauses, .ref da_fed, .ref da_readBody, .ref da_body, .ref da_readMany, .ref da_many, .ref da_without, .ref da_did, .ref da_done, .ref da_bed, .int d_now, .int d_mindAt, .int d_way, .int d_harm, .int d_worth, .int d_passes, .int d_passings, .int d_spots, .int d_images, .ref da_passing, .ref da_spot, .ref da_kept, .ref da_aside, .int d_spare, .ref da_ran, .ref da_who, .ref da_cap, .ref da_w, .ref da_laid, .int d_whoMany, .int d_drifted, .int d_seed, .ref da_cries, .ref da_holds, .ref da_came, .ref da_least, .ref da_firstTo, .int d_steps, .int d_roundFrom, .int d_roundMany, .int d_numberAt]))] [0]) hl.1 rfl rfl ⟨rfl, rfl, ⟨Nat.le_of_ble_eq_true rfl, Nat.le_of_ble_eq_true rfl⟩, ⟨Nat.le_of_ble_eq_true rfl, Nat.le_of_ble_eq_true rfl⟩, Nat.le_of_ble_eq_true rfl⟩ dX12_placed_21) (fun r105q u106q H locs hwu106q hP hD hS => ?_)
    have hP : va_P D vwCl [(da_many, .inl (cy 0, 5, .inl df_many)), (da_spot, .inl (cy 5, 6, .inr (.inr (.inr (.inr (fun i => if i < 6 then some (da_spot + 1 + i) else none)))))), ((da_spot + 1 + 0), .inl (cy 0, 2, .inl ((dF_spot 0)))), ((da_spot + 1 + 1), .inl (cy 0, 2, .inl ((dF_spot 1)))), ((da_spot + 1 + 2), .inl (cy 0, 2, .inl ((dF_spot 2)))), ((da_spot + 1 + 3), .inl (cy 0, 2, .inl ((dF_spot 3)))), ((da_spot + 1 + 4), .inl (cy 0, 2, .inl ((dF_spot 4)))), ((da_spot + 1 + 5), .inl (cy 0, 2, .inl ((dF_spot 5)))), (da, .inr (13, [.int ((u106q.1 0)), .int d_tape, .int d_size, .int d_place, .int d_at, .int d_fault, .int d_faultAt, .int d_clauses, .ref da_fed, .ref da_readBody, .ref da_body, .ref da_readMany, .ref da_many, .ref da_without, .ref da_did, .ref da_done, .ref da_bed, .int d_now, .int d_mindAt, .int d_way, .int d_harm, .int d_worth, .int d_passes, .int d_passings, .int d_spots, .int d_images, .ref da_passing, .ref da_spot, .ref da_kept, .ref da_aside, .int d_spare, .ref da_ran, .ref da_who, .ref da_cap, .ref da_w, .ref da_laid, .int d_whoMany, .int d_drifted, .int d_seed, .ref da_cries, .ref da_holds, .ref da_came, .ref da_least, .ref da_firstTo, .int d_steps, .int d_roundFrom, .int d_roundMany, .int d_numberAt]))] H := hP
    have hD : va_D A [(da_many, .inl (cy 0, 5, .inl df_many)), (da_spot, .inl (cy 5, 6, .inr (.inr (.inr (.inr (fun i => if i < 6 then some (da_spot + 1 + i) else none)))))), ((da_spot + 1 + 0), .inl (cy 0, 2, .inl ((dF_spot 0)))), ((da_spot + 1 + 1), .inl (cy 0, 2, .inl ((dF_spot 1)))), ((da_spot + 1 + 2), .inl (cy 0, 2, .inl ((dF_spot 2)))), ((da_spot + 1 + 3), .inl (cy 0, 2, .inl ((dF_spot 3)))), ((da_spot + 1 + 4), .inl (cy 0, 2, .inl ((dF_spot 4)))), ((da_spot + 1 + 5), .inl (cy 0, 2, .inl ((dF_spot 5)))), (da, .inr (13, [.int ((u106q.1 0)), .int d_tape, .int d_size, .int d_place, .int d_at, .int d_fault, .int d_faultAt, .int d_clauses, .ref da_fed, .ref da_readBody, .ref da_body, .ref da_readMany, .ref da_many, .ref da_without, .ref da_did, .ref da_done, .ref da_bed, .int d_now, .int d_mindAt, .int d_way, .int d_harm, .int d_worth, .int d_passes, .int d_passings, .int d_spots, .int d_images, .ref da_passing, .ref da_spot, .ref da_kept, .ref da_aside, .int d_spare, .ref da_ran, .ref da_who, .ref da_cap, .ref da_w, .ref da_laid, .int d_whoMany, .int d_drifted, .int d_seed, .ref da_cries, .ref da_holds, .ref da_came, .ref da_least, .ref da_firstTo, .int d_steps, .int d_roundFrom, .int d_roundMany, .int d_numberAt]))] := hD
    have p107q := hwu106q
    try simp only [n_L0, n_L1] at p107q
    have br105q : r105q.toInt = 1 := by simpa using p107q
    refine lv_if_eq (tgt := 29) hx hb dX12_placed_24 (by decide) (fun c108q => by exfalso; simp only [k_lt, k_le, k_eq, ne_eq, ge_iff_le, gt_iff_lt, n_L0, n_L0] at c108q; omega) (fun c108q => ?_)
    simp only [k_lt, k_le, k_eq, ne_eq, ge_iff_le, gt_iff_lt, n_L0, n_L0] at c108q
    refine lv_iconst (v := 0) hx hb dX12_placed_27 (by decide) ?_
    rw [hQ0]
    exact k_iret (fun k => [((u106q.1 0))].getD k 0, fun k => [].getD k (fun _ => 0)) hx hb hr hlk (trivial) (hP.sub [8, 0, 1, 2, 3, 4, 5, 6, 7] rfl) (hD.sub [8, 0, 1, 2, 3, 4, 5, 6, 7] (by decide) rfl) hS (by decide) (by decide) dX12_placed_28
