theorem wm_2006 : Cond.code yX12_roundOf cX12_roundOf 9 (some .int) ∈ kWS := kws_at 2006 (by decide +kernel) (by decide +kernel)
theorem wm_2003 : Cond.methodLink RX12 340 yX12_roundOf ∈ kWS := kws_at 2003 (by decide +kernel) (by decide +kernel)
theorem wm_s88 : Cond.selects RX12 yX12_roundOf yX12_roundOf ∈ kWS := kws_sel 88 (by decide +kernel) (by decide +kernel)
theorem wm_2005 : Cond.instanceMethod yX12_roundOf ∈ kWS := kws_at 2005 (by decide +kernel) (by decide +kernel)
theorem lk_VRX12_340 : kLV RX12 340 yX12_roundOf (Cond.code yX12_roundOf cX12_roundOf 9 (some .int)) 2 := ⟨wm_2003, wm_2005, wm_s88, wm_12, wm_2006, ⟨by decide +kernel, by decide +kernel, by decide +kernel⟩⟩
theorem n_L46656 : (46656 : Int32).toInt = 46656 := by decide
theorem dX12_placed_0 : decode cX12_placed 0 = .ok (.aload_n 0, 1) := by decide +kernel
theorem dX12_placed_1 : decode cX12_placed 1 = .ok (.iconst 0, 1) := by decide +kernel
theorem dX12_placed_2 : decode cX12_placed 2 = .ok (.putfield 87, 3) := by decide +kernel
theorem dX12_placed_5 : decode cX12_placed 5 = .ok (.aload_n 0, 1) := by decide +kernel
theorem dX12_placed_6 : decode cX12_placed 6 = .ok (.iload_n 1, 1) := by decide +kernel
theorem dX12_placed_7 : decode cX12_placed 7 = .ok (.iconst 0, 1) := by decide +kernel
theorem dX12_placed_8 : decode cX12_placed 8 = .ok (.iconst 1, 1) := by decide +kernel
theorem dX12_placed_9 : decode cX12_placed 9 = .ok (.invokestatic 124, 3) := by decide +kernel
theorem dX12_placed_12 : decode cX12_placed 12 = .ok (.ifCond .ne 7, 3) := by decide +kernel
theorem dX12_placed_15 : decode cX12_placed 15 = .ok (.iconst 1, 1) := by decide +kernel
theorem dX12_placed_16 : decode cX12_placed 16 = .ok (.goto 4, 3) := by decide +kernel
theorem dX12_placed_19 : decode cX12_placed 19 = .ok (.iconst 0, 1) := by decide +kernel
theorem dX12_placed_20 : decode cX12_placed 20 = .ok (.iconst 1, 1) := by decide +kernel
theorem dX12_placed_21 : decode cX12_placed 21 = .ok (.invokevirtual 169, 3) := by decide +kernel
theorem dX12_placed_24 : decode cX12_placed 24 = .ok (.ifCond .eq 5, 3) := by decide +kernel
theorem dX12_placed_27 : decode cX12_placed 27 = .ok (.iconst 0, 1) := by decide +kernel
theorem dX12_placed_28 : decode cX12_placed 28 = .ok (.ireturn, 1) := by decide +kernel
theorem dX12_placed_29 : decode cX12_placed 29 = .ok (.aload_n 0, 1) := by decide +kernel
theorem dX12_placed_30 : decode cX12_placed 30 = .ok (.getfield 197, 3) := by decide +kernel
theorem dX12_placed_33 : decode cX12_placed 33 = .ok (.ifCond .eq 16, 3) := by decide +kernel
theorem dX12_placed_36 : decode cX12_placed 36 = .ok (.aload_n 0, 1) := by decide +kernel
theorem dX12_placed_37 : decode cX12_placed 37 = .ok (.getfield 197, 3) := by decide +kernel
theorem dX12_placed_40 : decode cX12_placed 40 = .ok (.aload_n 0, 1) := by decide +kernel
theorem dX12_placed_41 : decode cX12_placed 41 = .ok (.getfield 28, 3) := by decide +kernel
theorem dX12_placed_44 : decode cX12_placed 44 = .ok (.iconst 0, 1) := by decide +kernel
theorem dX12_placed_45 : decode cX12_placed 45 = .ok (.iaload, 1) := by decide +kernel
theorem dX12_placed_46 : decode cX12_placed 46 = .ok (.if_icmp .le 5, 3) := by decide +kernel
theorem dX12_placed_49 : decode cX12_placed 49 = .ok (.iconst (-1), 1) := by decide +kernel
theorem dX12_placed_50 : decode cX12_placed 50 = .ok (.ireturn, 1) := by decide +kernel
theorem dX12_placed_51 : decode cX12_placed 51 = .ok (.iconst 1, 1) := by decide +kernel
theorem dX12_placed_52 : decode cX12_placed 52 = .ok (.istore_n 2, 1) := by decide +kernel
theorem dX12_placed_53 : decode cX12_placed 53 = .ok (.iconst (-1), 1) := by decide +kernel
theorem dX12_placed_54 : decode cX12_placed 54 = .ok (.istore_n 3, 1) := by decide +kernel
theorem dX12_placed_55 : decode cX12_placed 55 = .ok (.iconst 0, 1) := by decide +kernel
theorem dX12_placed_56 : decode cX12_placed 56 = .ok (.istore 4, 2) := by decide +kernel
theorem dX12_placed_58 : decode cX12_placed 58 = .ok (.iconst 0, 1) := by decide +kernel
theorem dX12_placed_59 : decode cX12_placed 59 = .ok (.istore 5, 2) := by decide +kernel
theorem dX12_placed_61 : decode cX12_placed 61 = .ok (.iload 5, 2) := by decide +kernel
theorem dX12_placed_63 : decode cX12_placed 63 = .ok (.aload_n 0, 1) := by decide +kernel
theorem dX12_placed_64 : decode cX12_placed 64 = .ok (.getfield 197, 3) := by decide +kernel
theorem dX12_placed_67 : decode cX12_placed 67 = .ok (.if_icmp .ge 14, 3) := by decide +kernel
theorem dX12_placed_70 : decode cX12_placed 70 = .ok (.iload_n 2, 1) := by decide +kernel
theorem dX12_placed_71 : decode cX12_placed 71 = .ok (.bipush 6, 2) := by decide +kernel
theorem dX12_placed_73 : decode cX12_placed 73 = .ok (.imul, 1) := by decide +kernel
theorem dX12_placed_74 : decode cX12_placed 74 = .ok (.istore_n 2, 1) := by decide +kernel
theorem dX12_placed_75 : decode cX12_placed 75 = .ok (.iinc 5 1, 3) := by decide +kernel
theorem dX12_placed_78 : decode cX12_placed 78 = .ok (.goto (-17), 3) := by decide +kernel
theorem dX12_placed_81 : decode cX12_placed 81 = .ok (.iconst 0, 1) := by decide +kernel
theorem dX12_placed_82 : decode cX12_placed 82 = .ok (.istore 5, 2) := by decide +kernel
theorem dX12_placed_84 : decode cX12_placed 84 = .ok (.iload 5, 2) := by decide +kernel
theorem dX12_placed_86 : decode cX12_placed 86 = .ok (.iload_n 2, 1) := by decide +kernel
theorem dX12_placed_87 : decode cX12_placed 87 = .ok (.if_icmp .ge 46, 3) := by decide +kernel
theorem dX12_placed_90 : decode cX12_placed 90 = .ok (.aload_n 0, 1) := by decide +kernel
theorem dX12_placed_91 : decode cX12_placed 91 = .ok (.iload 5, 2) := by decide +kernel
theorem dX12_placed_93 : decode cX12_placed 93 = .ok (.iload_n 2, 1) := by decide +kernel
theorem dX12_placed_94 : decode cX12_placed 94 = .ok (.invokevirtual 340, 3) := by decide +kernel
theorem dX12_placed_97 : decode cX12_placed 97 = .ok (.istore 6, 2) := by decide +kernel
theorem dX12_placed_99 : decode cX12_placed 99 = .ok (.iload 6, 2) := by decide +kernel
theorem dX12_placed_101 : decode cX12_placed 101 = .ok (.iconst (-1), 1) := by decide +kernel
theorem dX12_placed_102 : decode cX12_placed 102 = .ok (.if_icmp .eq 25, 3) := by decide +kernel
theorem dX12_placed_105 : decode cX12_placed 105 = .ok (.iload_n 3, 1) := by decide +kernel
theorem dX12_placed_106 : decode cX12_placed 106 = .ok (.iconst (-1), 1) := by decide +kernel
theorem dX12_placed_107 : decode cX12_placed 107 = .ok (.if_icmp .eq 13, 3) := by decide +kernel
theorem dX12_placed_110 : decode cX12_placed 110 = .ok (.iload 6, 2) := by decide +kernel
theorem dX12_placed_112 : decode cX12_placed 112 = .ok (.iload 4, 2) := by decide +kernel
theorem dX12_placed_114 : decode cX12_placed 114 = .ok (.if_icmp .lt 6, 3) := by decide +kernel
theorem dX12_placed_117 : decode cX12_placed 117 = .ok (.goto 10, 3) := by decide +kernel
theorem dX12_placed_120 : decode cX12_placed 120 = .ok (.iload 5, 2) := by decide +kernel
theorem dX12_placed_122 : decode cX12_placed 122 = .ok (.istore_n 3, 1) := by decide +kernel
theorem dX12_placed_123 : decode cX12_placed 123 = .ok (.iload 6, 2) := by decide +kernel
theorem dX12_placed_125 : decode cX12_placed 125 = .ok (.istore 4, 2) := by decide +kernel
theorem dX12_placed_127 : decode cX12_placed 127 = .ok (.iinc 5 1, 3) := by decide +kernel
theorem dX12_placed_130 : decode cX12_placed 130 = .ok (.goto (-46), 3) := by decide +kernel
theorem dX12_placed_133 : decode cX12_placed 133 = .ok (.iload_n 1, 1) := by decide +kernel
theorem dX12_placed_134 : decode cX12_placed 134 = .ok (.ifCond .ne 8, 3) := by decide +kernel
theorem dX12_placed_137 : decode cX12_placed 137 = .ok (.iload 4, 2) := by decide +kernel
theorem dX12_placed_139 : decode cX12_placed 139 = .ok (.goto 4, 3) := by decide +kernel
theorem dX12_placed_142 : decode cX12_placed 142 = .ok (.iload_n 3, 1) := by decide +kernel
theorem dX12_placed_143 : decode cX12_placed 143 = .ok (.ireturn, 1) := by decide +kernel
set_option maxHeartbeats 4000000 in
set_option maxRecDepth 100000 in
/-- the reference: placed -/
theorem m_placed (l : Launch) (hl0 : l.stackTraces = false) (D : va_G) (cy : Nat → ClassId) (sa : Nat → Nat) (da da_fed da_readBody da_body da_readMany da_many da_without da_did da_done da_bed da_passing da_spot da_kept da_aside da_ran da_who da_cap da_w da_laid da_cries da_holds da_came da_least da_firstTo : Nat) (d_thrown d_tape d_size d_place d_at d_fault d_faultAt d_clauses d_now d_mindAt d_way d_harm d_worth d_passes d_passings d_spots d_images d_spare d_whoMany d_drifted d_seed d_steps d_roundFrom d_roundMany d_numberAt w0 : Int32) (df_many : Nat → Int32) (dF_spot : Nat → Nat → Int32) (h_d_tape : 0 ≤ d_tape.toInt ∧ d_tape.toInt ≤ 500) (h_d_size : 0 ≤ d_size.toInt ∧ d_size.toInt ≤ 500) (h_d_at : 0 ≤ d_at.toInt ∧ d_at.toInt ≤ 500) (h_d_clauses : 0 ≤ d_clauses.toInt ∧ d_clauses.toInt ≤ 40) (h_d_now : 0 ≤ d_now.toInt ∧ d_now.toInt ≤ 480) (h_d_mindAt : 0 ≤ d_mindAt.toInt ∧ d_mindAt.toInt ≤ 8) (h_d_passings : 0 ≤ d_passings.toInt ∧ d_passings.toInt ≤ 30) (h_d_spots : 0 ≤ d_spots.toInt ∧ d_spots.toInt ≤ 6) (h_d_images : 0 ≤ d_images.toInt ∧ d_images.toInt ≤ 3) (h_d_whoMany : 0 ≤ d_whoMany.toInt ∧ d_whoMany.toInt ≤ 4) (hx_df_many : (0 ≤ (df_many 0).toInt ∧ (df_many 0).toInt ≤ 9) ∧ (0 ≤ (df_many 1).toInt ∧ (df_many 1).toInt ≤ 9) ∧ (0 ≤ (df_many 2).toInt ∧ (df_many 2).toInt ≤ 30) ∧ (0 ≤ (df_many 3).toInt ∧ (df_many 3).toInt ≤ 480) ∧ (((df_many 0).toInt = 0 ∧ (df_many 3).toInt = 0) ∨ 1 ≤ (df_many 2).toInt)) (hc_dF_spot_0 : ∀ b, b < 6 → 0 ≤ (dF_spot b 0).toInt ∧ (dF_spot b 0).toInt ≤ 15) (hc_dF_spot_1 : ∀ b, b < 6 → 0 ≤ (dF_spot b 1).toInt ∧ (dF_spot b 1).toInt ≤ 15) (sz : Nat) : Met l yX12_placed (Cond.code yX12_placed cX12_placed 7 (some .int) :: kWS) ({ frames := 13, cells := 0, slots := 0, locals := 480 }) (kPre D cy sa [.ref da, .int w0] [(da, .inr (13, [.int d_thrown, .int d_tape, .int d_size, .int d_place, .int d_at, .int d_fault, .int d_faultAt, .int d_clauses, .ref da_fed, .ref da_readBody, .ref da_body, .ref da_readMany, .ref da_many, .ref da_without, .ref da_did, .ref da_done, .ref da_bed, .int d_now, .int d_mindAt, .int d_way, .int d_harm, .int d_worth, .int d_passes, .int d_passings, .int d_spots, .int d_images, .ref da_passing, .ref da_spot, .ref da_kept, .ref da_aside, .int d_spare, .ref da_ran, .ref da_who, .ref da_cap, .ref da_w, .ref da_laid, .int d_whoMany, .int d_drifted, .int d_seed, .ref da_cries, .ref da_holds, .ref da_came, .ref da_least, .ref da_firstTo, .int d_steps, .int d_roundFrom, .int d_roundMany, .int d_numberAt])), (da_many, .inl (cy 0, 5, .inl df_many)), (da_spot, .inl (cy 5, 6, .inr (.inr (.inr (.inr (fun i => if i < 6 then some (da_spot + 1 + i) else none)))))), ((da_spot + 1 + 0), .inl (cy 0, 2, .inl ((dF_spot 0)))), ((da_spot + 1 + 1), .inl (cy 0, 2, .inl ((dF_spot 1)))), ((da_spot + 1 + 2), .inl (cy 0, 2, .inl ((dF_spot 2)))), ((da_spot + 1 + 3), .inl (cy 0, 2, .inl ((dF_spot 3)))), ((da_spot + 1 + 4), .inl (cy 0, 2, .inl ((dF_spot 4)))), ((da_spot + 1 + 5), .inl (cy 0, 2, .inl ((dF_spot 5))))] sz) (va_Qi (fun (r : Int32) (u : (Nat → Int32) × (Nat → Nat → Int32)) => True) (kB D (va_A [(da, .inr (13, [.int d_thrown, .int d_tape, .int d_size, .int d_place, .int d_at, .int d_fault, .int d_faultAt, .int d_clauses, .ref da_fed, .ref da_readBody, .ref da_body, .ref da_readMany, .ref da_many, .ref da_without, .ref da_did, .ref da_done, .ref da_bed, .int d_now, .int d_mindAt, .int d_way, .int d_harm, .int d_worth, .int d_passes, .int d_passings, .int d_spots, .int d_images, .ref da_passing, .ref da_spot, .ref da_kept, .ref da_aside, .int d_spare, .ref da_ran, .ref da_who, .ref da_cap, .ref da_w, .ref da_laid, .int d_whoMany, .int d_drifted, .int d_seed, .ref da_cries, .ref da_holds, .ref da_came, .ref da_least, .ref da_firstTo, .int d_steps, .int d_roundFrom, .int d_roundMany, .int d_numberAt])), (da_many, .inl (cy 0, 5, .inl df_many)), (da_spot, .inl (cy 5, 6, .inr (.inr (.inr (.inr (fun i => if i < 6 then some (da_spot + 1 + i) else none)))))), ((da_spot + 1 + 0), .inl (cy 0, 2, .inl ((dF_spot 0)))), ((da_spot + 1 + 1), .inl (cy 0, 2, .inl ((dF_spot 1)))), ((da_spot + 1 + 2), .inl (cy 0, 2, .inl ((dF_spot 2)))), ((da_spot + 1 + 3), .inl (cy 0, 2, .inl ((dF_spot 3)))), ((da_spot + 1 + 4), .inl (cy 0, 2, .inl ((dF_spot 4)))), ((da_spot + 1 + 5), .inl (cy 0, 2, .inl ((dF_spot 5))))] sz) (fun (u : (Nat → Int32) × (Nat → Nat → Int32)) => [(da, .inr (13, [.int ((u.1 0)), .int d_tape, .int d_size, .int d_place, .int d_at, .int d_fault, .int d_faultAt, .int d_clauses, .ref da_fed, .ref da_readBody, .ref da_body, .ref da_readMany, .ref da_many, .ref da_without, .ref da_did, .ref da_done, .ref da_bed, .int d_now, .int d_mindAt, .int d_way, .int d_harm, .int d_worth, .int d_passes, .int d_passings, .int d_spots, .int d_images, .ref da_passing, .ref da_spot, .ref da_kept, .ref da_aside, .int d_spare, .ref da_ran, .ref da_who, .ref da_cap, .ref da_w, .ref da_laid, .int d_whoMany, .int d_drifted, .int d_seed, .ref da_cries, .ref da_holds, .ref da_came, .ref da_least, .ref da_firstTo, .int d_steps, .int d_roundFrom, .int d_roundMany, .int d_numberAt])), (da_many, .inl (cy 0, 5, .inl df_many)), (da_spot, .inl (cy 5, 6, .inr (.inr (.inr (.inr (fun i => if i < 6 then some (da_spot + 1 + i) else none)))))), ((da_spot + 1 + 0), .inl (cy 0, 2, .inl ((dF_spot 0)))), ((da_spot + 1 + 1), .inl (cy 0, 2, .inl ((dF_spot 1)))), ((da_spot + 1 + 2), .inl (cy 0, 2, .inl ((dF_spot 2)))), ((da_spot + 1 + 3), .inl (cy 0, 2, .inl ((dF_spot 3)))), ((da_spot + 1 + 4), .inl (cy 0, 2, .inl ((dF_spot 4)))), ((da_spot + 1 + 5), .inl (cy 0, 2, .inl ((dF_spot 5))))])) (va_A [(da, .inr (13, [.int d_thrown, .int d_tape, .int d_size, .int d_place, .int d_at, .int d_fault, .int d_faultAt, .int d_clauses, .ref da_fed, .ref da_readBody, .ref da_body, .ref da_readMany, .ref da_many, .ref da_without, .ref da_did, .ref da_done, .ref da_bed, .int d_now, .int d_mindAt, .int d_way, .int d_harm, .int d_worth, .int d_passes, .int d_passings, .int d_spots, .int d_images, .ref da_passing, .ref da_spot, .ref da_kept, .ref da_aside, .int d_spare, .ref da_ran, .ref da_who, .ref da_cap, .ref da_w, .ref da_laid, .int d_whoMany, .int d_drifted, .int d_seed, .ref da_cries, .ref da_holds, .ref da_came, .ref da_least, .ref da_firstTo, .int d_steps, .int d_roundFrom, .int d_roundMany, .int d_numberAt])), (da_many, .inl (cy 0, 5, .inl df_many)), (da_spot, .inl (cy 5, 6, .inr (.inr (.inr (.inr (fun i => if i < 6 then some (da_spot + 1 + i) else none)))))), ((da_spot + 1 + 0), .inl (cy 0, 2, .inl ((dF_spot 0)))), ((da_spot + 1 + 1), .inl (cy 0, 2, .inl ((dF_spot 1)))), ((da_spot + 1 + 2), .inl (cy 0, 2, .inl ((dF_spot 2)))), ((da_spot + 1 + 3), .inl (cy 0, 2, .inl ((dF_spot 3)))), ((da_spot + 1 + 4), .inl (cy 0, 2, .inl ((dF_spot 4)))), ((da_spot + 1 + 5), .inl (cy 0, 2, .inl ((dF_spot 5))))] sz)) 0 0 (va_A [(da, .inr (13, [.int d_thrown, .int d_tape, .int d_size, .int d_place, .int d_at, .int d_fault, .int d_faultAt, .int d_clauses, .ref da_fed, .ref da_readBody, .ref da_body, .ref da_readMany, .ref da_many, .ref da_without, .ref da_did, .ref da_done, .ref da_bed, .int d_now, .int d_mindAt, .int d_way, .int d_harm, .int d_worth, .int d_passes, .int d_passings, .int d_spots, .int d_images, .ref da_passing, .ref da_spot, .ref da_kept, .ref da_aside, .int d_spare, .ref da_ran, .ref da_who, .ref da_cap, .ref da_w, .ref da_laid, .int d_whoMany, .int d_drifted, .int d_seed, .ref da_cries, .ref da_holds, .ref da_came, .ref da_least, .ref da_firstTo, .int d_steps, .int d_roundFrom, .int d_roundMany, .int d_numberAt])), (da_many, .inl (cy 0, 5, .inl df_many)), (da_spot, .inl (cy 5, 6, .inr (.inr (.inr (.inr (fun i => if i < 6 then some (da_spot + 1 + i) else none)))))), ((da_spot + 1 + 0), .inl (cy 0, 2, .inl ((dF_spot 0)))), ((da_spot + 1 + 1), .inl (cy 0, 2, .inl ((dF_spot 1)))), ((da_spot + 1 + 2), .inl (cy 0, 2, .inl ((dF_spot 2)))), ((da_spot + 1 + 3), .inl (cy 0, 2, .inl ((dF_spot 3)))), ((da_spot + 1 + 4), .inl (cy 0, 2, .inl ((dF_spot 4)))), ((da_spot + 1 + 5), .inl (cy 0, 2, .inl ((dF_spot 5))))] sz) := by
  refine k_ofW (y := yX12_placed) (cc := cX12_placed) (maxL := 7) (ret := (some .int)) (av := [.ref da, .int w0]) (ws := [(da, .inr (13, [.int d_thrown, .int d_tape, .int d_size, .int d_place, .int d_at, .int d_fault, .int d_faultAt, .int d_clauses, .ref da_fed, .ref da_readBody, .ref da_body, .ref da_readMany, .ref da_many, .ref da_without, .ref da_did, .ref da_done, .ref da_bed, .int d_now, .int d_mindAt, .int d_way, .int d_harm, .int d_worth, .int d_passes, .int d_passings, .int d_spots, .int d_images, .ref da_passing, .ref da_spot, .ref da_kept, .ref da_aside, .int d_spare, .ref da_ran, .ref da_who, .ref da_cap, .ref da_w, .ref da_laid, .int d_whoMany, .int d_drifted, .int d_seed, .ref da_cries, .ref da_holds, .ref da_came, .ref da_least, .ref da_firstTo, .int d_steps, .int d_roundFrom, .int d_roundMany, .int d_numberAt])), (da_many, .inl (cy 0, 5, .inl df_many)), (da_spot, .inl (cy 5, 6, .inr (.inr (.inr (.inr (fun i => if i < 6 then some (da_spot + 1 + i) else none)))))), ((da_spot + 1 + 0), .inl (cy 0, 2, .inl ((dF_spot 0)))), ((da_spot + 1 + 1), .inl (cy 0, 2, .inl ((dF_spot 1)))), ((da_spot + 1 + 2), .inl (cy 0, 2, .inl ((dF_spot 2)))), ((da_spot + 1 + 3), .inl (cy 0, 2, .inl ((dF_spot 3)))), ((da_spot + 1 + 4), .inl (cy 0, 2, .inl ((dF_spot 4)))), ((da_spot + 1 + 5), .inl (cy 0, 2, .inl ((dF_spot 5))))]) (Qc := fun A => (va_Qi (fun (r : Int32) (u : (Nat → Int32) × (Nat → Nat → Int32)) => True) (kB D A (fun (u : (Nat → Int32) × (Nat → Nat → Int32)) => [(da, .inr (13, [.int ((u.1 0)), .int d_tape, .int d_size, .int d_place, .int d_at, .int d_fault, .int d_faultAt, .int d_clauses, .ref da_fed, .ref da_readBody, .ref da_body, .ref da_readMany, .ref da_many, .ref da_without, .ref da_did, .ref da_done, .ref da_bed, .int d_now, .int d_mindAt, .int d_way, .int d_harm, .int d_worth, .int d_passes, .int d_passings, .int d_spots, .int d_images, .ref da_passing, .ref da_spot, .ref da_kept, .ref da_aside, .int d_spare, .ref da_ran, .ref da_who, .ref da_cap, .ref da_w, .ref da_laid, .int d_whoMany, .int d_drifted, .int d_seed, .ref da_cries, .ref da_holds, .ref da_came, .ref da_least, .ref da_firstTo, .int d_steps, .int d_roundFrom, .int d_roundMany, .int d_numberAt])), (da_many, .inl (cy 0, 5, .inl df_many)), (da_spot, .inl (cy 5, 6, .inr (.inr (.inr (.inr (fun i => if i < 6 then some (da_spot + 1 + i) else none)))))), ((da_spot + 1 + 0), .inl (cy 0, 2, .inl ((dF_spot 0)))), ((da_spot + 1 + 1), .inl (cy 0, 2, .inl ((dF_spot 1)))), ((da_spot + 1 + 2), .inl (cy 0, 2, .inl ((dF_spot 2)))), ((da_spot + 1 + 3), .inl (cy 0, 2, .inl ((dF_spot 3)))), ((da_spot + 1 + 4), .inl (cy 0, 2, .inl ((dF_spot 4)))), ((da_spot + 1 + 5), .inl (cy 0, 2, .inl ((dF_spot 5))))])) A)) (by decide) (Nat.le_of_ble_eq_true rfl) ?_
  intro p e s m below meth c ls A E hA hP hD hG hS hl
  obtain ⟨Q0, hQ0⟩ : ∃ Q0 : State → Prop, Q0 = MQ below (va_Qi (fun (r : Int32) (u : (Nat → Int32) × (Nat → Nat → Int32)) => True) (kB D A (fun (u : (Nat → Int32) × (Nat → Nat → Int32)) => [(da, .inr (13, [.int ((u.1 0)), .int d_tape, .int d_size, .int d_place, .int d_at, .int d_fault, .int d_faultAt, .int d_clauses, .ref da_fed, .ref da_readBody, .ref da_body, .ref da_readMany, .ref da_many, .ref da_without, .ref da_did, .ref da_done, .ref da_bed, .int d_now, .int d_mindAt, .int d_way, .int d_harm, .int d_worth, .int d_passes, .int d_passings, .int d_spots, .int d_images, .ref da_passing, .ref da_spot, .ref da_kept, .ref da_aside, .int d_spare, .ref da_ran, .ref da_who, .ref da_cap, .ref da_w, .ref da_laid, .int d_whoMany, .int d_drifted, .int d_seed, .ref da_cries, .ref da_holds, .ref da_came, .ref da_least, .ref da_firstTo, .int d_steps, .int d_roundFrom, .int d_roundMany, .int d_numberAt])), (da_many, .inl (cy 0, 5, .inl df_many)), (da_spot, .inl (cy 5, 6, .inr (.inr (.inr (.inr (fun i => if i < 6 then some (da_spot + 1 + i) else none)))))), ((da_spot + 1 + 0), .inl (cy 0, 2, .inl ((dF_spot 0)))), ((da_spot + 1 + 1), .inl (cy 0, 2, .inl ((dF_spot 1)))), ((da_spot + 1 + 2), .inl (cy 0, 2, .inl ((dF_spot 2)))), ((da_spot + 1 + 3), .inl (cy 0, 2, .inl ((dF_spot 3)))), ((da_spot + 1 + 4), .inl (cy 0, 2, .inl ((dF_spot 4)))), ((da_spot + 1 + 5), .inl (cy 0, 2, .inl ((dF_spot 5))))])) A) ([.ref da, .int w0] : List Value).toArray s 0 0 A := ⟨_, rfl⟩
  rw [← hQ0]
  obtain ⟨hx, hb, hml, hown, hts, hr, hlk, hnm⟩ := id E
  have hown : s.vm.findClass RX12 = some m.cls := hown
  have hl : lv_has ls 7 [(0, .ref da), (1, .int w0)] := hl
  have g_w0 := k_rng w0
  obtain ⟨H, hH⟩ : ∃ H, H = s.heap := ⟨_, rfl⟩
  have hP : va_P D vwCl [(da, .inr (13, [.int d_thrown, .int d_tape, .int d_size, .int d_place, .int d_at, .int d_fault, .int d_faultAt, .int d_clauses, .ref da_fed, .ref da_readBody, .ref da_body, .ref da_readMany, .ref da_many, .ref da_without, .ref da_did, .ref da_done, .ref da_bed, .int d_now, .int d_mindAt, .int d_way, .int d_harm, .int d_worth, .int d_passes, .int d_passings, .int d_spots, .int d_images, .ref da_passing, .ref da_spot, .ref da_kept, .ref da_aside, .int d_spare, .ref da_ran, .ref da_who, .ref da_cap, .ref da_w, .ref da_laid, .int d_whoMany, .int d_drifted, .int d_seed, .ref da_cries, .ref da_holds, .ref da_came, .ref da_least, .ref da_firstTo, .int d_steps, .int d_roundFrom, .int d_roundMany, .int d_numberAt])), (da_many, .inl (cy 0, 5, .inl df_many)), (da_spot, .inl (cy 5, 6, .inr (.inr (.inr (.inr (fun i => if i < 6 then some (da_spot + 1 + i) else none)))))), ((da_spot + 1 + 0), .inl (cy 0, 2, .inl ((dF_spot 0)))), ((da_spot + 1 + 1), .inl (cy 0, 2, .inl ((dF_spot 1)))), ((da_spot + 1 + 2), .inl (cy 0, 2, .inl ((dF_spot 2)))), ((da_spot + 1 + 3), .inl (cy 0, 2, .inl ((dF_spot 3)))), ((da_spot + 1 + 4), .inl (cy 0, 2, .inl ((dF_spot 4)))), ((da_spot + 1 + 5), .inl (cy 0, 2, .inl ((dF_spot 5))))] H := by rw [hH]; exact hP
  have hS : va_S A s.heap H [] := by rw [hH]; exact va_S.rf
  rw [← hH]
  clear hH
  obtain ⟨locs, hlocs⟩ : ∃ locs : List Loc, locs = [] := ⟨_, rfl⟩
  rw [← hlocs] at hS ⊢
  refine lv_aload_n hx hb dX12_placed_0 rfl (lv_at hl 0 rfl) ?_
  refine lv_iconst (v := 0) hx hb dX12_placed_1 (by decide) ?_
  refine va_put (D := D) (ci := 13) (v := .int 0) (ty := .int) (C := RX12) (T := TX12) (N := 48) hx hb hts kin_RX12 tyX12 tyX12_ok nmX12 hown hG.1 hP hD hS 0 rfl rfl 0 (by decide) (hts _ wm_1519) (fun _ h9 => h9) rfl (by decide +kernel) rfl rfl (Nat.le_of_ble_eq_true rfl) dX12_placed_2 (fun H locs hP hD hS => ?_)
  have hP : va_P D vwCl [(da, .inr (13, [.int 0, .int d_tape, .int d_size, .int d_place, .int d_at, .int d_fault, .int d_faultAt, .int d_clauses, .ref da_fed, .ref da_readBody, .ref da_body, .ref da_readMany, .ref da_many, .ref da_without, .ref da_did, .ref da_done, .ref da_bed, .int d_now, .int d_mindAt, .int d_way, .int d_harm, .int d_worth, .int d_passes, .int d_passings, .int d_spots, .int d_images, .ref da_passing, .ref da_spot, .ref da_kept, .ref da_aside, .int d_spare, .ref da_ran, .ref da_who, .ref da_cap, .ref da_w, .ref da_laid, .int d_whoMany, .int d_drifted, .int d_seed, .ref da_cries, .ref da_holds, .ref da_came, .ref da_least, .ref da_firstTo, .int d_steps, .int d_roundFrom, .int d_roundMany, .int d_numberAt])), (da_many, .inl (cy 0, 5, .inl df_many)), (da_spot, .inl (cy 5, 6, .inr (.inr (.inr (.inr (fun i => if i < 6 then some (da_spot + 1 + i) else none)))))), ((da_spot + 1 + 0), .inl (cy 0, 2, .inl ((dF_spot 0)))), ((da_spot + 1 + 1), .inl (cy 0, 2, .inl ((dF_spot 1)))), ((da_spot + 1 + 2), .inl (cy 0, 2, .inl ((dF_spot 2)))), ((da_spot + 1 + 3), .inl (cy 0, 2, .inl ((dF_spot 3)))), ((da_spot + 1 + 4), .inl (cy 0, 2, .inl ((dF_spot 4)))), ((da_spot + 1 + 5), .inl (cy 0, 2, .inl ((dF_spot 5))))] H := hP
  have hD : va_D A [(da, .inr (13, [.int 0, .int d_tape, .int d_size, .int d_place, .int d_at, .int d_fault, .int d_faultAt, .int d_clauses, .ref da_fed, .ref da_readBody, .ref da_body, .ref da_readMany, .ref da_many, .ref da_without, .ref da_did, .ref da_done, .ref da_bed, .int d_now, .int d_mindAt, .int d_way, .int d_harm, .int d_worth, .int d_passes, .int d_passings, .int d_spots, .int d_images, .ref da_passing, .ref da_spot, .ref da_kept, .ref da_aside, .int d_spare, .ref da_ran, .ref da_who, .ref da_cap, .ref da_w, .ref da_laid, .int d_whoMany, .int d_drifted, .int d_seed, .ref da_cries, .ref da_holds, .ref da_came, .ref da_least, .ref da_firstTo, .int d_steps, .int d_roundFrom, .int d_roundMany, .int d_numberAt])), (da_many, .inl (cy 0, 5, .inl df_many)), (da_spot, .inl (cy 5, 6, .inr (.inr (.inr (.inr (fun i => if i < 6 then some (da_spot + 1 + i) else none)))))), ((da_spot + 1 + 0), .inl (cy 0, 2, .inl ((dF_spot 0)))), ((da_spot + 1 + 1), .inl (cy 0, 2, .inl ((dF_spot 1)))), ((da_spot + 1 + 2), .inl (cy 0, 2, .inl ((dF_spot 2)))), ((da_spot + 1 + 3), .inl (cy 0, 2, .inl ((dF_spot 3)))), ((da_spot + 1 + 4), .inl (cy 0, 2, .inl ((dF_spot 4)))), ((da_spot + 1 + 5), .inl (cy 0, 2, .inl ((dF_spot 5))))] := hD
  refine lv_aload_n hx hb dX12_placed_5 rfl (lv_at hl 0 rfl) ?_
  refine lv_iload_n hx hb dX12_placed_6 rfl (lv_at hl 1 rfl) ?_
  refine lv_iconst (v := 0) hx hb dX12_placed_7 (by decide) ?_
  refine lv_iconst (v := 1) hx hb dX12_placed_8 (by decide) ?_
  refine k_cali [0, 1, 2, 3, 4, 5, 6, 7, 8] (⟨hP, hD, hG, hS, hA, rfl, rfl⟩ : kAt D cy sa A s H _ _ [] []) (wr := [(da, .inr (13, [.int 0, .int d_tape, .int d_size, .int d_place, .int d_at, .int d_fault, .int d_faultAt, .int d_clauses, .ref da_fed, .ref da_readBody, .ref da_body, .ref da_readMany, .ref da_many, .ref da_without, .ref da_did, .ref da_done, .ref da_bed, .int d_now, .int d_mindAt, .int d_way, .int d_harm, .int d_worth, .int d_passes, .int d_passings, .int d_spots, .int d_images, .ref da_passing, .ref da_spot, .ref da_kept, .ref da_aside, .int d_spare, .ref da_ran, .ref da_who, .ref da_cap, .ref da_w, .ref da_laid, .int d_whoMany, .int d_drifted, .int d_seed, .ref da_cries, .ref da_holds, .ref da_came, .ref da_least, .ref da_firstTo, .int d_steps, .int d_roundFrom, .int d_roundMany, .int d_numberAt])), (da_many, .inl (cy 0, 5, .inl df_many)), (da_spot, .inl (cy 5, 6, .inr (.inr (.inr (.inr (fun i => if i < 6 then some (da_spot + 1 + i) else none)))))), ((da_spot + 1 + 0), .inl (cy 0, 2, .inl ((dF_spot 0)))), ((da_spot + 1 + 1), .inl (cy 0, 2, .inl ((dF_spot 1)))), ((da_spot + 1 + 2), .inl (cy 0, 2, .inl ((dF_spot 2)))), ((da_spot + 1 + 3), .inl (cy 0, 2, .inl ((dF_spot 3)))), ((da_spot + 1 + 4), .inl (cy 0, 2, .inl ((dF_spot 4)))), ((da_spot + 1 + 5), .inl (cy 0, 2, .inl ((dF_spot 5))))]) rfl rfl (by decide) (k_runS (As := [.int w0, .int 0, .int 1]) (rest := [.ref da]) E lk_SRX12_124 (m_in l hl0 D cy sa w0 0 1 H.size) (⟨hP, hD, hG, hS, hA, rfl, rfl⟩ : kAt D cy sa A s H _ _ [] []) hl.1 rfl rfl ⟨rfl, rfl, ⟨Nat.le_of_ble_eq_true rfl, Nat.le_of_ble_eq_true rfl⟩, ⟨Nat.le_of_ble_eq_true rfl, Nat.le_of_ble_eq_true rfl⟩, Nat.le_of_ble_eq_true rfl⟩ dX12_placed_9) (fun r1q u2q H locs hwu2q hP hD hS => ?_)
  have hP : va_P D vwCl [(da, .inr (13, [.int 0, .int d_tape, .int d_size, .int d_place, .int d_at, .int d_fault, .int d_faultAt, .int d_clauses, .ref da_fed, .ref da_readBody, .ref da_body, .ref da_readMany, .ref da_many, .ref da_without, .ref da_did, .ref da_done, .ref da_bed, .int d_now, .int d_mindAt, .int d_way, .int d_harm, .int d_worth, .int d_passes, .int d_passings, .int d_spots, .int d_images, .ref da_passing, .ref da_spot, .ref da_kept, .ref da_aside, .int d_spare, .ref da_ran, .ref da_who, .ref da_cap, .ref da_w, .ref da_laid, .int d_whoMany, .int d_drifted, .int d_seed, .ref da_cries, .ref da_holds, .ref da_came, .ref da_least, .ref da_firstTo, .int d_steps, .int d_roundFrom, .int d_roundMany, .int d_numberAt])), (da_many, .inl (cy 0, 5, .inl df_many)), (da_spot, .inl (cy 5, 6, .inr (.inr (.inr (.inr (fun i => if i < 6 then some (da_spot + 1 + i) else none)))))), ((da_spot + 1 + 0), .inl (cy 0, 2, .inl ((dF_spot 0)))), ((da_spot + 1 + 1), .inl (cy 0, 2, .inl ((dF_spot 1)))), ((da_spot + 1 + 2), .inl (cy 0, 2, .inl ((dF_spot 2)))), ((da_spot + 1 + 3), .inl (cy 0, 2, .inl ((dF_spot 3)))), ((da_spot + 1 + 4), .inl (cy 0, 2, .inl ((dF_spot 4)))), ((da_spot + 1 + 5), .inl (cy 0, 2, .inl ((dF_spot 5))))] H := hP
  have hD : va_D A [(da, .inr (13, [.int 0, .int d_tape, .int d_size, .int d_place, .int d_at, .int d_fault, .int d_faultAt, .int d_clauses, .ref da_fed, .ref da_readBody, .ref da_body, .ref da_readMany, .ref da_many, .ref da_without, .ref da_did, .ref da_done, .ref da_bed, .int d_now, .int d_mindAt, .int d_way, .int d_harm, .int d_worth, .int d_passes, .int d_passings, .int d_spots, .int d_images, .ref da_passing, .ref da_spot, .ref da_kept, .ref da_aside, .int d_spare, .ref da_ran, .ref da_who, .ref da_cap, .ref da_w, .ref da_laid, .int d_whoMany, .int d_drifted, .int d_seed, .ref da_cries, .ref da_holds, .ref da_came, .ref da_least, .ref da_firstTo, .int d_steps, .int d_roundFrom, .int d_roundMany, .int d_numberAt])), (da_many, .inl (cy 0, 5, .inl df_many)), (da_spot, .inl (cy 5, 6, .inr (.inr (.inr (.inr (fun i => if i < 6 then some (da_spot + 1 + i) else none)))))), ((da_spot + 1 + 0), .inl (cy 0, 2, .inl ((dF_spot 0)))), ((da_spot + 1 + 1), .inl (cy 0, 2, .inl ((dF_spot 1)))), ((da_spot + 1 + 2), .inl (cy 0, 2, .inl ((dF_spot 2)))), ((da_spot + 1 + 3), .inl (cy 0, 2, .inl ((dF_spot 3)))), ((da_spot + 1 + 4), .inl (cy 0, 2, .inl ((dF_spot 4)))), ((da_spot + 1 + 5), .inl (cy 0, 2, .inl ((dF_spot 5))))] := hD
  have p3q := hwu2q
  try simp only [n_L0, n_L1] at p3q
  refine lv_if_ne (tgt := 19) hx hb dX12_placed_12 (by decide) (fun c4q => ?_) (fun c4q => ?_)
  · simp only [k_lt, k_le, k_eq, ne_eq, ge_iff_le, gt_iff_lt, n_L0, n_L0] at c4q
    refine lv_iconst (v := 0) hx hb dX12_placed_19 (by decide) ?_
    refine lv_iconst (v := 1) hx hb dX12_placed_20 (by decide) ?_
    refine k_cali [1, 2, 3, 4, 5, 6, 7, 8] (⟨hP, hD, hG, hS, hA, rfl, rfl⟩ : kAt D cy sa A s H _ _ [(da, .inr (13, [.int 0, .int d_tape, .int d_size, .int d_place, .int d_at, .int d_fault, .int d_faultAt, .int d_clauses, .ref da_fed, .ref da_readBody, .ref da_body, .ref da_readMany, .ref da_many, .ref da_without, .ref da_did, .ref da_done, .ref da_bed, .int d_now, .int d_mindAt, .int d_way, .int d_harm, .int d_worth, .int d_passes, .int d_passings, .int d_spots, .int d_images, .ref da_passing, .ref da_spot, .ref da_kept, .ref da_aside, .int d_spare, .ref da_ran, .ref da_who, .ref da_cap, .ref da_w, .ref da_laid, .int d_whoMany, .int d_drifted, .int d_seed, .ref da_cries, .ref da_holds, .ref da_came, .ref da_least, .ref da_firstTo, .int d_steps, .int d_roundFrom, .int d_roundMany, .int d_numberAt]))] [0]) (wr := [(da_many, .inl (cy 0, 5, .inl df_many)), (da_spot, .inl (cy 5, 6, .inr (.inr (.inr (.inr (fun i => if i < 6 then some (da_spot + 1 + i) else none)))))), ((da_spot + 1 + 0), .inl (cy 0, 2, .inl ((dF_spot 0)))), ((da_spot + 1 + 1), .inl (cy 0, 2, .inl ((dF_spot 1)))), ((da_spot + 1 + 2), .inl (cy 0, 2, .inl ((dF_spot 2)))), ((da_spot + 1 + 3), .inl (cy 0, 2, .inl ((dF_spot 3)))), ((da_spot + 1 + 4), .inl (cy 0, 2, .inl ((dF_spot 4)))), ((da_spot + 1 + 5), .inl (cy 0, 2, .inl ((dF_spot 5))))]) rfl rfl (by decide) (k_runV 13 0 (As := [.int 0, .int 1]) (rest := []) E lk_VRX12_169 rfl rfl rfl (m_bad l hl0 D cy sa da da_fed da_readBody da_body da_readMany da_many da_without da_did da_done da_bed da_passing da_spot da_kept da_aside da_ran da_who da_cap da_w da_laid da_cries da_holds da_came da_least da_firstTo 0 d_tape d_size d_place d_at d_fault d_faultAt d_clauses d_now d_mindAt d_way d_harm d_worth d_passes d_passings d_spots d_images d_spare d_whoMany d_drifted d_seed d_steps d_roundFrom d_roundMany d_numberAt 0 1 ⟨by omega, by omega⟩ ⟨by omega, by omega⟩ ⟨by omega, by omega⟩ ⟨by omega, by omega⟩ ⟨by omega, by omega⟩ ⟨by omega, by omega⟩ ⟨by omega, by omega⟩ ⟨by omega, by omega⟩ ⟨by omega, by omega⟩ ⟨by omega, by omega⟩ (by decide) H.size) (⟨hP, hD, hG, hS, hA, rfl, rfl⟩ : kAt D cy sa A s H _ _ [(da, .inr (13, [.int 0, .int d_tape, .int d_size, .int d_place, .int d_at, .int d_fault, .int d_faultAt, .int d_clauses, .ref da_fed, .ref da_readBody, .ref da_body, .ref da_readMany, .ref da_many, .ref da_without, .ref da_did, .ref da_done, .ref da_bed, .int d_now, .int d_mindAt, .int d_way, .int d_harm, .int d_worth, .int d_passes, .int d_passings, .int d_spots, .int d_images, .ref da_passing, .ref da_spot, .ref da_kept, .ref da_aside, .int d_spare, .ref da_ran, .ref da_who, .ref da_cap, .ref da_w, .ref da_laid, .int d_whoMany, .int d_drifted, .int d_seed, .ref da_cries, .ref da_holds, .ref da_came, .ref da_least, .ref da_firstTo, .int d_steps, .int d_roundFrom, .int d_roundMany, .int d_numberAt]))] [0]) hl.1 rfl rfl ⟨rfl, rfl, ⟨Nat.le_of_ble_eq_true rfl, Nat.le_of_ble_eq_true rfl⟩, ⟨Nat.le_of_ble_eq_true rfl, Nat.le_of_ble_eq_true rfl⟩, Nat.le_of_ble_eq_true rfl⟩ dX12_placed_21) (fun r5q u6q H locs hwu6q hP hD hS => ?_)
    have hP : va_P D vwCl [(da_many, .inl (cy 0, 5, .inl df_many)), (da_spot, .inl (cy 5, 6, .inr (.inr (.inr (.inr (fun i => if i < 6 then some (da_spot + 1 + i) else none)))))), ((da_spot + 1 + 0), .inl (cy 0, 2, .inl ((dF_spot 0)))), ((da_spot + 1 + 1), .inl (cy 0, 2, .inl ((dF_spot 1)))), ((da_spot + 1 + 2), .inl (cy 0, 2, .inl ((dF_spot 2)))), ((da_spot + 1 + 3), .inl (cy 0, 2, .inl ((dF_spot 3)))), ((da_spot + 1 + 4), .inl (cy 0, 2, .inl ((dF_spot 4)))), ((da_spot + 1 + 5), .inl (cy 0, 2, .inl ((dF_spot 5)))), (da, .inr (13, [.int ((u6q.1 0)), .int d_tape, .int d_size, .int d_place, .int d_at, .int d_fault, .int d_faultAt, .int d_clauses, .ref da_fed, .ref da_readBody, .ref da_body, .ref da_readMany, .ref da_many, .ref da_without, .ref da_did, .ref da_done, .ref da_bed, .int d_now, .int d_mindAt, .int d_way, .int d_harm, .int d_worth, .int d_passes, .int d_passings, .int d_spots, .int d_images, .ref da_passing, .ref da_spot, .ref da_kept, .ref da_aside, .int d_spare, .ref da_ran, .ref da_who, .ref da_cap, .ref da_w, .ref da_laid, .int d_whoMany, .int d_drifted, .int d_seed, .ref da_cries, .ref da_holds, .ref da_came, .ref da_least, .ref da_firstTo, .int d_steps, .int d_roundFrom, .int d_roundMany, .int d_numberAt]))] H := hP
    have hD : va_D A [(da_many, .inl (cy 0, 5, .inl df_many)), (da_spot, .inl (cy 5, 6, .inr (.inr (.inr (.inr (fun i => if i < 6 then some (da_spot + 1 + i) else none)))))), ((da_spot + 1 + 0), .inl (cy 0, 2, .inl ((dF_spot 0)))), ((da_spot + 1 + 1), .inl (cy 0, 2, .inl ((dF_spot 1)))), ((da_spot + 1 + 2), .inl (cy 0, 2, .inl ((dF_spot 2)))), ((da_spot + 1 + 3), .inl (cy 0, 2, .inl ((dF_spot 3)))), ((da_spot + 1 + 4), .inl (cy 0, 2, .inl ((dF_spot 4)))), ((da_spot + 1 + 5), .inl (cy 0, 2, .inl ((dF_spot 5)))), (da, .inr (13, [.int ((u6q.1 0)), .int d_tape, .int d_size, .int d_place, .int d_at, .int d_fault, .int d_faultAt, .int d_clauses, .ref da_fed, .ref da_readBody, .ref da_body, .ref da_readMany, .ref da_many, .ref da_without, .ref da_did, .ref da_done, .ref da_bed, .int d_now, .int d_mindAt, .int d_way, .int d_harm, .int d_worth, .int d_passes, .int d_passings, .int d_spots, .int d_images, .ref da_passing, .ref da_spot, .ref da_kept, .ref da_aside, .int d_spare, .ref da_ran, .ref da_who, .ref da_cap, .ref da_w, .ref da_laid, .int d_whoMany, .int d_drifted, .int d_seed, .ref da_cries, .ref da_holds, .ref da_came, .ref da_least, .ref da_firstTo, .int d_steps, .int d_roundFrom, .int d_roundMany, .int d_numberAt]))] := hD
    have p7q := hwu6q
    try simp only [n_L0, n_L1] at p7q
    refine lv_if_eq (tgt := 29) hx hb dX12_placed_24 (by decide) (fun c8q => ?_) (fun c8q => ?_)
    · simp only [k_lt, k_le, k_eq, ne_eq, ge_iff_le, gt_iff_lt, n_L0, n_L0] at c8q
      refine lv_aload_n hx hb dX12_placed_29 rfl (lv_at hl 0 rfl) ?_
      refine va_get (D := D) (ci := 13) (v := .int d_spots) (C := RX12) (T := TX12) (N := 48) hx hb hts kin_RX12 hown hG.1 hP 8 rfl rfl 24 (by decide) (hts _ wm_1543) (fun _ h9 => h9) rfl dX12_placed_30 ?_
      refine lv_if_eq (tgt := 49) hx hb dX12_placed_33 (by decide) (fun c9q => ?_) (fun c9q => ?_)
      · simp only [k_lt, k_le, k_eq, ne_eq, ge_iff_le, gt_iff_lt, n_L0, n_L0] at c9q
        refine lv_iconst (v := (-1)) hx hb dX12_placed_49 (by decide) ?_
        rw [hQ0]
        exact k_iret (fun k => [((u6q.1 0))].getD k 0, fun k => [].getD k (fun _ => 0)) hx hb hr hlk (trivial) (hP.sub [8, 0, 1, 2, 3, 4, 5, 6, 7] rfl) (hD.sub [8, 0, 1, 2, 3, 4, 5, 6, 7] (by decide) rfl) hS (by decide) (by decide) dX12_placed_50
      · simp only [k_lt, k_le, k_eq, ne_eq, ge_iff_le, gt_iff_lt, n_L0, n_L0] at c9q
        refine lv_aload_n hx hb dX12_placed_36 rfl (lv_at hl 0 rfl) ?_
        refine va_get (D := D) (ci := 13) (v := .int d_spots) (C := RX12) (T := TX12) (N := 48) hx hb hts kin_RX12 hown hG.1 hP 8 rfl rfl 24 (by decide) (hts _ wm_1543) (fun _ h9 => h9) rfl dX12_placed_37 ?_
        refine lv_aload_n hx hb dX12_placed_40 rfl (lv_at hl 0 rfl) ?_
        refine va_get (D := D) (ci := 13) (v := .ref da_many) (C := RX12) (T := TX12) (N := 48) hx hb hts kin_RX12 hown hG.1 hP 8 rfl rfl 12 (by decide) (hts _ wm_1531) (fun _ h9 => h9) rfl dX12_placed_41 ?_
        refine lv_iconst (v := 0) hx hb dX12_placed_44 (by decide) ?_
        refine va_iald hx hb hG.1 hP 0 0 rfl rfl (by unfold vp_in; decide) dX12_placed_45 ?_
        refine lv_topi (fun x10q ex10q => ?_)
        have rx10q : x10q.toInt = (df_many 0).toInt := by rw [ex10q]; rfl
        refine lv_icmp_le (tgt := 51) hx hb dX12_placed_46 (by decide) (fun c11q => ?_) (fun c11q => ?_)
        · simp only [k_lt, k_le, k_eq, ne_eq, ge_iff_le, gt_iff_lt] at c11q
          have hsp1 := n_p1 h_d_spots.1 c9q
          rcases n_six ⟨hsp1, h_d_spots.2⟩ with h9 | h9 | h9 | h9 | h9 | h9
          · have h7 : d_spots = 1 := Int32.toInt_inj.mp (h9.trans (by decide))
            refine lv_iconst (v := 1) hx hb dX12_placed_51 (by decide) ?_
            refine lv_istore_n (lv' := [(2, .int 1), (0, .ref da), (1, .int w0)]) hx hb dX12_placed_52 rfl hl (by decide) rfl (fun ls hl => ?_)
            refine lv_iconst (v := (-1)) hx hb dX12_placed_53 (by decide) ?_
            refine lv_istore_n (lv' := [(3, .int (-1)), (2, .int 1), (0, .ref da), (1, .int w0)]) hx hb dX12_placed_54 rfl hl (by decide) rfl (fun ls hl => ?_)
            refine lv_iconst (v := 0) hx hb dX12_placed_55 (by decide) ?_
            refine lv_istore (lv' := [(4, .int 0), (3, .int (-1)), (2, .int 1), (0, .ref da), (1, .int w0)]) hx hb dX12_placed_56 hl (by decide) rfl (fun ls hl => ?_)
            refine lv_iconst (v := 0) hx hb dX12_placed_58 (by decide) ?_
            refine lv_istore (lv' := [(5, .int 0), (4, .int 0), (3, .int (-1)), (2, .int 1), (0, .ref da), (1, .int w0)]) hx hb dX12_placed_59 hl (by decide) rfl (fun ls hl => ?_)
            refine lv_iload hx hb dX12_placed_61 (lv_at hl 0 rfl) ?_
            refine lv_aload_n hx hb dX12_placed_63 rfl (lv_at hl 4 rfl) ?_
            refine va_get (D := D) (ci := 13) (v := .int d_spots) (C := RX12) (T := TX12) (N := 48) hx hb hts kin_RX12 hown hG.1 hP 8 rfl rfl 24 (by decide) (hts _ wm_1543) (fun _ h9 => h9) rfl dX12_placed_64 ?_
            rw [h7]
            refine lv_icmp_ge (tgt := 81) hx hb dX12_placed_67 (by decide) (fun h => absurd h (by decide)) (fun _ => ?_)
            refine lv_iload_n hx hb dX12_placed_70 rfl (lv_at hl 3 rfl) ?_
            refine lv_bipush (v := 6) hx hb dX12_placed_71 (by decide) ?_
            refine lv_imul hx hb dX12_placed_73 ?_
            refine lv_topi (fun x12q ex12q => ?_)
            obtain rfl : x12q = 6 := ex12q.trans (by decide)
            refine lv_istore_n (lv' := [(2, .int 6), (5, .int 0), (4, .int 0), (3, .int (-1)), (0, .ref da), (1, .int w0)]) hx hb dX12_placed_74 rfl hl (by decide) rfl (fun ls hl => ?_)
            refine lv_iinc (v := 1) (lv' := [(5, .int 1), (2, .int 6), (4, .int 0), (3, .int (-1)), (0, .ref da), (1, .int w0)]) hx hb dX12_placed_75 hl (k := 1) rfl (by decide) (by decide) rfl (fun ls hl => ?_)
            refine lv_goto (tgt := 61) hx hb dX12_placed_78 (by decide) ?_
            refine lv_iload hx hb dX12_placed_61 (lv_at hl 0 rfl) ?_
            refine lv_aload_n hx hb dX12_placed_63 rfl (lv_at hl 4 rfl) ?_
            refine va_get (D := D) (ci := 13) (v := .int d_spots) (C := RX12) (T := TX12) (N := 48) hx hb hts kin_RX12 hown hG.1 hP 8 rfl rfl 24 (by decide) (hts _ wm_1543) (fun _ h9 => h9) rfl dX12_placed_64 ?_
            rw [h7]
            refine lv_icmp_ge (tgt := 81) hx hb dX12_placed_67 (by decide) (fun _ => ?_) (fun h => absurd (by decide) h)
            refine lv_iconst (v := 0) hx hb dX12_placed_81 (by decide) ?_
            refine lv_istore (lv' := [(5, .int 0), (2, .int 6), (4, .int 0), (3, .int (-1)), (0, .ref da), (1, .int w0)]) hx hb dX12_placed_82 hl (by decide) rfl (fun ls hl => ?_)
            have k13q : ∀ (n : Nat) (k13qy3 : Int32) (k13qy4 : Int32) (k13qy5 : Int32) (H : Heap) (locs : List Loc) (ls : Array Slot), 0 ≤ k13qy5.toInt ∧ k13qy5.toInt ≤ 6 → (6 - k13qy5.toInt).toNat = n → va_P D vwCl [(da_many, .inl (cy 0, 5, .inl df_many)), (da_spot, .inl (cy 5, 6, .inr (.inr (.inr (.inr (fun i => if i < 6 then some (da_spot + 1 + i) else none)))))), ((da_spot + 1 + 0), .inl (cy 0, 2, .inl ((dF_spot 0)))), ((da_spot + 1 + 1), .inl (cy 0, 2, .inl ((dF_spot 1)))), ((da_spot + 1 + 2), .inl (cy 0, 2, .inl ((dF_spot 2)))), ((da_spot + 1 + 3), .inl (cy 0, 2, .inl ((dF_spot 3)))), ((da_spot + 1 + 4), .inl (cy 0, 2, .inl ((dF_spot 4)))), ((da_spot + 1 + 5), .inl (cy 0, 2, .inl ((dF_spot 5)))), (da, .inr (13, [.int ((u6q.1 0)), .int d_tape, .int d_size, .int d_place, .int d_at, .int d_fault, .int d_faultAt, .int d_clauses, .ref da_fed, .ref da_readBody, .ref da_body, .ref da_readMany, .ref da_many, .ref da_without, .ref da_did, .ref da_done, .ref da_bed, .int d_now, .int d_mindAt, .int d_way, .int d_harm, .int d_worth, .int d_passes, .int d_passings, .int d_spots, .int d_images, .ref da_passing, .ref da_spot, .ref da_kept, .ref da_aside, .int d_spare, .ref da_ran, .ref da_who, .ref da_cap, .ref da_w, .ref da_laid, .int d_whoMany, .int d_drifted, .int d_seed, .ref da_cries, .ref da_holds, .ref da_came, .ref da_least, .ref da_firstTo, .int d_steps, .int d_roundFrom, .int d_roundMany, .int d_numberAt]))] H → va_D A [(da_many, .inl (cy 0, 5, .inl df_many)), (da_spot, .inl (cy 5, 6, .inr (.inr (.inr (.inr (fun i => if i < 6 then some (da_spot + 1 + i) else none)))))), ((da_spot + 1 + 0), .inl (cy 0, 2, .inl ((dF_spot 0)))), ((da_spot + 1 + 1), .inl (cy 0, 2, .inl ((dF_spot 1)))), ((da_spot + 1 + 2), .inl (cy 0, 2, .inl ((dF_spot 2)))), ((da_spot + 1 + 3), .inl (cy 0, 2, .inl ((dF_spot 3)))), ((da_spot + 1 + 4), .inl (cy 0, 2, .inl ((dF_spot 4)))), ((da_spot + 1 + 5), .inl (cy 0, 2, .inl ((dF_spot 5)))), (da, .inr (13, [.int ((u6q.1 0)), .int d_tape, .int d_size, .int d_place, .int d_at, .int d_fault, .int d_faultAt, .int d_clauses, .ref da_fed, .ref da_readBody, .ref da_body, .ref da_readMany, .ref da_many, .ref da_without, .ref da_did, .ref da_done, .ref da_bed, .int d_now, .int d_mindAt, .int d_way, .int d_harm, .int d_worth, .int d_passes, .int d_passings, .int d_spots, .int d_images, .ref da_passing, .ref da_spot, .ref da_kept, .ref da_aside, .int d_spare, .ref da_ran, .ref da_who, .ref da_cap, .ref da_w, .ref da_laid, .int d_whoMany, .int d_drifted, .int d_seed, .ref da_cries, .ref da_holds, .ref da_came, .ref da_least, .ref da_firstTo, .int d_steps, .int d_roundFrom, .int d_roundMany, .int d_numberAt]))] → va_S A s.heap H locs → lv_has ls 7 [(5, .int k13qy5), (2, .int 6), (4, .int k13qy4), (3, .int k13qy3), (0, .ref da), (1, .int w0)] → W p l e ({ frames := 13, cells := 0, slots := 0, locals := 480 }) s m ([.ref da, .int w0] : List Value).toArray below meth c H locs 0 0 Q0 (F0 m 84 ls []) := by
              intro n
              induction n using Nat.strongRecOn with
              | ind n k13qih =>
                intro k13qy3 k13qy4 k13qy5 H locs ls hk13qy5 k13qm hP hD hS hl
                have gk13qy3 := k_rng k13qy3
                have gk13qy4 := k_rng k13qy4
                refine lv_iload hx hb dX12_placed_84 (lv_at hl 0 rfl) ?_
                refine lv_iload_n hx hb dX12_placed_86 rfl (lv_at hl 1 rfl) ?_
                refine lv_icmp_ge (tgt := 133) hx hb dX12_placed_87 (by decide) (fun c14q => ?_) (fun c14q => ?_)
                · simp only [k_lt, k_le, k_eq, ne_eq, ge_iff_le, gt_iff_lt, n_L6] at c14q
                  refine lv_iload_n hx hb dX12_placed_133 rfl (lv_at hl 5 rfl) ?_
                  refine lv_if_ne (tgt := 142) hx hb dX12_placed_134 (by decide) (fun c15q => ?_) (fun c15q => ?_)
                  · simp only [k_lt, k_le, k_eq, ne_eq, ge_iff_le, gt_iff_lt, n_L0, n_L0] at c15q
                    refine lv_iload_n hx hb dX12_placed_142 rfl (lv_at hl 3 rfl) ?_
                    rw [hQ0]
                    exact k_iret (fun k => [((u6q.1 0))].getD k 0, fun k => [].getD k (fun _ => 0)) hx hb hr hlk (trivial) (hP.sub [8, 0, 1, 2, 3, 4, 5, 6, 7] rfl) (hD.sub [8, 0, 1, 2, 3, 4, 5, 6, 7] (by decide) rfl) hS (by decide) (by decide) dX12_placed_143
                  · simp only [k_lt, k_le, k_eq, ne_eq, ge_iff_le, gt_iff_lt, n_L0, n_L0] at c15q
                    refine lv_iload hx hb dX12_placed_137 (lv_at hl 2 rfl) ?_
                    refine lv_goto (tgt := 143) hx hb dX12_placed_139 (by decide) ?_
                    rw [hQ0]
                    exact k_iret (fun k => [((u6q.1 0))].getD k 0, fun k => [].getD k (fun _ => 0)) hx hb hr hlk (trivial) (hP.sub [8, 0, 1, 2, 3, 4, 5, 6, 7] rfl) (hD.sub [8, 0, 1, 2, 3, 4, 5, 6, 7] (by decide) rfl) hS (by decide) (by decide) dX12_placed_143
                · simp only [k_lt, k_le, k_eq, ne_eq, ge_iff_le, gt_iff_lt, n_L6] at c14q
                  refine lv_aload_n hx hb dX12_placed_90 rfl (lv_at hl 4 rfl) ?_
                  refine lv_iload hx hb dX12_placed_91 (lv_at hl 0 rfl) ?_
                  refine lv_iload_n hx hb dX12_placed_93 rfl (lv_at hl 1 rfl) ?_
                  refine k_cali [] (⟨hP, hD, hG, hS, hA, rfl, rfl⟩ : kAt D cy sa A s H _ _ [(da, .inr (13, [.int ((u6q.1 0)), .int d_tape, .int d_size, .int d_place, .int d_at, .int d_fault, .int d_faultAt, .int d_clauses, .ref da_fed, .ref da_readBody, .ref da_body, .ref da_readMany, .ref da_many, .ref da_without, .ref da_did, .ref da_done, .ref da_bed, .int d_now, .int d_mindAt, .int d_way, .int d_harm, .int d_worth, .int d_passes, .int d_passings, .int d_spots, .int d_images, .ref da_passing, .ref da_spot, .ref da_kept, .ref da_aside, .int d_spare, .ref da_ran, .ref da_who, .ref da_cap, .ref da_w, .ref da_laid, .int d_whoMany, .int d_drifted, .int d_seed, .ref da_cries, .ref da_holds, .ref da_came, .ref da_least, .ref da_firstTo, .int d_steps, .int d_roundFrom, .int d_roundMany, .int d_numberAt])), (da_many, .inl (cy 0, 5, .inl df_many)), (da_spot, .inl (cy 5, 6, .inr (.inr (.inr (.inr (fun i => if i < 6 then some (da_spot + 1 + i) else none)))))), ((da_spot + 1 + 0), .inl (cy 0, 2, .inl ((dF_spot 0)))), ((da_spot + 1 + 1), .inl (cy 0, 2, .inl ((dF_spot 1)))), ((da_spot + 1 + 2), .inl (cy 0, 2, .inl ((dF_spot 2)))), ((da_spot + 1 + 3), .inl (cy 0, 2, .inl ((dF_spot 3)))), ((da_spot + 1 + 4), .inl (cy 0, 2, .inl ((dF_spot 4)))), ((da_spot + 1 + 5), .inl (cy 0, 2, .inl ((dF_spot 5))))] [8, 0, 1, 2, 3, 4, 5, 6, 7]) (wr := []) rfl rfl (by decide) (k_runV 13 8 (As := [.int k13qy5, .int 6]) (rest := []) E lk_VRX12_340 rfl rfl rfl (m_roundOf l hl0 D cy sa da da_fed da_readBody da_body da_readMany da_many da_without da_did da_done da_bed da_passing da_spot da_kept da_aside da_ran da_who da_cap da_w da_laid da_cries da_holds da_came da_least da_firstTo ((u6q.1 0)) d_tape d_size d_place d_at d_fault d_faultAt d_clauses d_now d_mindAt d_way d_harm d_worth d_passes d_passings d_spots d_images d_spare d_whoMany d_drifted d_seed d_steps d_roundFrom d_roundMany d_numberAt k13qy5 6 df_many dF_spot ⟨by omega, by omega⟩ ⟨by omega, by omega⟩ ⟨by omega, by omega⟩ ⟨by omega, by omega⟩ ⟨by omega, by omega⟩ ⟨by omega, by omega⟩ ⟨by omega, by omega⟩ ⟨by omega, by omega⟩ ⟨by omega, by omega⟩ ⟨by omega, by omega⟩ (by assumption) (by assumption) (by assumption) ⟨by omega, by omega⟩ (by first | exact Or.inl ⟨by decide, by omega⟩ | exact Or.inr (Or.inl ⟨by decide, by omega⟩) | exact Or.inr (Or.inr (Or.inl ⟨by decide, by omega⟩)) | exact Or.inr (Or.inr (Or.inr (Or.inl ⟨by decide, by omega⟩))) | exact Or.inr (Or.inr (Or.inr (Or.inr (Or.inl ⟨by decide, by omega⟩)))) | exact Or.inr (Or.inr (Or.inr (Or.inr (Or.inr (⟨by decide, by omega⟩))))) | omega) (by first | exact Or.inl ⟨by decide, by omega⟩ | exact Or.inr (Or.inl ⟨by decide, by omega⟩) | exact Or.inr (Or.inr (Or.inl ⟨by decide, by omega⟩)) | exact Or.inr (Or.inr (Or.inr (Or.inl ⟨by decide, by omega⟩))) | exact Or.inr (Or.inr (Or.inr (Or.inr (Or.inl ⟨by decide, by omega⟩)))) | exact Or.inr (Or.inr (Or.inr (Or.inr (Or.inr (⟨by decide, by omega⟩))))) | omega) H.size) (⟨hP, hD, hG, hS, hA, rfl, rfl⟩ : kAt D cy sa A s H _ _ [(da, .inr (13, [.int ((u6q.1 0)), .int d_tape, .int d_size, .int d_place, .int d_at, .int d_fault, .int d_faultAt, .int d_clauses, .ref da_fed, .ref da_readBody, .ref da_body, .ref da_readMany, .ref da_many, .ref da_without, .ref da_did, .ref da_done, .ref da_bed, .int d_now, .int d_mindAt, .int d_way, .int d_harm, .int d_worth, .int d_passes, .int d_passings, .int d_spots, .int d_images, .ref da_passing, .ref da_spot, .ref da_kept, .ref da_aside, .int d_spare, .ref da_ran, .ref da_who, .ref da_cap, .ref da_w, .ref da_laid, .int d_whoMany, .int d_drifted, .int d_seed, .ref da_cries, .ref da_holds, .ref da_came, .ref da_least, .ref da_firstTo, .int d_steps, .int d_roundFrom, .int d_roundMany, .int d_numberAt])), (da_many, .inl (cy 0, 5, .inl df_many)), (da_spot, .inl (cy 5, 6, .inr (.inr (.inr (.inr (fun i => if i < 6 then some (da_spot + 1 + i) else none)))))), ((da_spot + 1 + 0), .inl (cy 0, 2, .inl ((dF_spot 0)))), ((da_spot + 1 + 1), .inl (cy 0, 2, .inl ((dF_spot 1)))), ((da_spot + 1 + 2), .inl (cy 0, 2, .inl ((dF_spot 2)))), ((da_spot + 1 + 3), .inl (cy 0, 2, .inl ((dF_spot 3)))), ((da_spot + 1 + 4), .inl (cy 0, 2, .inl ((dF_spot 4)))), ((da_spot + 1 + 5), .inl (cy 0, 2, .inl ((dF_spot 5))))] [8, 0, 1, 2, 3, 4, 5, 6, 7]) hl.1 rfl rfl ⟨rfl, rfl, ⟨Nat.le_of_ble_eq_true rfl, Nat.le_of_ble_eq_true rfl⟩, ⟨Nat.le_of_ble_eq_true rfl, Nat.le_of_ble_eq_true rfl⟩, Nat.le_of_ble_eq_true rfl⟩ dX12_placed_94) (fun r16q u17q H locs hwu17q hP hD hS => ?_)
                  have hP : va_P D vwCl [(da, .inr (13, [.int ((u6q.1 0)), .int d_tape, .int d_size, .int d_place, .int d_at, .int d_fault, .int d_faultAt, .int d_clauses, .ref da_fed, .ref da_readBody, .ref da_body, .ref da_readMany, .ref da_many, .ref da_without, .ref da_did, .ref da_done, .ref da_bed, .int d_now, .int d_mindAt, .int d_way, .int d_harm, .int d_worth, .int d_passes, .int d_passings, .int d_spots, .int d_images, .ref da_passing, .ref da_spot, .ref da_kept, .ref da_aside, .int d_spare, .ref da_ran, .ref da_who, .ref da_cap, .ref da_w, .ref da_laid, .int d_whoMany, .int d_drifted, .int d_seed, .ref da_cries, .ref da_holds, .ref da_came, .ref da_least, .ref da_firstTo, .int d_steps, .int d_roundFrom, .int d_roundMany, .int d_numberAt])), (da_many, .inl (cy 0, 5, .inl df_many)), (da_spot, .inl (cy 5, 6, .inr (.inr (.inr (.inr (fun i => if i < 6 then some (da_spot + 1 + i) else none)))))), ((da_spot + 1 + 0), .inl (cy 0, 2, .inl ((dF_spot 0)))), ((da_spot + 1 + 1), .inl (cy 0, 2, .inl ((dF_spot 1)))), ((da_spot + 1 + 2), .inl (cy 0, 2, .inl ((dF_spot 2)))), ((da_spot + 1 + 3), .inl (cy 0, 2, .inl ((dF_spot 3)))), ((da_spot + 1 + 4), .inl (cy 0, 2, .inl ((dF_spot 4)))), ((da_spot + 1 + 5), .inl (cy 0, 2, .inl ((dF_spot 5))))] H := hP
                  have hD : va_D A [(da, .inr (13, [.int ((u6q.1 0)), .int d_tape, .int d_size, .int d_place, .int d_at, .int d_fault, .int d_faultAt, .int d_clauses, .ref da_fed, .ref da_readBody, .ref da_body, .ref da_readMany, .ref da_many, .ref da_without, .ref da_did, .ref da_done, .ref da_bed, .int d_now, .int d_mindAt, .int d_way, .int d_harm, .int d_worth, .int d_passes, .int d_passings, .int d_spots, .int d_images, .ref da_passing, .ref da_spot, .ref da_kept, .ref da_aside, .int d_spare, .ref da_ran, .ref da_who, .ref da_cap, .ref da_w, .ref da_laid, .int d_whoMany, .int d_drifted, .int d_seed, .ref da_cries, .ref da_holds, .ref da_came, .ref da_least, .ref da_firstTo, .int d_steps, .int d_roundFrom, .int d_roundMany, .int d_numberAt])), (da_many, .inl (cy 0, 5, .inl df_many)), (da_spot, .inl (cy 5, 6, .inr (.inr (.inr (.inr (fun i => if i < 6 then some (da_spot + 1 + i) else none)))))), ((da_spot + 1 + 0), .inl (cy 0, 2, .inl ((dF_spot 0)))), ((da_spot + 1 + 1), .inl (cy 0, 2, .inl ((dF_spot 1)))), ((da_spot + 1 + 2), .inl (cy 0, 2, .inl ((dF_spot 2)))), ((da_spot + 1 + 3), .inl (cy 0, 2, .inl ((dF_spot 3)))), ((da_spot + 1 + 4), .inl (cy 0, 2, .inl ((dF_spot 4)))), ((da_spot + 1 + 5), .inl (cy 0, 2, .inl ((dF_spot 5))))] := hD
                  refine lv_istore (lv' := [(6, .int r16q), (5, .int k13qy5), (2, .int 6), (4, .int k13qy4), (3, .int k13qy3), (0, .ref da), (1, .int w0)]) hx hb dX12_placed_97 hl (by decide) rfl (fun ls hl => ?_)
                  refine lv_iload hx hb dX12_placed_99 (lv_at hl 0 rfl) ?_
                  refine lv_iconst (v := (-1)) hx hb dX12_placed_101 (by decide) ?_
                  refine lv_icmp_eq (tgt := 127) hx hb dX12_placed_102 (by decide) (fun c18q => ?_) (fun c18q => ?_)
                  · simp only [k_lt, k_le, k_eq, ne_eq, ge_iff_le, gt_iff_lt, n_Lm1] at c18q
                    obtain ⟨x19q, ex19q⟩ : ∃ z : Int32, z = k13qy5 + 1 := ⟨_, rfl⟩
                    refine lv_iinc (v := x19q) (lv' := [(5, .int x19q), (6, .int r16q), (2, .int 6), (4, .int k13qy4), (3, .int k13qy3), (0, .ref da), (1, .int w0)]) hx hb dX12_placed_127 hl (k := 1) rfl (by rw [ex19q]; rfl) (by decide) rfl (fun ls hl => ?_)
                    have rx19q := n_add ex19q (a := k13qy5.toInt) (b := 1) rfl n_L1 (by omega) (by omega)
                    refine lv_goto (tgt := 84) hx hb dX12_placed_130 (by decide) ?_
                    exact k13qih ((6 - x19q.toInt).toNat) (by omega) k13qy3 k13qy4 x19q H locs ls ⟨by omega, by omega⟩ rfl (hP.sub [1, 2, 3, 4, 5, 6, 7, 8, 0] rfl) (hD.sub [1, 2, 3, 4, 5, 6, 7, 8, 0] (by decide) rfl) hS (lv_sub hl [0, 2, 3, 4, 5, 6] rfl)
                  · simp only [k_lt, k_le, k_eq, ne_eq, ge_iff_le, gt_iff_lt, n_Lm1] at c18q
                    refine lv_iload_n hx hb dX12_placed_105 rfl (lv_at hl 4 rfl) ?_
                    refine lv_iconst (v := (-1)) hx hb dX12_placed_106 (by decide) ?_
                    refine lv_icmp_eq (tgt := 120) hx hb dX12_placed_107 (by decide) (fun c20q => ?_) (fun c20q => ?_)
                    · simp only [k_lt, k_le, k_eq, ne_eq, ge_iff_le, gt_iff_lt, n_Lm1] at c20q
                      refine lv_iload hx hb dX12_placed_120 (lv_at hl 1 rfl) ?_
                      refine lv_istore_n (lv' := [(3, .int k13qy5), (6, .int r16q), (5, .int k13qy5), (2, .int 6), (4, .int k13qy4), (0, .ref da), (1, .int w0)]) hx hb dX12_placed_122 rfl hl (by decide) rfl (fun ls hl => ?_)
                      refine lv_iload hx hb dX12_placed_123 (lv_at hl 1 rfl) ?_
                      refine lv_istore (lv' := [(4, .int r16q), (3, .int k13qy5), (6, .int r16q), (5, .int k13qy5), (2, .int 6), (0, .ref da), (1, .int w0)]) hx hb dX12_placed_125 hl (by decide) rfl (fun ls hl => ?_)
                      obtain ⟨x21q, ex21q⟩ : ∃ z : Int32, z = k13qy5 + 1 := ⟨_, rfl⟩
                      refine lv_iinc (v := x21q) (lv' := [(5, .int x21q), (4, .int r16q), (3, .int k13qy5), (6, .int r16q), (2, .int 6), (0, .ref da), (1, .int w0)]) hx hb dX12_placed_127 hl (k := 3) rfl (by rw [ex21q]; rfl) (by decide) rfl (fun ls hl => ?_)
                      have rx21q := n_add ex21q (a := k13qy5.toInt) (b := 1) rfl n_L1 (by omega) (by omega)
                      refine lv_goto (tgt := 84) hx hb dX12_placed_130 (by decide) ?_
                      exact k13qih ((6 - x21q.toInt).toNat) (by omega) k13qy5 r16q x21q H locs ls ⟨by omega, by omega⟩ rfl (hP.sub [1, 2, 3, 4, 5, 6, 7, 8, 0] rfl) (hD.sub [1, 2, 3, 4, 5, 6, 7, 8, 0] (by decide) rfl) hS (lv_sub hl [0, 4, 1, 2, 5, 6] rfl)
                    · simp only [k_lt, k_le, k_eq, ne_eq, ge_iff_le, gt_iff_lt, n_Lm1] at c20q
                      refine lv_iload hx hb dX12_placed_110 (lv_at hl 0 rfl) ?_
                      refine lv_iload hx hb dX12_placed_112 (lv_at hl 3 rfl) ?_
                      refine lv_icmp_lt (tgt := 120) hx hb dX12_placed_114 (by decide) (fun c22q => ?_) (fun c22q => ?_)
                      · simp only [k_lt, k_le, k_eq, ne_eq, ge_iff_le, gt_iff_lt] at c22q
                        refine lv_iload hx hb dX12_placed_120 (lv_at hl 1 rfl) ?_
                        refine lv_istore_n (lv' := [(3, .int k13qy5), (6, .int r16q), (5, .int k13qy5), (2, .int 6), (4, .int k13qy4), (0, .ref da), (1, .int w0)]) hx hb dX12_placed_122 rfl hl (by decide) rfl (fun ls hl => ?_)
                        refine lv_iload hx hb dX12_placed_123 (lv_at hl 1 rfl) ?_
                        refine lv_istore (lv' := [(4, .int r16q), (3, .int k13qy5), (6, .int r16q), (5, .int k13qy5), (2, .int 6), (0, .ref da), (1, .int w0)]) hx hb dX12_placed_125 hl (by decide) rfl (fun ls hl => ?_)
                        obtain ⟨x23q, ex23q⟩ : ∃ z : Int32, z = k13qy5 + 1 := ⟨_, rfl⟩
                        refine lv_iinc (v := x23q) (lv' := [(5, .int x23q), (4, .int r16q), (3, .int k13qy5), (6, .int r16q), (2, .int 6), (0, .ref da), (1, .int w0)]) hx hb dX12_placed_127 hl (k := 3) rfl (by rw [ex23q]; rfl) (by decide) rfl (fun ls hl => ?_)
                        have rx23q := n_add ex23q (a := k13qy5.toInt) (b := 1) rfl n_L1 (by omega) (by omega)
                        refine lv_goto (tgt := 84) hx hb dX12_placed_130 (by decide) ?_
                        exact k13qih ((6 - x23q.toInt).toNat) (by omega) k13qy5 r16q x23q H locs ls ⟨by omega, by omega⟩ rfl (hP.sub [1, 2, 3, 4, 5, 6, 7, 8, 0] rfl) (hD.sub [1, 2, 3, 4, 5, 6, 7, 8, 0] (by decide) rfl) hS (lv_sub hl [0, 4, 1, 2, 5, 6] rfl)
                      · simp only [k_lt, k_le, k_eq, ne_eq, ge_iff_le, gt_iff_lt] at c22q
                        refine lv_goto (tgt := 127) hx hb dX12_placed_117 (by decide) ?_
                        obtain ⟨x24q, ex24q⟩ : ∃ z : Int32, z = k13qy5 + 1 := ⟨_, rfl⟩
                        refine lv_iinc (v := x24q) (lv' := [(5, .int x24q), (6, .int r16q), (2, .int 6), (4, .int k13qy4), (3, .int k13qy3), (0, .ref da), (1, .int w0)]) hx hb dX12_placed_127 hl (k := 1) rfl (by rw [ex24q]; rfl) (by decide) rfl (fun ls hl => ?_)
                        have rx24q := n_add ex24q (a := k13qy5.toInt) (b := 1) rfl n_L1 (by omega) (by omega)
                        refine lv_goto (tgt := 84) hx hb dX12_placed_130 (by decide) ?_
                        exact k13qih ((6 - x24q.toInt).toNat) (by omega) k13qy3 k13qy4 x24q H locs ls ⟨by omega, by omega⟩ rfl (hP.sub [1, 2, 3, 4, 5, 6, 7, 8, 0] rfl) (hD.sub [1, 2, 3, 4, 5, 6, 7, 8, 0] (by decide) rfl) hS (lv_sub hl [0, 2, 3, 4, 5, 6] rfl)
            exact k13q _ (-1) 0 0 H locs ls ⟨by rw [n_L0]; omega, by rw [n_L0]; omega⟩ rfl hP hD hS (lv_sub hl [0, 1, 2, 3, 4, 5] rfl)
          · have h7 : d_spots = 2 := Int32.toInt_inj.mp (h9.trans (by decide))
            refine lv_iconst (v := 1) hx hb dX12_placed_51 (by decide) ?_
            refine lv_istore_n (lv' := [(2, .int 1), (0, .ref da), (1, .int w0)]) hx hb dX12_placed_52 rfl hl (by decide) rfl (fun ls hl => ?_)
            refine lv_iconst (v := (-1)) hx hb dX12_placed_53 (by decide) ?_
            refine lv_istore_n (lv' := [(3, .int (-1)), (2, .int 1), (0, .ref da), (1, .int w0)]) hx hb dX12_placed_54 rfl hl (by decide) rfl (fun ls hl => ?_)
            refine lv_iconst (v := 0) hx hb dX12_placed_55 (by decide) ?_
            refine lv_istore (lv' := [(4, .int 0), (3, .int (-1)), (2, .int 1), (0, .ref da), (1, .int w0)]) hx hb dX12_placed_56 hl (by decide) rfl (fun ls hl => ?_)
            refine lv_iconst (v := 0) hx hb dX12_placed_58 (by decide) ?_
            refine lv_istore (lv' := [(5, .int 0), (4, .int 0), (3, .int (-1)), (2, .int 1), (0, .ref da), (1, .int w0)]) hx hb dX12_placed_59 hl (by decide) rfl (fun ls hl => ?_)
            refine lv_iload hx hb dX12_placed_61 (lv_at hl 0 rfl) ?_
            refine lv_aload_n hx hb dX12_placed_63 rfl (lv_at hl 4 rfl) ?_
            refine va_get (D := D) (ci := 13) (v := .int d_spots) (C := RX12) (T := TX12) (N := 48) hx hb hts kin_RX12 hown hG.1 hP 8 rfl rfl 24 (by decide) (hts _ wm_1543) (fun _ h9 => h9) rfl dX12_placed_64 ?_
            rw [h7]
            refine lv_icmp_ge (tgt := 81) hx hb dX12_placed_67 (by decide) (fun h => absurd h (by decide)) (fun _ => ?_)
            refine lv_iload_n hx hb dX12_placed_70 rfl (lv_at hl 3 rfl) ?_
            refine lv_bipush (v := 6) hx hb dX12_placed_71 (by decide) ?_
            refine lv_imul hx hb dX12_placed_73 ?_
            refine lv_topi (fun x25q ex25q => ?_)
            obtain rfl : x25q = 6 := ex25q.trans (by decide)
            refine lv_istore_n (lv' := [(2, .int 6), (5, .int 0), (4, .int 0), (3, .int (-1)), (0, .ref da), (1, .int w0)]) hx hb dX12_placed_74 rfl hl (by decide) rfl (fun ls hl => ?_)
            refine lv_iinc (v := 1) (lv' := [(5, .int 1), (2, .int 6), (4, .int 0), (3, .int (-1)), (0, .ref da), (1, .int w0)]) hx hb dX12_placed_75 hl (k := 1) rfl (by decide) (by decide) rfl (fun ls hl => ?_)
            refine lv_goto (tgt := 61) hx hb dX12_placed_78 (by decide) ?_
            refine lv_iload hx hb dX12_placed_61 (lv_at hl 0 rfl) ?_
            refine lv_aload_n hx hb dX12_placed_63 rfl (lv_at hl 4 rfl) ?_
            refine va_get (D := D) (ci := 13) (v := .int d_spots) (C := RX12) (T := TX12) (N := 48) hx hb hts kin_RX12 hown hG.1 hP 8 rfl rfl 24 (by decide) (hts _ wm_1543) (fun _ h9 => h9) rfl dX12_placed_64 ?_
            rw [h7]
            refine lv_icmp_ge (tgt := 81) hx hb dX12_placed_67 (by decide) (fun h => absurd h (by decide)) (fun _ => ?_)
            refine lv_iload_n hx hb dX12_placed_70 rfl (lv_at hl 1 rfl) ?_
            refine lv_bipush (v := 6) hx hb dX12_placed_71 (by decide) ?_
            refine lv_imul hx hb dX12_placed_73 ?_
            refine lv_topi (fun x26q ex26q => ?_)
            obtain rfl : x26q = 36 := ex26q.trans (by decide)
            refine lv_istore_n (lv' := [(2, .int 36), (5, .int 1), (4, .int 0), (3, .int (-1)), (0, .ref da), (1, .int w0)]) hx hb dX12_placed_74 rfl hl (by decide) rfl (fun ls hl => ?_)
            refine lv_iinc (v := 2) (lv' := [(5, .int 2), (2, .int 36), (4, .int 0), (3, .int (-1)), (0, .ref da), (1, .int w0)]) hx hb dX12_placed_75 hl (k := 1) rfl (by decide) (by decide) rfl (fun ls hl => ?_)
            refine lv_goto (tgt := 61) hx hb dX12_placed_78 (by decide) ?_
            refine lv_iload hx hb dX12_placed_61 (lv_at hl 0 rfl) ?_
            refine lv_aload_n hx hb dX12_placed_63 rfl (lv_at hl 4 rfl) ?_
            refine va_get (D := D) (ci := 13) (v := .int d_spots) (C := RX12) (T := TX12) (N := 48) hx hb hts kin_RX12 hown hG.1 hP 8 rfl rfl 24 (by decide) (hts _ wm_1543) (fun _ h9 => h9) rfl dX12_placed_64 ?_
            rw [h7]
            refine lv_icmp_ge (tgt := 81) hx hb dX12_placed_67 (by decide) (fun _ => ?_) (fun h => absurd (by decide) h)
            refine lv_iconst (v := 0) hx hb dX12_placed_81 (by decide) ?_
            refine lv_istore (lv' := [(5, .int 0), (2, .int 36), (4, .int 0), (3, .int (-1)), (0, .ref da), (1, .int w0)]) hx hb dX12_placed_82 hl (by decide) rfl (fun ls hl => ?_)
            have k27q : ∀ (n : Nat) (k27qy3 : Int32) (k27qy4 : Int32) (k27qy5 : Int32) (H : Heap) (locs : List Loc) (ls : Array Slot), 0 ≤ k27qy5.toInt ∧ k27qy5.toInt ≤ 36 → (36 - k27qy5.toInt).toNat = n → va_P D vwCl [(da_many, .inl (cy 0, 5, .inl df_many)), (da_spot, .inl (cy 5, 6, .inr (.inr (.inr (.inr (fun i => if i < 6 then some (da_spot + 1 + i) else none)))))), ((da_spot + 1 + 0), .inl (cy 0, 2, .inl ((dF_spot 0)))), ((da_spot + 1 + 1), .inl (cy 0, 2, .inl ((dF_spot 1)))), ((da_spot + 1 + 2), .inl (cy 0, 2, .inl ((dF_spot 2)))), ((da_spot + 1 + 3), .inl (cy 0, 2, .inl ((dF_spot 3)))), ((da_spot + 1 + 4), .inl (cy 0, 2, .inl ((dF_spot 4)))), ((da_spot + 1 + 5), .inl (cy 0, 2, .inl ((dF_spot 5)))), (da, .inr (13, [.int ((u6q.1 0)), .int d_tape, .int d_size, .int d_place, .int d_at, .int d_fault, .int d_faultAt, .int d_clauses, .ref da_fed, .ref da_readBody, .ref da_body, .ref da_readMany, .ref da_many, .ref da_without, .ref da_did, .ref da_done, .ref da_bed, .int d_now, .int d_mindAt, .int d_way, .int d_harm, .int d_worth, .int d_passes, .int d_passings, .int d_spots, .int d_images, .ref da_passing, .ref da_spot, .ref da_kept, .ref da_aside, .int d_spare, .ref da_ran, .ref da_who, .ref da_cap, .ref da_w, .ref da_laid, .int d_whoMany, .int d_drifted, .int d_seed, .ref da_cries, .ref da_holds, .ref da_came, .ref da_least, .ref da_firstTo, .int d_steps, .int d_roundFrom, .int d_roundMany, .int d_numberAt]))] H → va_D A [(da_many, .inl (cy 0, 5, .inl df_many)), (da_spot, .inl (cy 5, 6, .inr (.inr (.inr (.inr (fun i => if i < 6 then some (da_spot + 1 + i) else none)))))), ((da_spot + 1 + 0), .inl (cy 0, 2, .inl ((dF_spot 0)))), ((da_spot + 1 + 1), .inl (cy 0, 2, .inl ((dF_spot 1)))), ((da_spot + 1 + 2), .inl (cy 0, 2, .inl ((dF_spot 2)))), ((da_spot + 1 + 3), .inl (cy 0, 2, .inl ((dF_spot 3)))), ((da_spot + 1 + 4), .inl (cy 0, 2, .inl ((dF_spot 4)))), ((da_spot + 1 + 5), .inl (cy 0, 2, .inl ((dF_spot 5)))), (da, .inr (13, [.int ((u6q.1 0)), .int d_tape, .int d_size, .int d_place, .int d_at, .int d_fault, .int d_faultAt, .int d_clauses, .ref da_fed, .ref da_readBody, .ref da_body, .ref da_readMany, .ref da_many, .ref da_without, .ref da_did, .ref da_done, .ref da_bed, .int d_now, .int d_mindAt, .int d_way, .int d_harm, .int d_worth, .int d_passes, .int d_passings, .int d_spots, .int d_images, .ref da_passing, .ref da_spot, .ref da_kept, .ref da_aside, .int d_spare, .ref da_ran, .ref da_who, .ref da_cap, .ref da_w, .ref da_laid, .int d_whoMany, .int d_drifted, .int d_seed, .ref da_cries, .ref da_holds, .ref da_came, .ref da_least, .ref da_firstTo, .int d_steps, .int d_roundFrom, .int d_roundMany, .int d_numberAt]))] → va_S A s.heap H locs → lv_has ls 7 [(5, .int k27qy5), (2, .int 36), (4, .int k27qy4), (3, .int k27qy3), (0, .ref da), (1, .int w0)] → W p l e ({ frames := 13, cells := 0, slots := 0, locals := 480 }) s m ([.ref da, .int w0] : List Value).toArray below meth c H locs 0 0 Q0 (F0 m 84 ls []) := by
              intro n
              induction n using Nat.strongRecOn with
              | ind n k27qih =>
                intro k27qy3 k27qy4 k27qy5 H locs ls hk27qy5 k27qm hP hD hS hl
                have gk27qy3 := k_rng k27qy3
                have gk27qy4 := k_rng k27qy4
                refine lv_iload hx hb dX12_placed_84 (lv_at hl 0 rfl) ?_
                refine lv_iload_n hx hb dX12_placed_86 rfl (lv_at hl 1 rfl) ?_
                refine lv_icmp_ge (tgt := 133) hx hb dX12_placed_87 (by decide) (fun c28q => ?_) (fun c28q => ?_)
                · simp only [k_lt, k_le, k_eq, ne_eq, ge_iff_le, gt_iff_lt, n_L36] at c28q
                  refine lv_iload_n hx hb dX12_placed_133 rfl (lv_at hl 5 rfl) ?_
                  refine lv_if_ne (tgt := 142) hx hb dX12_placed_134 (by decide) (fun c29q => ?_) (fun c29q => ?_)
                  · simp only [k_lt, k_le, k_eq, ne_eq, ge_iff_le, gt_iff_lt, n_L0, n_L0] at c29q
                    refine lv_iload_n hx hb dX12_placed_142 rfl (lv_at hl 3 rfl) ?_
                    rw [hQ0]
                    exact k_iret (fun k => [((u6q.1 0))].getD k 0, fun k => [].getD k (fun _ => 0)) hx hb hr hlk (trivial) (hP.sub [8, 0, 1, 2, 3, 4, 5, 6, 7] rfl) (hD.sub [8, 0, 1, 2, 3, 4, 5, 6, 7] (by decide) rfl) hS (by decide) (by decide) dX12_placed_143
                  · simp only [k_lt, k_le, k_eq, ne_eq, ge_iff_le, gt_iff_lt, n_L0, n_L0] at c29q
                    refine lv_iload hx hb dX12_placed_137 (lv_at hl 2 rfl) ?_
                    refine lv_goto (tgt := 143) hx hb dX12_placed_139 (by decide) ?_
                    rw [hQ0]
                    exact k_iret (fun k => [((u6q.1 0))].getD k 0, fun k => [].getD k (fun _ => 0)) hx hb hr hlk (trivial) (hP.sub [8, 0, 1, 2, 3, 4, 5, 6, 7] rfl) (hD.sub [8, 0, 1, 2, 3, 4, 5, 6, 7] (by decide) rfl) hS (by decide) (by decide) dX12_placed_143
                · simp only [k_lt, k_le, k_eq, ne_eq, ge_iff_le, gt_iff_lt, n_L36] at c28q
                  refine lv_aload_n hx hb dX12_placed_90 rfl (lv_at hl 4 rfl) ?_
                  refine lv_iload hx hb dX12_placed_91 (lv_at hl 0 rfl) ?_
                  refine lv_iload_n hx hb dX12_placed_93 rfl (lv_at hl 1 rfl) ?_
                  refine k_cali [] (⟨hP, hD, hG, hS, hA, rfl, rfl⟩ : kAt D cy sa A s H _ _ [(da, .inr (13, [.int ((u6q.1 0)), .int d_tape, .int d_size, .int d_place, .int d_at, .int d_fault, .int d_faultAt, .int d_clauses, .ref da_fed, .ref da_readBody, .ref da_body, .ref da_readMany, .ref da_many, .ref da_without, .ref da_did, .ref da_done, .ref da_bed, .int d_now, .int d_mindAt, .int d_way, .int d_harm, .int d_worth, .int d_passes, .int d_passings, .int d_spots, .int d_images, .ref da_passing, .ref da_spot, .ref da_kept, .ref da_aside, .int d_spare, .ref da_ran, .ref da_who, .ref da_cap, .ref da_w, .ref da_laid, .int d_whoMany, .int d_drifted, .int d_seed, .ref da_cries, .ref da_holds, .ref da_came, .ref da_least, .ref da_firstTo, .int d_steps, .int d_roundFrom, .int d_roundMany, .int d_numberAt])), (da_many, .inl (cy 0, 5, .inl df_many)), (da_spot, .inl (cy 5, 6, .inr (.inr (.inr (.inr (fun i => if i < 6 then some (da_spot + 1 + i) else none)))))), ((da_spot + 1 + 0), .inl (cy 0, 2, .inl ((dF_spot 0)))), ((da_spot + 1 + 1), .inl (cy 0, 2, .inl ((dF_spot 1)))), ((da_spot + 1 + 2), .inl (cy 0, 2, .inl ((dF_spot 2)))), ((da_spot + 1 + 3), .inl (cy 0, 2, .inl ((dF_spot 3)))), ((da_spot + 1 + 4), .inl (cy 0, 2, .inl ((dF_spot 4)))), ((da_spot + 1 + 5), .inl (cy 0, 2, .inl ((dF_spot 5))))] [8, 0, 1, 2, 3, 4, 5, 6, 7]) (wr := []) rfl rfl (by decide) (k_runV 13 8 (As := [.int k27qy5, .int 36]) (rest := []) E lk_VRX12_340 rfl rfl rfl (m_roundOf l hl0 D cy sa da da_fed da_readBody da_body da_readMany da_many da_without da_did da_done da_bed da_passing da_spot da_kept da_aside da_ran da_who da_cap da_w da_laid da_cries da_holds da_came da_least da_firstTo ((u6q.1 0)) d_tape d_size d_place d_at d_fault d_faultAt d_clauses d_now d_mindAt d_way d_harm d_worth d_passes d_passings d_spots d_images d_spare d_whoMany d_drifted d_seed d_steps d_roundFrom d_roundMany d_numberAt k27qy5 36 df_many dF_spot ⟨by omega, by omega⟩ ⟨by omega, by omega⟩ ⟨by omega, by omega⟩ ⟨by omega, by omega⟩ ⟨by omega, by omega⟩ ⟨by omega, by omega⟩ ⟨by omega, by omega⟩ ⟨by omega, by omega⟩ ⟨by omega, by omega⟩ ⟨by omega, by omega⟩ (by assumption) (by assumption) (by assumption) ⟨by omega, by omega⟩ (by first | exact Or.inl ⟨by decide, by omega⟩ | exact Or.inr (Or.inl ⟨by decide, by omega⟩) | exact Or.inr (Or.inr (Or.inl ⟨by decide, by omega⟩)) | exact Or.inr (Or.inr (Or.inr (Or.inl ⟨by decide, by omega⟩))) | exact Or.inr (Or.inr (Or.inr (Or.inr (Or.inl ⟨by decide, by omega⟩)))) | exact Or.inr (Or.inr (Or.inr (Or.inr (Or.inr (⟨by decide, by omega⟩))))) | omega) (by first | exact Or.inl ⟨by decide, by omega⟩ | exact Or.inr (Or.inl ⟨by decide, by omega⟩) | exact Or.inr (Or.inr (Or.inl ⟨by decide, by omega⟩)) | exact Or.inr (Or.inr (Or.inr (Or.inl ⟨by decide, by omega⟩))) | exact Or.inr (Or.inr (Or.inr (Or.inr (Or.inl ⟨by decide, by omega⟩)))) | exact Or.inr (Or.inr (Or.inr (Or.inr (Or.inr (⟨by decide, by omega⟩))))) | omega) H.size) (⟨hP, hD, hG, hS, hA, rfl, rfl⟩ : kAt D cy sa A s H _ _ [(da, .inr (13, [.int ((u6q.1 0)), .int d_tape, .int d_size, .int d_place, .int d_at, .int d_fault, .int d_faultAt, .int d_clauses, .ref da_fed, .ref da_readBody, .ref da_body, .ref da_readMany, .ref da_many, .ref da_without, .ref da_did, .ref da_done, .ref da_bed, .int d_now, .int d_mindAt, .int d_way, .int d_harm, .int d_worth, .int d_passes, .int d_passings, .int d_spots, .int d_images, .ref da_passing, .ref da_spot, .ref da_kept, .ref da_aside, .int d_spare, .ref da_ran, .ref da_who, .ref da_cap, .ref da_w, .ref da_laid, .int d_whoMany, .int d_drifted, .int d_seed, .ref da_cries, .ref da_holds, .ref da_came, .ref da_least, .ref da_firstTo, .int d_steps, .int d_roundFrom, .int d_roundMany, .int d_numberAt])), (da_many, .inl (cy 0, 5, .inl df_many)), (da_spot, .inl (cy 5, 6, .inr (.inr (.inr (.inr (fun i => if i < 6 then some (da_spot + 1 + i) else none)))))), ((da_spot + 1 + 0), .inl (cy 0, 2, .inl ((dF_spot 0)))), ((da_spot + 1 + 1), .inl (cy 0, 2, .inl ((dF_spot 1)))), ((da_spot + 1 + 2), .inl (cy 0, 2, .inl ((dF_spot 2)))), ((da_spot + 1 + 3), .inl (cy 0, 2, .inl ((dF_spot 3)))), ((da_spot + 1 + 4), .inl (cy 0, 2, .inl ((dF_spot 4)))), ((da_spot + 1 + 5), .inl (cy 0, 2, .inl ((dF_spot 5))))] [8, 0, 1, 2, 3, 4, 5, 6, 7]) hl.1 rfl rfl ⟨rfl, rfl, ⟨Nat.le_of_ble_eq_true rfl, Nat.le_of_ble_eq_true rfl⟩, ⟨Nat.le_of_ble_eq_true rfl, Nat.le_of_ble_eq_true rfl⟩, Nat.le_of_ble_eq_true rfl⟩ dX12_placed_94) (fun r30q u31q H locs hwu31q hP hD hS => ?_)
                  have hP : va_P D vwCl [(da, .inr (13, [.int ((u6q.1 0)), .int d_tape, .int d_size, .int d_place, .int d_at, .int d_fault, .int d_faultAt, .int d_clauses, .ref da_fed, .ref da_readBody, .ref da_body, .ref da_readMany, .ref da_many, .ref da_without, .ref da_did, .ref da_done, .ref da_bed, .int d_now, .int d_mindAt, .int d_way, .int d_harm, .int d_worth, .int d_passes, .int d_passings, .int d_spots, .int d_images, .ref da_passing, .ref da_spot, .ref da_kept, .ref da_aside, .int d_spare, .ref da_ran, .ref da_who, .ref da_cap, .ref da_w, .ref da_laid, .int d_whoMany, .int d_drifted, .int d_seed, .ref da_cries, .ref da_holds, .ref da_came, .ref da_least, .ref da_firstTo, .int d_steps, .int d_roundFrom, .int d_roundMany, .int d_numberAt])), (da_many, .inl (cy 0, 5, .inl df_many)), (da_spot, .inl (cy 5, 6, .inr (.inr (.inr (.inr (fun i => if i < 6 then some (da_spot + 1 + i) else none)))))), ((da_spot + 1 + 0), .inl (cy 0, 2, .inl ((dF_spot 0)))), ((da_spot + 1 + 1), .inl (cy 0, 2, .inl ((dF_spot 1)))), ((da_spot + 1 + 2), .inl (cy 0, 2, .inl ((dF_spot 2)))), ((da_spot + 1 + 3), .inl (cy 0, 2, .inl ((dF_spot 3)))), ((da_spot + 1 + 4), .inl (cy 0, 2, .inl ((dF_spot 4)))), ((da_spot + 1 + 5), .inl (cy 0, 2, .inl ((dF_spot 5))))] H := hP
                  have hD : va_D A [(da, .inr (13, [.int ((u6q.1 0)), .int d_tape, .int d_size, .int d_place, .int d_at, .int d_fault, .int d_faultAt, .int d_clauses, .ref da_fed, .ref da_readBody, .ref da_body, .ref da_readMany, .ref da_many, .ref da_without, .ref da_did, .ref da_done, .ref da_bed, .int d_now, .int d_mindAt, .int d_way, .int d_harm, .int d_worth, .int d_passes, .int d_passings, .int d_spots, .int d_images, .ref da_passing, .ref da_spot, .ref da_kept, .ref da_aside, .int d_spare, .ref da_ran, .ref da_who, .ref da_cap, .ref da_w, .ref da_laid, .int d_whoMany, .int d_drifted, .int d_seed, .ref da_cries, .ref da_holds, .ref da_came, .ref da_least, .ref da_firstTo, .int d_steps, .int d_roundFrom, .int d_roundMany, .int d_numberAt])), (da_many, .inl (cy 0, 5, .inl df_many)), (da_spot, .inl (cy 5, 6, .inr (.inr (.inr (.inr (fun i => if i < 6 then some (da_spot + 1 + i) else none)))))), ((da_spot + 1 + 0), .inl (cy 0, 2, .inl ((dF_spot 0)))), ((da_spot + 1 + 1), .inl (cy 0, 2, .inl ((dF_spot 1)))), ((da_spot + 1 + 2), .inl (cy 0, 2, .inl ((dF_spot 2)))), ((da_spot + 1 + 3), .inl (cy 0, 2, .inl ((dF_spot 3)))), ((da_spot + 1 + 4), .inl (cy 0, 2, .inl ((dF_spot 4)))), ((da_spot + 1 + 5), .inl (cy 0, 2, .inl ((dF_spot 5))))] := hD
                  refine lv_istore (lv' := [(6, .int r30q), (5, .int k27qy5), (2, .int 36), (4, .int k27qy4), (3, .int k27qy3), (0, .ref da), (1, .int w0)]) hx hb dX12_placed_97 hl (by decide) rfl (fun ls hl => ?_)
                  refine lv_iload hx hb dX12_placed_99 (lv_at hl 0 rfl) ?_
                  refine lv_iconst (v := (-1)) hx hb dX12_placed_101 (by decide) ?_
                  refine lv_icmp_eq (tgt := 127) hx hb dX12_placed_102 (by decide) (fun c32q => ?_) (fun c32q => ?_)
                  · simp only [k_lt, k_le, k_eq, ne_eq, ge_iff_le, gt_iff_lt, n_Lm1] at c32q
                    obtain ⟨x33q, ex33q⟩ : ∃ z : Int32, z = k27qy5 + 1 := ⟨_, rfl⟩
                    refine lv_iinc (v := x33q) (lv' := [(5, .int x33q), (6, .int r30q), (2, .int 36), (4, .int k27qy4), (3, .int k27qy3), (0, .ref da), (1, .int w0)]) hx hb dX12_placed_127 hl (k := 1) rfl (by rw [ex33q]; rfl) (by decide) rfl (fun ls hl => ?_)
                    have rx33q := n_add ex33q (a := k27qy5.toInt) (b := 1) rfl n_L1 (by omega) (by omega)
                    refine lv_goto (tgt := 84) hx hb dX12_placed_130 (by decide) ?_
                    exact k27qih ((36 - x33q.toInt).toNat) (by omega) k27qy3 k27qy4 x33q H locs ls ⟨by omega, by omega⟩ rfl (hP.sub [1, 2, 3, 4, 5, 6, 7, 8, 0] rfl) (hD.sub [1, 2, 3, 4, 5, 6, 7, 8, 0] (by decide) rfl) hS (lv_sub hl [0, 2, 3, 4, 5, 6] rfl)
                  · simp only [k_lt, k_le, k_eq, ne_eq, ge_iff_le, gt_iff_lt, n_Lm1] at c32q
                    refine lv_iload_n hx hb dX12_placed_105 rfl (lv_at hl 4 rfl) ?_
                    refine lv_iconst (v := (-1)) hx hb dX12_placed_106 (by decide) ?_
                    refine lv_icmp_eq (tgt := 120) hx hb dX12_placed_107 (by decide) (fun c34q => ?_) (fun c34q => ?_)
                    · simp only [k_lt, k_le, k_eq, ne_eq, ge_iff_le, gt_iff_lt, n_Lm1] at c34q
                      refine lv_iload hx hb dX12_placed_120 (lv_at hl 1 rfl) ?_
                      refine lv_istore_n (lv' := [(3, .int k27qy5), (6, .int r30q), (5, .int k27qy5), (2, .int 36), (4, .int k27qy4), (0, .ref da), (1, .int w0)]) hx hb dX12_placed_122 rfl hl (by decide) rfl (fun ls hl => ?_)
                      refine lv_iload hx hb dX12_placed_123 (lv_at hl 1 rfl) ?_
                      refine lv_istore (lv' := [(4, .int r30q), (3, .int k27qy5), (6, .int r30q), (5, .int k27qy5), (2, .int 36), (0, .ref da), (1, .int w0)]) hx hb dX12_placed_125 hl (by decide) rfl (fun ls hl => ?_)
                      obtain ⟨x35q, ex35q⟩ : ∃ z : Int32, z = k27qy5 + 1 := ⟨_, rfl⟩
                      refine lv_iinc (v := x35q) (lv' := [(5, .int x35q), (4, .int r30q), (3, .int k27qy5), (6, .int r30q), (2, .int 36), (0, .ref da), (1, .int w0)]) hx hb dX12_placed_127 hl (k := 3) rfl (by rw [ex35q]; rfl) (by decide) rfl (fun ls hl => ?_)
                      have rx35q := n_add ex35q (a := k27qy5.toInt) (b := 1) rfl n_L1 (by omega) (by omega)
                      refine lv_goto (tgt := 84) hx hb dX12_placed_130 (by decide) ?_
                      exact k27qih ((36 - x35q.toInt).toNat) (by omega) k27qy5 r30q x35q H locs ls ⟨by omega, by omega⟩ rfl (hP.sub [1, 2, 3, 4, 5, 6, 7, 8, 0] rfl) (hD.sub [1, 2, 3, 4, 5, 6, 7, 8, 0] (by decide) rfl) hS (lv_sub hl [0, 4, 1, 2, 5, 6] rfl)
                    · simp only [k_lt, k_le, k_eq, ne_eq, ge_iff_le, gt_iff_lt, n_Lm1] at c34q
                      refine lv_iload hx hb dX12_placed_110 (lv_at hl 0 rfl) ?_
                      refine lv_iload hx hb dX12_placed_112 (lv_at hl 3 rfl) ?_
                      refine lv_icmp_lt (tgt := 120) hx hb dX12_placed_114 (by decide) (fun c36q => ?_) (fun c36q => ?_)
                      · simp only [k_lt, k_le, k_eq, ne_eq, ge_iff_le, gt_iff_lt] at c36q
                        refine lv_iload hx hb dX12_placed_120 (lv_at hl 1 rfl) ?_
                        refine lv_istore_n (lv' := [(3, .int k27qy5), (6, .int r30q), (5, .int k27qy5), (2, .int 36), (4, .int k27qy4), (0, .ref da), (1, .int w0)]) hx hb dX12_placed_122 rfl hl (by decide) rfl (fun ls hl => ?_)
                        refine lv_iload hx hb dX12_placed_123 (lv_at hl 1 rfl) ?_
                        refine lv_istore (lv' := [(4, .int r30q), (3, .int k27qy5), (6, .int r30q), (5, .int k27qy5), (2, .int 36), (0, .ref da), (1, .int w0)]) hx hb dX12_placed_125 hl (by decide) rfl (fun ls hl => ?_)
                        obtain ⟨x37q, ex37q⟩ : ∃ z : Int32, z = k27qy5 + 1 := ⟨_, rfl⟩
                        refine lv_iinc (v := x37q) (lv' := [(5, .int x37q), (4, .int r30q), (3, .int k27qy5), (6, .int r30q), (2, .int 36), (0, .ref da), (1, .int w0)]) hx hb dX12_placed_127 hl (k := 3) rfl (by rw [ex37q]; rfl) (by decide) rfl (fun ls hl => ?_)
                        have rx37q := n_add ex37q (a := k27qy5.toInt) (b := 1) rfl n_L1 (by omega) (by omega)
                        refine lv_goto (tgt := 84) hx hb dX12_placed_130 (by decide) ?_
                        exact k27qih ((36 - x37q.toInt).toNat) (by omega) k27qy5 r30q x37q H locs ls ⟨by omega, by omega⟩ rfl (hP.sub [1, 2, 3, 4, 5, 6, 7, 8, 0] rfl) (hD.sub [1, 2, 3, 4, 5, 6, 7, 8, 0] (by decide) rfl) hS (lv_sub hl [0, 4, 1, 2, 5, 6] rfl)
                      · simp only [k_lt, k_le, k_eq, ne_eq, ge_iff_le, gt_iff_lt] at c36q
                        refine lv_goto (tgt := 127) hx hb dX12_placed_117 (by decide) ?_
                        obtain ⟨x38q, ex38q⟩ : ∃ z : Int32, z = k27qy5 + 1 := ⟨_, rfl⟩
                        refine lv_iinc (v := x38q) (lv' := [(5, .int x38q), (6, .int r30q), (2, .int 36), (4, .int k27qy4), (3, .int k27qy3), (0, .ref da), (1, .int w0)]) hx hb dX12_placed_127 hl (k := 1) rfl (by rw [ex38q]; rfl) (by decide) rfl (fun ls hl => ?_)
                        have rx38q := n_add ex38q (a := k27qy5.toInt) (b := 1) rfl n_L1 (by omega) (by omega)
                        refine lv_goto (tgt := 84) hx hb dX12_placed_130 (by decide) ?_
                        exact k27qih ((36 - x38q.toInt).toNat) (by omega) k27qy3 k27qy4 x38q H locs ls ⟨by omega, by omega⟩ rfl (hP.sub [1, 2, 3, 4, 5, 6, 7, 8, 0] rfl) (hD.sub [1, 2, 3, 4, 5, 6, 7, 8, 0] (by decide) rfl) hS (lv_sub hl [0, 2, 3, 4, 5, 6] rfl)
            exact k27q _ (-1) 0 0 H locs ls ⟨by rw [n_L0]; omega, by rw [n_L0]; omega⟩ rfl hP hD hS (lv_sub hl [0, 1, 2, 3, 4, 5] rfl)
          · have h7 : d_spots = 3 := Int32.toInt_inj.mp (h9.trans (by decide))
            refine lv_iconst (v := 1) hx hb dX12_placed_51 (by decide) ?_
            refine lv_istore_n (lv' := [(2, .int 1), (0, .ref da), (1, .int w0)]) hx hb dX12_placed_52 rfl hl (by decide) rfl (fun ls hl => ?_)
            refine lv_iconst (v := (-1)) hx hb dX12_placed_53 (by decide) ?_
            refine lv_istore_n (lv' := [(3, .int (-1)), (2, .int 1), (0, .ref da), (1, .int w0)]) hx hb dX12_placed_54 rfl hl (by decide) rfl (fun ls hl => ?_)
            refine lv_iconst (v := 0) hx hb dX12_placed_55 (by decide) ?_
            refine lv_istore (lv' := [(4, .int 0), (3, .int (-1)), (2, .int 1), (0, .ref da), (1, .int w0)]) hx hb dX12_placed_56 hl (by decide) rfl (fun ls hl => ?_)
            refine lv_iconst (v := 0) hx hb dX12_placed_58 (by decide) ?_
            refine lv_istore (lv' := [(5, .int 0), (4, .int 0), (3, .int (-1)), (2, .int 1), (0, .ref da), (1, .int w0)]) hx hb dX12_placed_59 hl (by decide) rfl (fun ls hl => ?_)
            refine lv_iload hx hb dX12_placed_61 (lv_at hl 0 rfl) ?_
            refine lv_aload_n hx hb dX12_placed_63 rfl (lv_at hl 4 rfl) ?_
            refine va_get (D := D) (ci := 13) (v := .int d_spots) (C := RX12) (T := TX12) (N := 48) hx hb hts kin_RX12 hown hG.1 hP 8 rfl rfl 24 (by decide) (hts _ wm_1543) (fun _ h9 => h9) rfl dX12_placed_64 ?_
            rw [h7]
            refine lv_icmp_ge (tgt := 81) hx hb dX12_placed_67 (by decide) (fun h => absurd h (by decide)) (fun _ => ?_)
            refine lv_iload_n hx hb dX12_placed_70 rfl (lv_at hl 3 rfl) ?_
            refine lv_bipush (v := 6) hx hb dX12_placed_71 (by decide) ?_
            refine lv_imul hx hb dX12_placed_73 ?_
            refine lv_topi (fun x39q ex39q => ?_)
            obtain rfl : x39q = 6 := ex39q.trans (by decide)
            refine lv_istore_n (lv' := [(2, .int 6), (5, .int 0), (4, .int 0), (3, .int (-1)), (0, .ref da), (1, .int w0)]) hx hb dX12_placed_74 rfl hl (by decide) rfl (fun ls hl => ?_)
            refine lv_iinc (v := 1) (lv' := [(5, .int 1), (2, .int 6), (4, .int 0), (3, .int (-1)), (0, .ref da), (1, .int w0)]) hx hb dX12_placed_75 hl (k := 1) rfl (by decide) (by decide) rfl (fun ls hl => ?_)
            refine lv_goto (tgt := 61) hx hb dX12_placed_78 (by decide) ?_
            refine lv_iload hx hb dX12_placed_61 (lv_at hl 0 rfl) ?_
            refine lv_aload_n hx hb dX12_placed_63 rfl (lv_at hl 4 rfl) ?_
            refine va_get (D := D) (ci := 13) (v := .int d_spots) (C := RX12) (T := TX12) (N := 48) hx hb hts kin_RX12 hown hG.1 hP 8 rfl rfl 24 (by decide) (hts _ wm_1543) (fun _ h9 => h9) rfl dX12_placed_64 ?_
            rw [h7]
            refine lv_icmp_ge (tgt := 81) hx hb dX12_placed_67 (by decide) (fun h => absurd h (by decide)) (fun _ => ?_)
            refine lv_iload_n hx hb dX12_placed_70 rfl (lv_at hl 1 rfl) ?_
            refine lv_bipush (v := 6) hx hb dX12_placed_71 (by decide) ?_
            refine lv_imul hx hb dX12_placed_73 ?_
            refine lv_topi (fun x40q ex40q => ?_)
            obtain rfl : x40q = 36 := ex40q.trans (by decide)
            refine lv_istore_n (lv' := [(2, .int 36), (5, .int 1), (4, .int 0), (3, .int (-1)), (0, .ref da), (1, .int w0)]) hx hb dX12_placed_74 rfl hl (by decide) rfl (fun ls hl => ?_)
            refine lv_iinc (v := 2) (lv' := [(5, .int 2), (2, .int 36), (4, .int 0), (3, .int (-1)), (0, .ref da), (1, .int w0)]) hx hb dX12_placed_75 hl (k := 1) rfl (by decide) (by decide) rfl (fun ls hl => ?_)
            refine lv_goto (tgt := 61) hx hb dX12_placed_78 (by decide) ?_
            refine lv_iload hx hb dX12_placed_61 (lv_at hl 0 rfl) ?_
            refine lv_aload_n hx hb dX12_placed_63 rfl (lv_at hl 4 rfl) ?_
            refine va_get (D := D) (ci := 13) (v := .int d_spots) (C := RX12) (T := TX12) (N := 48) hx hb hts kin_RX12 hown hG.1 hP 8 rfl rfl 24 (by decide) (hts _ wm_1543) (fun _ h9 => h9) rfl dX12_placed_64 ?_
            rw [h7]
            refine lv_icmp_ge (tgt := 81) hx hb dX12_placed_67 (by decide) (fun h => absurd h (by decide)) (fun _ => ?_)
            refine lv_iload_n hx hb dX12_placed_70 rfl (lv_at hl 1 rfl) ?_
            refine lv_bipush (v := 6) hx hb dX12_placed_71 (by decide) ?_
            refine lv_imul hx hb dX12_placed_73 ?_
            refine lv_topi (fun x41q ex41q => ?_)
            obtain rfl : x41q = 216 := ex41q.trans (by decide)
            refine lv_istore_n (lv' := [(2, .int 216), (5, .int 2), (4, .int 0), (3, .int (-1)), (0, .ref da), (1, .int w0)]) hx hb dX12_placed_74 rfl hl (by decide) rfl (fun ls hl => ?_)
            refine lv_iinc (v := 3) (lv' := [(5, .int 3), (2, .int 216), (4, .int 0), (3, .int (-1)), (0, .ref da), (1, .int w0)]) hx hb dX12_placed_75 hl (k := 1) rfl (by decide) (by decide) rfl (fun ls hl => ?_)
            refine lv_goto (tgt := 61) hx hb dX12_placed_78 (by decide) ?_
            refine lv_iload hx hb dX12_placed_61 (lv_at hl 0 rfl) ?_
            refine lv_aload_n hx hb dX12_placed_63 rfl (lv_at hl 4 rfl) ?_
            refine va_get (D := D) (ci := 13) (v := .int d_spots) (C := RX12) (T := TX12) (N := 48) hx hb hts kin_RX12 hown hG.1 hP 8 rfl rfl 24 (by decide) (hts _ wm_1543) (fun _ h9 => h9) rfl dX12_placed_64 ?_
            rw [h7]
            refine lv_icmp_ge (tgt := 81) hx hb dX12_placed_67 (by decide) (fun _ => ?_) (fun h => absurd (by decide) h)
            refine lv_iconst (v := 0) hx hb dX12_placed_81 (by decide) ?_
            refine lv_istore (lv' := [(5, .int 0), (2, .int 216), (4, .int 0), (3, .int (-1)), (0, .ref da), (1, .int w0)]) hx hb dX12_placed_82 hl (by decide) rfl (fun ls hl => ?_)
            have k42q : ∀ (n : Nat) (k42qy3 : Int32) (k42qy4 : Int32) (k42qy5 : Int32) (H : Heap) (locs : List Loc) (ls : Array Slot), 0 ≤ k42qy5.toInt ∧ k42qy5.toInt ≤ 216 → (216 - k42qy5.toInt).toNat = n → va_P D vwCl [(da_many, .inl (cy 0, 5, .inl df_many)), (da_spot, .inl (cy 5, 6, .inr (.inr (.inr (.inr (fun i => if i < 6 then some (da_spot + 1 + i) else none)))))), ((da_spot + 1 + 0), .inl (cy 0, 2, .inl ((dF_spot 0)))), ((da_spot + 1 + 1), .inl (cy 0, 2, .inl ((dF_spot 1)))), ((da_spot + 1 + 2), .inl (cy 0, 2, .inl ((dF_spot 2)))), ((da_spot + 1 + 3), .inl (cy 0, 2, .inl ((dF_spot 3)))), ((da_spot + 1 + 4), .inl (cy 0, 2, .inl ((dF_spot 4)))), ((da_spot + 1 + 5), .inl (cy 0, 2, .inl ((dF_spot 5)))), (da, .inr (13, [.int ((u6q.1 0)), .int d_tape, .int d_size, .int d_place, .int d_at, .int d_fault, .int d_faultAt, .int d_clauses, .ref da_fed, .ref da_readBody, .ref da_body, .ref da_readMany, .ref da_many, .ref da_without, .ref da_did, .ref da_done, .ref da_bed, .int d_now, .int d_mindAt, .int d_way, .int d_harm, .int d_worth, .int d_passes, .int d_passings, .int d_spots, .int d_images, .ref da_passing, .ref da_spot, .ref da_kept, .ref da_aside, .int d_spare, .ref da_ran, .ref da_who, .ref da_cap, .ref da_w, .ref da_laid, .int d_whoMany, .int d_drifted, .int d_seed, .ref da_cries, .ref da_holds, .ref da_came, .ref da_least, .ref da_firstTo, .int d_steps, .int d_roundFrom, .int d_roundMany, .int d_numberAt]))] H → va_D A [(da_many, .inl (cy 0, 5, .inl df_many)), (da_spot, .inl (cy 5, 6, .inr (.inr (.inr (.inr (fun i => if i < 6 then some (da_spot + 1 + i) else none)))))), ((da_spot + 1 + 0), .inl (cy 0, 2, .inl ((dF_spot 0)))), ((da_spot + 1 + 1), .inl (cy 0, 2, .inl ((dF_spot 1)))), ((da_spot + 1 + 2), .inl (cy 0, 2, .inl ((dF_spot 2)))), ((da_spot + 1 + 3), .inl (cy 0, 2, .inl ((dF_spot 3)))), ((da_spot + 1 + 4), .inl (cy 0, 2, .inl ((dF_spot 4)))), ((da_spot + 1 + 5), .inl (cy 0, 2, .inl ((dF_spot 5)))), (da, .inr (13, [.int ((u6q.1 0)), .int d_tape, .int d_size, .int d_place, .int d_at, .int d_fault, .int d_faultAt, .int d_clauses, .ref da_fed, .ref da_readBody, .ref da_body, .ref da_readMany, .ref da_many, .ref da_without, .ref da_did, .ref da_done, .ref da_bed, .int d_now, .int d_mindAt, .int d_way, .int d_harm, .int d_worth, .int d_passes, .int d_passings, .int d_spots, .int d_images, .ref da_passing, .ref da_spot, .ref da_kept, .ref da_aside, .int d_spare, .ref da_ran, .ref da_who, .ref da_cap, .ref da_w, .ref da_laid, .int d_whoMany, .int d_drifted, .int d_seed, .ref da_cries, .ref da_holds, .ref da_came, .ref da_least, .ref da_firstTo, .int d_steps, .int d_roundFrom, .int d_roundMany, .int d_numberAt]))] → va_S A s.heap H locs → lv_has ls 7 [(5, .int k42qy5), (2, .int 216), (4, .int k42qy4), (3, .int k42qy3), (0, .ref da), (1, .int w0)] → W p l e ({ frames := 13, cells := 0, slots := 0, locals := 480 }) s m ([.ref da, .int w0] : List Value).toArray below meth c H locs 0 0 Q0 (F0 m 84 ls []) := by
              intro n
              induction n using Nat.strongRecOn with
              | ind n k42qih =>
                intro k42qy3 k42qy4 k42qy5 H locs ls hk42qy5 k42qm hP hD hS hl
                have gk42qy3 := k_rng k42qy3
                have gk42qy4 := k_rng k42qy4
                refine lv_iload hx hb dX12_placed_84 (lv_at hl 0 rfl) ?_
                refine lv_iload_n hx hb dX12_placed_86 rfl (lv_at hl 1 rfl) ?_
                refine lv_icmp_ge (tgt := 133) hx hb dX12_placed_87 (by decide) (fun c43q => ?_) (fun c43q => ?_)
                · simp only [k_lt, k_le, k_eq, ne_eq, ge_iff_le, gt_iff_lt, n_L216] at c43q
                  refine lv_iload_n hx hb dX12_placed_133 rfl (lv_at hl 5 rfl) ?_
                  refine lv_if_ne (tgt := 142) hx hb dX12_placed_134 (by decide) (fun c44q => ?_) (fun c44q => ?_)
                  · simp only [k_lt, k_le, k_eq, ne_eq, ge_iff_le, gt_iff_lt, n_L0, n_L0] at c44q
                    refine lv_iload_n hx hb dX12_placed_142 rfl (lv_at hl 3 rfl) ?_
                    rw [hQ0]
                    exact k_iret (fun k => [((u6q.1 0))].getD k 0, fun k => [].getD k (fun _ => 0)) hx hb hr hlk (trivial) (hP.sub [8, 0, 1, 2, 3, 4, 5, 6, 7] rfl) (hD.sub [8, 0, 1, 2, 3, 4, 5, 6, 7] (by decide) rfl) hS (by decide) (by decide) dX12_placed_143
                  · simp only [k_lt, k_le, k_eq, ne_eq, ge_iff_le, gt_iff_lt, n_L0, n_L0] at c44q
                    refine lv_iload hx hb dX12_placed_137 (lv_at hl 2 rfl) ?_
                    refine lv_goto (tgt := 143) hx hb dX12_placed_139 (by decide) ?_
                    rw [hQ0]
                    exact k_iret (fun k => [((u6q.1 0))].getD k 0, fun k => [].getD k (fun _ => 0)) hx hb hr hlk (trivial) (hP.sub [8, 0, 1, 2, 3, 4, 5, 6, 7] rfl) (hD.sub [8, 0, 1, 2, 3, 4, 5, 6, 7] (by decide) rfl) hS (by decide) (by decide) dX12_placed_143
                · simp only [k_lt, k_le, k_eq, ne_eq, ge_iff_le, gt_iff_lt, n_L216] at c43q
                  refine lv_aload_n hx hb dX12_placed_90 rfl (lv_at hl 4 rfl) ?_
                  refine lv_iload hx hb dX12_placed_91 (lv_at hl 0 rfl) ?_
                  refine lv_iload_n hx hb dX12_placed_93 rfl (lv_at hl 1 rfl) ?_
                  refine k_cali [] (⟨hP, hD, hG, hS, hA, rfl, rfl⟩ : kAt D cy sa A s H _ _ [(da, .inr (13, [.int ((u6q.1 0)), .int d_tape, .int d_size, .int d_place, .int d_at, .int d_fault, .int d_faultAt, .int d_clauses, .ref da_fed, .ref da_readBody, .ref da_body, .ref da_readMany, .ref da_many, .ref da_without, .ref da_did, .ref da_done, .ref da_bed, .int d_now, .int d_mindAt, .int d_way, .int d_harm, .int d_worth, .int d_passes, .int d_passings, .int d_spots, .int d_images, .ref da_passing, .ref da_spot, .ref da_kept, .ref da_aside, .int d_spare, .ref da_ran, .ref da_who, .ref da_cap, .ref da_w, .ref da_laid, .int d_whoMany, .int d_drifted, .int d_seed, .ref da_cries, .ref da_holds, .ref da_came, .ref da_least, .ref da_firstTo, .int d_steps, .int d_roundFrom, .int d_roundMany, .int d_numberAt])), (da_many, .inl (cy 0, 5, .inl df_many)), (da_spot, .inl (cy 5, 6, .inr (.inr (.inr (.inr (fun i => if i < 6 then some (da_spot + 1 + i) else none)))))), ((da_spot + 1 + 0), .inl (cy 0, 2, .inl ((dF_spot 0)))), ((da_spot + 1 + 1), .inl (cy 0, 2, .inl ((dF_spot 1)))), ((da_spot + 1 + 2), .inl (cy 0, 2, .inl ((dF_spot 2)))), ((da_spot + 1 + 3), .inl (cy 0, 2, .inl ((dF_spot 3)))), ((da_spot + 1 + 4), .inl (cy 0, 2, .inl ((dF_spot 4)))), ((da_spot + 1 + 5), .inl (cy 0, 2, .inl ((dF_spot 5))))] [8, 0, 1, 2, 3, 4, 5, 6, 7]) (wr := []) rfl rfl (by decide) (k_runV 13 8 (As := [.int k42qy5, .int 216]) (rest := []) E lk_VRX12_340 rfl rfl rfl (m_roundOf l hl0 D cy sa da da_fed da_readBody da_body da_readMany da_many da_without da_did da_done da_bed da_passing da_spot da_kept da_aside da_ran da_who da_cap da_w da_laid da_cries da_holds da_came da_least da_firstTo ((u6q.1 0)) d_tape d_size d_place d_at d_fault d_faultAt d_clauses d_now d_mindAt d_way d_harm d_worth d_passes d_passings d_spots d_images d_spare d_whoMany d_drifted d_seed d_steps d_roundFrom d_roundMany d_numberAt k42qy5 216 df_many dF_spot ⟨by omega, by omega⟩ ⟨by omega, by omega⟩ ⟨by omega, by omega⟩ ⟨by omega, by omega⟩ ⟨by omega, by omega⟩ ⟨by omega, by omega⟩ ⟨by omega, by omega⟩ ⟨by omega, by omega⟩ ⟨by omega, by omega⟩ ⟨by omega, by omega⟩ (by assumption) (by assumption) (by assumption) ⟨by omega, by omega⟩ (by first | exact Or.inl ⟨by decide, by omega⟩ | exact Or.inr (Or.inl ⟨by decide, by omega⟩) | exact Or.inr (Or.inr (Or.inl ⟨by decide, by omega⟩)) | exact Or.inr (Or.inr (Or.inr (Or.inl ⟨by decide, by omega⟩))) | exact Or.inr (Or.inr (Or.inr (Or.inr (Or.inl ⟨by decide, by omega⟩)))) | exact Or.inr (Or.inr (Or.inr (Or.inr (Or.inr (⟨by decide, by omega⟩))))) | omega) (by first | exact Or.inl ⟨by decide, by omega⟩ | exact Or.inr (Or.inl ⟨by decide, by omega⟩) | exact Or.inr (Or.inr (Or.inl ⟨by decide, by omega⟩)) | exact Or.inr (Or.inr (Or.inr (Or.inl ⟨by decide, by omega⟩))) | exact Or.inr (Or.inr (Or.inr (Or.inr (Or.inl ⟨by decide, by omega⟩)))) | exact Or.inr (Or.inr (Or.inr (Or.inr (Or.inr (⟨by decide, by omega⟩))))) | omega) H.size) (⟨hP, hD, hG, hS, hA, rfl, rfl⟩ : kAt D cy sa A s H _ _ [(da, .inr (13, [.int ((u6q.1 0)), .int d_tape, .int d_size, .int d_place, .int d_at, .int d_fault, .int d_faultAt, .int d_clauses, .ref da_fed, .ref da_readBody, .ref da_body, .ref da_readMany, .ref da_many, .ref da_without, .ref da_did, .ref da_done, .ref da_bed, .int d_now, .int d_mindAt, .int d_way, .int d_harm, .int d_worth, .int d_passes, .int d_passings, .int d_spots, .int d_images, .ref da_passing, .ref da_spot, .ref da_kept, .ref da_aside, .int d_spare, .ref da_ran, .ref da_who, .ref da_cap, .ref da_w, .ref da_laid, .int d_whoMany, .int d_drifted, .int d_seed, .ref da_cries, .ref da_holds, .ref da_came, .ref da_least, .ref da_firstTo, .int d_steps, .int d_roundFrom, .int d_roundMany, .int d_numberAt])), (da_many, .inl (cy 0, 5, .inl df_many)), (da_spot, .inl (cy 5, 6, .inr (.inr (.inr (.inr (fun i => if i < 6 then some (da_spot + 1 + i) else none)))))), ((da_spot + 1 + 0), .inl (cy 0, 2, .inl ((dF_spot 0)))), ((da_spot + 1 + 1), .inl (cy 0, 2, .inl ((dF_spot 1)))), ((da_spot + 1 + 2), .inl (cy 0, 2, .inl ((dF_spot 2)))), ((da_spot + 1 + 3), .inl (cy 0, 2, .inl ((dF_spot 3)))), ((da_spot + 1 + 4), .inl (cy 0, 2, .inl ((dF_spot 4)))), ((da_spot + 1 + 5), .inl (cy 0, 2, .inl ((dF_spot 5))))] [8, 0, 1, 2, 3, 4, 5, 6, 7]) hl.1 rfl rfl ⟨rfl, rfl, ⟨Nat.le_of_ble_eq_true rfl, Nat.le_of_ble_eq_true rfl⟩, ⟨Nat.le_of_ble_eq_true rfl, Nat.le_of_ble_eq_true rfl⟩, Nat.le_of_ble_eq_true rfl⟩ dX12_placed_94) (fun r45q u46q H locs hwu46q hP hD hS => ?_)
                  have hP : va_P D vwCl [(da, .inr (13, [.int ((u6q.1 0)), .int d_tape, .int d_size, .int d_place, .int d_at, .int d_fault, .int d_faultAt, .int d_clauses, .ref da_fed, .ref da_readBody, .ref da_body, .ref da_readMany, .ref da_many, .ref da_without, .ref da_did, .ref da_done, .ref da_bed, .int d_now, .int d_mindAt, .int d_way, .int d_harm, .int d_worth, .int d_passes, .int d_passings, .int d_spots, .int d_images, .ref da_passing, .ref da_spot, .ref da_kept, .ref da_aside, .int d_spare, .ref da_ran, .ref da_who, .ref da_cap, .ref da_w, .ref da_laid, .int d_whoMany, .int d_drifted, .int d_seed, .ref da_cries, .ref da_holds, .ref da_came, .ref da_least, .ref da_firstTo, .int d_steps, .int d_roundFrom, .int d_roundMany, .int d_numberAt])), (da_many, .inl (cy 0, 5, .inl df_many)), (da_spot, .inl (cy 5, 6, .inr (.inr (.inr (.inr (fun i => if i < 6 then some (da_spot + 1 + i) else none)))))), ((da_spot + 1 + 0), .inl (cy 0, 2, .inl ((dF_spot 0)))), ((da_spot + 1 + 1), .inl (cy 0, 2, .inl ((dF_spot 1)))), ((da_spot + 1 + 2), .inl (cy 0, 2, .inl ((dF_spot 2)))), ((da_spot + 1 + 3), .inl (cy 0, 2, .inl ((dF_spot 3)))), ((da_spot + 1 + 4), .inl (cy 0, 2, .inl ((dF_spot 4)))), ((da_spot + 1 + 5), .inl (cy 0, 2, .inl ((dF_spot 5))))] H := hP
                  have hD : va_D A [(da, .inr (13, [.int ((u6q.1 0)), .int d_tape, .int d_size, .int d_place, .int d_at, .int d_fault, .int d_faultAt, .int d_clauses, .ref da_fed, .ref da_readBody, .ref da_body, .ref da_readMany, .ref da_many, .ref da_without, .ref da_did, .ref da_done, .ref da_bed, .int d_now, .int d_mindAt, .int d_way, .int d_harm, .int d_worth, .int d_passes, .int d_passings, .int d_spots, .int d_images, .ref da_passing, .ref da_spot, .ref da_kept, .ref da_aside, .int d_spare, .ref da_ran, .ref da_who, .ref da_cap, .ref da_w, .ref da_laid, .int d_whoMany, .int d_drifted, .int d_seed, .ref da_cries, .ref da_holds, .ref da_came, .ref da_least, .ref da_firstTo, .int d_steps, .int d_roundFrom, .int d_roundMany, .int d_numberAt])), (da_many, .inl (cy 0, 5, .inl df_many)), (da_spot, .inl (cy 5, 6, .inr (.inr (.inr (.inr (fun i => if i < 6 then some (da_spot + 1 + i) else none)))))), ((da_spot + 1 + 0), .inl (cy 0, 2, .inl ((dF_spot 0)))), ((da_spot + 1 + 1), .inl (cy 0, 2, .inl ((dF_spot 1)))), ((da_spot + 1 + 2), .inl (cy 0, 2, .inl ((dF_spot 2)))), ((da_spot + 1 + 3), .inl (cy 0, 2, .inl ((dF_spot 3)))), ((da_spot + 1 + 4), .inl (cy 0, 2, .inl ((dF_spot 4)))), ((da_spot + 1 + 5), .inl (cy 0, 2, .inl ((dF_spot 5))))] := hD
                  refine lv_istore (lv' := [(6, .int r45q), (5, .int k42qy5), (2, .int 216), (4, .int k42qy4), (3, .int k42qy3), (0, .ref da), (1, .int w0)]) hx hb dX12_placed_97 hl (by decide) rfl (fun ls hl => ?_)
                  refine lv_iload hx hb dX12_placed_99 (lv_at hl 0 rfl) ?_
                  refine lv_iconst (v := (-1)) hx hb dX12_placed_101 (by decide) ?_
                  refine lv_icmp_eq (tgt := 127) hx hb dX12_placed_102 (by decide) (fun c47q => ?_) (fun c47q => ?_)
                  · simp only [k_lt, k_le, k_eq, ne_eq, ge_iff_le, gt_iff_lt, n_Lm1] at c47q
                    obtain ⟨x48q, ex48q⟩ : ∃ z : Int32, z = k42qy5 + 1 := ⟨_, rfl⟩
                    refine lv_iinc (v := x48q) (lv' := [(5, .int x48q), (6, .int r45q), (2, .int 216), (4, .int k42qy4), (3, .int k42qy3), (0, .ref da), (1, .int w0)]) hx hb dX12_placed_127 hl (k := 1) rfl (by rw [ex48q]; rfl) (by decide) rfl (fun ls hl => ?_)
                    have rx48q := n_add ex48q (a := k42qy5.toInt) (b := 1) rfl n_L1 (by omega) (by omega)
                    refine lv_goto (tgt := 84) hx hb dX12_placed_130 (by decide) ?_
                    exact k42qih ((216 - x48q.toInt).toNat) (by omega) k42qy3 k42qy4 x48q H locs ls ⟨by omega, by omega⟩ rfl (hP.sub [1, 2, 3, 4, 5, 6, 7, 8, 0] rfl) (hD.sub [1, 2, 3, 4, 5, 6, 7, 8, 0] (by decide) rfl) hS (lv_sub hl [0, 2, 3, 4, 5, 6] rfl)
                  · simp only [k_lt, k_le, k_eq, ne_eq, ge_iff_le, gt_iff_lt, n_Lm1] at c47q
                    refine lv_iload_n hx hb dX12_placed_105 rfl (lv_at hl 4 rfl) ?_
                    refine lv_iconst (v := (-1)) hx hb dX12_placed_106 (by decide) ?_
                    refine lv_icmp_eq (tgt := 120) hx hb dX12_placed_107 (by decide) (fun c49q => ?_) (fun c49q => ?_)
                    · simp only [k_lt, k_le, k_eq, ne_eq, ge_iff_le, gt_iff_lt, n_Lm1] at c49q
                      refine lv_iload hx hb dX12_placed_120 (lv_at hl 1 rfl) ?_
                      refine lv_istore_n (lv' := [(3, .int k42qy5), (6, .int r45q), (5, .int k42qy5), (2, .int 216), (4, .int k42qy4), (0, .ref da), (1, .int w0)]) hx hb dX12_placed_122 rfl hl (by decide) rfl (fun ls hl => ?_)
                      refine lv_iload hx hb dX12_placed_123 (lv_at hl 1 rfl) ?_
                      refine lv_istore (lv' := [(4, .int r45q), (3, .int k42qy5), (6, .int r45q), (5, .int k42qy5), (2, .int 216), (0, .ref da), (1, .int w0)]) hx hb dX12_placed_125 hl (by decide) rfl (fun ls hl => ?_)
                      obtain ⟨x50q, ex50q⟩ : ∃ z : Int32, z = k42qy5 + 1 := ⟨_, rfl⟩
                      refine lv_iinc (v := x50q) (lv' := [(5, .int x50q), (4, .int r45q), (3, .int k42qy5), (6, .int r45q), (2, .int 216), (0, .ref da), (1, .int w0)]) hx hb dX12_placed_127 hl (k := 3) rfl (by rw [ex50q]; rfl) (by decide) rfl (fun ls hl => ?_)
                      have rx50q := n_add ex50q (a := k42qy5.toInt) (b := 1) rfl n_L1 (by omega) (by omega)
                      refine lv_goto (tgt := 84) hx hb dX12_placed_130 (by decide) ?_
                      exact k42qih ((216 - x50q.toInt).toNat) (by omega) k42qy5 r45q x50q H locs ls ⟨by omega, by omega⟩ rfl (hP.sub [1, 2, 3, 4, 5, 6, 7, 8, 0] rfl) (hD.sub [1, 2, 3, 4, 5, 6, 7, 8, 0] (by decide) rfl) hS (lv_sub hl [0, 4, 1, 2, 5, 6] rfl)
                    · simp only [k_lt, k_le, k_eq, ne_eq, ge_iff_le, gt_iff_lt, n_Lm1] at c49q
                      refine lv_iload hx hb dX12_placed_110 (lv_at hl 0 rfl) ?_
                      refine lv_iload hx hb dX12_placed_112 (lv_at hl 3 rfl) ?_
                      refine lv_icmp_lt (tgt := 120) hx hb dX12_placed_114 (by decide) (fun c51q => ?_) (fun c51q => ?_)
                      · simp only [k_lt, k_le, k_eq, ne_eq, ge_iff_le, gt_iff_lt] at c51q
                        refine lv_iload hx hb dX12_placed_120 (lv_at hl 1 rfl) ?_
                        refine lv_istore_n (lv' := [(3, .int k42qy5), (6, .int r45q), (5, .int k42qy5), (2, .int 216), (4, .int k42qy4), (0, .ref da), (1, .int w0)]) hx hb dX12_placed_122 rfl hl (by decide) rfl (fun ls hl => ?_)
                        refine lv_iload hx hb dX12_placed_123 (lv_at hl 1 rfl) ?_
                        refine lv_istore (lv' := [(4, .int r45q), (3, .int k42qy5), (6, .int r45q), (5, .int k42qy5), (2, .int 216), (0, .ref da), (1, .int w0)]) hx hb dX12_placed_125 hl (by decide) rfl (fun ls hl => ?_)
                        obtain ⟨x52q, ex52q⟩ : ∃ z : Int32, z = k42qy5 + 1 := ⟨_, rfl⟩
                        refine lv_iinc (v := x52q) (lv' := [(5, .int x52q), (4, .int r45q), (3, .int k42qy5), (6, .int r45q), (2, .int 216), (0, .ref da), (1, .int w0)]) hx hb dX12_placed_127 hl (k := 3) rfl (by rw [ex52q]; rfl) (by decide) rfl (fun ls hl => ?_)
                        have rx52q := n_add ex52q (a := k42qy5.toInt) (b := 1) rfl n_L1 (by omega) (by omega)
                        refine lv_goto (tgt := 84) hx hb dX12_placed_130 (by decide) ?_
                        exact k42qih ((216 - x52q.toInt).toNat) (by omega) k42qy5 r45q x52q H locs ls ⟨by omega, by omega⟩ rfl (hP.sub [1, 2, 3, 4, 5, 6, 7, 8, 0] rfl) (hD.sub [1, 2, 3, 4, 5, 6, 7, 8, 0] (by decide) rfl) hS (lv_sub hl [0, 4, 1, 2, 5, 6] rfl)
                      · simp only [k_lt, k_le, k_eq, ne_eq, ge_iff_le, gt_iff_lt] at c51q
                        refine lv_goto (tgt := 127) hx hb dX12_placed_117 (by decide) ?_
                        obtain ⟨x53q, ex53q⟩ : ∃ z : Int32, z = k42qy5 + 1 := ⟨_, rfl⟩
                        refine lv_iinc (v := x53q) (lv' := [(5, .int x53q), (6, .int r45q), (2, .int 216), (4, .int k42qy4), (3, .int k42qy3), (0, .ref da), (1, .int w0)]) hx hb dX12_placed_127 hl (k := 1) rfl (by rw [ex53q]; rfl) (by decide) rfl (fun ls hl => ?_)
                        have rx53q := n_add ex53q (a := k42qy5.toInt) (b := 1) rfl n_L1 (by omega) (by omega)
                        refine lv_goto (tgt := 84) hx hb dX12_placed_130 (by decide) ?_
                        exact k42qih ((216 - x53q.toInt).toNat) (by omega) k42qy3 k42qy4 x53q H locs ls ⟨by omega, by omega⟩ rfl (hP.sub [1, 2, 3, 4, 5, 6, 7, 8, 0] rfl) (hD.sub [1, 2, 3, 4, 5, 6, 7, 8, 0] (by decide) rfl) hS (lv_sub hl [0, 2, 3, 4, 5, 6] rfl)
            exact k42q _ (-1) 0 0 H locs ls ⟨by rw [n_L0]; omega, by rw [n_L0]; omega⟩ rfl hP hD hS (lv_sub hl [0, 1, 2, 3, 4, 5] rfl)
          · have h7 : d_spots = 4 := Int32.toInt_inj.mp (h9.trans (by decide))
            refine lv_iconst (v := 1) hx hb dX12_placed_51 (by decide) ?_
            refine lv_istore_n (lv' := [(2, .int 1), (0, .ref da), (1, .int w0)]) hx hb dX12_placed_52 rfl hl (by decide) rfl (fun ls hl => ?_)
            refine lv_iconst (v := (-1)) hx hb dX12_placed_53 (by decide) ?_
            refine lv_istore_n (lv' := [(3, .int (-1)), (2, .int 1), (0, .ref da), (1, .int w0)]) hx hb dX12_placed_54 rfl hl (by decide) rfl (fun ls hl => ?_)
            refine lv_iconst (v := 0) hx hb dX12_placed_55 (by decide) ?_
            refine lv_istore (lv' := [(4, .int 0), (3, .int (-1)), (2, .int 1), (0, .ref da), (1, .int w0)]) hx hb dX12_placed_56 hl (by decide) rfl (fun ls hl => ?_)
            refine lv_iconst (v := 0) hx hb dX12_placed_58 (by decide) ?_
            refine lv_istore (lv' := [(5, .int 0), (4, .int 0), (3, .int (-1)), (2, .int 1), (0, .ref da), (1, .int w0)]) hx hb dX12_placed_59 hl (by decide) rfl (fun ls hl => ?_)
            refine lv_iload hx hb dX12_placed_61 (lv_at hl 0 rfl) ?_
            refine lv_aload_n hx hb dX12_placed_63 rfl (lv_at hl 4 rfl) ?_
            refine va_get (D := D) (ci := 13) (v := .int d_spots) (C := RX12) (T := TX12) (N := 48) hx hb hts kin_RX12 hown hG.1 hP 8 rfl rfl 24 (by decide) (hts _ wm_1543) (fun _ h9 => h9) rfl dX12_placed_64 ?_
            rw [h7]
            refine lv_icmp_ge (tgt := 81) hx hb dX12_placed_67 (by decide) (fun h => absurd h (by decide)) (fun _ => ?_)
            refine lv_iload_n hx hb dX12_placed_70 rfl (lv_at hl 3 rfl) ?_
            refine lv_bipush (v := 6) hx hb dX12_placed_71 (by decide) ?_
            refine lv_imul hx hb dX12_placed_73 ?_
            refine lv_topi (fun x54q ex54q => ?_)
            obtain rfl : x54q = 6 := ex54q.trans (by decide)
            refine lv_istore_n (lv' := [(2, .int 6), (5, .int 0), (4, .int 0), (3, .int (-1)), (0, .ref da), (1, .int w0)]) hx hb dX12_placed_74 rfl hl (by decide) rfl (fun ls hl => ?_)
            refine lv_iinc (v := 1) (lv' := [(5, .int 1), (2, .int 6), (4, .int 0), (3, .int (-1)), (0, .ref da), (1, .int w0)]) hx hb dX12_placed_75 hl (k := 1) rfl (by decide) (by decide) rfl (fun ls hl => ?_)
            refine lv_goto (tgt := 61) hx hb dX12_placed_78 (by decide) ?_
            refine lv_iload hx hb dX12_placed_61 (lv_at hl 0 rfl) ?_
            refine lv_aload_n hx hb dX12_placed_63 rfl (lv_at hl 4 rfl) ?_
            refine va_get (D := D) (ci := 13) (v := .int d_spots) (C := RX12) (T := TX12) (N := 48) hx hb hts kin_RX12 hown hG.1 hP 8 rfl rfl 24 (by decide) (hts _ wm_1543) (fun _ h9 => h9) rfl dX12_placed_64 ?_
            rw [h7]
            refine lv_icmp_ge (tgt := 81) hx hb dX12_placed_67 (by decide) (fun h => absurd h (by decide)) (fun _ => ?_)
            refine lv_iload_n hx hb dX12_placed_70 rfl (lv_at hl 1 rfl) ?_
            refine lv_bipush (v := 6) hx hb dX12_placed_71 (by decide) ?_
            refine lv_imul hx hb dX12_placed_73 ?_
            refine lv_topi (fun x55q ex55q => ?_)
            obtain rfl : x55q = 36 := ex55q.trans (by decide)
            refine lv_istore_n (lv' := [(2, .int 36), (5, .int 1), (4, .int 0), (3, .int (-1)), (0, .ref da), (1, .int w0)]) hx hb dX12_placed_74 rfl hl (by decide) rfl (fun ls hl => ?_)
            refine lv_iinc (v := 2) (lv' := [(5, .int 2), (2, .int 36), (4, .int 0), (3, .int (-1)), (0, .ref da), (1, .int w0)]) hx hb dX12_placed_75 hl (k := 1) rfl (by decide) (by decide) rfl (fun ls hl => ?_)
            refine lv_goto (tgt := 61) hx hb dX12_placed_78 (by decide) ?_
            refine lv_iload hx hb dX12_placed_61 (lv_at hl 0 rfl) ?_
            refine lv_aload_n hx hb dX12_placed_63 rfl (lv_at hl 4 rfl) ?_
            refine va_get (D := D) (ci := 13) (v := .int d_spots) (C := RX12) (T := TX12) (N := 48) hx hb hts kin_RX12 hown hG.1 hP 8 rfl rfl 24 (by decide) (hts _ wm_1543) (fun _ h9 => h9) rfl dX12_placed_64 ?_
            rw [h7]
            refine lv_icmp_ge (tgt := 81) hx hb dX12_placed_67 (by decide) (fun h => absurd h (by decide)) (fun _ => ?_)
            refine lv_iload_n hx hb dX12_placed_70 rfl (lv_at hl 1 rfl) ?_
            refine lv_bipush (v := 6) hx hb dX12_placed_71 (by decide) ?_
            refine lv_imul hx hb dX12_placed_73 ?_
            refine lv_topi (fun x56q ex56q => ?_)
            obtain rfl : x56q = 216 := ex56q.trans (by decide)
            refine lv_istore_n (lv' := [(2, .int 216), (5, .int 2), (4, .int 0), (3, .int (-1)), (0, .ref da), (1, .int w0)]) hx hb dX12_placed_74 rfl hl (by decide) rfl (fun ls hl => ?_)
            refine lv_iinc (v := 3) (lv' := [(5, .int 3), (2, .int 216), (4, .int 0), (3, .int (-1)), (0, .ref da), (1, .int w0)]) hx hb dX12_placed_75 hl (k := 1) rfl (by decide) (by decide) rfl (fun ls hl => ?_)
            refine lv_goto (tgt := 61) hx hb dX12_placed_78 (by decide) ?_
            refine lv_iload hx hb dX12_placed_61 (lv_at hl 0 rfl) ?_
            refine lv_aload_n hx hb dX12_placed_63 rfl (lv_at hl 4 rfl) ?_
            refine va_get (D := D) (ci := 13) (v := .int d_spots) (C := RX12) (T := TX12) (N := 48) hx hb hts kin_RX12 hown hG.1 hP 8 rfl rfl 24 (by decide) (hts _ wm_1543) (fun _ h9 => h9) rfl dX12_placed_64 ?_
            rw [h7]
            refine lv_icmp_ge (tgt := 81) hx hb dX12_placed_67 (by decide) (fun h => absurd h (by decide)) (fun _ => ?_)
            refine lv_iload_n hx hb dX12_placed_70 rfl (lv_at hl 1 rfl) ?_
            refine lv_bipush (v := 6) hx hb dX12_placed_71 (by decide) ?_
            refine lv_imul hx hb dX12_placed_73 ?_
            refine lv_topi (fun x57q ex57q => ?_)
            obtain rfl : x57q = 1296 := ex57q.trans (by decide)
            refine lv_istore_n (lv' := [(2, .int 1296), (5, .int 3), (4, .int 0), (3, .int (-1)), (0, .ref da), (1, .int w0)]) hx hb dX12_placed_74 rfl hl (by decide) rfl (fun ls hl => ?_)
            refine lv_iinc (v := 4) (lv' := [(5, .int 4), (2, .int 1296), (4, .int 0), (3, .int (-1)), (0, .ref da), (1, .int w0)]) hx hb dX12_placed_75 hl (k := 1) rfl (by decide) (by decide) rfl (fun ls hl => ?_)
            refine lv_goto (tgt := 61) hx hb dX12_placed_78 (by decide) ?_
            refine lv_iload hx hb dX12_placed_61 (lv_at hl 0 rfl) ?_
            refine lv_aload_n hx hb dX12_placed_63 rfl (lv_at hl 4 rfl) ?_
            refine va_get (D := D) (ci := 13) (v := .int d_spots) (C := RX12) (T := TX12) (N := 48) hx hb hts kin_RX12 hown hG.1 hP 8 rfl rfl 24 (by decide) (hts _ wm_1543) (fun _ h9 => h9) rfl dX12_placed_64 ?_
            rw [h7]
            refine lv_icmp_ge (tgt := 81) hx hb dX12_placed_67 (by decide) (fun _ => ?_) (fun h => absurd (by decide) h)
            refine lv_iconst (v := 0) hx hb dX12_placed_81 (by decide) ?_
            refine lv_istore (lv' := [(5, .int 0), (2, .int 1296), (4, .int 0), (3, .int (-1)), (0, .ref da), (1, .int w0)]) hx hb dX12_placed_82 hl (by decide) rfl (fun ls hl => ?_)
            have k58q : ∀ (n : Nat) (k58qy3 : Int32) (k58qy4 : Int32) (k58qy5 : Int32) (H : Heap) (locs : List Loc) (ls : Array Slot), 0 ≤ k58qy5.toInt ∧ k58qy5.toInt ≤ 1296 → (1296 - k58qy5.toInt).toNat = n → va_P D vwCl [(da_many, .inl (cy 0, 5, .inl df_many)), (da_spot, .inl (cy 5, 6, .inr (.inr (.inr (.inr (fun i => if i < 6 then some (da_spot + 1 + i) else none)))))), ((da_spot + 1 + 0), .inl (cy 0, 2, .inl ((dF_spot 0)))), ((da_spot + 1 + 1), .inl (cy 0, 2, .inl ((dF_spot 1)))), ((da_spot + 1 + 2), .inl (cy 0, 2, .inl ((dF_spot 2)))), ((da_spot + 1 + 3), .inl (cy 0, 2, .inl ((dF_spot 3)))), ((da_spot + 1 + 4), .inl (cy 0, 2, .inl ((dF_spot 4)))), ((da_spot + 1 + 5), .inl (cy 0, 2, .inl ((dF_spot 5)))), (da, .inr (13, [.int ((u6q.1 0)), .int d_tape, .int d_size, .int d_place, .int d_at, .int d_fault, .int d_faultAt, .int d_clauses, .ref da_fed, .ref da_readBody, .ref da_body, .ref da_readMany, .ref da_many, .ref da_without, .ref da_did, .ref da_done, .ref da_bed, .int d_now, .int d_mindAt, .int d_way, .int d_harm, .int d_worth, .int d_passes, .int d_passings, .int d_spots, .int d_images, .ref da_passing, .ref da_spot, .ref da_kept, .ref da_aside, .int d_spare, .ref da_ran, .ref da_who, .ref da_cap, .ref da_w, .ref da_laid, .int d_whoMany, .int d_drifted, .int d_seed, .ref da_cries, .ref da_holds, .ref da_came, .ref da_least, .ref da_firstTo, .int d_steps, .int d_roundFrom, .int d_roundMany, .int d_numberAt]))] H → va_D A [(da_many, .inl (cy 0, 5, .inl df_many)), (da_spot, .inl (cy 5, 6, .inr (.inr (.inr (.inr (fun i => if i < 6 then some (da_spot + 1 + i) else none)))))), ((da_spot + 1 + 0), .inl (cy 0, 2, .inl ((dF_spot 0)))), ((da_spot + 1 + 1), .inl (cy 0, 2, .inl ((dF_spot 1)))), ((da_spot + 1 + 2), .inl (cy 0, 2, .inl ((dF_spot 2)))), ((da_spot + 1 + 3), .inl (cy 0, 2, .inl ((dF_spot 3)))), ((da_spot + 1 + 4), .inl (cy 0, 2, .inl ((dF_spot 4)))), ((da_spot + 1 + 5), .inl (cy 0, 2, .inl ((dF_spot 5)))), (da, .inr (13, [.int ((u6q.1 0)), .int d_tape, .int d_size, .int d_place, .int d_at, .int d_fault, .int d_faultAt, .int d_clauses, .ref da_fed, .ref da_readBody, .ref da_body, .ref da_readMany, .ref da_many, .ref da_without, .ref da_did, .ref da_done, .ref da_bed, .int d_now, .int d_mindAt, .int d_way, .int d_harm, .int d_worth, .int d_passes, .int d_passings, .int d_spots, .int d_images, .ref da_passing, .ref da_spot, .ref da_kept, .ref da_aside, .int d_spare, .ref da_ran, .ref da_who, .ref da_cap, .ref da_w, .ref da_laid, .int d_whoMany, .int d_drifted, .int d_seed, .ref da_cries, .ref da_holds, .ref da_came, .ref da_least, .ref da_firstTo, .int d_steps, .int d_roundFrom, .int d_roundMany, .int d_numberAt]))] → va_S A s.heap H locs → lv_has ls 7 [(5, .int k58qy5), (2, .int 1296), (4, .int k58qy4), (3, .int k58qy3), (0, .ref da), (1, .int w0)] → W p l e ({ frames := 13, cells := 0, slots := 0, locals := 480 }) s m ([.ref da, .int w0] : List Value).toArray below meth c H locs 0 0 Q0 (F0 m 84 ls []) := by
              intro n
              induction n using Nat.strongRecOn with
              | ind n k58qih =>
                intro k58qy3 k58qy4 k58qy5 H locs ls hk58qy5 k58qm hP hD hS hl
                have gk58qy3 := k_rng k58qy3
                have gk58qy4 := k_rng k58qy4
                refine lv_iload hx hb dX12_placed_84 (lv_at hl 0 rfl) ?_
                refine lv_iload_n hx hb dX12_placed_86 rfl (lv_at hl 1 rfl) ?_
                refine lv_icmp_ge (tgt := 133) hx hb dX12_placed_87 (by decide) (fun c59q => ?_) (fun c59q => ?_)
                · simp only [k_lt, k_le, k_eq, ne_eq, ge_iff_le, gt_iff_lt, n_L1296] at c59q
                  refine lv_iload_n hx hb dX12_placed_133 rfl (lv_at hl 5 rfl) ?_
                  refine lv_if_ne (tgt := 142) hx hb dX12_placed_134 (by decide) (fun c60q => ?_) (fun c60q => ?_)
                  · simp only [k_lt, k_le, k_eq, ne_eq, ge_iff_le, gt_iff_lt, n_L0, n_L0] at c60q
                    refine lv_iload_n hx hb dX12_placed_142 rfl (lv_at hl 3 rfl) ?_
                    rw [hQ0]
                    exact k_iret (fun k => [((u6q.1 0))].getD k 0, fun k => [].getD k (fun _ => 0)) hx hb hr hlk (trivial) (hP.sub [8, 0, 1, 2, 3, 4, 5, 6, 7] rfl) (hD.sub [8, 0, 1, 2, 3, 4, 5, 6, 7] (by decide) rfl) hS (by decide) (by decide) dX12_placed_143
                  · simp only [k_lt, k_le, k_eq, ne_eq, ge_iff_le, gt_iff_lt, n_L0, n_L0] at c60q
                    refine lv_iload hx hb dX12_placed_137 (lv_at hl 2 rfl) ?_
                    refine lv_goto (tgt := 143) hx hb dX12_placed_139 (by decide) ?_
                    rw [hQ0]
                    exact k_iret (fun k => [((u6q.1 0))].getD k 0, fun k => [].getD k (fun _ => 0)) hx hb hr hlk (trivial) (hP.sub [8, 0, 1, 2, 3, 4, 5, 6, 7] rfl) (hD.sub [8, 0, 1, 2, 3, 4, 5, 6, 7] (by decide) rfl) hS (by decide) (by decide) dX12_placed_143
                · simp only [k_lt, k_le, k_eq, ne_eq, ge_iff_le, gt_iff_lt, n_L1296] at c59q
                  refine lv_aload_n hx hb dX12_placed_90 rfl (lv_at hl 4 rfl) ?_
                  refine lv_iload hx hb dX12_placed_91 (lv_at hl 0 rfl) ?_
                  refine lv_iload_n hx hb dX12_placed_93 rfl (lv_at hl 1 rfl) ?_
                  refine k_cali [] (⟨hP, hD, hG, hS, hA, rfl, rfl⟩ : kAt D cy sa A s H _ _ [(da, .inr (13, [.int ((u6q.1 0)), .int d_tape, .int d_size, .int d_place, .int d_at, .int d_fault, .int d_faultAt, .int d_clauses, .ref da_fed, .ref da_readBody, .ref da_body, .ref da_readMany, .ref da_many, .ref da_without, .ref da_did, .ref da_done, .ref da_bed, .int d_now, .int d_mindAt, .int d_way, .int d_harm, .int d_worth, .int d_passes, .int d_passings, .int d_spots, .int d_images, .ref da_passing, .ref da_spot, .ref da_kept, .ref da_aside, .int d_spare, .ref da_ran, .ref da_who, .ref da_cap, .ref da_w, .ref da_laid, .int d_whoMany, .int d_drifted, .int d_seed, .ref da_cries, .ref da_holds, .ref da_came, .ref da_least, .ref da_firstTo, .int d_steps, .int d_roundFrom, .int d_roundMany, .int d_numberAt])), (da_many, .inl (cy 0, 5, .inl df_many)), (da_spot, .inl (cy 5, 6, .inr (.inr (.inr (.inr (fun i => if i < 6 then some (da_spot + 1 + i) else none)))))), ((da_spot + 1 + 0), .inl (cy 0, 2, .inl ((dF_spot 0)))), ((da_spot + 1 + 1), .inl (cy 0, 2, .inl ((dF_spot 1)))), ((da_spot + 1 + 2), .inl (cy 0, 2, .inl ((dF_spot 2)))), ((da_spot + 1 + 3), .inl (cy 0, 2, .inl ((dF_spot 3)))), ((da_spot + 1 + 4), .inl (cy 0, 2, .inl ((dF_spot 4)))), ((da_spot + 1 + 5), .inl (cy 0, 2, .inl ((dF_spot 5))))] [8, 0, 1, 2, 3, 4, 5, 6, 7]) (wr := []) rfl rfl (by decide) (k_runV 13 8 (As := [.int k58qy5, .int 1296]) (rest := []) E lk_VRX12_340 rfl rfl rfl (m_roundOf l hl0 D cy sa da da_fed da_readBody da_body da_readMany da_many da_without da_did da_done da_bed da_passing da_spot da_kept da_aside da_ran da_who da_cap da_w da_laid da_cries da_holds da_came da_least da_firstTo ((u6q.1 0)) d_tape d_size d_place d_at d_fault d_faultAt d_clauses d_now d_mindAt d_way d_harm d_worth d_passes d_passings d_spots d_images d_spare d_whoMany d_drifted d_seed d_steps d_roundFrom d_roundMany d_numberAt k58qy5 1296 df_many dF_spot ⟨by omega, by omega⟩ ⟨by omega, by omega⟩ ⟨by omega, by omega⟩ ⟨by omega, by omega⟩ ⟨by omega, by omega⟩ ⟨by omega, by omega⟩ ⟨by omega, by omega⟩ ⟨by omega, by omega⟩ ⟨by omega, by omega⟩ ⟨by omega, by omega⟩ (by assumption) (by assumption) (by assumption) ⟨by omega, by omega⟩ (by first | exact Or.inl ⟨by decide, by omega⟩ | exact Or.inr (Or.inl ⟨by decide, by omega⟩) | exact Or.inr (Or.inr (Or.inl ⟨by decide, by omega⟩)) | exact Or.inr (Or.inr (Or.inr (Or.inl ⟨by decide, by omega⟩))) | exact Or.inr (Or.inr (Or.inr (Or.inr (Or.inl ⟨by decide, by omega⟩)))) | exact Or.inr (Or.inr (Or.inr (Or.inr (Or.inr (⟨by decide, by omega⟩))))) | omega) (by first | exact Or.inl ⟨by decide, by omega⟩ | exact Or.inr (Or.inl ⟨by decide, by omega⟩) | exact Or.inr (Or.inr (Or.inl ⟨by decide, by omega⟩)) | exact Or.inr (Or.inr (Or.inr (Or.inl ⟨by decide, by omega⟩))) | exact Or.inr (Or.inr (Or.inr (Or.inr (Or.inl ⟨by decide, by omega⟩)))) | exact Or.inr (Or.inr (Or.inr (Or.inr (Or.inr (⟨by decide, by omega⟩))))) | omega) H.size) (⟨hP, hD, hG, hS, hA, rfl, rfl⟩ : kAt D cy sa A s H _ _ [(da, .inr (13, [.int ((u6q.1 0)), .int d_tape, .int d_size, .int d_place, .int d_at, .int d_fault, .int d_faultAt, .int d_clauses, .ref da_fed, .ref da_readBody, .ref da_body, .ref da_readMany, .ref da_many, .ref da_without, .ref da_did, .ref da_done, .ref da_bed, .int d_now, .int d_mindAt, .int d_way, .int d_harm, .int d_worth, .int d_passes, .int d_passings, .int d_spots, .int d_images, .ref da_passing, .ref da_spot, .ref da_kept, .ref da_aside, .int d_spare, .ref da_ran, .ref da_who, .ref da_cap, .ref da_w, .ref da_laid, .int d_whoMany, .int d_drifted, .int d_seed, .ref da_cries, .ref da_holds, .ref da_came, .ref da_least, .ref da_firstTo, .int d_steps, .int d_roundFrom, .int d_roundMany, .int d_numberAt])), (da_many, .inl (cy 0, 5, .inl df_many)), (da_spot, .inl (cy 5, 6, .inr (.inr (.inr (.inr (fun i => if i < 6 then some (da_spot + 1 + i) else none)))))), ((da_spot + 1 + 0), .inl (cy 0, 2, .inl ((dF_spot 0)))), ((da_spot + 1 + 1), .inl (cy 0, 2, .inl ((dF_spot 1)))), ((da_spot + 1 + 2), .inl (cy 0, 2, .inl ((dF_spot 2)))), ((da_spot + 1 + 3), .inl (cy 0, 2, .inl ((dF_spot 3)))), ((da_spot + 1 + 4), .inl (cy 0, 2, .inl ((dF_spot 4)))), ((da_spot + 1 + 5), .inl (cy 0, 2, .inl ((dF_spot 5))))] [8, 0, 1, 2, 3, 4, 5, 6, 7]) hl.1 rfl rfl ⟨rfl, rfl, ⟨Nat.le_of_ble_eq_true rfl, Nat.le_of_ble_eq_true rfl⟩, ⟨Nat.le_of_ble_eq_true rfl, Nat.le_of_ble_eq_true rfl⟩, Nat.le_of_ble_eq_true rfl⟩ dX12_placed_94) (fun r61q u62q H locs hwu62q hP hD hS => ?_)
                  have hP : va_P D vwCl [(da, .inr (13, [.int ((u6q.1 0)), .int d_tape, .int d_size, .int d_place, .int d_at, .int d_fault, .int d_faultAt, .int d_clauses, .ref da_fed, .ref da_readBody, .ref da_body, .ref da_readMany, .ref da_many, .ref da_without, .ref da_did, .ref da_done, .ref da_bed, .int d_now, .int d_mindAt, .int d_way, .int d_harm, .int d_worth, .int d_passes, .int d_passings, .int d_spots, .int d_images, .ref da_passing, .ref da_spot, .ref da_kept, .ref da_aside, .int d_spare, .ref da_ran, .ref da_who, .ref da_cap, .ref da_w, .ref da_laid, .int d_whoMany, .int d_drifted, .int d_seed, .ref da_cries, .ref da_holds, .ref da_came, .ref da_least, .ref da_firstTo, .int d_steps, .int d_roundFrom, .int d_roundMany, .int d_numberAt])), (da_many, .inl (cy 0, 5, .inl df_many)), (da_spot, .inl (cy 5, 6, .inr (.inr (.inr (.inr (fun i => if i < 6 then some (da_spot + 1 + i) else none)))))), ((da_spot + 1 + 0), .inl (cy 0, 2, .inl ((dF_spot 0)))), ((da_spot + 1 + 1), .inl (cy 0, 2, .inl ((dF_spot 1)))), ((da_spot + 1 + 2), .inl (cy 0, 2, .inl ((dF_spot 2)))), ((da_spot + 1 + 3), .inl (cy 0, 2, .inl ((dF_spot 3)))), ((da_spot + 1 + 4), .inl (cy 0, 2, .inl ((dF_spot 4)))), ((da_spot + 1 + 5), .inl (cy 0, 2, .inl ((dF_spot 5))))] H := hP
                  have hD : va_D A [(da, .inr (13, [.int ((u6q.1 0)), .int d_tape, .int d_size, .int d_place, .int d_at, .int d_fault, .int d_faultAt, .int d_clauses, .ref da_fed, .ref da_readBody, .ref da_body, .ref da_readMany, .ref da_many, .ref da_without, .ref da_did, .ref da_done, .ref da_bed, .int d_now, .int d_mindAt, .int d_way, .int d_harm, .int d_worth, .int d_passes, .int d_passings, .int d_spots, .int d_images, .ref da_passing, .ref da_spot, .ref da_kept, .ref da_aside, .int d_spare, .ref da_ran, .ref da_who, .ref da_cap, .ref da_w, .ref da_laid, .int d_whoMany, .int d_drifted, .int d_seed, .ref da_cries, .ref da_holds, .ref da_came, .ref da_least, .ref da_firstTo, .int d_steps, .int d_roundFrom, .int d_roundMany, .int d_numberAt])), (da_many, .inl (cy 0, 5, .inl df_many)), (da_spot, .inl (cy 5, 6, .inr (.inr (.inr (.inr (fun i => if i < 6 then some (da_spot + 1 + i) else none)))))), ((da_spot + 1 + 0), .inl (cy 0, 2, .inl ((dF_spot 0)))), ((da_spot + 1 + 1), .inl (cy 0, 2, .inl ((dF_spot 1)))), ((da_spot + 1 + 2), .inl (cy 0, 2, .inl ((dF_spot 2)))), ((da_spot + 1 + 3), .inl (cy 0, 2, .inl ((dF_spot 3)))), ((da_spot + 1 + 4), .inl (cy 0, 2, .inl ((dF_spot 4)))), ((da_spot + 1 + 5), .inl (cy 0, 2, .inl ((dF_spot 5))))] := hD
                  refine lv_istore (lv' := [(6, .int r61q), (5, .int k58qy5), (2, .int 1296), (4, .int k58qy4), (3, .int k58qy3), (0, .ref da), (1, .int w0)]) hx hb dX12_placed_97 hl (by decide) rfl (fun ls hl => ?_)
                  refine lv_iload hx hb dX12_placed_99 (lv_at hl 0 rfl) ?_
                  refine lv_iconst (v := (-1)) hx hb dX12_placed_101 (by decide) ?_
                  refine lv_icmp_eq (tgt := 127) hx hb dX12_placed_102 (by decide) (fun c63q => ?_) (fun c63q => ?_)
                  · simp only [k_lt, k_le, k_eq, ne_eq, ge_iff_le, gt_iff_lt, n_Lm1] at c63q
                    obtain ⟨x64q, ex64q⟩ : ∃ z : Int32, z = k58qy5 + 1 := ⟨_, rfl⟩
                    refine lv_iinc (v := x64q) (lv' := [(5, .int x64q), (6, .int r61q), (2, .int 1296), (4, .int k58qy4), (3, .int k58qy3), (0, .ref da), (1, .int w0)]) hx hb dX12_placed_127 hl (k := 1) rfl (by rw [ex64q]; rfl) (by decide) rfl (fun ls hl => ?_)
                    have rx64q := n_add ex64q (a := k58qy5.toInt) (b := 1) rfl n_L1 (by omega) (by omega)
                    refine lv_goto (tgt := 84) hx hb dX12_placed_130 (by decide) ?_
                    exact k58qih ((1296 - x64q.toInt).toNat) (by omega) k58qy3 k58qy4 x64q H locs ls ⟨by omega, by omega⟩ rfl (hP.sub [1, 2, 3, 4, 5, 6, 7, 8, 0] rfl) (hD.sub [1, 2, 3, 4, 5, 6, 7, 8, 0] (by decide) rfl) hS (lv_sub hl [0, 2, 3, 4, 5, 6] rfl)
                  · simp only [k_lt, k_le, k_eq, ne_eq, ge_iff_le, gt_iff_lt, n_Lm1] at c63q
                    refine lv_iload_n hx hb dX12_placed_105 rfl (lv_at hl 4 rfl) ?_
                    refine lv_iconst (v := (-1)) hx hb dX12_placed_106 (by decide) ?_
                    refine lv_icmp_eq (tgt := 120) hx hb dX12_placed_107 (by decide) (fun c65q => ?_) (fun c65q => ?_)
                    · simp only [k_lt, k_le, k_eq, ne_eq, ge_iff_le, gt_iff_lt, n_Lm1] at c65q
                      refine lv_iload hx hb dX12_placed_120 (lv_at hl 1 rfl) ?_
                      refine lv_istore_n (lv' := [(3, .int k58qy5), (6, .int r61q), (5, .int k58qy5), (2, .int 1296), (4, .int k58qy4), (0, .ref da), (1, .int w0)]) hx hb dX12_placed_122 rfl hl (by decide) rfl (fun ls hl => ?_)
                      refine lv_iload hx hb dX12_placed_123 (lv_at hl 1 rfl) ?_
                      refine lv_istore (lv' := [(4, .int r61q), (3, .int k58qy5), (6, .int r61q), (5, .int k58qy5), (2, .int 1296), (0, .ref da), (1, .int w0)]) hx hb dX12_placed_125 hl (by decide) rfl (fun ls hl => ?_)
                      obtain ⟨x66q, ex66q⟩ : ∃ z : Int32, z = k58qy5 + 1 := ⟨_, rfl⟩
                      refine lv_iinc (v := x66q) (lv' := [(5, .int x66q), (4, .int r61q), (3, .int k58qy5), (6, .int r61q), (2, .int 1296), (0, .ref da), (1, .int w0)]) hx hb dX12_placed_127 hl (k := 3) rfl (by rw [ex66q]; rfl) (by decide) rfl (fun ls hl => ?_)
                      have rx66q := n_add ex66q (a := k58qy5.toInt) (b := 1) rfl n_L1 (by omega) (by omega)
                      refine lv_goto (tgt := 84) hx hb dX12_placed_130 (by decide) ?_
                      exact k58qih ((1296 - x66q.toInt).toNat) (by omega) k58qy5 r61q x66q H locs ls ⟨by omega, by omega⟩ rfl (hP.sub [1, 2, 3, 4, 5, 6, 7, 8, 0] rfl) (hD.sub [1, 2, 3, 4, 5, 6, 7, 8, 0] (by decide) rfl) hS (lv_sub hl [0, 4, 1, 2, 5, 6] rfl)
                    · simp only [k_lt, k_le, k_eq, ne_eq, ge_iff_le, gt_iff_lt, n_Lm1] at c65q
                      refine lv_iload hx hb dX12_placed_110 (lv_at hl 0 rfl) ?_
                      refine lv_iload hx hb dX12_placed_112 (lv_at hl 3 rfl) ?_
                      refine lv_icmp_lt (tgt := 120) hx hb dX12_placed_114 (by decide) (fun c67q => ?_) (fun c67q => ?_)
                      · simp only [k_lt, k_le, k_eq, ne_eq, ge_iff_le, gt_iff_lt] at c67q
                        refine lv_iload hx hb dX12_placed_120 (lv_at hl 1 rfl) ?_
                        refine lv_istore_n (lv' := [(3, .int k58qy5), (6, .int r61q), (5, .int k58qy5), (2, .int 1296), (4, .int k58qy4), (0, .ref da), (1, .int w0)]) hx hb dX12_placed_122 rfl hl (by decide) rfl (fun ls hl => ?_)
                        refine lv_iload hx hb dX12_placed_123 (lv_at hl 1 rfl) ?_
                        refine lv_istore (lv' := [(4, .int r61q), (3, .int k58qy5), (6, .int r61q), (5, .int k58qy5), (2, .int 1296), (0, .ref da), (1, .int w0)]) hx hb dX12_placed_125 hl (by decide) rfl (fun ls hl => ?_)
                        obtain ⟨x68q, ex68q⟩ : ∃ z : Int32, z = k58qy5 + 1 := ⟨_, rfl⟩
                        refine lv_iinc (v := x68q) (lv' := [(5, .int x68q), (4, .int r61q), (3, .int k58qy5), (6, .int r61q), (2, .int 1296), (0, .ref da), (1, .int w0)]) hx hb dX12_placed_127 hl (k := 3) rfl (by rw [ex68q]; rfl) (by decide) rfl (fun ls hl => ?_)
                        have rx68q := n_add ex68q (a := k58qy5.toInt) (b := 1) rfl n_L1 (by omega) (by omega)
                        refine lv_goto (tgt := 84) hx hb dX12_placed_130 (by decide) ?_
                        exact k58qih ((1296 - x68q.toInt).toNat) (by omega) k58qy5 r61q x68q H locs ls ⟨by omega, by omega⟩ rfl (hP.sub [1, 2, 3, 4, 5, 6, 7, 8, 0] rfl) (hD.sub [1, 2, 3, 4, 5, 6, 7, 8, 0] (by decide) rfl) hS (lv_sub hl [0, 4, 1, 2, 5, 6] rfl)
                      · simp only [k_lt, k_le, k_eq, ne_eq, ge_iff_le, gt_iff_lt] at c67q
                        refine lv_goto (tgt := 127) hx hb dX12_placed_117 (by decide) ?_
                        obtain ⟨x69q, ex69q⟩ : ∃ z : Int32, z = k58qy5 + 1 := ⟨_, rfl⟩
                        refine lv_iinc (v := x69q) (lv' := [(5, .int x69q), (6, .int r61q), (2, .int 1296), (4, .int k58qy4), (3, .int k58qy3), (0, .ref da), (1, .int w0)]) hx hb dX12_placed_127 hl (k := 1) rfl (by rw [ex69q]; rfl) (by decide) rfl (fun ls hl => ?_)
                        have rx69q := n_add ex69q (a := k58qy5.toInt) (b := 1) rfl n_L1 (by omega) (by omega)
                        refine lv_goto (tgt := 84) hx hb dX12_placed_130 (by decide) ?_
                        exact k58qih ((1296 - x69q.toInt).toNat) (by omega) k58qy3 k58qy4 x69q H locs ls ⟨by omega, by omega⟩ rfl (hP.sub [1, 2, 3, 4, 5, 6, 7, 8, 0] rfl) (hD.sub [1, 2, 3, 4, 5, 6, 7, 8, 0] (by decide) rfl) hS (lv_sub hl [0, 2, 3, 4, 5, 6] rfl)
            exact k58q _ (-1) 0 0 H locs ls ⟨by rw [n_L0]; omega, by rw [n_L0]; omega⟩ rfl hP hD hS (lv_sub hl [0, 1, 2, 3, 4, 5] rfl)
          · have h7 : d_spots = 5 := Int32.toInt_inj.mp (h9.trans (by decide))
            refine lv_iconst (v := 1) hx hb dX12_placed_51 (by decide) ?_
            refine lv_istore_n (lv' := [(2, .int 1), (0, .ref da), (1, .int w0)]) hx hb dX12_placed_52 rfl hl (by decide) rfl (fun ls hl => ?_)
            refine lv_iconst (v := (-1)) hx hb dX12_placed_53 (by decide) ?_
            refine lv_istore_n (lv' := [(3, .int (-1)), (2, .int 1), (0, .ref da), (1, .int w0)]) hx hb dX12_placed_54 rfl hl (by decide) rfl (fun ls hl => ?_)
            refine lv_iconst (v := 0) hx hb dX12_placed_55 (by decide) ?_
            refine lv_istore (lv' := [(4, .int 0), (3, .int (-1)), (2, .int 1), (0, .ref da), (1, .int w0)]) hx hb dX12_placed_56 hl (by decide) rfl (fun ls hl => ?_)
            refine lv_iconst (v := 0) hx hb dX12_placed_58 (by decide) ?_
            refine lv_istore (lv' := [(5, .int 0), (4, .int 0), (3, .int (-1)), (2, .int 1), (0, .ref da), (1, .int w0)]) hx hb dX12_placed_59 hl (by decide) rfl (fun ls hl => ?_)
            refine lv_iload hx hb dX12_placed_61 (lv_at hl 0 rfl) ?_
            refine lv_aload_n hx hb dX12_placed_63 rfl (lv_at hl 4 rfl) ?_
            refine va_get (D := D) (ci := 13) (v := .int d_spots) (C := RX12) (T := TX12) (N := 48) hx hb hts kin_RX12 hown hG.1 hP 8 rfl rfl 24 (by decide) (hts _ wm_1543) (fun _ h9 => h9) rfl dX12_placed_64 ?_
            rw [h7]
            refine lv_icmp_ge (tgt := 81) hx hb dX12_placed_67 (by decide) (fun h => absurd h (by decide)) (fun _ => ?_)
            refine lv_iload_n hx hb dX12_placed_70 rfl (lv_at hl 3 rfl) ?_
            refine lv_bipush (v := 6) hx hb dX12_placed_71 (by decide) ?_
            refine lv_imul hx hb dX12_placed_73 ?_
            refine lv_topi (fun x70q ex70q => ?_)
            obtain rfl : x70q = 6 := ex70q.trans (by decide)
            refine lv_istore_n (lv' := [(2, .int 6), (5, .int 0), (4, .int 0), (3, .int (-1)), (0, .ref da), (1, .int w0)]) hx hb dX12_placed_74 rfl hl (by decide) rfl (fun ls hl => ?_)
            refine lv_iinc (v := 1) (lv' := [(5, .int 1), (2, .int 6), (4, .int 0), (3, .int (-1)), (0, .ref da), (1, .int w0)]) hx hb dX12_placed_75 hl (k := 1) rfl (by decide) (by decide) rfl (fun ls hl => ?_)
            refine lv_goto (tgt := 61) hx hb dX12_placed_78 (by decide) ?_
            refine lv_iload hx hb dX12_placed_61 (lv_at hl 0 rfl) ?_
            refine lv_aload_n hx hb dX12_placed_63 rfl (lv_at hl 4 rfl) ?_
            refine va_get (D := D) (ci := 13) (v := .int d_spots) (C := RX12) (T := TX12) (N := 48) hx hb hts kin_RX12 hown hG.1 hP 8 rfl rfl 24 (by decide) (hts _ wm_1543) (fun _ h9 => h9) rfl dX12_placed_64 ?_
            rw [h7]
            refine lv_icmp_ge (tgt := 81) hx hb dX12_placed_67 (by decide) (fun h => absurd h (by decide)) (fun _ => ?_)
            refine lv_iload_n hx hb dX12_placed_70 rfl (lv_at hl 1 rfl) ?_
            refine lv_bipush (v := 6) hx hb dX12_placed_71 (by decide) ?_
            refine lv_imul hx hb dX12_placed_73 ?_
            refine lv_topi (fun x71q ex71q => ?_)
            obtain rfl : x71q = 36 := ex71q.trans (by decide)
            refine lv_istore_n (lv' := [(2, .int 36), (5, .int 1), (4, .int 0), (3, .int (-1)), (0, .ref da), (1, .int w0)]) hx hb dX12_placed_74 rfl hl (by decide) rfl (fun ls hl => ?_)
            refine lv_iinc (v := 2) (lv' := [(5, .int 2), (2, .int 36), (4, .int 0), (3, .int (-1)), (0, .ref da), (1, .int w0)]) hx hb dX12_placed_75 hl (k := 1) rfl (by decide) (by decide) rfl (fun ls hl => ?_)
            refine lv_goto (tgt := 61) hx hb dX12_placed_78 (by decide) ?_
            refine lv_iload hx hb dX12_placed_61 (lv_at hl 0 rfl) ?_
            refine lv_aload_n hx hb dX12_placed_63 rfl (lv_at hl 4 rfl) ?_
            refine va_get (D := D) (ci := 13) (v := .int d_spots) (C := RX12) (T := TX12) (N := 48) hx hb hts kin_RX12 hown hG.1 hP 8 rfl rfl 24 (by decide) (hts _ wm_1543) (fun _ h9 => h9) rfl dX12_placed_64 ?_
            rw [h7]
            refine lv_icmp_ge (tgt := 81) hx hb dX12_placed_67 (by decide) (fun h => absurd h (by decide)) (fun _ => ?_)
            refine lv_iload_n hx hb dX12_placed_70 rfl (lv_at hl 1 rfl) ?_
            refine lv_bipush (v := 6) hx hb dX12_placed_71 (by decide) ?_
            refine lv_imul hx hb dX12_placed_73 ?_
            refine lv_topi (fun x72q ex72q => ?_)
            obtain rfl : x72q = 216 := ex72q.trans (by decide)
            refine lv_istore_n (lv' := [(2, .int 216), (5, .int 2), (4, .int 0), (3, .int (-1)), (0, .ref da), (1, .int w0)]) hx hb dX12_placed_74 rfl hl (by decide) rfl (fun ls hl => ?_)
            refine lv_iinc (v := 3) (lv' := [(5, .int 3), (2, .int 216), (4, .int 0), (3, .int (-1)), (0, .ref da), (1, .int w0)]) hx hb dX12_placed_75 hl (k := 1) rfl (by decide) (by decide) rfl (fun ls hl => ?_)
            refine lv_goto (tgt := 61) hx hb dX12_placed_78 (by decide) ?_
            refine lv_iload hx hb dX12_placed_61 (lv_at hl 0 rfl) ?_
            refine lv_aload_n hx hb dX12_placed_63 rfl (lv_at hl 4 rfl) ?_
            refine va_get (D := D) (ci := 13) (v := .int d_spots) (C := RX12) (T := TX12) (N := 48) hx hb hts kin_RX12 hown hG.1 hP 8 rfl rfl 24 (by decide) (hts _ wm_1543) (fun _ h9 => h9) rfl dX12_placed_64 ?_
            rw [h7]
            refine lv_icmp_ge (tgt := 81) hx hb dX12_placed_67 (by decide) (fun h => absurd h (by decide)) (fun _ => ?_)
            refine lv_iload_n hx hb dX12_placed_70 rfl (lv_at hl 1 rfl) ?_
            refine lv_bipush (v := 6) hx hb dX12_placed_71 (by decide) ?_
            refine lv_imul hx hb dX12_placed_73 ?_
            refine lv_topi (fun x73q ex73q => ?_)
            obtain rfl : x73q = 1296 := ex73q.trans (by decide)
            refine lv_istore_n (lv' := [(2, .int 1296), (5, .int 3), (4, .int 0), (3, .int (-1)), (0, .ref da), (1, .int w0)]) hx hb dX12_placed_74 rfl hl (by decide) rfl (fun ls hl => ?_)
            refine lv_iinc (v := 4) (lv' := [(5, .int 4), (2, .int 1296), (4, .int 0), (3, .int (-1)), (0, .ref da), (1, .int w0)]) hx hb dX12_placed_75 hl (k := 1) rfl (by decide) (by decide) rfl (fun ls hl => ?_)
            refine lv_goto (tgt := 61) hx hb dX12_placed_78 (by decide) ?_
            refine lv_iload hx hb dX12_placed_61 (lv_at hl 0 rfl) ?_
            refine lv_aload_n hx hb dX12_placed_63 rfl (lv_at hl 4 rfl) ?_
            refine va_get (D := D) (ci := 13) (v := .int d_spots) (C := RX12) (T := TX12) (N := 48) hx hb hts kin_RX12 hown hG.1 hP 8 rfl rfl 24 (by decide) (hts _ wm_1543) (fun _ h9 => h9) rfl dX12_placed_64 ?_
            rw [h7]
            refine lv_icmp_ge (tgt := 81) hx hb dX12_placed_67 (by decide) (fun h => absurd h (by decide)) (fun _ => ?_)
            refine lv_iload_n hx hb dX12_placed_70 rfl (lv_at hl 1 rfl) ?_
            refine lv_bipush (v := 6) hx hb dX12_placed_71 (by decide) ?_
            refine lv_imul hx hb dX12_placed_73 ?_
            refine lv_topi (fun x74q ex74q => ?_)
            obtain rfl : x74q = 7776 := ex74q.trans (by decide)
            refine lv_istore_n (lv' := [(2, .int 7776), (5, .int 4), (4, .int 0), (3, .int (-1)), (0, .ref da), (1, .int w0)]) hx hb dX12_placed_74 rfl hl (by decide) rfl (fun ls hl => ?_)
            refine lv_iinc (v := 5) (lv' := [(5, .int 5), (2, .int 7776), (4, .int 0), (3, .int (-1)), (0, .ref da), (1, .int w0)]) hx hb dX12_placed_75 hl (k := 1) rfl (by decide) (by decide) rfl (fun ls hl => ?_)
            refine lv_goto (tgt := 61) hx hb dX12_placed_78 (by decide) ?_
            refine lv_iload hx hb dX12_placed_61 (lv_at hl 0 rfl) ?_
            refine lv_aload_n hx hb dX12_placed_63 rfl (lv_at hl 4 rfl) ?_
            refine va_get (D := D) (ci := 13) (v := .int d_spots) (C := RX12) (T := TX12) (N := 48) hx hb hts kin_RX12 hown hG.1 hP 8 rfl rfl 24 (by decide) (hts _ wm_1543) (fun _ h9 => h9) rfl dX12_placed_64 ?_
            rw [h7]
            refine lv_icmp_ge (tgt := 81) hx hb dX12_placed_67 (by decide) (fun _ => ?_) (fun h => absurd (by decide) h)
            refine lv_iconst (v := 0) hx hb dX12_placed_81 (by decide) ?_
            refine lv_istore (lv' := [(5, .int 0), (2, .int 7776), (4, .int 0), (3, .int (-1)), (0, .ref da), (1, .int w0)]) hx hb dX12_placed_82 hl (by decide) rfl (fun ls hl => ?_)
            have k75q : ∀ (n : Nat) (k75qy3 : Int32) (k75qy4 : Int32) (k75qy5 : Int32) (H : Heap) (locs : List Loc) (ls : Array Slot), 0 ≤ k75qy5.toInt ∧ k75qy5.toInt ≤ 7776 → (7776 - k75qy5.toInt).toNat = n → va_P D vwCl [(da_many, .inl (cy 0, 5, .inl df_many)), (da_spot, .inl (cy 5, 6, .inr (.inr (.inr (.inr (fun i => if i < 6 then some (da_spot + 1 + i) else none)))))), ((da_spot + 1 + 0), .inl (cy 0, 2, .inl ((dF_spot 0)))), ((da_spot + 1 + 1), .inl (cy 0, 2, .inl ((dF_spot 1)))), ((da_spot + 1 + 2), .inl (cy 0, 2, .inl ((dF_spot 2)))), ((da_spot + 1 + 3), .inl (cy 0, 2, .inl ((dF_spot 3)))), ((da_spot + 1 + 4), .inl (cy 0, 2, .inl ((dF_spot 4)))), ((da_spot + 1 + 5), .inl (cy 0, 2, .inl ((dF_spot 5)))), (da, .inr (13, [.int ((u6q.1 0)), .int d_tape, .int d_size, .int d_place, .int d_at, .int d_fault, .int d_faultAt, .int d_clauses, .ref da_fed, .ref da_readBody, .ref da_body, .ref da_readMany, .ref da_many, .ref da_without, .ref da_did, .ref da_done, .ref da_bed, .int d_now, .int d_mindAt, .int d_way, .int d_harm, .int d_worth, .int d_passes, .int d_passings, .int d_spots, .int d_images, .ref da_passing, .ref da_spot, .ref da_kept, .ref da_aside, .int d_spare, .ref da_ran, .ref da_who, .ref da_cap, .ref da_w, .ref da_laid, .int d_whoMany, .int d_drifted, .int d_seed, .ref da_cries, .ref da_holds, .ref da_came, .ref da_least, .ref da_firstTo, .int d_steps, .int d_roundFrom, .int d_roundMany, .int d_numberAt]))] H → va_D A [(da_many, .inl (cy 0, 5, .inl df_many)), (da_spot, .inl (cy 5, 6, .inr (.inr (.inr (.inr (fun i => if i < 6 then some (da_spot + 1 + i) else none)))))), ((da_spot + 1 + 0), .inl (cy 0, 2, .inl ((dF_spot 0)))), ((da_spot + 1 + 1), .inl (cy 0, 2, .inl ((dF_spot 1)))), ((da_spot + 1 + 2), .inl (cy 0, 2, .inl ((dF_spot 2)))), ((da_spot + 1 + 3), .inl (cy 0, 2, .inl ((dF_spot 3)))), ((da_spot + 1 + 4), .inl (cy 0, 2, .inl ((dF_spot 4)))), ((da_spot + 1 + 5), .inl (cy 0, 2, .inl ((dF_spot 5)))), (da, .inr (13, [.int ((u6q.1 0)), .int d_tape, .int d_size, .int d_place, .int d_at, .int d_fault, .int d_faultAt, .int d_clauses, .ref da_fed, .ref da_readBody, .ref da_body, .ref da_readMany, .ref da_many, .ref da_without, .ref da_did, .ref da_done, .ref da_bed, .int d_now, .int d_mindAt, .int d_way, .int d_harm, .int d_worth, .int d_passes, .int d_passings, .int d_spots, .int d_images, .ref da_passing, .ref da_spot, .ref da_kept, .ref da_aside, .int d_spare, .ref da_ran, .ref da_who, .ref da_cap, .ref da_w, .ref da_laid, .int d_whoMany, .int d_drifted, .int d_seed, .ref da_cries, .ref da_holds, .ref da_came, .ref da_least, .ref da_firstTo, .int d_steps, .int d_roundFrom, .int d_roundMany, .int d_numberAt]))] → va_S A s.heap H locs → lv_has ls 7 [(5, .int k75qy5), (2, .int 7776), (4, .int k75qy4), (3, .int k75qy3), (0, .ref da), (1, .int w0)] → W p l e ({ frames := 13, cells := 0, slots := 0, locals := 480 }) s m ([.ref da, .int w0] : List Value).toArray below meth c H locs 0 0 Q0 (F0 m 84 ls []) := by
              intro n
              induction n using Nat.strongRecOn with
              | ind n k75qih =>
                intro k75qy3 k75qy4 k75qy5 H locs ls hk75qy5 k75qm hP hD hS hl
                have gk75qy3 := k_rng k75qy3
                have gk75qy4 := k_rng k75qy4
                refine lv_iload hx hb dX12_placed_84 (lv_at hl 0 rfl) ?_
                refine lv_iload_n hx hb dX12_placed_86 rfl (lv_at hl 1 rfl) ?_
                refine lv_icmp_ge (tgt := 133) hx hb dX12_placed_87 (by decide) (fun c76q => ?_) (fun c76q => ?_)
                · simp only [k_lt, k_le, k_eq, ne_eq, ge_iff_le, gt_iff_lt, n_L7776] at c76q
                  refine lv_iload_n hx hb dX12_placed_133 rfl (lv_at hl 5 rfl) ?_
                  refine lv_if_ne (tgt := 142) hx hb dX12_placed_134 (by decide) (fun c77q => ?_) (fun c77q => ?_)
                  · simp only [k_lt, k_le, k_eq, ne_eq, ge_iff_le, gt_iff_lt, n_L0, n_L0] at c77q
                    refine lv_iload_n hx hb dX12_placed_142 rfl (lv_at hl 3 rfl) ?_
                    rw [hQ0]
                    exact k_iret (fun k => [((u6q.1 0))].getD k 0, fun k => [].getD k (fun _ => 0)) hx hb hr hlk (trivial) (hP.sub [8, 0, 1, 2, 3, 4, 5, 6, 7] rfl) (hD.sub [8, 0, 1, 2, 3, 4, 5, 6, 7] (by decide) rfl) hS (by decide) (by decide) dX12_placed_143
                  · simp only [k_lt, k_le, k_eq, ne_eq, ge_iff_le, gt_iff_lt, n_L0, n_L0] at c77q
                    refine lv_iload hx hb dX12_placed_137 (lv_at hl 2 rfl) ?_
                    refine lv_goto (tgt := 143) hx hb dX12_placed_139 (by decide) ?_
                    rw [hQ0]
                    exact k_iret (fun k => [((u6q.1 0))].getD k 0, fun k => [].getD k (fun _ => 0)) hx hb hr hlk (trivial) (hP.sub [8, 0, 1, 2, 3, 4, 5, 6, 7] rfl) (hD.sub [8, 0, 1, 2, 3, 4, 5, 6, 7] (by decide) rfl) hS (by decide) (by decide) dX12_placed_143
                · simp only [k_lt, k_le, k_eq, ne_eq, ge_iff_le, gt_iff_lt, n_L7776] at c76q
                  refine lv_aload_n hx hb dX12_placed_90 rfl (lv_at hl 4 rfl) ?_
                  refine lv_iload hx hb dX12_placed_91 (lv_at hl 0 rfl) ?_
                  refine lv_iload_n hx hb dX12_placed_93 rfl (lv_at hl 1 rfl) ?_
                  refine k_cali [] (⟨hP, hD, hG, hS, hA, rfl, rfl⟩ : kAt D cy sa A s H _ _ [(da, .inr (13, [.int ((u6q.1 0)), .int d_tape, .int d_size, .int d_place, .int d_at, .int d_fault, .int d_faultAt, .int d_clauses, .ref da_fed, .ref da_readBody, .ref da_body, .ref da_readMany, .ref da_many, .ref da_without, .ref da_did, .ref da_done, .ref da_bed, .int d_now, .int d_mindAt, .int d_way, .int d_harm, .int d_worth, .int d_passes, .int d_passings, .int d_spots, .int d_images, .ref da_passing, .ref da_spot, .ref da_kept, .ref da_aside, .int d_spare, .ref da_ran, .ref da_who, .ref da_cap, .ref da_w, .ref da_laid, .int d_whoMany, .int d_drifted, .int d_seed, .ref da_cries, .ref da_holds, .ref da_came, .ref da_least, .ref da_firstTo, .int d_steps, .int d_roundFrom, .int d_roundMany, .int d_numberAt])), (da_many, .inl (cy 0, 5, .inl df_many)), (da_spot, .inl (cy 5, 6, .inr (.inr (.inr (.inr (fun i => if i < 6 then some (da_spot + 1 + i) else none)))))), ((da_spot + 1 + 0), .inl (cy 0, 2, .inl ((dF_spot 0)))), ((da_spot + 1 + 1), .inl (cy 0, 2, .inl ((dF_spot 1)))), ((da_spot + 1 + 2), .inl (cy 0, 2, .inl ((dF_spot 2)))), ((da_spot + 1 + 3), .inl (cy 0, 2, .inl ((dF_spot 3)))), ((da_spot + 1 + 4), .inl (cy 0, 2, .inl ((dF_spot 4)))), ((da_spot + 1 + 5), .inl (cy 0, 2, .inl ((dF_spot 5))))] [8, 0, 1, 2, 3, 4, 5, 6, 7]) (wr := []) rfl rfl (by decide) (k_runV 13 8 (As := [.int k75qy5, .int 7776]) (rest := []) E lk_VRX12_340 rfl rfl rfl (m_roundOf l hl0 D cy sa da da_fed da_readBody da_body da_readMany da_many da_without da_did da_done da_bed da_passing da_spot da_kept da_aside da_ran da_who da_cap da_w da_laid da_cries da_holds da_came da_least da_firstTo ((u6q.1 0)) d_tape d_size d_place d_at d_fault d_faultAt d_clauses d_now d_mindAt d_way d_harm d_worth d_passes d_passings d_spots d_images d_spare d_whoMany d_drifted d_seed d_steps d_roundFrom d_roundMany d_numberAt k75qy5 7776 df_many dF_spot ⟨by omega, by omega⟩ ⟨by omega, by omega⟩ ⟨by omega, by omega⟩ ⟨by omega, by omega⟩ ⟨by omega, by omega⟩ ⟨by omega, by omega⟩ ⟨by omega, by omega⟩ ⟨by omega, by omega⟩ ⟨by omega, by omega⟩ ⟨by omega, by omega⟩ (by assumption) (by assumption) (by assumption) ⟨by omega, by omega⟩ (by first | exact Or.inl ⟨by decide, by omega⟩ | exact Or.inr (Or.inl ⟨by decide, by omega⟩) | exact Or.inr (Or.inr (Or.inl ⟨by decide, by omega⟩)) | exact Or.inr (Or.inr (Or.inr (Or.inl ⟨by decide, by omega⟩))) | exact Or.inr (Or.inr (Or.inr (Or.inr (Or.inl ⟨by decide, by omega⟩)))) | exact Or.inr (Or.inr (Or.inr (Or.inr (Or.inr (⟨by decide, by omega⟩))))) | omega) (by first | exact Or.inl ⟨by decide, by omega⟩ | exact Or.inr (Or.inl ⟨by decide, by omega⟩) | exact Or.inr (Or.inr (Or.inl ⟨by decide, by omega⟩)) | exact Or.inr (Or.inr (Or.inr (Or.inl ⟨by decide, by omega⟩))) | exact Or.inr (Or.inr (Or.inr (Or.inr (Or.inl ⟨by decide, by omega⟩)))) | exact Or.inr (Or.inr (Or.inr (Or.inr (Or.inr (⟨by decide, by omega⟩))))) | omega) H.size) (⟨hP, hD, hG, hS, hA, rfl, rfl⟩ : kAt D cy sa A s H _ _ [(da, .inr (13, [.int ((u6q.1 0)), .int d_tape, .int d_size, .int d_place, .int d_at, .int d_fault, .int d_faultAt, .int d_clauses, .ref da_fed, .ref da_readBody, .ref da_body, .ref da_readMany, .ref da_many, .ref da_without, .ref da_did, .ref da_done, .ref da_bed, .int d_now, .int d_mindAt, .int d_way, .int d_harm, .int d_worth, .int d_passes, .int d_passings, .int d_spots, .int d_images, .ref da_passing, .ref da_spot, .ref da_kept, .ref da_aside, .int d_spare, .ref da_ran, .ref da_who, .ref da_cap, .ref da_w, .ref da_laid, .int d_whoMany, .int d_drifted, .int d_seed, .ref da_cries, .ref da_holds, .ref da_came, .ref da_least, .ref da_firstTo, .int d_steps, .int d_roundFrom, .int d_roundMany, .int d_numberAt])), (da_many, .inl (cy 0, 5, .inl df_many)), (da_spot, .inl (cy 5, 6, .inr (.inr (.inr (.inr (fun i => if i < 6 then some (da_spot + 1 + i) else none)))))), ((da_spot + 1 + 0), .inl (cy 0, 2, .inl ((dF_spot 0)))), ((da_spot + 1 + 1), .inl (cy 0, 2, .inl ((dF_spot 1)))), ((da_spot + 1 + 2), .inl (cy 0, 2, .inl ((dF_spot 2)))), ((da_spot + 1 + 3), .inl (cy 0, 2, .inl ((dF_spot 3)))), ((da_spot + 1 + 4), .inl (cy 0, 2, .inl ((dF_spot 4)))), ((da_spot + 1 + 5), .inl (cy 0, 2, .inl ((dF_spot 5))))] [8, 0, 1, 2, 3, 4, 5, 6, 7]) hl.1 rfl rfl ⟨rfl, rfl, ⟨Nat.le_of_ble_eq_true rfl, Nat.le_of_ble_eq_true rfl⟩, ⟨Nat.le_of_ble_eq_true rfl, Nat.le_of_ble_eq_true rfl⟩, Nat.le_of_ble_eq_true rfl⟩ dX12_placed_94) (fun r78q u79q H locs hwu79q hP hD hS => ?_)
                  have hP : va_P D vwCl [(da, .inr (13, [.int ((u6q.1 0)), .int d_tape, .int d_size, .int d_place, .int d_at, .int d_fault, .int d_faultAt, .int d_clauses, .ref da_fed, .ref da_readBody, .ref da_body, .ref da_readMany, .ref da_many, .ref da_without, .ref da_did, .ref da_done, .ref da_bed, .int d_now, .int d_mindAt, .int d_way, .int d_harm, .int d_worth, .int d_passes, .int d_passings, .int d_spots, .int d_images, .ref da_passing, .ref da_spot, .ref da_kept, .ref da_aside, .int d_spare, .ref da_ran, .ref da_who, .ref da_cap, .ref da_w, .ref da_laid, .int d_whoMany, .int d_drifted, .int d_seed, .ref da_cries, .ref da_holds, .ref da_came, .ref da_least, .ref da_firstTo, .int d_steps, .int d_roundFrom, .int d_roundMany, .int d_numberAt])), (da_many, .inl (cy 0, 5, .inl df_many)), (da_spot, .inl (cy 5, 6, .inr (.inr (.inr (.inr (fun i => if i < 6 then some (da_spot + 1 + i) else none)))))), ((da_spot + 1 + 0), .inl (cy 0, 2, .inl ((dF_spot 0)))), ((da_spot + 1 + 1), .inl (cy 0, 2, .inl ((dF_spot 1)))), ((da_spot + 1 + 2), .inl (cy 0, 2, .inl ((dF_spot 2)))), ((da_spot + 1 + 3), .inl (cy 0, 2, .inl ((dF_spot 3)))), ((da_spot + 1 + 4), .inl (cy 0, 2, .inl ((dF_spot 4)))), ((da_spot + 1 + 5), .inl (cy 0, 2, .inl ((dF_spot 5))))] H := hP
                  have hD : va_D A [(da, .inr (13, [.int ((u6q.1 0)), .int d_tape, .int d_size, .int d_place, .int d_at, .int d_fault, .int d_faultAt, .int d_clauses, .ref da_fed, .ref da_readBody, .ref da_body, .ref da_readMany, .ref da_many, .ref da_without, .ref da_did, .ref da_done, .ref da_bed, .int d_now, .int d_mindAt, .int d_way, .int d_harm, .int d_worth, .int d_passes, .int d_passings, .int d_spots, .int d_images, .ref da_passing, .ref da_spot, .ref da_kept, .ref da_aside, .int d_spare, .ref da_ran, .ref da_who, .ref da_cap, .ref da_w, .ref da_laid, .int d_whoMany, .int d_drifted, .int d_seed, .ref da_cries, .ref da_holds, .ref da_came, .ref da_least, .ref da_firstTo, .int d_steps, .int d_roundFrom, .int d_roundMany, .int d_numberAt])), (da_many, .inl (cy 0, 5, .inl df_many)), (da_spot, .inl (cy 5, 6, .inr (.inr (.inr (.inr (fun i => if i < 6 then some (da_spot + 1 + i) else none)))))), ((da_spot + 1 + 0), .inl (cy 0, 2, .inl ((dF_spot 0)))), ((da_spot + 1 + 1), .inl (cy 0, 2, .inl ((dF_spot 1)))), ((da_spot + 1 + 2), .inl (cy 0, 2, .inl ((dF_spot 2)))), ((da_spot + 1 + 3), .inl (cy 0, 2, .inl ((dF_spot 3)))), ((da_spot + 1 + 4), .inl (cy 0, 2, .inl ((dF_spot 4)))), ((da_spot + 1 + 5), .inl (cy 0, 2, .inl ((dF_spot 5))))] := hD
                  refine lv_istore (lv' := [(6, .int r78q), (5, .int k75qy5), (2, .int 7776), (4, .int k75qy4), (3, .int k75qy3), (0, .ref da), (1, .int w0)]) hx hb dX12_placed_97 hl (by decide) rfl (fun ls hl => ?_)
                  refine lv_iload hx hb dX12_placed_99 (lv_at hl 0 rfl) ?_
                  refine lv_iconst (v := (-1)) hx hb dX12_placed_101 (by decide) ?_
                  refine lv_icmp_eq (tgt := 127) hx hb dX12_placed_102 (by decide) (fun c80q => ?_) (fun c80q => ?_)
                  · simp only [k_lt, k_le, k_eq, ne_eq, ge_iff_le, gt_iff_lt, n_Lm1] at c80q
                    obtain ⟨x81q, ex81q⟩ : ∃ z : Int32, z = k75qy5 + 1 := ⟨_, rfl⟩
                    refine lv_iinc (v := x81q) (lv' := [(5, .int x81q), (6, .int r78q), (2, .int 7776), (4, .int k75qy4), (3, .int k75qy3), (0, .ref da), (1, .int w0)]) hx hb dX12_placed_127 hl (k := 1) rfl (by rw [ex81q]; rfl) (by decide) rfl (fun ls hl => ?_)
                    have rx81q := n_add ex81q (a := k75qy5.toInt) (b := 1) rfl n_L1 (by omega) (by omega)
                    refine lv_goto (tgt := 84) hx hb dX12_placed_130 (by decide) ?_
                    exact k75qih ((7776 - x81q.toInt).toNat) (by omega) k75qy3 k75qy4 x81q H locs ls ⟨by omega, by omega⟩ rfl (hP.sub [1, 2, 3, 4, 5, 6, 7, 8, 0] rfl) (hD.sub [1, 2, 3, 4, 5, 6, 7, 8, 0] (by decide) rfl) hS (lv_sub hl [0, 2, 3, 4, 5, 6] rfl)
                  · simp only [k_lt, k_le, k_eq, ne_eq, ge_iff_le, gt_iff_lt, n_Lm1] at c80q
                    refine lv_iload_n hx hb dX12_placed_105 rfl (lv_at hl 4 rfl) ?_
                    refine lv_iconst (v := (-1)) hx hb dX12_placed_106 (by decide) ?_
                    refine lv_icmp_eq (tgt := 120) hx hb dX12_placed_107 (by decide) (fun c82q => ?_) (fun c82q => ?_)
                    · simp only [k_lt, k_le, k_eq, ne_eq, ge_iff_le, gt_iff_lt, n_Lm1] at c82q
                      refine lv_iload hx hb dX12_placed_120 (lv_at hl 1 rfl) ?_
                      refine lv_istore_n (lv' := [(3, .int k75qy5), (6, .int r78q), (5, .int k75qy5), (2, .int 7776), (4, .int k75qy4), (0, .ref da), (1, .int w0)]) hx hb dX12_placed_122 rfl hl (by decide) rfl (fun ls hl => ?_)
                      refine lv_iload hx hb dX12_placed_123 (lv_at hl 1 rfl) ?_
                      refine lv_istore (lv' := [(4, .int r78q), (3, .int k75qy5), (6, .int r78q), (5, .int k75qy5), (2, .int 7776), (0, .ref da), (1, .int w0)]) hx hb dX12_placed_125 hl (by decide) rfl (fun ls hl => ?_)
                      obtain ⟨x83q, ex83q⟩ : ∃ z : Int32, z = k75qy5 + 1 := ⟨_, rfl⟩
                      refine lv_iinc (v := x83q) (lv' := [(5, .int x83q), (4, .int r78q), (3, .int k75qy5), (6, .int r78q), (2, .int 7776), (0, .ref da), (1, .int w0)]) hx hb dX12_placed_127 hl (k := 3) rfl (by rw [ex83q]; rfl) (by decide) rfl (fun ls hl => ?_)
                      have rx83q := n_add ex83q (a := k75qy5.toInt) (b := 1) rfl n_L1 (by omega) (by omega)
                      refine lv_goto (tgt := 84) hx hb dX12_placed_130 (by decide) ?_
                      exact k75qih ((7776 - x83q.toInt).toNat) (by omega) k75qy5 r78q x83q H locs ls ⟨by omega, by omega⟩ rfl (hP.sub [1, 2, 3, 4, 5, 6, 7, 8, 0] rfl) (hD.sub [1, 2, 3, 4, 5, 6, 7, 8, 0] (by decide) rfl) hS (lv_sub hl [0, 4, 1, 2, 5, 6] rfl)
                    · simp only [k_lt, k_le, k_eq, ne_eq, ge_iff_le, gt_iff_lt, n_Lm1] at c82q
                      refine lv_iload hx hb dX12_placed_110 (lv_at hl 0 rfl) ?_
                      refine lv_iload hx hb dX12_placed_112 (lv_at hl 3 rfl) ?_
                      refine lv_icmp_lt (tgt := 120) hx hb dX12_placed_114 (by decide) (fun c84q => ?_) (fun c84q => ?_)
                      · simp only [k_lt, k_le, k_eq, ne_eq, ge_iff_le, gt_iff_lt] at c84q
                        refine lv_iload hx hb dX12_placed_120 (lv_at hl 1 rfl) ?_
                        refine lv_istore_n (lv' := [(3, .int k75qy5), (6, .int r78q), (5, .int k75qy5), (2, .int 7776), (4, .int k75qy4), (0, .ref da), (1, .int w0)]) hx hb dX12_placed_122 rfl hl (by decide) rfl (fun ls hl => ?_)
                        refine lv_iload hx hb dX12_placed_123 (lv_at hl 1 rfl) ?_
                        refine lv_istore (lv' := [(4, .int r78q), (3, .int k75qy5), (6, .int r78q), (5, .int k75qy5), (2, .int 7776), (0, .ref da), (1, .int w0)]) hx hb dX12_placed_125 hl (by decide) rfl (fun ls hl => ?_)
                        obtain ⟨x85q, ex85q⟩ : ∃ z : Int32, z = k75qy5 + 1 := ⟨_, rfl⟩
                        refine lv_iinc (v := x85q) (lv' := [(5, .int x85q), (4, .int r78q), (3, .int k75qy5), (6, .int r78q), (2, .int 7776), (0, .ref da), (1, .int w0)]) hx hb dX12_placed_127 hl (k := 3) rfl (by rw [ex85q]; rfl) (by decide) rfl (fun ls hl => ?_)
                        have rx85q := n_add ex85q (a := k75qy5.toInt) (b := 1) rfl n_L1 (by omega) (by omega)
                        refine lv_goto (tgt := 84) hx hb dX12_placed_130 (by decide) ?_
                        exact k75qih ((7776 - x85q.toInt).toNat) (by omega) k75qy5 r78q x85q H locs ls ⟨by omega, by omega⟩ rfl (hP.sub [1, 2, 3, 4, 5, 6, 7, 8, 0] rfl) (hD.sub [1, 2, 3, 4, 5, 6, 7, 8, 0] (by decide) rfl) hS (lv_sub hl [0, 4, 1, 2, 5, 6] rfl)
                      · simp only [k_lt, k_le, k_eq, ne_eq, ge_iff_le, gt_iff_lt] at c84q
                        refine lv_goto (tgt := 127) hx hb dX12_placed_117 (by decide) ?_
                        obtain ⟨x86q, ex86q⟩ : ∃ z : Int32, z = k75qy5 + 1 := ⟨_, rfl⟩
                        refine lv_iinc (v := x86q) (lv' := [(5, .int x86q), (6, .int r78q), (2, .int 7776), (4, .int k75qy4), (3, .int k75qy3), (0, .ref da), (1, .int w0)]) hx hb dX12_placed_127 hl (k := 1) rfl (by rw [ex86q]; rfl) (by decide) rfl (fun ls hl => ?_)
                        have rx86q := n_add ex86q (a := k75qy5.toInt) (b := 1) rfl n_L1 (by omega) (by omega)
                        refine lv_goto (tgt := 84) hx hb dX12_placed_130 (by decide) ?_
                        exact k75qih ((7776 - x86q.toInt).toNat) (by omega) k75qy3 k75qy4 x86q H locs ls ⟨by omega, by omega⟩ rfl (hP.sub [1, 2, 3, 4, 5, 6, 7, 8, 0] rfl) (hD.sub [1, 2, 3, 4, 5, 6, 7, 8, 0] (by decide) rfl) hS (lv_sub hl [0, 2, 3, 4, 5, 6] rfl)
            exact k75q _ (-1) 0 0 H locs ls ⟨by rw [n_L0]; omega, by rw [n_L0]; omega⟩ rfl hP hD hS (lv_sub hl [0, 1, 2, 3, 4, 5] rfl)
          · have h7 : d_spots = 6 := Int32.toInt_inj.mp (h9.trans (by decide))
            refine lv_iconst (v := 1) hx hb dX12_placed_51 (by decide) ?_
            refine lv_istore_n (lv' := [(2, .int 1), (0, .ref da), (1, .int w0)]) hx hb dX12_placed_52 rfl hl (by decide) rfl (fun ls hl => ?_)
            refine lv_iconst (v := (-1)) hx hb dX12_placed_53 (by decide) ?_
            refine lv_istore_n (lv' := [(3, .int (-1)), (2, .int 1), (0, .ref da), (1, .int w0)]) hx hb dX12_placed_54 rfl hl (by decide) rfl (fun ls hl => ?_)
            refine lv_iconst (v := 0) hx hb dX12_placed_55 (by decide) ?_
            refine lv_istore (lv' := [(4, .int 0), (3, .int (-1)), (2, .int 1), (0, .ref da), (1, .int w0)]) hx hb dX12_placed_56 hl (by decide) rfl (fun ls hl => ?_)
            refine lv_iconst (v := 0) hx hb dX12_placed_58 (by decide) ?_
            refine lv_istore (lv' := [(5, .int 0), (4, .int 0), (3, .int (-1)), (2, .int 1), (0, .ref da), (1, .int w0)]) hx hb dX12_placed_59 hl (by decide) rfl (fun ls hl => ?_)
            refine lv_iload hx hb dX12_placed_61 (lv_at hl 0 rfl) ?_
            refine lv_aload_n hx hb dX12_placed_63 rfl (lv_at hl 4 rfl) ?_
            refine va_get (D := D) (ci := 13) (v := .int d_spots) (C := RX12) (T := TX12) (N := 48) hx hb hts kin_RX12 hown hG.1 hP 8 rfl rfl 24 (by decide) (hts _ wm_1543) (fun _ h9 => h9) rfl dX12_placed_64 ?_
            rw [h7]
            refine lv_icmp_ge (tgt := 81) hx hb dX12_placed_67 (by decide) (fun h => absurd h (by decide)) (fun _ => ?_)
            refine lv_iload_n hx hb dX12_placed_70 rfl (lv_at hl 3 rfl) ?_
            refine lv_bipush (v := 6) hx hb dX12_placed_71 (by decide) ?_
            refine lv_imul hx hb dX12_placed_73 ?_
            refine lv_topi (fun x87q ex87q => ?_)
            obtain rfl : x87q = 6 := ex87q.trans (by decide)
            refine lv_istore_n (lv' := [(2, .int 6), (5, .int 0), (4, .int 0), (3, .int (-1)), (0, .ref da), (1, .int w0)]) hx hb dX12_placed_74 rfl hl (by decide) rfl (fun ls hl => ?_)
            refine lv_iinc (v := 1) (lv' := [(5, .int 1), (2, .int 6), (4, .int 0), (3, .int (-1)), (0, .ref da), (1, .int w0)]) hx hb dX12_placed_75 hl (k := 1) rfl (by decide) (by decide) rfl (fun ls hl => ?_)
            refine lv_goto (tgt := 61) hx hb dX12_placed_78 (by decide) ?_
            refine lv_iload hx hb dX12_placed_61 (lv_at hl 0 rfl) ?_
            refine lv_aload_n hx hb dX12_placed_63 rfl (lv_at hl 4 rfl) ?_
            refine va_get (D := D) (ci := 13) (v := .int d_spots) (C := RX12) (T := TX12) (N := 48) hx hb hts kin_RX12 hown hG.1 hP 8 rfl rfl 24 (by decide) (hts _ wm_1543) (fun _ h9 => h9) rfl dX12_placed_64 ?_
            rw [h7]
            refine lv_icmp_ge (tgt := 81) hx hb dX12_placed_67 (by decide) (fun h => absurd h (by decide)) (fun _ => ?_)
            refine lv_iload_n hx hb dX12_placed_70 rfl (lv_at hl 1 rfl) ?_
            refine lv_bipush (v := 6) hx hb dX12_placed_71 (by decide) ?_
            refine lv_imul hx hb dX12_placed_73 ?_
            refine lv_topi (fun x88q ex88q => ?_)
            obtain rfl : x88q = 36 := ex88q.trans (by decide)
            refine lv_istore_n (lv' := [(2, .int 36), (5, .int 1), (4, .int 0), (3, .int (-1)), (0, .ref da), (1, .int w0)]) hx hb dX12_placed_74 rfl hl (by decide) rfl (fun ls hl => ?_)
            refine lv_iinc (v := 2) (lv' := [(5, .int 2), (2, .int 36), (4, .int 0), (3, .int (-1)), (0, .ref da), (1, .int w0)]) hx hb dX12_placed_75 hl (k := 1) rfl (by decide) (by decide) rfl (fun ls hl => ?_)
            refine lv_goto (tgt := 61) hx hb dX12_placed_78 (by decide) ?_
            refine lv_iload hx hb dX12_placed_61 (lv_at hl 0 rfl) ?_
            refine lv_aload_n hx hb dX12_placed_63 rfl (lv_at hl 4 rfl) ?_
            refine va_get (D := D) (ci := 13) (v := .int d_spots) (C := RX12) (T := TX12) (N := 48) hx hb hts kin_RX12 hown hG.1 hP 8 rfl rfl 24 (by decide) (hts _ wm_1543) (fun _ h9 => h9) rfl dX12_placed_64 ?_
            rw [h7]
            refine lv_icmp_ge (tgt := 81) hx hb dX12_placed_67 (by decide) (fun h => absurd h (by decide)) (fun _ => ?_)
            refine lv_iload_n hx hb dX12_placed_70 rfl (lv_at hl 1 rfl) ?_
            refine lv_bipush (v := 6) hx hb dX12_placed_71 (by decide) ?_
            refine lv_imul hx hb dX12_placed_73 ?_
            refine lv_topi (fun x89q ex89q => ?_)
            obtain rfl : x89q = 216 := ex89q.trans (by decide)
            refine lv_istore_n (lv' := [(2, .int 216), (5, .int 2), (4, .int 0), (3, .int (-1)), (0, .ref da), (1, .int w0)]) hx hb dX12_placed_74 rfl hl (by decide) rfl (fun ls hl => ?_)
            refine lv_iinc (v := 3) (lv' := [(5, .int 3), (2, .int 216), (4, .int 0), (3, .int (-1)), (0, .ref da), (1, .int w0)]) hx hb dX12_placed_75 hl (k := 1) rfl (by decide) (by decide) rfl (fun ls hl => ?_)
            refine lv_goto (tgt := 61) hx hb dX12_placed_78 (by decide) ?_
            refine lv_iload hx hb dX12_placed_61 (lv_at hl 0 rfl) ?_
            refine lv_aload_n hx hb dX12_placed_63 rfl (lv_at hl 4 rfl) ?_
            refine va_get (D := D) (ci := 13) (v := .int d_spots) (C := RX12) (T := TX12) (N := 48) hx hb hts kin_RX12 hown hG.1 hP 8 rfl rfl 24 (by decide) (hts _ wm_1543) (fun _ h9 => h9) rfl dX12_placed_64 ?_
            rw [h7]
            refine lv_icmp_ge (tgt := 81) hx hb dX12_placed_67 (by decide) (fun h => absurd h (by decide)) (fun _ => ?_)
            refine lv_iload_n hx hb dX12_placed_70 rfl (lv_at hl 1 rfl) ?_
            refine lv_bipush (v := 6) hx hb dX12_placed_71 (by decide) ?_
            refine lv_imul hx hb dX12_placed_73 ?_
            refine lv_topi (fun x90q ex90q => ?_)
            obtain rfl : x90q = 1296 := ex90q.trans (by decide)
            refine lv_istore_n (lv' := [(2, .int 1296), (5, .int 3), (4, .int 0), (3, .int (-1)), (0, .ref da), (1, .int w0)]) hx hb dX12_placed_74 rfl hl (by decide) rfl (fun ls hl => ?_)
            refine lv_iinc (v := 4) (lv' := [(5, .int 4), (2, .int 1296), (4, .int 0), (3, .int (-1)), (0, .ref da), (1, .int w0)]) hx hb dX12_placed_75 hl (k := 1) rfl (by decide) (by decide) rfl (fun ls hl => ?_)
            refine lv_goto (tgt := 61) hx hb dX12_placed_78 (by decide) ?_
            refine lv_iload hx hb dX12_placed_61 (lv_at hl 0 rfl) ?_
            refine lv_aload_n hx hb dX12_placed_63 rfl (lv_at hl 4 rfl) ?_
            refine va_get (D := D) (ci := 13) (v := .int d_spots) (C := RX12) (T := TX12) (N := 48) hx hb hts kin_RX12 hown hG.1 hP 8 rfl rfl 24 (by decide) (hts _ wm_1543) (fun _ h9 => h9) rfl dX12_placed_64 ?_
            rw [h7]
            refine lv_icmp_ge (tgt := 81) hx hb dX12_placed_67 (by decide) (fun h => absurd h (by decide)) (fun _ => ?_)
            refine lv_iload_n hx hb dX12_placed_70 rfl (lv_at hl 1 rfl) ?_
            refine lv_bipush (v := 6) hx hb dX12_placed_71 (by decide) ?_
            refine lv_imul hx hb dX12_placed_73 ?_
            refine lv_topi (fun x91q ex91q => ?_)
            obtain rfl : x91q = 7776 := ex91q.trans (by decide)
            refine lv_istore_n (lv' := [(2, .int 7776), (5, .int 4), (4, .int 0), (3, .int (-1)), (0, .ref da), (1, .int w0)]) hx hb dX12_placed_74 rfl hl (by decide) rfl (fun ls hl => ?_)
            refine lv_iinc (v := 5) (lv' := [(5, .int 5), (2, .int 7776), (4, .int 0), (3, .int (-1)), (0, .ref da), (1, .int w0)]) hx hb dX12_placed_75 hl (k := 1) rfl (by decide) (by decide) rfl (fun ls hl => ?_)
            refine lv_goto (tgt := 61) hx hb dX12_placed_78 (by decide) ?_
            refine lv_iload hx hb dX12_placed_61 (lv_at hl 0 rfl) ?_
            refine lv_aload_n hx hb dX12_placed_63 rfl (lv_at hl 4 rfl) ?_
            refine va_get (D := D) (ci := 13) (v := .int d_spots) (C := RX12) (T := TX12) (N := 48) hx hb hts kin_RX12 hown hG.1 hP 8 rfl rfl 24 (by decide) (hts _ wm_1543) (fun _ h9 => h9) rfl dX12_placed_64 ?_
            rw [h7]
            refine lv_icmp_ge (tgt := 81) hx hb dX12_placed_67 (by decide) (fun h => absurd h (by decide)) (fun _ => ?_)
            refine lv_iload_n hx hb dX12_placed_70 rfl (lv_at hl 1 rfl) ?_
            refine lv_bipush (v := 6) hx hb dX12_placed_71 (by decide) ?_
            refine lv_imul hx hb dX12_placed_73 ?_
            refine lv_topi (fun x92q ex92q => ?_)
            obtain rfl : x92q = 46656 := ex92q.trans (by decide)
            refine lv_istore_n (lv' := [(2, .int 46656), (5, .int 5), (4, .int 0), (3, .int (-1)), (0, .ref da), (1, .int w0)]) hx hb dX12_placed_74 rfl hl (by decide) rfl (fun ls hl => ?_)
            refine lv_iinc (v := 6) (lv' := [(5, .int 6), (2, .int 46656), (4, .int 0), (3, .int (-1)), (0, .ref da), (1, .int w0)]) hx hb dX12_placed_75 hl (k := 1) rfl (by decide) (by decide) rfl (fun ls hl => ?_)
            refine lv_goto (tgt := 61) hx hb dX12_placed_78 (by decide) ?_
            refine lv_iload hx hb dX12_placed_61 (lv_at hl 0 rfl) ?_
            refine lv_aload_n hx hb dX12_placed_63 rfl (lv_at hl 4 rfl) ?_
            refine va_get (D := D) (ci := 13) (v := .int d_spots) (C := RX12) (T := TX12) (N := 48) hx hb hts kin_RX12 hown hG.1 hP 8 rfl rfl 24 (by decide) (hts _ wm_1543) (fun _ h9 => h9) rfl dX12_placed_64 ?_
            rw [h7]
            refine lv_icmp_ge (tgt := 81) hx hb dX12_placed_67 (by decide) (fun _ => ?_) (fun h => absurd (by decide) h)
            refine lv_iconst (v := 0) hx hb dX12_placed_81 (by decide) ?_
            refine lv_istore (lv' := [(5, .int 0), (2, .int 46656), (4, .int 0), (3, .int (-1)), (0, .ref da), (1, .int w0)]) hx hb dX12_placed_82 hl (by decide) rfl (fun ls hl => ?_)
            have k93q : ∀ (n : Nat) (k93qy3 : Int32) (k93qy4 : Int32) (k93qy5 : Int32) (H : Heap) (locs : List Loc) (ls : Array Slot), 0 ≤ k93qy5.toInt ∧ k93qy5.toInt ≤ 46656 → (46656 - k93qy5.toInt).toNat = n → va_P D vwCl [(da_many, .inl (cy 0, 5, .inl df_many)), (da_spot, .inl (cy 5, 6, .inr (.inr (.inr (.inr (fun i => if i < 6 then some (da_spot + 1 + i) else none)))))), ((da_spot + 1 + 0), .inl (cy 0, 2, .inl ((dF_spot 0)))), ((da_spot + 1 + 1), .inl (cy 0, 2, .inl ((dF_spot 1)))), ((da_spot + 1 + 2), .inl (cy 0, 2, .inl ((dF_spot 2)))), ((da_spot + 1 + 3), .inl (cy 0, 2, .inl ((dF_spot 3)))), ((da_spot + 1 + 4), .inl (cy 0, 2, .inl ((dF_spot 4)))), ((da_spot + 1 + 5), .inl (cy 0, 2, .inl ((dF_spot 5)))), (da, .inr (13, [.int ((u6q.1 0)), .int d_tape, .int d_size, .int d_place, .int d_at, .int d_fault, .int d_faultAt, .int d_clauses, .ref da_fed, .ref da_readBody, .ref da_body, .ref da_readMany, .ref da_many, .ref da_without, .ref da_did, .ref da_done, .ref da_bed, .int d_now, .int d_mindAt, .int d_way, .int d_harm, .int d_worth, .int d_passes, .int d_passings, .int d_spots, .int d_images, .ref da_passing, .ref da_spot, .ref da_kept, .ref da_aside, .int d_spare, .ref da_ran, .ref da_who, .ref da_cap, .ref da_w, .ref da_laid, .int d_whoMany, .int d_drifted, .int d_seed, .ref da_cries, .ref da_holds, .ref da_came, .ref da_least, .ref da_firstTo, .int d_steps, .int d_roundFrom, .int d_roundMany, .int d_numberAt]))] H → va_D A [(da_many, .inl (cy 0, 5, .inl df_many)), (da_spot, .inl (cy 5, 6, .inr (.inr (.inr (.inr (fun i => if i < 6 then some (da_spot + 1 + i) else none)))))), ((da_spot + 1 + 0), .inl (cy 0, 2, .inl ((dF_spot 0)))), ((da_spot + 1 + 1), .inl (cy 0, 2, .inl ((dF_spot 1)))), ((da_spot + 1 + 2), .inl (cy 0, 2, .inl ((dF_spot 2)))), ((da_spot + 1 + 3), .inl (cy 0, 2, .inl ((dF_spot 3)))), ((da_spot + 1 + 4), .inl (cy 0, 2, .inl ((dF_spot 4)))), ((da_spot + 1 + 5), .inl (cy 0, 2, .inl ((dF_spot 5)))), (da, .inr (13, [.int ((u6q.1 0)), .int d_tape, .int d_size, .int d_place, .int d_at, .int d_fault, .int d_faultAt, .int d_clauses, .ref da_fed, .ref da_readBody, .ref da_body, .ref da_readMany, .ref da_many, .ref da_without, .ref da_did, .ref da_done, .ref da_bed, .int d_now, .int d_mindAt, .int d_way, .int d_harm, .int d_worth, .int d_passes, .int d_passings, .int d_spots, .int d_images, .ref da_passing, .ref da_spot, .ref da_kept, .ref da_aside, .int d_spare, .ref da_ran, .ref da_who, .ref da_cap, .ref da_w, .ref da_laid, .int d_whoMany, .int d_drifted, .int d_seed, .ref da_cries, .ref da_holds, .ref da_came, .ref da_least, .ref da_firstTo, .int d_steps, .int d_roundFrom, .int d_roundMany, .int d_numberAt]))] → va_S A s.heap H locs → lv_has ls 7 [(5, .int k93qy5), (2, .int 46656), (4, .int k93qy4), (3, .int k93qy3), (0, .ref da), (1, .int w0)] → W p l e ({ frames := 13, cells := 0, slots := 0, locals := 480 }) s m ([.ref da, .int w0] : List Value).toArray below meth c H locs 0 0 Q0 (F0 m 84 ls []) := by
              intro n
              induction n using Nat.strongRecOn with
              | ind n k93qih =>
                intro k93qy3 k93qy4 k93qy5 H locs ls hk93qy5 k93qm hP hD hS hl
                have gk93qy3 := k_rng k93qy3
                have gk93qy4 := k_rng k93qy4
                refine lv_iload hx hb dX12_placed_84 (lv_at hl 0 rfl) ?_
                refine lv_iload_n hx hb dX12_placed_86 rfl (lv_at hl 1 rfl) ?_
                refine lv_icmp_ge (tgt := 133) hx hb dX12_placed_87 (by decide) (fun c94q => ?_) (fun c94q => ?_)
                · simp only [k_lt, k_le, k_eq, ne_eq, ge_iff_le, gt_iff_lt, n_L46656] at c94q
                  refine lv_iload_n hx hb dX12_placed_133 rfl (lv_at hl 5 rfl) ?_
                  refine lv_if_ne (tgt := 142) hx hb dX12_placed_134 (by decide) (fun c95q => ?_) (fun c95q => ?_)
                  · simp only [k_lt, k_le, k_eq, ne_eq, ge_iff_le, gt_iff_lt, n_L0, n_L0] at c95q
                    refine lv_iload_n hx hb dX12_placed_142 rfl (lv_at hl 3 rfl) ?_
                    rw [hQ0]
                    exact k_iret (fun k => [((u6q.1 0))].getD k 0, fun k => [].getD k (fun _ => 0)) hx hb hr hlk (trivial) (hP.sub [8, 0, 1, 2, 3, 4, 5, 6, 7] rfl) (hD.sub [8, 0, 1, 2, 3, 4, 5, 6, 7] (by decide) rfl) hS (by decide) (by decide) dX12_placed_143
                  · simp only [k_lt, k_le, k_eq, ne_eq, ge_iff_le, gt_iff_lt, n_L0, n_L0] at c95q
                    refine lv_iload hx hb dX12_placed_137 (lv_at hl 2 rfl) ?_
                    refine lv_goto (tgt := 143) hx hb dX12_placed_139 (by decide) ?_
                    rw [hQ0]
                    exact k_iret (fun k => [((u6q.1 0))].getD k 0, fun k => [].getD k (fun _ => 0)) hx hb hr hlk (trivial) (hP.sub [8, 0, 1, 2, 3, 4, 5, 6, 7] rfl) (hD.sub [8, 0, 1, 2, 3, 4, 5, 6, 7] (by decide) rfl) hS (by decide) (by decide) dX12_placed_143
                · simp only [k_lt, k_le, k_eq, ne_eq, ge_iff_le, gt_iff_lt, n_L46656] at c94q
                  refine lv_aload_n hx hb dX12_placed_90 rfl (lv_at hl 4 rfl) ?_
                  refine lv_iload hx hb dX12_placed_91 (lv_at hl 0 rfl) ?_
                  refine lv_iload_n hx hb dX12_placed_93 rfl (lv_at hl 1 rfl) ?_
                  refine k_cali [] (⟨hP, hD, hG, hS, hA, rfl, rfl⟩ : kAt D cy sa A s H _ _ [(da, .inr (13, [.int ((u6q.1 0)), .int d_tape, .int d_size, .int d_place, .int d_at, .int d_fault, .int d_faultAt, .int d_clauses, .ref da_fed, .ref da_readBody, .ref da_body, .ref da_readMany, .ref da_many, .ref da_without, .ref da_did, .ref da_done, .ref da_bed, .int d_now, .int d_mindAt, .int d_way, .int d_harm, .int d_worth, .int d_passes, .int d_passings, .int d_spots, .int d_images, .ref da_passing, .ref da_spot, .ref da_kept, .ref da_aside, .int d_spare, .ref da_ran, .ref da_who, .ref da_cap, .ref da_w, .ref da_laid, .int d_whoMany, .int d_drifted, .int d_seed, .ref da_cries, .ref da_holds, .ref da_came, .ref da_least, .ref da_firstTo, .int d_steps, .int d_roundFrom, .int d_roundMany, .int d_numberAt])), (da_many, .inl (cy 0, 5, .inl df_many)), (da_spot, .inl (cy 5, 6, .inr (.inr (.inr (.inr (fun i => if i < 6 then some (da_spot + 1 + i) else none)))))), ((da_spot + 1 + 0), .inl (cy 0, 2, .inl ((dF_spot 0)))), ((da_spot + 1 + 1), .inl (cy 0, 2, .inl ((dF_spot 1)))), ((da_spot + 1 + 2), .inl (cy 0, 2, .inl ((dF_spot 2)))), ((da_spot + 1 + 3), .inl (cy 0, 2, .inl ((dF_spot 3)))), ((da_spot + 1 + 4), .inl (cy 0, 2, .inl ((dF_spot 4)))), ((da_spot + 1 + 5), .inl (cy 0, 2, .inl ((dF_spot 5))))] [8, 0, 1, 2, 3, 4, 5, 6, 7]) (wr := []) rfl rfl (by decide) (k_runV 13 8 (As := [.int k93qy5, .int 46656]) (rest := []) E lk_VRX12_340 rfl rfl rfl (m_roundOf l hl0 D cy sa da da_fed da_readBody da_body da_readMany da_many da_without da_did da_done da_bed da_passing da_spot da_kept da_aside da_ran da_who da_cap da_w da_laid da_cries da_holds da_came da_least da_firstTo ((u6q.1 0)) d_tape d_size d_place d_at d_fault d_faultAt d_clauses d_now d_mindAt d_way d_harm d_worth d_passes d_passings d_spots d_images d_spare d_whoMany d_drifted d_seed d_steps d_roundFrom d_roundMany d_numberAt k93qy5 46656 df_many dF_spot ⟨by omega, by omega⟩ ⟨by omega, by omega⟩ ⟨by omega, by omega⟩ ⟨by omega, by omega⟩ ⟨by omega, by omega⟩ ⟨by omega, by omega⟩ ⟨by omega, by omega⟩ ⟨by omega, by omega⟩ ⟨by omega, by omega⟩ ⟨by omega, by omega⟩ (by assumption) (by assumption) (by assumption) ⟨by omega, by omega⟩ (by first | exact Or.inl ⟨by decide, by omega⟩ | exact Or.inr (Or.inl ⟨by decide, by omega⟩) | exact Or.inr (Or.inr (Or.inl ⟨by decide, by omega⟩)) | exact Or.inr (Or.inr (Or.inr (Or.inl ⟨by decide, by omega⟩))) | exact Or.inr (Or.inr (Or.inr (Or.inr (Or.inl ⟨by decide, by omega⟩)))) | exact Or.inr (Or.inr (Or.inr (Or.inr (Or.inr (⟨by decide, by omega⟩))))) | omega) (by first | exact Or.inl ⟨by decide, by omega⟩ | exact Or.inr (Or.inl ⟨by decide, by omega⟩) | exact Or.inr (Or.inr (Or.inl ⟨by decide, by omega⟩)) | exact Or.inr (Or.inr (Or.inr (Or.inl ⟨by decide, by omega⟩))) | exact Or.inr (Or.inr (Or.inr (Or.inr (Or.inl ⟨by decide, by omega⟩)))) | exact Or.inr (Or.inr (Or.inr (Or.inr (Or.inr (⟨by decide, by omega⟩))))) | omega) H.size) (⟨hP, hD, hG, hS, hA, rfl, rfl⟩ : kAt D cy sa A s H _ _ [(da, .inr (13, [.int ((u6q.1 0)), .int d_tape, .int d_size, .int d_place, .int d_at, .int d_fault, .int d_faultAt, .int d_clauses, .ref da_fed, .ref da_readBody, .ref da_body, .ref da_readMany, .ref da_many, .ref da_without, .ref da_did, .ref da_done, .ref da_bed, .int d_now, .int d_mindAt, .int d_way, .int d_harm, .int d_worth, .int d_passes, .int d_passings, .int d_spots, .int d_images, .ref da_passing, .ref da_spot, .ref da_kept, .ref da_aside, .int d_spare, .ref da_ran, .ref da_who, .ref da_cap, .ref da_w, .ref da_laid, .int d_whoMany, .int d_drifted, .int d_seed, .ref da_cries, .ref da_holds, .ref da_came, .ref da_least, .ref da_firstTo, .int d_steps, .int d_roundFrom, .int d_roundMany, .int d_numberAt])), (da_many, .inl (cy 0, 5, .inl df_many)), (da_spot, .inl (cy 5, 6, .inr (.inr (.inr (.inr (fun i => if i < 6 then some (da_spot + 1 + i) else none)))))), ((da_spot + 1 + 0), .inl (cy 0, 2, .inl ((dF_spot 0)))), ((da_spot + 1 + 1), .inl (cy 0, 2, .inl ((dF_spot 1)))), ((da_spot + 1 + 2), .inl (cy 0, 2, .inl ((dF_spot 2)))), ((da_spot + 1 + 3), .inl (cy 0, 2, .inl ((dF_spot 3)))), ((da_spot + 1 + 4), .inl (cy 0, 2, .inl ((dF_spot 4)))), ((da_spot + 1 + 5), .inl (cy 0, 2, .inl ((dF_spot 5))))] [8, 0, 1, 2, 3, 4, 5, 6, 7]) hl.1 rfl rfl ⟨rfl, rfl, ⟨Nat.le_of_ble_eq_true rfl, Nat.le_of_ble_eq_true rfl⟩, ⟨Nat.le_of_ble_eq_true rfl, Nat.le_of_ble_eq_true rfl⟩, Nat.le_of_ble_eq_true rfl⟩ dX12_placed_94) (fun r96q u97q H locs hwu97q hP hD hS => ?_)
                  have hP : va_P D vwCl [(da, .inr (13, [.int ((u6q.1 0)), .int d_tape, .int d_size, .int d_place, .int d_at, .int d_fault, .int d_faultAt, .int d_clauses, .ref da_fed, .ref da_readBody, .ref da_body, .ref da_readMany, .ref da_many, .ref da_without, .ref da_did, .ref da_done, .ref da_bed, .int d_now, .int d_mindAt, .int d_way, .int d_harm, .int d_worth, .int d_passes, .int d_passings, .int d_spots, .int d_images, .ref da_passing, .ref da_spot, .ref da_kept, .ref da_aside, .int d_spare, .ref da_ran, .ref da_who, .ref da_cap, .ref da_w, .ref da_laid, .int d_whoMany, .int d_drifted, .int d_seed, .ref da_cries, .ref da_holds, .ref da_came, .ref da_least, .ref da_firstTo, .int d_steps, .int d_roundFrom, .int d_roundMany, .int d_numberAt])), (da_many, .inl (cy 0, 5, .inl df_many)), (da_spot, .inl (cy 5, 6, .inr (.inr (.inr (.inr (fun i => if i < 6 then some (da_spot + 1 + i) else none)))))), ((da_spot + 1 + 0), .inl (cy 0, 2, .inl ((dF_spot 0)))), ((da_spot + 1 + 1), .inl (cy 0, 2, .inl ((dF_spot 1)))), ((da_spot + 1 + 2), .inl (cy 0, 2, .inl ((dF_spot 2)))), ((da_spot + 1 + 3), .inl (cy 0, 2, .inl ((dF_spot 3)))), ((da_spot + 1 + 4), .inl (cy 0, 2, .inl ((dF_spot 4)))), ((da_spot + 1 + 5), .inl (cy 0, 2, .inl ((dF_spot 5))))] H := hP
                  have hD : va_D A [(da, .inr (13, [.int ((u6q.1 0)), .int d_tape, .int d_size, .int d_place, .int d_at, .int d_fault, .int d_faultAt, .int d_clauses, .ref da_fed, .ref da_readBody, .ref da_body, .ref da_readMany, .ref da_many, .ref da_without, .ref da_did, .ref da_done, .ref da_bed, .int d_now, .int d_mindAt, .int d_way, .int d_harm, .int d_worth, .int d_passes, .int d_passings, .int d_spots, .int d_images, .ref da_passing, .ref da_spot, .ref da_kept, .ref da_aside, .int d_spare, .ref da_ran, .ref da_who, .ref da_cap, .ref da_w, .ref da_laid, .int d_whoMany, .int d_drifted, .int d_seed, .ref da_cries, .ref da_holds, .ref da_came, .ref da_least, .ref da_firstTo, .int d_steps, .int d_roundFrom, .int d_roundMany, .int d_numberAt])), (da_many, .inl (cy 0, 5, .inl df_many)), (da_spot, .inl (cy 5, 6, .inr (.inr (.inr (.inr (fun i => if i < 6 then some (da_spot + 1 + i) else none)))))), ((da_spot + 1 + 0), .inl (cy 0, 2, .inl ((dF_spot 0)))), ((da_spot + 1 + 1), .inl (cy 0, 2, .inl ((dF_spot 1)))), ((da_spot + 1 + 2), .inl (cy 0, 2, .inl ((dF_spot 2)))), ((da_spot + 1 + 3), .inl (cy 0, 2, .inl ((dF_spot 3)))), ((da_spot + 1 + 4), .inl (cy 0, 2, .inl ((dF_spot 4)))), ((da_spot + 1 + 5), .inl (cy 0, 2, .inl ((dF_spot 5))))] := hD
                  refine lv_istore (lv' := [(6, .int r96q), (5, .int k93qy5), (2, .int 46656), (4, .int k93qy4), (3, .int k93qy3), (0, .ref da), (1, .int w0)]) hx hb dX12_placed_97 hl (by decide) rfl (fun ls hl => ?_)
                  refine lv_iload hx hb dX12_placed_99 (lv_at hl 0 rfl) ?_
                  refine lv_iconst (v := (-1)) hx hb dX12_placed_101 (by decide) ?_
                  refine lv_icmp_eq (tgt := 127) hx hb dX12_placed_102 (by decide) (fun c98q => ?_) (fun c98q => ?_)
                  · simp only [k_lt, k_le, k_eq, ne_eq, ge_iff_le, gt_iff_lt, n_Lm1] at c98q
                    obtain ⟨x99q, ex99q⟩ : ∃ z : Int32, z = k93qy5 + 1 := ⟨_, rfl⟩
                    refine lv_iinc (v := x99q) (lv' := [(5, .int x99q), (6, .int r96q), (2, .int 46656), (4, .int k93qy4), (3, .int k93qy3), (0, .ref da), (1, .int w0)]) hx hb dX12_placed_127 hl (k := 1) rfl (by rw [ex99q]; rfl) (by decide) rfl (fun ls hl => ?_)
                    have rx99q := n_add ex99q (a := k93qy5.toInt) (b := 1) rfl n_L1 (by omega) (by omega)
                    refine lv_goto (tgt := 84) hx hb dX12_placed_130 (by decide) ?_
                    exact k93qih ((46656 - x99q.toInt).toNat) (by omega) k93qy3 k93qy4 x99q H locs ls ⟨by omega, by omega⟩ rfl (hP.sub [1, 2, 3, 4, 5, 6, 7, 8, 0] rfl) (hD.sub [1, 2, 3, 4, 5, 6, 7, 8, 0] (by decide) rfl) hS (lv_sub hl [0, 2, 3, 4, 5, 6] rfl)
                  · simp only [k_lt, k_le, k_eq, ne_eq, ge_iff_le, gt_iff_lt, n_Lm1] at c98q
                    refine lv_iload_n hx hb dX12_placed_105 rfl (lv_at hl 4 rfl) ?_
                    refine lv_iconst (v := (-1)) hx hb dX12_placed_106 (by decide) ?_
                    refine lv_icmp_eq (tgt := 120) hx hb dX12_placed_107 (by decide) (fun c100q => ?_) (fun c100q => ?_)
                    · simp only [k_lt, k_le, k_eq, ne_eq, ge_iff_le, gt_iff_lt, n_Lm1] at c100q
                      refine lv_iload hx hb dX12_placed_120 (lv_at hl 1 rfl) ?_
                      refine lv_istore_n (lv' := [(3, .int k93qy5), (6, .int r96q), (5, .int k93qy5), (2, .int 46656), (4, .int k93qy4), (0, .ref da), (1, .int w0)]) hx hb dX12_placed_122 rfl hl (by decide) rfl (fun ls hl => ?_)
                      refine lv_iload hx hb dX12_placed_123 (lv_at hl 1 rfl) ?_
                      refine lv_istore (lv' := [(4, .int r96q), (3, .int k93qy5), (6, .int r96q), (5, .int k93qy5), (2, .int 46656), (0, .ref da), (1, .int w0)]) hx hb dX12_placed_125 hl (by decide) rfl (fun ls hl => ?_)
                      obtain ⟨x101q, ex101q⟩ : ∃ z : Int32, z = k93qy5 + 1 := ⟨_, rfl⟩
                      refine lv_iinc (v := x101q) (lv' := [(5, .int x101q), (4, .int r96q), (3, .int k93qy5), (6, .int r96q), (2, .int 46656), (0, .ref da), (1, .int w0)]) hx hb dX12_placed_127 hl (k := 3) rfl (by rw [ex101q]; rfl) (by decide) rfl (fun ls hl => ?_)
                      have rx101q := n_add ex101q (a := k93qy5.toInt) (b := 1) rfl n_L1 (by omega) (by omega)
                      refine lv_goto (tgt := 84) hx hb dX12_placed_130 (by decide) ?_
                      exact k93qih ((46656 - x101q.toInt).toNat) (by omega) k93qy5 r96q x101q H locs ls ⟨by omega, by omega⟩ rfl (hP.sub [1, 2, 3, 4, 5, 6, 7, 8, 0] rfl) (hD.sub [1, 2, 3, 4, 5, 6, 7, 8, 0] (by decide) rfl) hS (lv_sub hl [0, 4, 1, 2, 5, 6] rfl)
                    · simp only [k_lt, k_le, k_eq, ne_eq, ge_iff_le, gt_iff_lt, n_Lm1] at c100q
                      refine lv_iload hx hb dX12_placed_110 (lv_at hl 0 rfl) ?_
                      refine lv_iload hx hb dX12_placed_112 (lv_at hl 3 rfl) ?_
                      refine lv_icmp_lt (tgt := 120) hx hb dX12_placed_114 (by decide) (fun c102q => ?_) (fun c102q => ?_)
                      · simp only [k_lt, k_le, k_eq, ne_eq, ge_iff_le, gt_iff_lt] at c102q
                        refine lv_iload hx hb dX12_placed_120 (lv_at hl 1 rfl) ?_
                        refine lv_istore_n (lv' := [(3, .int k93qy5), (6, .int r96q), (5, .int k93qy5), (2, .int 46656), (4, .int k93qy4), (0, .ref da), (1, .int w0)]) hx hb dX12_placed_122 rfl hl (by decide) rfl (fun ls hl => ?_)
                        refine lv_iload hx hb dX12_placed_123 (lv_at hl 1 rfl) ?_
                        refine lv_istore (lv' := [(4, .int r96q), (3, .int k93qy5), (6, .int r96q), (5, .int k93qy5), (2, .int 46656), (0, .ref da), (1, .int w0)]) hx hb dX12_placed_125 hl (by decide) rfl (fun ls hl => ?_)
                        obtain ⟨x103q, ex103q⟩ : ∃ z : Int32, z = k93qy5 + 1 := ⟨_, rfl⟩
                        refine lv_iinc (v := x103q) (lv' := [(5, .int x103q), (4, .int r96q), (3, .int k93qy5), (6, .int r96q), (2, .int 46656), (0, .ref da), (1, .int w0)]) hx hb dX12_placed_127 hl (k := 3) rfl (by rw [ex103q]; rfl) (by decide) rfl (fun ls hl => ?_)
                        have rx103q := n_add ex103q (a := k93qy5.toInt) (b := 1) rfl n_L1 (by omega) (by omega)
                        refine lv_goto (tgt := 84) hx hb dX12_placed_130 (by decide) ?_
                        exact k93qih ((46656 - x103q.toInt).toNat) (by omega) k93qy5 r96q x103q H locs ls ⟨by omega, by omega⟩ rfl (hP.sub [1, 2, 3, 4, 5, 6, 7, 8, 0] rfl) (hD.sub [1, 2, 3, 4, 5, 6, 7, 8, 0] (by decide) rfl) hS (lv_sub hl [0, 4, 1, 2, 5, 6] rfl)
                      · simp only [k_lt, k_le, k_eq, ne_eq, ge_iff_le, gt_iff_lt] at c102q
                        refine lv_goto (tgt := 127) hx hb dX12_placed_117 (by decide) ?_
                        obtain ⟨x104q, ex104q⟩ : ∃ z : Int32, z = k93qy5 + 1 := ⟨_, rfl⟩
                        refine lv_iinc (v := x104q) (lv' := [(5, .int x104q), (6, .int r96q), (2, .int 46656), (4, .int k93qy4), (3, .int k93qy3), (0, .ref da), (1, .int w0)]) hx hb dX12_placed_127 hl (k := 1) rfl (by rw [ex104q]; rfl) (by decide) rfl (fun ls hl => ?_)
                        have rx104q := n_add ex104q (a := k93qy5.toInt) (b := 1) rfl n_L1 (by omega) (by omega)
                        refine lv_goto (tgt := 84) hx hb dX12_placed_130 (by decide) ?_
                        exact k93qih ((46656 - x104q.toInt).toNat) (by omega) k93qy3 k93qy4 x104q H locs ls ⟨by omega, by omega⟩ rfl (hP.sub [1, 2, 3, 4, 5, 6, 7, 8, 0] rfl) (hD.sub [1, 2, 3, 4, 5, 6, 7, 8, 0] (by decide) rfl) hS (lv_sub hl [0, 2, 3, 4, 5, 6] rfl)
            exact k93q _ (-1) 0 0 H locs ls ⟨by rw [n_L0]; omega, by rw [n_L0]; omega⟩ rfl hP hD hS (lv_sub hl [0, 1, 2, 3, 4, 5] rfl)
        · simp only [k_lt, k_le, k_eq, ne_eq, ge_iff_le, gt_iff_lt] at c11q
          refine lv_iconst (v := (-1)) hx hb dX12_placed_49 (by decide) ?_
          rw [hQ0]
          exact k_iret (fun k => [((u6q.1 0))].getD k 0, fun k => [].getD k (fun _ => 0)) hx hb hr hlk (trivial) (hP.sub [8, 0, 1, 2, 3, 4, 5, 6, 7] rfl) (hD.sub [8, 0, 1, 2, 3, 4, 5, 6, 7] (by decide) rfl) hS (by decide) (by decide) dX12_placed_50
    · simp only [k_lt, k_le, k_eq, ne_eq, ge_iff_le, gt_iff_lt, n_L0, n_L0] at c8q
      refine lv_iconst (v := 0) hx hb dX12_placed_27 (by decide) ?_
      rw [hQ0]
      exact k_iret (fun k => [((u6q.1 0))].getD k 0, fun k => [].getD k (fun _ => 0)) hx hb hr hlk (trivial) (hP.sub [8, 0, 1, 2, 3, 4, 5, 6, 7] rfl) (hD.sub [8, 0, 1, 2, 3, 4, 5, 6, 7] (by decide) rfl) hS (by decide) (by decide) dX12_placed_28
  · simp only [k_lt, k_le, k_eq, ne_eq, ge_iff_le, gt_iff_lt, n_L0, n_L0] at c4q
    refine lv_iconst (v := 1) hx hb dX12_placed_15 (by decide) ?_
    refine lv_goto (tgt := 20) hx hb dX12_placed_16 (by decide) ?_
    refine lv_iconst (v := 1) hx hb dX12_placed_20 (by decide) ?_
    refine k_cali [1, 2, 3, 4, 5, 6, 7, 8] (⟨hP, hD, hG, hS, hA, rfl, rfl⟩ : kAt D cy sa A s H _ _ [(da, .inr (13, [.int 0, .int d_tape, .int d_size, .int d_place, .int d_at, .int d_fault, .int d_faultAt, .int d_clauses, .ref da_fed, .ref da_readBody, .ref da_body, .ref da_readMany, .ref da_many, .ref da_without, .ref da_did, .ref da_done, .ref da_bed, .int d_now, .int d_mindAt, .int d_way, .int d_harm, .int d_worth, .int d_passes, .int d_passings, .int d_spots, .int d_images, .ref da_passing, .ref da_spot, .ref da_kept, .ref da_aside, .int d_spare, .ref da_ran, .ref da_who, .ref da_cap, .ref da_w, .ref da_laid, .int d_whoMany, .int d_drifted, .int d_seed, .ref da_cries, .ref da_holds, .ref da_came, .ref da_least, .ref da_firstTo, .int d_steps, .int d_roundFrom, .int d_roundMany, .int d_numberAt]))] [0]) (wr := [(da_many, .inl (cy 0, 5, .inl df_many)), (da_spot, .inl (cy 5, 6, .inr (.inr (.inr (.inr (fun i => if i < 6 then some (da_spot + 1 + i) else none)))))), ((da_spot + 1 + 0), .inl (cy 0, 2, .inl ((dF_spot 0)))), ((da_spot + 1 + 1), .inl (cy 0, 2, .inl ((dF_spot 1)))), ((da_spot + 1 + 2), .inl (cy 0, 2, .inl ((dF_spot 2)))), ((da_spot + 1 + 3), .inl (cy 0, 2, .inl ((dF_spot 3)))), ((da_spot + 1 + 4), .inl (cy 0, 2, .inl ((dF_spot 4)))), ((da_spot + 1 + 5), .inl (cy 0, 2, .inl ((dF_spot 5))))]) rfl rfl (by decide) (k_runV 13 0 (As := [.int 1, .int 1]) (rest := []) E lk_VRX12_169 rfl rfl rfl (m_bad l hl0 D cy sa da da_fed da_readBody da_body da_readMany da_many da_without da_did da_done da_bed da_passing da_spot da_kept da_aside da_ran da_who da_cap da_w da_laid da_cries da_holds da_came da_least da_firstTo 0 d_tape d_size d_place d_at d_fault d_faultAt d_clauses d_now d_mindAt d_way d_harm d_worth d_passes d_passings d_spots d_images d_spare d_whoMany d_drifted d_seed d_steps d_roundFrom d_roundMany d_numberAt 1 1 ⟨by omega, by omega⟩ ⟨by omega, by omega⟩ ⟨by omega, by omega⟩ ⟨by omega, by omega⟩ ⟨by omega, by omega⟩ ⟨by omega, by omega⟩ ⟨by omega, by omega⟩ ⟨by omega, by omega⟩ ⟨by omega, by omega⟩ ⟨by omega, by omega⟩ (by decide) H.size) (⟨hP, hD, hG, hS, hA, rfl, rfl⟩ : kAt D cy sa A s H _ _ [(da, .inr (13, [.int 0, .int d_tape, .int d_size, .int d_place, .int d_at, .int d_fault, .int d_faultAt, .int d_clauses, .ref da_fed, .ref da_readBody, .ref da_body, .ref da_readMany, .ref da_many, .ref da_without, .ref da_did, .ref da_done, .ref da_bed, .int d_now, .int d_mindAt, .int d_way, .int d_harm, .int d_worth, .int d_passes, .int d_passings, .int d_spots, .int d_images, .ref da_passing, .ref da_spot, .ref da_kept, .ref da_aside, .int d_spare, .ref da_ran, .ref da_who, .ref da_cap, .ref da_w, .ref da_laid, .int d_whoMany, .int d_drifted, .int d_seed, .ref da_cries, .ref da_holds, .ref da_came, .ref da_least, .ref da_firstTo, .int d_steps, .int d_roundFrom, .int d_roundMany, .int d_numberAt]))] [0]) hl.1 rfl rfl ⟨rfl, rfl, ⟨Nat.le_of_ble_eq_true rfl, Nat.le_of_ble_eq_true rfl⟩, ⟨Nat.le_of_ble_eq_true rfl, Nat.le_of_ble_eq_true rfl⟩, Nat.le_of_ble_eq_true rfl⟩ dX12_placed_21) (fun r105q u106q H locs hwu106q hP hD hS => ?_)
    have hP : va_P D vwCl [(da_many, .inl (cy 0, 5, .inl df_many)), (da_spot, .inl (cy 5, 6, .inr (.inr (.inr (.inr (fun i => if i < 6 then some (da_spot + 1 + i) else none)))))), ((da_spot + 1 + 0), .inl (cy 0, 2, .inl ((dF_spot 0)))), ((da_spot + 1 + 1), .inl (cy 0, 2, .inl ((dF_spot 1)))), ((da_spot + 1 + 2), .inl (cy 0, 2, .inl ((dF_spot 2)))), ((da_spot + 1 + 3), .inl (cy 0, 2, .inl ((dF_spot 3)))), ((da_spot + 1 + 4), .inl (cy 0, 2, .inl ((dF_spot 4)))), ((da_spot + 1 + 5), .inl (cy 0, 2, .inl ((dF_spot 5)))), (da, .inr (13, [.int ((u106q.1 0)), .int d_tape, .int d_size, .int d_place, .int d_at, .int d_fault, .int d_faultAt, .int d_clauses, .ref da_fed, .ref da_readBody, .ref da_body, .ref da_readMany, .ref da_many, .ref da_without, .ref da_did, .ref da_done, .ref da_bed, .int d_now, .int d_mindAt, .int d_way, .int d_harm, .int d_worth, .int d_passes, .int d_passings, .int d_spots, .int d_images, .ref da_passing, .ref da_spot, .ref da_kept, .ref da_aside, .int d_spare, .ref da_ran, .ref da_who, .ref da_cap, .ref da_w, .ref da_laid, .int d_whoMany, .int d_drifted, .int d_seed, .ref da_cries, .ref da_holds, .ref da_came, .ref da_least, .ref da_firstTo, .int d_steps, .int d_roundFrom, .int d_roundMany, .int d_numberAt]))] H := hP
    have hD : va_D A [(da_many, .inl (cy 0, 5, .inl df_many)), (da_spot, .inl (cy 5, 6, .inr (.inr (.inr (.inr (fun i => if i < 6 then some (da_spot + 1 + i) else none)))))), ((da_spot + 1 + 0), .inl (cy 0, 2, .inl ((dF_spot 0)))), ((da_spot + 1 + 1), .inl (cy 0, 2, .inl ((dF_spot 1)))), ((da_spot + 1 + 2), .inl (cy 0, 2, .inl ((dF_spot 2)))), ((da_spot + 1 + 3), .inl (cy 0, 2, .inl ((dF_spot 3)))), ((da_spot + 1 + 4), .inl (cy 0, 2, .inl ((dF_spot 4)))), ((da_spot + 1 + 5), .inl (cy 0, 2, .inl ((dF_spot 5)))), (da, .inr (13, [.int ((u106q.1 0)), .int d_tape, .int d_size, .int d_place, .int d_at, .int d_fault, .int d_faultAt, .int d_clauses, .ref da_fed, .ref da_readBody, .ref da_body, .ref da_readMany, .ref da_many, .ref da_without, .ref da_did, .ref da_done, .ref da_bed, .int d_now, .int d_mindAt, .int d_way, .int d_harm, .int d_worth, .int d_passes, .int d_passings, .int d_spots, .int d_images, .ref da_passing, .ref da_spot, .ref da_kept, .ref da_aside, .int d_spare, .ref da_ran, .ref da_who, .ref da_cap, .ref da_w, .ref da_laid, .int d_whoMany, .int d_drifted, .int d_seed, .ref da_cries, .ref da_holds, .ref da_came, .ref da_least, .ref da_firstTo, .int d_steps, .int d_roundFrom, .int d_roundMany, .int d_numberAt]))] := hD
    have p107q := hwu106q
    try simp only [n_L0, n_L1] at p107q
    have br105q : r105q.toInt = 1 := by simpa using p107q
    refine lv_if_eq (tgt := 29) hx hb dX12_placed_24 (by decide) (fun c108q => by exfalso; simp only [k_lt, k_le, k_eq, ne_eq, ge_iff_le, gt_iff_lt, n_L0, n_L0] at c108q; omega) (fun c108q => ?_)
    simp only [k_lt, k_le, k_eq, ne_eq, ge_iff_le, gt_iff_lt, n_L0, n_L0] at c108q
    refine lv_iconst (v := 0) hx hb dX12_placed_27 (by decide) ?_
    rw [hQ0]
    exact k_iret (fun k => [((u106q.1 0))].getD k 0, fun k => [].getD k (fun _ => 0)) hx hb hr hlk (trivial) (hP.sub [8, 0, 1, 2, 3, 4, 5, 6, 7] rfl) (hD.sub [8, 0, 1, 2, 3, 4, 5, 6, 7] (by decide) rfl) hS (by decide) (by decide) dX12_placed_28
