theorem wm_1543 : Cond.fieldLink RX12 197 "LentMindsModel" "spots" "I" ∈ kWS := kws_at 1543 (by decide +kernel) (by decide +kernel)
theorem wm_1545 : Cond.fieldLink RX12 43 "LentMindsModel" "passing" "[[I" ∈ kWS := kws_at 1545 (by decide +kernel) (by decide +kernel)
theorem wm_1546 : Cond.fieldLink RX12 46 "LentMindsModel" "spot" "[[I" ∈ kWS := kws_at 1546 (by decide +kernel) (by decide +kernel)
theorem dX12_movesTold_0 : decode cX12_movesTold 0 = .ok (.aload_n 0, 1) := by decide +kernel
theorem dX12_movesTold_1 : decode cX12_movesTold 1 = .ok (.aload_n 0, 1) := by decide +kernel
theorem dX12_movesTold_2 : decode cX12_movesTold 2 = .ok (.aload_n 1, 1) := by decide +kernel
theorem dX12_movesTold_3 : decode cX12_movesTold 3 = .ok (.aload_n 0, 1) := by decide +kernel
theorem dX12_movesTold_4 : decode cX12_movesTold 4 = .ok (.getfield 194, 3) := by decide +kernel
theorem dX12_movesTold_7 : decode cX12_movesTold 7 = .ok (.iload_n 2, 1) := by decide +kernel
theorem dX12_movesTold_8 : decode cX12_movesTold 8 = .ok (.invokevirtual 251, 3) := by decide +kernel
theorem dX12_movesTold_11 : decode cX12_movesTold 11 = .ok (.putfield 194, 3) := by decide +kernel
theorem dX12_movesTold_14 : decode cX12_movesTold 14 = .ok (.aload_n 0, 1) := by decide +kernel
theorem dX12_movesTold_15 : decode cX12_movesTold 15 = .ok (.aload_n 0, 1) := by decide +kernel
theorem dX12_movesTold_16 : decode cX12_movesTold 16 = .ok (.aload_n 1, 1) := by decide +kernel
theorem dX12_movesTold_17 : decode cX12_movesTold 17 = .ok (.aload_n 0, 1) := by decide +kernel
theorem dX12_movesTold_18 : decode cX12_movesTold 18 = .ok (.getfield 197, 3) := by decide +kernel
theorem dX12_movesTold_21 : decode cX12_movesTold 21 = .ok (.iload_n 2, 1) := by decide +kernel
theorem dX12_movesTold_22 : decode cX12_movesTold 22 = .ok (.invokevirtual 251, 3) := by decide +kernel
theorem dX12_movesTold_25 : decode cX12_movesTold 25 = .ok (.putfield 197, 3) := by decide +kernel
theorem dX12_movesTold_28 : decode cX12_movesTold 28 = .ok (.iconst 0, 1) := by decide +kernel
theorem dX12_movesTold_29 : decode cX12_movesTold 29 = .ok (.istore_n 3, 1) := by decide +kernel
theorem dX12_movesTold_30 : decode cX12_movesTold 30 = .ok (.iload_n 3, 1) := by decide +kernel
theorem dX12_movesTold_31 : decode cX12_movesTold 31 = .ok (.bipush 30, 2) := by decide +kernel
theorem dX12_movesTold_33 : decode cX12_movesTold 33 = .ok (.if_icmp .ge 48, 3) := by decide +kernel
theorem dX12_movesTold_36 : decode cX12_movesTold 36 = .ok (.iconst 0, 1) := by decide +kernel
theorem dX12_movesTold_37 : decode cX12_movesTold 37 = .ok (.istore 4, 2) := by decide +kernel
theorem dX12_movesTold_39 : decode cX12_movesTold 39 = .ok (.iload 4, 2) := by decide +kernel
theorem dX12_movesTold_41 : decode cX12_movesTold 41 = .ok (.iconst 2, 1) := by decide +kernel
theorem dX12_movesTold_42 : decode cX12_movesTold 42 = .ok (.if_icmp .ge 33, 3) := by decide +kernel
theorem dX12_movesTold_45 : decode cX12_movesTold 45 = .ok (.aload_n 0, 1) := by decide +kernel
theorem dX12_movesTold_46 : decode cX12_movesTold 46 = .ok (.getfield 43, 3) := by decide +kernel
theorem dX12_movesTold_49 : decode cX12_movesTold 49 = .ok (.iload_n 3, 1) := by decide +kernel
theorem dX12_movesTold_50 : decode cX12_movesTold 50 = .ok (.aaload, 1) := by decide +kernel
theorem dX12_movesTold_51 : decode cX12_movesTold 51 = .ok (.iload 4, 2) := by decide +kernel
theorem dX12_movesTold_53 : decode cX12_movesTold 53 = .ok (.aload_n 0, 1) := by decide +kernel
theorem dX12_movesTold_54 : decode cX12_movesTold 54 = .ok (.aload_n 1, 1) := by decide +kernel
theorem dX12_movesTold_55 : decode cX12_movesTold 55 = .ok (.aload_n 0, 1) := by decide +kernel
theorem dX12_movesTold_56 : decode cX12_movesTold 56 = .ok (.getfield 43, 3) := by decide +kernel
theorem dX12_movesTold_59 : decode cX12_movesTold 59 = .ok (.iload_n 3, 1) := by decide +kernel
theorem dX12_movesTold_60 : decode cX12_movesTold 60 = .ok (.aaload, 1) := by decide +kernel
theorem dX12_movesTold_61 : decode cX12_movesTold 61 = .ok (.iload 4, 2) := by decide +kernel
theorem dX12_movesTold_63 : decode cX12_movesTold 63 = .ok (.iaload, 1) := by decide +kernel
theorem dX12_movesTold_64 : decode cX12_movesTold 64 = .ok (.iload_n 2, 1) := by decide +kernel
theorem dX12_movesTold_65 : decode cX12_movesTold 65 = .ok (.invokevirtual 251, 3) := by decide +kernel
theorem dX12_movesTold_68 : decode cX12_movesTold 68 = .ok (.iastore, 1) := by decide +kernel
theorem dX12_movesTold_69 : decode cX12_movesTold 69 = .ok (.iinc 4 1, 3) := by decide +kernel
theorem dX12_movesTold_72 : decode cX12_movesTold 72 = .ok (.goto (-33), 3) := by decide +kernel
theorem dX12_movesTold_75 : decode cX12_movesTold 75 = .ok (.iinc 3 1, 3) := by decide +kernel
theorem dX12_movesTold_78 : decode cX12_movesTold 78 = .ok (.goto (-48), 3) := by decide +kernel
theorem dX12_movesTold_81 : decode cX12_movesTold 81 = .ok (.iconst 0, 1) := by decide +kernel
theorem dX12_movesTold_82 : decode cX12_movesTold 82 = .ok (.istore_n 3, 1) := by decide +kernel
theorem dX12_movesTold_83 : decode cX12_movesTold 83 = .ok (.iload_n 3, 1) := by decide +kernel
theorem dX12_movesTold_84 : decode cX12_movesTold 84 = .ok (.bipush 6, 2) := by decide +kernel
theorem dX12_movesTold_86 : decode cX12_movesTold 86 = .ok (.if_icmp .ge 48, 3) := by decide +kernel
theorem dX12_movesTold_89 : decode cX12_movesTold 89 = .ok (.iconst 0, 1) := by decide +kernel
theorem dX12_movesTold_90 : decode cX12_movesTold 90 = .ok (.istore 4, 2) := by decide +kernel
theorem dX12_movesTold_92 : decode cX12_movesTold 92 = .ok (.iload 4, 2) := by decide +kernel
theorem dX12_movesTold_94 : decode cX12_movesTold 94 = .ok (.iconst 2, 1) := by decide +kernel
theorem dX12_movesTold_95 : decode cX12_movesTold 95 = .ok (.if_icmp .ge 33, 3) := by decide +kernel
theorem dX12_movesTold_98 : decode cX12_movesTold 98 = .ok (.aload_n 0, 1) := by decide +kernel
theorem dX12_movesTold_99 : decode cX12_movesTold 99 = .ok (.getfield 46, 3) := by decide +kernel
theorem dX12_movesTold_102 : decode cX12_movesTold 102 = .ok (.iload_n 3, 1) := by decide +kernel
theorem dX12_movesTold_103 : decode cX12_movesTold 103 = .ok (.aaload, 1) := by decide +kernel
theorem dX12_movesTold_104 : decode cX12_movesTold 104 = .ok (.iload 4, 2) := by decide +kernel
theorem dX12_movesTold_106 : decode cX12_movesTold 106 = .ok (.aload_n 0, 1) := by decide +kernel
theorem dX12_movesTold_107 : decode cX12_movesTold 107 = .ok (.aload_n 1, 1) := by decide +kernel
theorem dX12_movesTold_108 : decode cX12_movesTold 108 = .ok (.aload_n 0, 1) := by decide +kernel
theorem dX12_movesTold_109 : decode cX12_movesTold 109 = .ok (.getfield 46, 3) := by decide +kernel
theorem dX12_movesTold_112 : decode cX12_movesTold 112 = .ok (.iload_n 3, 1) := by decide +kernel
theorem dX12_movesTold_113 : decode cX12_movesTold 113 = .ok (.aaload, 1) := by decide +kernel
theorem dX12_movesTold_114 : decode cX12_movesTold 114 = .ok (.iload 4, 2) := by decide +kernel
theorem dX12_movesTold_116 : decode cX12_movesTold 116 = .ok (.iaload, 1) := by decide +kernel
theorem dX12_movesTold_117 : decode cX12_movesTold 117 = .ok (.iload_n 2, 1) := by decide +kernel
theorem dX12_movesTold_118 : decode cX12_movesTold 118 = .ok (.invokevirtual 251, 3) := by decide +kernel
theorem dX12_movesTold_121 : decode cX12_movesTold 121 = .ok (.iastore, 1) := by decide +kernel
theorem dX12_movesTold_122 : decode cX12_movesTold 122 = .ok (.iinc 4 1, 3) := by decide +kernel
theorem dX12_movesTold_125 : decode cX12_movesTold 125 = .ok (.goto (-33), 3) := by decide +kernel
theorem dX12_movesTold_128 : decode cX12_movesTold 128 = .ok (.iinc 3 1, 3) := by decide +kernel
theorem dX12_movesTold_131 : decode cX12_movesTold 131 = .ok (.goto (-48), 3) := by decide +kernel
theorem dX12_movesTold_134 : decode cX12_movesTold 134 = .ok (.return_, 1) := by decide +kernel
set_option maxHeartbeats 4000000 in
set_option maxRecDepth 100000 in
/-- the reference: movesTold -/
theorem m_movesTold (l : Launch) (hl0 : l.stackTraces = false) (D : va_G) (cy : Nat → ClassId) (sa : Nat → Nat) (v : Nat → Nat) (a : Nat) (b : Int32) (sz : Nat) : Met l yX12_movesTold (Cond.code yX12_movesTold cX12_movesTold 5 none :: kWS) ({ frames := 11, cells := 0, slots := 0, locals := 360 }) (kPre D cy sa [.ref (v 0), .ref a, .int b] (toldW cy v ++ [((v 0), .inr (13, [.int 0, .int 0, .int 0, .int (-1), .int 0, .int 0, .int 0, .int 0, .ref (v 1), .ref (v 2), .ref (v 3), .ref (v 4), .ref (v 5), .ref (v 6), .ref (v 7), .ref (v 8), .ref (v 9), .int 0, .int 0, .int 0, .int 0, .int 0, .int 0, .int 0, .int 0, .int 0, .ref (v 10), .ref (v 11), .ref (v 12), .ref (v 13), .int 42, .ref (v 14), .ref (v 15), .ref (v 16), .ref (v 17), .ref (v 18), .int 0, .int 0, .int 0, .ref (v 19), .ref (v 20), .ref (v 21), .ref (v 22), .ref (v 23), .int 0, .int 0, .int 0, .int 0])), (a, .inl (cy 0, 120, .inl (fun _ => 0)))]) sz) (va_Qv (fun (_ : Unit) => True) (kB D (va_A (toldW cy v ++ [((v 0), .inr (13, [.int 0, .int 0, .int 0, .int (-1), .int 0, .int 0, .int 0, .int 0, .ref (v 1), .ref (v 2), .ref (v 3), .ref (v 4), .ref (v 5), .ref (v 6), .ref (v 7), .ref (v 8), .ref (v 9), .int 0, .int 0, .int 0, .int 0, .int 0, .int 0, .int 0, .int 0, .int 0, .ref (v 10), .ref (v 11), .ref (v 12), .ref (v 13), .int 42, .ref (v 14), .ref (v 15), .ref (v 16), .ref (v 17), .ref (v 18), .int 0, .int 0, .int 0, .ref (v 19), .ref (v 20), .ref (v 21), .ref (v 22), .ref (v 23), .int 0, .int 0, .int 0, .int 0])), (a, .inl (cy 0, 120, .inl (fun _ => 0)))]) sz) (fun _ => (toldW cy v ++ [((v 0), .inr (13, [.int 0, .int 0, .int 0, .int (-1), .int 0, .int 0, .int 0, .int 0, .ref (v 1), .ref (v 2), .ref (v 3), .ref (v 4), .ref (v 5), .ref (v 6), .ref (v 7), .ref (v 8), .ref (v 9), .int 0, .int 0, .int 0, .int 0, .int 0, .int 0, .int 0, .int 0, .int 0, .ref (v 10), .ref (v 11), .ref (v 12), .ref (v 13), .int 116, .ref (v 14), .ref (v 15), .ref (v 16), .ref (v 17), .ref (v 18), .int 0, .int 0, .int 0, .ref (v 19), .ref (v 20), .ref (v 21), .ref (v 22), .ref (v 23), .int 0, .int 0, .int 0, .int 0])), (a, .inl (cy 0, 120, .inl (fun _ => 0)))]))) (va_A (toldW cy v ++ [((v 0), .inr (13, [.int 0, .int 0, .int 0, .int (-1), .int 0, .int 0, .int 0, .int 0, .ref (v 1), .ref (v 2), .ref (v 3), .ref (v 4), .ref (v 5), .ref (v 6), .ref (v 7), .ref (v 8), .ref (v 9), .int 0, .int 0, .int 0, .int 0, .int 0, .int 0, .int 0, .int 0, .int 0, .ref (v 10), .ref (v 11), .ref (v 12), .ref (v 13), .int 42, .ref (v 14), .ref (v 15), .ref (v 16), .ref (v 17), .ref (v 18), .int 0, .int 0, .int 0, .ref (v 19), .ref (v 20), .ref (v 21), .ref (v 22), .ref (v 23), .int 0, .int 0, .int 0, .int 0])), (a, .inl (cy 0, 120, .inl (fun _ => 0)))]) sz)) 0 0 (va_A (toldW cy v ++ [((v 0), .inr (13, [.int 0, .int 0, .int 0, .int (-1), .int 0, .int 0, .int 0, .int 0, .ref (v 1), .ref (v 2), .ref (v 3), .ref (v 4), .ref (v 5), .ref (v 6), .ref (v 7), .ref (v 8), .ref (v 9), .int 0, .int 0, .int 0, .int 0, .int 0, .int 0, .int 0, .int 0, .int 0, .ref (v 10), .ref (v 11), .ref (v 12), .ref (v 13), .int 42, .ref (v 14), .ref (v 15), .ref (v 16), .ref (v 17), .ref (v 18), .int 0, .int 0, .int 0, .ref (v 19), .ref (v 20), .ref (v 21), .ref (v 22), .ref (v 23), .int 0, .int 0, .int 0, .int 0])), (a, .inl (cy 0, 120, .inl (fun _ => 0)))]) sz) := by
  refine k_ofW (y := yX12_movesTold) (cc := cX12_movesTold) (maxL := 5) (ret := none) (av := [.ref (v 0), .ref a, .int b]) (ws := (toldW cy v ++ [((v 0), .inr (13, [.int 0, .int 0, .int 0, .int (-1), .int 0, .int 0, .int 0, .int 0, .ref (v 1), .ref (v 2), .ref (v 3), .ref (v 4), .ref (v 5), .ref (v 6), .ref (v 7), .ref (v 8), .ref (v 9), .int 0, .int 0, .int 0, .int 0, .int 0, .int 0, .int 0, .int 0, .int 0, .ref (v 10), .ref (v 11), .ref (v 12), .ref (v 13), .int 42, .ref (v 14), .ref (v 15), .ref (v 16), .ref (v 17), .ref (v 18), .int 0, .int 0, .int 0, .ref (v 19), .ref (v 20), .ref (v 21), .ref (v 22), .ref (v 23), .int 0, .int 0, .int 0, .int 0])), (a, .inl (cy 0, 120, .inl (fun _ => 0)))])) (Qc := fun A => va_Qv (fun (_ : Unit) => True) (kB D A (fun _ => (toldW cy v ++ [((v 0), .inr (13, [.int 0, .int 0, .int 0, .int (-1), .int 0, .int 0, .int 0, .int 0, .ref (v 1), .ref (v 2), .ref (v 3), .ref (v 4), .ref (v 5), .ref (v 6), .ref (v 7), .ref (v 8), .ref (v 9), .int 0, .int 0, .int 0, .int 0, .int 0, .int 0, .int 0, .int 0, .int 0, .ref (v 10), .ref (v 11), .ref (v 12), .ref (v 13), .int 116, .ref (v 14), .ref (v 15), .ref (v 16), .ref (v 17), .ref (v 18), .int 0, .int 0, .int 0, .ref (v 19), .ref (v 20), .ref (v 21), .ref (v 22), .ref (v 23), .int 0, .int 0, .int 0, .int 0])), (a, .inl (cy 0, 120, .inl (fun _ => 0)))]))) A) (by decide) (Nat.le_of_ble_eq_true rfl) ?_
  intro p e s m below meth c ls A E hA hP hD hG hS hl
  obtain ⟨hx, hb, hml, hown, hts, hr, hlk, hnm⟩ := id E
  have hown : s.vm.findClass RX12 = some m.cls := hown
  have hl : lv_has ls 5 [(0, .ref (v 0)), (1, .ref a), (2, .int b)] := hl
  obtain ⟨H, hH⟩ : ∃ H, H = s.heap := ⟨_, rfl⟩
  have hP : va_P D vwCl (toldW cy v ++ [((v 0), .inr (13, [.int 0, .int 0, .int 0, .int (-1), .int 0, .int 0, .int 0, .int 0, .ref (v 1), .ref (v 2), .ref (v 3), .ref (v 4), .ref (v 5), .ref (v 6), .ref (v 7), .ref (v 8), .ref (v 9), .int 0, .int 0, .int 0, .int 0, .int 0, .int 0, .int 0, .int 0, .int 0, .ref (v 10), .ref (v 11), .ref (v 12), .ref (v 13), .int 42, .ref (v 14), .ref (v 15), .ref (v 16), .ref (v 17), .ref (v 18), .int 0, .int 0, .int 0, .ref (v 19), .ref (v 20), .ref (v 21), .ref (v 22), .ref (v 23), .int 0, .int 0, .int 0, .int 0])), (a, .inl (cy 0, 120, .inl (fun _ => 0)))]) H := by rw [hH]; exact hP
  have hS : va_S A s.heap H [] := by rw [hH]; exact va_S.rf
  rw [← hH]
  clear hH
  refine lv_aload_n hx hb dX12_movesTold_0 rfl (lv_at hl 0 rfl) ?_
  refine lv_aload_n hx hb dX12_movesTold_1 rfl (lv_at hl 0 rfl) ?_
  refine lv_aload_n hx hb dX12_movesTold_2 rfl (lv_at hl 1 rfl) ?_
  refine lv_aload_n hx hb dX12_movesTold_3 rfl (lv_at hl 0 rfl) ?_
  refine va_get (D := D) (ci := 13) (v := .int 0) (C := RX12) (T := TX12) (N := 48) hx hb hts kin_RX12 hown hG.1 hP 38 rfl rfl 23 (by decide) (hts _ wm_1542) (fun _ h9 => h9) rfl dX12_movesTold_4 ?_
  refine lv_iload_n hx hb dX12_movesTold_7 rfl (lv_at hl 2 rfl) ?_
  refine k_cali [0, 1, 2, 3, 4, 5, 6, 7, 8, 9, 10, 11, 12, 13, 14, 15, 16, 17, 18, 19, 20, 21, 22, 23, 24, 25, 26, 27, 28, 29, 30, 31, 32, 33, 34, 35, 36, 37] (⟨hP, hD, hG, hS, hA, rfl, rfl⟩ : kAt D cy sa A s H _ _ [((v 0), .inr (13, [.int 0, .int 0, .int 0, .int (-1), .int 0, .int 0, .int 0, .int 0, .ref (v 1), .ref (v 2), .ref (v 3), .ref (v 4), .ref (v 5), .ref (v 6), .ref (v 7), .ref (v 8), .ref (v 9), .int 0, .int 0, .int 0, .int 0, .int 0, .int 0, .int 0, .int 0, .int 0, .ref (v 10), .ref (v 11), .ref (v 12), .ref (v 13), .int 42, .ref (v 14), .ref (v 15), .ref (v 16), .ref (v 17), .ref (v 18), .int 0, .int 0, .int 0, .ref (v 19), .ref (v 20), .ref (v 21), .ref (v 22), .ref (v 23), .int 0, .int 0, .int 0, .int 0])), (a, .inl (cy 0, 120, .inl (fun _ => 0)))] [38, 39]) (wr := (toldW cy v ++ [])) rfl rfl (by decide) (k_runV 13 38 (As := [.ref a, .int 0, .int b]) (rest := [.ref (v 0)]) E lk_VRX12_251 rfl rfl rfl (m_moves l hl0 D cy sa v a 0 42 (by unfold vp_in; decide) b H.size) (⟨hP, hD, hG, hS, hA, rfl, rfl⟩ : kAt D cy sa A s H _ _ [((v 0), .inr (13, [.int 0, .int 0, .int 0, .int (-1), .int 0, .int 0, .int 0, .int 0, .ref (v 1), .ref (v 2), .ref (v 3), .ref (v 4), .ref (v 5), .ref (v 6), .ref (v 7), .ref (v 8), .ref (v 9), .int 0, .int 0, .int 0, .int 0, .int 0, .int 0, .int 0, .int 0, .int 0, .ref (v 10), .ref (v 11), .ref (v 12), .ref (v 13), .int 42, .ref (v 14), .ref (v 15), .ref (v 16), .ref (v 17), .ref (v 18), .int 0, .int 0, .int 0, .ref (v 19), .ref (v 20), .ref (v 21), .ref (v 22), .ref (v 23), .int 0, .int 0, .int 0, .int 0])), (a, .inl (cy 0, 120, .inl (fun _ => 0)))] [38, 39]) hl.1 rfl rfl ⟨rfl, rfl, ⟨Nat.le_of_ble_eq_true rfl, Nat.le_of_ble_eq_true rfl⟩, ⟨Nat.le_of_ble_eq_true rfl, Nat.le_of_ble_eq_true rfl⟩, Nat.le_of_ble_eq_true rfl⟩ dX12_movesTold_8) (fun r1 u2 H locs hwu2 hP hD hS => ?_)
  have hP : va_P D vwCl (toldW cy v ++ [((v 0), .inr (13, [.int 0, .int 0, .int 0, .int (-1), .int 0, .int 0, .int 0, .int 0, .ref (v 1), .ref (v 2), .ref (v 3), .ref (v 4), .ref (v 5), .ref (v 6), .ref (v 7), .ref (v 8), .ref (v 9), .int 0, .int 0, .int 0, .int 0, .int 0, .int 0, .int 0, .int 0, .int 0, .ref (v 10), .ref (v 11), .ref (v 12), .ref (v 13), .int 43, .ref (v 14), .ref (v 15), .ref (v 16), .ref (v 17), .ref (v 18), .int 0, .int 0, .int 0, .ref (v 19), .ref (v 20), .ref (v 21), .ref (v 22), .ref (v 23), .int 0, .int 0, .int 0, .int 0])), (a, .inl (cy 0, 120, .inl (fun _ => 0)))]) H := hP
  have hD : va_D A (toldW cy v ++ [((v 0), .inr (13, [.int 0, .int 0, .int 0, .int (-1), .int 0, .int 0, .int 0, .int 0, .ref (v 1), .ref (v 2), .ref (v 3), .ref (v 4), .ref (v 5), .ref (v 6), .ref (v 7), .ref (v 8), .ref (v 9), .int 0, .int 0, .int 0, .int 0, .int 0, .int 0, .int 0, .int 0, .int 0, .ref (v 10), .ref (v 11), .ref (v 12), .ref (v 13), .int 43, .ref (v 14), .ref (v 15), .ref (v 16), .ref (v 17), .ref (v 18), .int 0, .int 0, .int 0, .ref (v 19), .ref (v 20), .ref (v 21), .ref (v 22), .ref (v 23), .int 0, .int 0, .int 0, .int 0])), (a, .inl (cy 0, 120, .inl (fun _ => 0)))]) := hD
  obtain rfl : r1 = 0 := hwu2
  refine va_put (D := D) (ci := 13) (v := .int 0) (ty := .int) (C := RX12) (T := TX12) (N := 48) hx hb hts kin_RX12 tyX12 tyX12_ok nmX12 hown hG.1 hP hD hS 38 rfl rfl 23 (by decide) (hts _ wm_1542) (fun _ h9 => h9) rfl (by decide +kernel) rfl rfl (Nat.le_of_ble_eq_true rfl) dX12_movesTold_11 (fun H locs hP hD hS => ?_)
  have hP : va_P D vwCl (toldW cy v ++ [((v 0), .inr (13, [.int 0, .int 0, .int 0, .int (-1), .int 0, .int 0, .int 0, .int 0, .ref (v 1), .ref (v 2), .ref (v 3), .ref (v 4), .ref (v 5), .ref (v 6), .ref (v 7), .ref (v 8), .ref (v 9), .int 0, .int 0, .int 0, .int 0, .int 0, .int 0, .int 0, .int 0, .int 0, .ref (v 10), .ref (v 11), .ref (v 12), .ref (v 13), .int 43, .ref (v 14), .ref (v 15), .ref (v 16), .ref (v 17), .ref (v 18), .int 0, .int 0, .int 0, .ref (v 19), .ref (v 20), .ref (v 21), .ref (v 22), .ref (v 23), .int 0, .int 0, .int 0, .int 0])), (a, .inl (cy 0, 120, .inl (fun _ => 0)))]) H := hP
  have hD : va_D A (toldW cy v ++ [((v 0), .inr (13, [.int 0, .int 0, .int 0, .int (-1), .int 0, .int 0, .int 0, .int 0, .ref (v 1), .ref (v 2), .ref (v 3), .ref (v 4), .ref (v 5), .ref (v 6), .ref (v 7), .ref (v 8), .ref (v 9), .int 0, .int 0, .int 0, .int 0, .int 0, .int 0, .int 0, .int 0, .int 0, .ref (v 10), .ref (v 11), .ref (v 12), .ref (v 13), .int 43, .ref (v 14), .ref (v 15), .ref (v 16), .ref (v 17), .ref (v 18), .int 0, .int 0, .int 0, .ref (v 19), .ref (v 20), .ref (v 21), .ref (v 22), .ref (v 23), .int 0, .int 0, .int 0, .int 0])), (a, .inl (cy 0, 120, .inl (fun _ => 0)))]) := hD
  refine lv_aload_n hx hb dX12_movesTold_14 rfl (lv_at hl 0 rfl) ?_
  refine lv_aload_n hx hb dX12_movesTold_15 rfl (lv_at hl 0 rfl) ?_
  refine lv_aload_n hx hb dX12_movesTold_16 rfl (lv_at hl 1 rfl) ?_
  refine lv_aload_n hx hb dX12_movesTold_17 rfl (lv_at hl 0 rfl) ?_
  refine va_get (D := D) (ci := 13) (v := .int 0) (C := RX12) (T := TX12) (N := 48) hx hb hts kin_RX12 hown hG.1 hP 38 rfl rfl 24 (by decide) (hts _ wm_1543) (fun _ h9 => h9) rfl dX12_movesTold_18 ?_
  refine lv_iload_n hx hb dX12_movesTold_21 rfl (lv_at hl 2 rfl) ?_
  refine k_cali [0, 1, 2, 3, 4, 5, 6, 7, 8, 9, 10, 11, 12, 13, 14, 15, 16, 17, 18, 19, 20, 21, 22, 23, 24, 25, 26, 27, 28, 29, 30, 31, 32, 33, 34, 35, 36, 37] (⟨hP, hD, hG, hS, hA, rfl, rfl⟩ : kAt D cy sa A s H _ _ [((v 0), .inr (13, [.int 0, .int 0, .int 0, .int (-1), .int 0, .int 0, .int 0, .int 0, .ref (v 1), .ref (v 2), .ref (v 3), .ref (v 4), .ref (v 5), .ref (v 6), .ref (v 7), .ref (v 8), .ref (v 9), .int 0, .int 0, .int 0, .int 0, .int 0, .int 0, .int 0, .int 0, .int 0, .ref (v 10), .ref (v 11), .ref (v 12), .ref (v 13), .int 43, .ref (v 14), .ref (v 15), .ref (v 16), .ref (v 17), .ref (v 18), .int 0, .int 0, .int 0, .ref (v 19), .ref (v 20), .ref (v 21), .ref (v 22), .ref (v 23), .int 0, .int 0, .int 0, .int 0])), (a, .inl (cy 0, 120, .inl (fun _ => 0)))] [38, 39]) (wr := (toldW cy v ++ [])) rfl rfl (by decide) (k_runV 13 38 (As := [.ref a, .int 0, .int b]) (rest := [.ref (v 0)]) E lk_VRX12_251 rfl rfl rfl (m_moves l hl0 D cy sa v a 0 43 (by unfold vp_in; decide) b H.size) (⟨hP, hD, hG, hS, hA, rfl, rfl⟩ : kAt D cy sa A s H _ _ [((v 0), .inr (13, [.int 0, .int 0, .int 0, .int (-1), .int 0, .int 0, .int 0, .int 0, .ref (v 1), .ref (v 2), .ref (v 3), .ref (v 4), .ref (v 5), .ref (v 6), .ref (v 7), .ref (v 8), .ref (v 9), .int 0, .int 0, .int 0, .int 0, .int 0, .int 0, .int 0, .int 0, .int 0, .ref (v 10), .ref (v 11), .ref (v 12), .ref (v 13), .int 43, .ref (v 14), .ref (v 15), .ref (v 16), .ref (v 17), .ref (v 18), .int 0, .int 0, .int 0, .ref (v 19), .ref (v 20), .ref (v 21), .ref (v 22), .ref (v 23), .int 0, .int 0, .int 0, .int 0])), (a, .inl (cy 0, 120, .inl (fun _ => 0)))] [38, 39]) hl.1 rfl rfl ⟨rfl, rfl, ⟨Nat.le_of_ble_eq_true rfl, Nat.le_of_ble_eq_true rfl⟩, ⟨Nat.le_of_ble_eq_true rfl, Nat.le_of_ble_eq_true rfl⟩, Nat.le_of_ble_eq_true rfl⟩ dX12_movesTold_22) (fun r3 u4 H locs hwu4 hP hD hS => ?_)
  have hP : va_P D vwCl (toldW cy v ++ [((v 0), .inr (13, [.int 0, .int 0, .int 0, .int (-1), .int 0, .int 0, .int 0, .int 0, .ref (v 1), .ref (v 2), .ref (v 3), .ref (v 4), .ref (v 5), .ref (v 6), .ref (v 7), .ref (v 8), .ref (v 9), .int 0, .int 0, .int 0, .int 0, .int 0, .int 0, .int 0, .int 0, .int 0, .ref (v 10), .ref (v 11), .ref (v 12), .ref (v 13), .int 44, .ref (v 14), .ref (v 15), .ref (v 16), .ref (v 17), .ref (v 18), .int 0, .int 0, .int 0, .ref (v 19), .ref (v 20), .ref (v 21), .ref (v 22), .ref (v 23), .int 0, .int 0, .int 0, .int 0])), (a, .inl (cy 0, 120, .inl (fun _ => 0)))]) H := hP
  have hD : va_D A (toldW cy v ++ [((v 0), .inr (13, [.int 0, .int 0, .int 0, .int (-1), .int 0, .int 0, .int 0, .int 0, .ref (v 1), .ref (v 2), .ref (v 3), .ref (v 4), .ref (v 5), .ref (v 6), .ref (v 7), .ref (v 8), .ref (v 9), .int 0, .int 0, .int 0, .int 0, .int 0, .int 0, .int 0, .int 0, .int 0, .ref (v 10), .ref (v 11), .ref (v 12), .ref (v 13), .int 44, .ref (v 14), .ref (v 15), .ref (v 16), .ref (v 17), .ref (v 18), .int 0, .int 0, .int 0, .ref (v 19), .ref (v 20), .ref (v 21), .ref (v 22), .ref (v 23), .int 0, .int 0, .int 0, .int 0])), (a, .inl (cy 0, 120, .inl (fun _ => 0)))]) := hD
  obtain rfl : r3 = 0 := hwu4
  refine va_put (D := D) (ci := 13) (v := .int 0) (ty := .int) (C := RX12) (T := TX12) (N := 48) hx hb hts kin_RX12 tyX12 tyX12_ok nmX12 hown hG.1 hP hD hS 38 rfl rfl 24 (by decide) (hts _ wm_1543) (fun _ h9 => h9) rfl (by decide +kernel) rfl rfl (Nat.le_of_ble_eq_true rfl) dX12_movesTold_25 (fun H locs hP hD hS => ?_)
  have hP : va_P D vwCl (toldW cy v ++ [((v 0), .inr (13, [.int 0, .int 0, .int 0, .int (-1), .int 0, .int 0, .int 0, .int 0, .ref (v 1), .ref (v 2), .ref (v 3), .ref (v 4), .ref (v 5), .ref (v 6), .ref (v 7), .ref (v 8), .ref (v 9), .int 0, .int 0, .int 0, .int 0, .int 0, .int 0, .int 0, .int 0, .int 0, .ref (v 10), .ref (v 11), .ref (v 12), .ref (v 13), .int 44, .ref (v 14), .ref (v 15), .ref (v 16), .ref (v 17), .ref (v 18), .int 0, .int 0, .int 0, .ref (v 19), .ref (v 20), .ref (v 21), .ref (v 22), .ref (v 23), .int 0, .int 0, .int 0, .int 0])), (a, .inl (cy 0, 120, .inl (fun _ => 0)))]) H := hP
  have hD : va_D A (toldW cy v ++ [((v 0), .inr (13, [.int 0, .int 0, .int 0, .int (-1), .int 0, .int 0, .int 0, .int 0, .ref (v 1), .ref (v 2), .ref (v 3), .ref (v 4), .ref (v 5), .ref (v 6), .ref (v 7), .ref (v 8), .ref (v 9), .int 0, .int 0, .int 0, .int 0, .int 0, .int 0, .int 0, .int 0, .int 0, .ref (v 10), .ref (v 11), .ref (v 12), .ref (v 13), .int 44, .ref (v 14), .ref (v 15), .ref (v 16), .ref (v 17), .ref (v 18), .int 0, .int 0, .int 0, .ref (v 19), .ref (v 20), .ref (v 21), .ref (v 22), .ref (v 23), .int 0, .int 0, .int 0, .int 0])), (a, .inl (cy 0, 120, .inl (fun _ => 0)))]) := hD
  refine lv_iconst (v := 0) hx hb dX12_movesTold_28 (by decide) ?_
  refine lv_istore_n (lv' := [(3, .int 0), (0, .ref (v 0)), (1, .ref a), (2, .int b)]) hx hb dX12_movesTold_29 rfl hl (by decide) rfl (fun ls hl => ?_)
  refine lv_iload_n hx hb dX12_movesTold_30 rfl (lv_at hl 0 rfl) ?_
  refine lv_bipush (v := 30) hx hb dX12_movesTold_31 (by decide) ?_
  refine lv_icmp_ge (tgt := 81) hx hb dX12_movesTold_33 (by decide) (fun h => absurd h (by decide)) (fun _ => ?_)
  refine lv_iconst (v := 0) hx hb dX12_movesTold_36 (by decide) ?_
  refine lv_istore (lv' := [(4, .int 0), (3, .int 0), (0, .ref (v 0)), (1, .ref a), (2, .int b)]) hx hb dX12_movesTold_37 hl (by decide) rfl (fun ls hl => ?_)
  refine lv_iload hx hb dX12_movesTold_39 (lv_at hl 0 rfl) ?_
  refine lv_iconst (v := 2) hx hb dX12_movesTold_41 (by decide) ?_
  refine lv_icmp_ge (tgt := 75) hx hb dX12_movesTold_42 (by decide) (fun h => absurd h (by decide)) (fun _ => ?_)
  refine lv_aload_n hx hb dX12_movesTold_45 rfl (lv_at hl 2 rfl) ?_
  refine va_get (D := D) (ci := 13) (v := .ref (v 10)) (C := RX12) (T := TX12) (N := 48) hx hb hts kin_RX12 hown hG.1 hP 38 rfl rfl 26 (by decide) (hts _ wm_1545) (fun _ h9 => h9) rfl dX12_movesTold_46 ?_
  refine lv_iload_n hx hb dX12_movesTold_49 rfl (lv_at hl 1 rfl) ?_
  refine k_aldA hx hb hG.1 hP 0 rfl (by unfold vp_in; decide) dX12_movesTold_50 ?_
  refine W.eq (g2 := F0 m 51 ls [.ref ((v 10) + 1 + 0)]) rfl ?_
  refine lv_iload hx hb dX12_movesTold_51 (lv_at hl 0 rfl) ?_
  refine lv_aload_n hx hb dX12_movesTold_53 rfl (lv_at hl 2 rfl) ?_
  refine lv_aload_n hx hb dX12_movesTold_54 rfl (lv_at hl 3 rfl) ?_
  refine lv_aload_n hx hb dX12_movesTold_55 rfl (lv_at hl 2 rfl) ?_
  refine va_get (D := D) (ci := 13) (v := .ref (v 10)) (C := RX12) (T := TX12) (N := 48) hx hb hts kin_RX12 hown hG.1 hP 38 rfl rfl 26 (by decide) (hts _ wm_1545) (fun _ h9 => h9) rfl dX12_movesTold_56 ?_
  refine lv_iload_n hx hb dX12_movesTold_59 rfl (lv_at hl 1 rfl) ?_
  refine k_aldA hx hb hG.1 hP 0 rfl (by unfold vp_in; decide) dX12_movesTold_60 ?_
  refine W.eq (g2 := F0 m 61 ls [.ref ((v 10) + 1 + 0), .ref a, .ref (v 0), .int 0, .ref ((v 10) + 1 + 0)]) rfl ?_
  refine lv_iload hx hb dX12_movesTold_61 (lv_at hl 0 rfl) ?_
  refine va_iald hx hb hG.1 hP 1 0 rfl rfl (by unfold vp_in; decide) dX12_movesTold_63 ?_
  refine lv_topi (fun x5 ex5 => ?_)
  obtain rfl : x5 = 0 := ex5.trans (rfl)
  refine lv_iload_n hx hb dX12_movesTold_64 rfl (lv_at hl 4 rfl) ?_
  refine k_cali [0, 1, 2, 3, 4, 5, 6, 7, 8, 9, 10, 11, 12, 13, 14, 15, 16, 17, 18, 19, 20, 21, 22, 23, 24, 25, 26, 27, 28, 29, 30, 31, 32, 33, 34, 35, 36, 37] (⟨hP, hD, hG, hS, hA, rfl, rfl⟩ : kAt D cy sa A s H _ _ [((v 0), .inr (13, [.int 0, .int 0, .int 0, .int (-1), .int 0, .int 0, .int 0, .int 0, .ref (v 1), .ref (v 2), .ref (v 3), .ref (v 4), .ref (v 5), .ref (v 6), .ref (v 7), .ref (v 8), .ref (v 9), .int 0, .int 0, .int 0, .int 0, .int 0, .int 0, .int 0, .int 0, .int 0, .ref (v 10), .ref (v 11), .ref (v 12), .ref (v 13), .int 44, .ref (v 14), .ref (v 15), .ref (v 16), .ref (v 17), .ref (v 18), .int 0, .int 0, .int 0, .ref (v 19), .ref (v 20), .ref (v 21), .ref (v 22), .ref (v 23), .int 0, .int 0, .int 0, .int 0])), (a, .inl (cy 0, 120, .inl (fun _ => 0)))] [38, 39]) (wr := (toldW cy v ++ [])) rfl rfl (by decide) (k_runV 13 38 (As := [.ref a, .int 0, .int b]) (rest := [.int 0, .ref ((v 10) + 1 + 0)]) E lk_VRX12_251 rfl rfl rfl (m_moves l hl0 D cy sa v a 0 44 (by unfold vp_in; decide) b H.size) (⟨hP, hD, hG, hS, hA, rfl, rfl⟩ : kAt D cy sa A s H _ _ [((v 0), .inr (13, [.int 0, .int 0, .int 0, .int (-1), .int 0, .int 0, .int 0, .int 0, .ref (v 1), .ref (v 2), .ref (v 3), .ref (v 4), .ref (v 5), .ref (v 6), .ref (v 7), .ref (v 8), .ref (v 9), .int 0, .int 0, .int 0, .int 0, .int 0, .int 0, .int 0, .int 0, .int 0, .ref (v 10), .ref (v 11), .ref (v 12), .ref (v 13), .int 44, .ref (v 14), .ref (v 15), .ref (v 16), .ref (v 17), .ref (v 18), .int 0, .int 0, .int 0, .ref (v 19), .ref (v 20), .ref (v 21), .ref (v 22), .ref (v 23), .int 0, .int 0, .int 0, .int 0])), (a, .inl (cy 0, 120, .inl (fun _ => 0)))] [38, 39]) hl.1 rfl rfl ⟨rfl, rfl, ⟨Nat.le_of_ble_eq_true rfl, Nat.le_of_ble_eq_true rfl⟩, ⟨Nat.le_of_ble_eq_true rfl, Nat.le_of_ble_eq_true rfl⟩, Nat.le_of_ble_eq_true rfl⟩ dX12_movesTold_65) (fun r6 u7 H locs hwu7 hP hD hS => ?_)
  have hP : va_P D vwCl (toldW cy v ++ [((v 0), .inr (13, [.int 0, .int 0, .int 0, .int (-1), .int 0, .int 0, .int 0, .int 0, .ref (v 1), .ref (v 2), .ref (v 3), .ref (v 4), .ref (v 5), .ref (v 6), .ref (v 7), .ref (v 8), .ref (v 9), .int 0, .int 0, .int 0, .int 0, .int 0, .int 0, .int 0, .int 0, .int 0, .ref (v 10), .ref (v 11), .ref (v 12), .ref (v 13), .int 45, .ref (v 14), .ref (v 15), .ref (v 16), .ref (v 17), .ref (v 18), .int 0, .int 0, .int 0, .ref (v 19), .ref (v 20), .ref (v 21), .ref (v 22), .ref (v 23), .int 0, .int 0, .int 0, .int 0])), (a, .inl (cy 0, 120, .inl (fun _ => 0)))]) H := hP
  have hD : va_D A (toldW cy v ++ [((v 0), .inr (13, [.int 0, .int 0, .int 0, .int (-1), .int 0, .int 0, .int 0, .int 0, .ref (v 1), .ref (v 2), .ref (v 3), .ref (v 4), .ref (v 5), .ref (v 6), .ref (v 7), .ref (v 8), .ref (v 9), .int 0, .int 0, .int 0, .int 0, .int 0, .int 0, .int 0, .int 0, .int 0, .ref (v 10), .ref (v 11), .ref (v 12), .ref (v 13), .int 45, .ref (v 14), .ref (v 15), .ref (v 16), .ref (v 17), .ref (v 18), .int 0, .int 0, .int 0, .ref (v 19), .ref (v 20), .ref (v 21), .ref (v 22), .ref (v 23), .int 0, .int 0, .int 0, .int 0])), (a, .inl (cy 0, 120, .inl (fun _ => 0)))]) := hD
  obtain rfl : r6 = 0 := hwu7
  refine k_iast0 hx hb hG.1 hP hD hS 1 0 rfl rfl (by unfold vp_in; decide) dX12_movesTold_68 (fun H locs hP hD hS => ?_)
  refine lv_iinc (v := 1) (lv' := [(4, .int 1), (3, .int 0), (0, .ref (v 0)), (1, .ref a), (2, .int b)]) hx hb dX12_movesTold_69 hl (k := 0) rfl (by decide) (by decide) rfl (fun ls hl => ?_)
  refine lv_goto (tgt := 39) hx hb dX12_movesTold_72 (by decide) ?_
  refine lv_iload hx hb dX12_movesTold_39 (lv_at hl 0 rfl) ?_
  refine lv_iconst (v := 2) hx hb dX12_movesTold_41 (by decide) ?_
  refine lv_icmp_ge (tgt := 75) hx hb dX12_movesTold_42 (by decide) (fun h => absurd h (by decide)) (fun _ => ?_)
  refine lv_aload_n hx hb dX12_movesTold_45 rfl (lv_at hl 2 rfl) ?_
  refine va_get (D := D) (ci := 13) (v := .ref (v 10)) (C := RX12) (T := TX12) (N := 48) hx hb hts kin_RX12 hown hG.1 hP 38 rfl rfl 26 (by decide) (hts _ wm_1545) (fun _ h9 => h9) rfl dX12_movesTold_46 ?_
  refine lv_iload_n hx hb dX12_movesTold_49 rfl (lv_at hl 1 rfl) ?_
  refine k_aldA hx hb hG.1 hP 0 rfl (by unfold vp_in; decide) dX12_movesTold_50 ?_
  refine W.eq (g2 := F0 m 51 ls [.ref ((v 10) + 1 + 0)]) rfl ?_
  refine lv_iload hx hb dX12_movesTold_51 (lv_at hl 0 rfl) ?_
  refine lv_aload_n hx hb dX12_movesTold_53 rfl (lv_at hl 2 rfl) ?_
  refine lv_aload_n hx hb dX12_movesTold_54 rfl (lv_at hl 3 rfl) ?_
  refine lv_aload_n hx hb dX12_movesTold_55 rfl (lv_at hl 2 rfl) ?_
  refine va_get (D := D) (ci := 13) (v := .ref (v 10)) (C := RX12) (T := TX12) (N := 48) hx hb hts kin_RX12 hown hG.1 hP 38 rfl rfl 26 (by decide) (hts _ wm_1545) (fun _ h9 => h9) rfl dX12_movesTold_56 ?_
  refine lv_iload_n hx hb dX12_movesTold_59 rfl (lv_at hl 1 rfl) ?_
  refine k_aldA hx hb hG.1 hP 0 rfl (by unfold vp_in; decide) dX12_movesTold_60 ?_
  refine W.eq (g2 := F0 m 61 ls [.ref ((v 10) + 1 + 0), .ref a, .ref (v 0), .int 1, .ref ((v 10) + 1 + 0)]) rfl ?_
  refine lv_iload hx hb dX12_movesTold_61 (lv_at hl 0 rfl) ?_
  refine va_iald hx hb hG.1 hP 1 0 rfl rfl (by unfold vp_in; decide) dX12_movesTold_63 ?_
  refine lv_topi (fun x8 ex8 => ?_)
  obtain rfl : x8 = 0 := ex8.trans (rfl)
  refine lv_iload_n hx hb dX12_movesTold_64 rfl (lv_at hl 4 rfl) ?_
  refine k_cali [0, 1, 2, 3, 4, 5, 6, 7, 8, 9, 10, 11, 12, 13, 14, 15, 16, 17, 18, 19, 20, 21, 22, 23, 24, 25, 26, 27, 28, 29, 30, 31, 32, 33, 34, 35, 36, 37] (⟨hP, hD, hG, hS, hA, rfl, rfl⟩ : kAt D cy sa A s H _ _ [((v 0), .inr (13, [.int 0, .int 0, .int 0, .int (-1), .int 0, .int 0, .int 0, .int 0, .ref (v 1), .ref (v 2), .ref (v 3), .ref (v 4), .ref (v 5), .ref (v 6), .ref (v 7), .ref (v 8), .ref (v 9), .int 0, .int 0, .int 0, .int 0, .int 0, .int 0, .int 0, .int 0, .int 0, .ref (v 10), .ref (v 11), .ref (v 12), .ref (v 13), .int 45, .ref (v 14), .ref (v 15), .ref (v 16), .ref (v 17), .ref (v 18), .int 0, .int 0, .int 0, .ref (v 19), .ref (v 20), .ref (v 21), .ref (v 22), .ref (v 23), .int 0, .int 0, .int 0, .int 0])), (a, .inl (cy 0, 120, .inl (fun _ => 0)))] [38, 39]) (wr := (toldW cy v ++ [])) rfl rfl (by decide) (k_runV 13 38 (As := [.ref a, .int 0, .int b]) (rest := [.int 1, .ref ((v 10) + 1 + 0)]) E lk_VRX12_251 rfl rfl rfl (m_moves l hl0 D cy sa v a 0 45 (by unfold vp_in; decide) b H.size) (⟨hP, hD, hG, hS, hA, rfl, rfl⟩ : kAt D cy sa A s H _ _ [((v 0), .inr (13, [.int 0, .int 0, .int 0, .int (-1), .int 0, .int 0, .int 0, .int 0, .ref (v 1), .ref (v 2), .ref (v 3), .ref (v 4), .ref (v 5), .ref (v 6), .ref (v 7), .ref (v 8), .ref (v 9), .int 0, .int 0, .int 0, .int 0, .int 0, .int 0, .int 0, .int 0, .int 0, .ref (v 10), .ref (v 11), .ref (v 12), .ref (v 13), .int 45, .ref (v 14), .ref (v 15), .ref (v 16), .ref (v 17), .ref (v 18), .int 0, .int 0, .int 0, .ref (v 19), .ref (v 20), .ref (v 21), .ref (v 22), .ref (v 23), .int 0, .int 0, .int 0, .int 0])), (a, .inl (cy 0, 120, .inl (fun _ => 0)))] [38, 39]) hl.1 rfl rfl ⟨rfl, rfl, ⟨Nat.le_of_ble_eq_true rfl, Nat.le_of_ble_eq_true rfl⟩, ⟨Nat.le_of_ble_eq_true rfl, Nat.le_of_ble_eq_true rfl⟩, Nat.le_of_ble_eq_true rfl⟩ dX12_movesTold_65) (fun r9 u10 H locs hwu10 hP hD hS => ?_)
  have hP : va_P D vwCl (toldW cy v ++ [((v 0), .inr (13, [.int 0, .int 0, .int 0, .int (-1), .int 0, .int 0, .int 0, .int 0, .ref (v 1), .ref (v 2), .ref (v 3), .ref (v 4), .ref (v 5), .ref (v 6), .ref (v 7), .ref (v 8), .ref (v 9), .int 0, .int 0, .int 0, .int 0, .int 0, .int 0, .int 0, .int 0, .int 0, .ref (v 10), .ref (v 11), .ref (v 12), .ref (v 13), .int 46, .ref (v 14), .ref (v 15), .ref (v 16), .ref (v 17), .ref (v 18), .int 0, .int 0, .int 0, .ref (v 19), .ref (v 20), .ref (v 21), .ref (v 22), .ref (v 23), .int 0, .int 0, .int 0, .int 0])), (a, .inl (cy 0, 120, .inl (fun _ => 0)))]) H := hP
  have hD : va_D A (toldW cy v ++ [((v 0), .inr (13, [.int 0, .int 0, .int 0, .int (-1), .int 0, .int 0, .int 0, .int 0, .ref (v 1), .ref (v 2), .ref (v 3), .ref (v 4), .ref (v 5), .ref (v 6), .ref (v 7), .ref (v 8), .ref (v 9), .int 0, .int 0, .int 0, .int 0, .int 0, .int 0, .int 0, .int 0, .int 0, .ref (v 10), .ref (v 11), .ref (v 12), .ref (v 13), .int 46, .ref (v 14), .ref (v 15), .ref (v 16), .ref (v 17), .ref (v 18), .int 0, .int 0, .int 0, .ref (v 19), .ref (v 20), .ref (v 21), .ref (v 22), .ref (v 23), .int 0, .int 0, .int 0, .int 0])), (a, .inl (cy 0, 120, .inl (fun _ => 0)))]) := hD
  obtain rfl : r9 = 0 := hwu10
  refine k_iast0 hx hb hG.1 hP hD hS 1 0 rfl rfl (by unfold vp_in; decide) dX12_movesTold_68 (fun H locs hP hD hS => ?_)
  refine lv_iinc (v := 2) (lv' := [(4, .int 2), (3, .int 0), (0, .ref (v 0)), (1, .ref a), (2, .int b)]) hx hb dX12_movesTold_69 hl (k := 0) rfl (by decide) (by decide) rfl (fun ls hl => ?_)
  refine lv_goto (tgt := 39) hx hb dX12_movesTold_72 (by decide) ?_
  refine lv_iload hx hb dX12_movesTold_39 (lv_at hl 0 rfl) ?_
  refine lv_iconst (v := 2) hx hb dX12_movesTold_41 (by decide) ?_
  refine lv_icmp_ge (tgt := 75) hx hb dX12_movesTold_42 (by decide) (fun _ => ?_) (fun h => absurd (by decide) h)
  refine lv_iinc (v := 1) (lv' := [(3, .int 1), (4, .int 2), (0, .ref (v 0)), (1, .ref a), (2, .int b)]) hx hb dX12_movesTold_75 hl (k := 1) rfl (by decide) (by decide) rfl (fun ls hl => ?_)
  refine lv_goto (tgt := 30) hx hb dX12_movesTold_78 (by decide) ?_
  refine lv_iload_n hx hb dX12_movesTold_30 rfl (lv_at hl 0 rfl) ?_
  refine lv_bipush (v := 30) hx hb dX12_movesTold_31 (by decide) ?_
  refine lv_icmp_ge (tgt := 81) hx hb dX12_movesTold_33 (by decide) (fun h => absurd h (by decide)) (fun _ => ?_)
  refine lv_iconst (v := 0) hx hb dX12_movesTold_36 (by decide) ?_
  refine lv_istore (lv' := [(4, .int 0), (3, .int 1), (0, .ref (v 0)), (1, .ref a), (2, .int b)]) hx hb dX12_movesTold_37 hl (by decide) rfl (fun ls hl => ?_)
  refine lv_iload hx hb dX12_movesTold_39 (lv_at hl 0 rfl) ?_
  refine lv_iconst (v := 2) hx hb dX12_movesTold_41 (by decide) ?_
  refine lv_icmp_ge (tgt := 75) hx hb dX12_movesTold_42 (by decide) (fun h => absurd h (by decide)) (fun _ => ?_)
  refine lv_aload_n hx hb dX12_movesTold_45 rfl (lv_at hl 2 rfl) ?_
  refine va_get (D := D) (ci := 13) (v := .ref (v 10)) (C := RX12) (T := TX12) (N := 48) hx hb hts kin_RX12 hown hG.1 hP 38 rfl rfl 26 (by decide) (hts _ wm_1545) (fun _ h9 => h9) rfl dX12_movesTold_46 ?_
  refine lv_iload_n hx hb dX12_movesTold_49 rfl (lv_at hl 1 rfl) ?_
  refine k_aldA hx hb hG.1 hP 0 rfl (by unfold vp_in; decide) dX12_movesTold_50 ?_
  refine W.eq (g2 := F0 m 51 ls [.ref ((v 10) + 1 + 1)]) rfl ?_
  refine lv_iload hx hb dX12_movesTold_51 (lv_at hl 0 rfl) ?_
  refine lv_aload_n hx hb dX12_movesTold_53 rfl (lv_at hl 2 rfl) ?_
  refine lv_aload_n hx hb dX12_movesTold_54 rfl (lv_at hl 3 rfl) ?_
  refine lv_aload_n hx hb dX12_movesTold_55 rfl (lv_at hl 2 rfl) ?_
  refine va_get (D := D) (ci := 13) (v := .ref (v 10)) (C := RX12) (T := TX12) (N := 48) hx hb hts kin_RX12 hown hG.1 hP 38 rfl rfl 26 (by decide) (hts _ wm_1545) (fun _ h9 => h9) rfl dX12_movesTold_56 ?_
  refine lv_iload_n hx hb dX12_movesTold_59 rfl (lv_at hl 1 rfl) ?_
  refine k_aldA hx hb hG.1 hP 0 rfl (by unfold vp_in; decide) dX12_movesTold_60 ?_
  refine W.eq (g2 := F0 m 61 ls [.ref ((v 10) + 1 + 1), .ref a, .ref (v 0), .int 0, .ref ((v 10) + 1 + 1)]) rfl ?_
  refine lv_iload hx hb dX12_movesTold_61 (lv_at hl 0 rfl) ?_
  refine va_iald hx hb hG.1 hP 2 0 rfl rfl (by unfold vp_in; decide) dX12_movesTold_63 ?_
  refine lv_topi (fun x11 ex11 => ?_)
  obtain rfl : x11 = 0 := ex11.trans (rfl)
  refine lv_iload_n hx hb dX12_movesTold_64 rfl (lv_at hl 4 rfl) ?_
  refine k_cali [0, 1, 2, 3, 4, 5, 6, 7, 8, 9, 10, 11, 12, 13, 14, 15, 16, 17, 18, 19, 20, 21, 22, 23, 24, 25, 26, 27, 28, 29, 30, 31, 32, 33, 34, 35, 36, 37] (⟨hP, hD, hG, hS, hA, rfl, rfl⟩ : kAt D cy sa A s H _ _ [((v 0), .inr (13, [.int 0, .int 0, .int 0, .int (-1), .int 0, .int 0, .int 0, .int 0, .ref (v 1), .ref (v 2), .ref (v 3), .ref (v 4), .ref (v 5), .ref (v 6), .ref (v 7), .ref (v 8), .ref (v 9), .int 0, .int 0, .int 0, .int 0, .int 0, .int 0, .int 0, .int 0, .int 0, .ref (v 10), .ref (v 11), .ref (v 12), .ref (v 13), .int 46, .ref (v 14), .ref (v 15), .ref (v 16), .ref (v 17), .ref (v 18), .int 0, .int 0, .int 0, .ref (v 19), .ref (v 20), .ref (v 21), .ref (v 22), .ref (v 23), .int 0, .int 0, .int 0, .int 0])), (a, .inl (cy 0, 120, .inl (fun _ => 0)))] [38, 39]) (wr := (toldW cy v ++ [])) rfl rfl (by decide) (k_runV 13 38 (As := [.ref a, .int 0, .int b]) (rest := [.int 0, .ref ((v 10) + 1 + 1)]) E lk_VRX12_251 rfl rfl rfl (m_moves l hl0 D cy sa v a 0 46 (by unfold vp_in; decide) b H.size) (⟨hP, hD, hG, hS, hA, rfl, rfl⟩ : kAt D cy sa A s H _ _ [((v 0), .inr (13, [.int 0, .int 0, .int 0, .int (-1), .int 0, .int 0, .int 0, .int 0, .ref (v 1), .ref (v 2), .ref (v 3), .ref (v 4), .ref (v 5), .ref (v 6), .ref (v 7), .ref (v 8), .ref (v 9), .int 0, .int 0, .int 0, .int 0, .int 0, .int 0, .int 0, .int 0, .int 0, .ref (v 10), .ref (v 11), .ref (v 12), .ref (v 13), .int 46, .ref (v 14), .ref (v 15), .ref (v 16), .ref (v 17), .ref (v 18), .int 0, .int 0, .int 0, .ref (v 19), .ref (v 20), .ref (v 21), .ref (v 22), .ref (v 23), .int 0, .int 0, .int 0, .int 0])), (a, .inl (cy 0, 120, .inl (fun _ => 0)))] [38, 39]) hl.1 rfl rfl ⟨rfl, rfl, ⟨Nat.le_of_ble_eq_true rfl, Nat.le_of_ble_eq_true rfl⟩, ⟨Nat.le_of_ble_eq_true rfl, Nat.le_of_ble_eq_true rfl⟩, Nat.le_of_ble_eq_true rfl⟩ dX12_movesTold_65) (fun r12 u13 H locs hwu13 hP hD hS => ?_)
  have hP : va_P D vwCl (toldW cy v ++ [((v 0), .inr (13, [.int 0, .int 0, .int 0, .int (-1), .int 0, .int 0, .int 0, .int 0, .ref (v 1), .ref (v 2), .ref (v 3), .ref (v 4), .ref (v 5), .ref (v 6), .ref (v 7), .ref (v 8), .ref (v 9), .int 0, .int 0, .int 0, .int 0, .int 0, .int 0, .int 0, .int 0, .int 0, .ref (v 10), .ref (v 11), .ref (v 12), .ref (v 13), .int 47, .ref (v 14), .ref (v 15), .ref (v 16), .ref (v 17), .ref (v 18), .int 0, .int 0, .int 0, .ref (v 19), .ref (v 20), .ref (v 21), .ref (v 22), .ref (v 23), .int 0, .int 0, .int 0, .int 0])), (a, .inl (cy 0, 120, .inl (fun _ => 0)))]) H := hP
  have hD : va_D A (toldW cy v ++ [((v 0), .inr (13, [.int 0, .int 0, .int 0, .int (-1), .int 0, .int 0, .int 0, .int 0, .ref (v 1), .ref (v 2), .ref (v 3), .ref (v 4), .ref (v 5), .ref (v 6), .ref (v 7), .ref (v 8), .ref (v 9), .int 0, .int 0, .int 0, .int 0, .int 0, .int 0, .int 0, .int 0, .int 0, .ref (v 10), .ref (v 11), .ref (v 12), .ref (v 13), .int 47, .ref (v 14), .ref (v 15), .ref (v 16), .ref (v 17), .ref (v 18), .int 0, .int 0, .int 0, .ref (v 19), .ref (v 20), .ref (v 21), .ref (v 22), .ref (v 23), .int 0, .int 0, .int 0, .int 0])), (a, .inl (cy 0, 120, .inl (fun _ => 0)))]) := hD
  obtain rfl : r12 = 0 := hwu13
  refine k_iast0 hx hb hG.1 hP hD hS 2 0 rfl rfl (by unfold vp_in; decide) dX12_movesTold_68 (fun H locs hP hD hS => ?_)
  refine lv_iinc (v := 1) (lv' := [(4, .int 1), (3, .int 1), (0, .ref (v 0)), (1, .ref a), (2, .int b)]) hx hb dX12_movesTold_69 hl (k := 0) rfl (by decide) (by decide) rfl (fun ls hl => ?_)
  refine lv_goto (tgt := 39) hx hb dX12_movesTold_72 (by decide) ?_
  refine lv_iload hx hb dX12_movesTold_39 (lv_at hl 0 rfl) ?_
  refine lv_iconst (v := 2) hx hb dX12_movesTold_41 (by decide) ?_
  refine lv_icmp_ge (tgt := 75) hx hb dX12_movesTold_42 (by decide) (fun h => absurd h (by decide)) (fun _ => ?_)
  refine lv_aload_n hx hb dX12_movesTold_45 rfl (lv_at hl 2 rfl) ?_
  refine va_get (D := D) (ci := 13) (v := .ref (v 10)) (C := RX12) (T := TX12) (N := 48) hx hb hts kin_RX12 hown hG.1 hP 38 rfl rfl 26 (by decide) (hts _ wm_1545) (fun _ h9 => h9) rfl dX12_movesTold_46 ?_
  refine lv_iload_n hx hb dX12_movesTold_49 rfl (lv_at hl 1 rfl) ?_
  refine k_aldA hx hb hG.1 hP 0 rfl (by unfold vp_in; decide) dX12_movesTold_50 ?_
  refine W.eq (g2 := F0 m 51 ls [.ref ((v 10) + 1 + 1)]) rfl ?_
  refine lv_iload hx hb dX12_movesTold_51 (lv_at hl 0 rfl) ?_
  refine lv_aload_n hx hb dX12_movesTold_53 rfl (lv_at hl 2 rfl) ?_
  refine lv_aload_n hx hb dX12_movesTold_54 rfl (lv_at hl 3 rfl) ?_
  refine lv_aload_n hx hb dX12_movesTold_55 rfl (lv_at hl 2 rfl) ?_
  refine va_get (D := D) (ci := 13) (v := .ref (v 10)) (C := RX12) (T := TX12) (N := 48) hx hb hts kin_RX12 hown hG.1 hP 38 rfl rfl 26 (by decide) (hts _ wm_1545) (fun _ h9 => h9) rfl dX12_movesTold_56 ?_
  refine lv_iload_n hx hb dX12_movesTold_59 rfl (lv_at hl 1 rfl) ?_
  refine k_aldA hx hb hG.1 hP 0 rfl (by unfold vp_in; decide) dX12_movesTold_60 ?_
  refine W.eq (g2 := F0 m 61 ls [.ref ((v 10) + 1 + 1), .ref a, .ref (v 0), .int 1, .ref ((v 10) + 1 + 1)]) rfl ?_
  refine lv_iload hx hb dX12_movesTold_61 (lv_at hl 0 rfl) ?_
  refine va_iald hx hb hG.1 hP 2 0 rfl rfl (by unfold vp_in; decide) dX12_movesTold_63 ?_
  refine lv_topi (fun x14 ex14 => ?_)
  obtain rfl : x14 = 0 := ex14.trans (rfl)
  refine lv_iload_n hx hb dX12_movesTold_64 rfl (lv_at hl 4 rfl) ?_
  refine k_cali [0, 1, 2, 3, 4, 5, 6, 7, 8, 9, 10, 11, 12, 13, 14, 15, 16, 17, 18, 19, 20, 21, 22, 23, 24, 25, 26, 27, 28, 29, 30, 31, 32, 33, 34, 35, 36, 37] (⟨hP, hD, hG, hS, hA, rfl, rfl⟩ : kAt D cy sa A s H _ _ [((v 0), .inr (13, [.int 0, .int 0, .int 0, .int (-1), .int 0, .int 0, .int 0, .int 0, .ref (v 1), .ref (v 2), .ref (v 3), .ref (v 4), .ref (v 5), .ref (v 6), .ref (v 7), .ref (v 8), .ref (v 9), .int 0, .int 0, .int 0, .int 0, .int 0, .int 0, .int 0, .int 0, .int 0, .ref (v 10), .ref (v 11), .ref (v 12), .ref (v 13), .int 47, .ref (v 14), .ref (v 15), .ref (v 16), .ref (v 17), .ref (v 18), .int 0, .int 0, .int 0, .ref (v 19), .ref (v 20), .ref (v 21), .ref (v 22), .ref (v 23), .int 0, .int 0, .int 0, .int 0])), (a, .inl (cy 0, 120, .inl (fun _ => 0)))] [38, 39]) (wr := (toldW cy v ++ [])) rfl rfl (by decide) (k_runV 13 38 (As := [.ref a, .int 0, .int b]) (rest := [.int 1, .ref ((v 10) + 1 + 1)]) E lk_VRX12_251 rfl rfl rfl (m_moves l hl0 D cy sa v a 0 47 (by unfold vp_in; decide) b H.size) (⟨hP, hD, hG, hS, hA, rfl, rfl⟩ : kAt D cy sa A s H _ _ [((v 0), .inr (13, [.int 0, .int 0, .int 0, .int (-1), .int 0, .int 0, .int 0, .int 0, .ref (v 1), .ref (v 2), .ref (v 3), .ref (v 4), .ref (v 5), .ref (v 6), .ref (v 7), .ref (v 8), .ref (v 9), .int 0, .int 0, .int 0, .int 0, .int 0, .int 0, .int 0, .int 0, .int 0, .ref (v 10), .ref (v 11), .ref (v 12), .ref (v 13), .int 47, .ref (v 14), .ref (v 15), .ref (v 16), .ref (v 17), .ref (v 18), .int 0, .int 0, .int 0, .ref (v 19), .ref (v 20), .ref (v 21), .ref (v 22), .ref (v 23), .int 0, .int 0, .int 0, .int 0])), (a, .inl (cy 0, 120, .inl (fun _ => 0)))] [38, 39]) hl.1 rfl rfl ⟨rfl, rfl, ⟨Nat.le_of_ble_eq_true rfl, Nat.le_of_ble_eq_true rfl⟩, ⟨Nat.le_of_ble_eq_true rfl, Nat.le_of_ble_eq_true rfl⟩, Nat.le_of_ble_eq_true rfl⟩ dX12_movesTold_65) (fun r15 u16 H locs hwu16 hP hD hS => ?_)
  have hP : va_P D vwCl (toldW cy v ++ [((v 0), .inr (13, [.int 0, .int 0, .int 0, .int (-1), .int 0, .int 0, .int 0, .int 0, .ref (v 1), .ref (v 2), .ref (v 3), .ref (v 4), .ref (v 5), .ref (v 6), .ref (v 7), .ref (v 8), .ref (v 9), .int 0, .int 0, .int 0, .int 0, .int 0, .int 0, .int 0, .int 0, .int 0, .ref (v 10), .ref (v 11), .ref (v 12), .ref (v 13), .int 48, .ref (v 14), .ref (v 15), .ref (v 16), .ref (v 17), .ref (v 18), .int 0, .int 0, .int 0, .ref (v 19), .ref (v 20), .ref (v 21), .ref (v 22), .ref (v 23), .int 0, .int 0, .int 0, .int 0])), (a, .inl (cy 0, 120, .inl (fun _ => 0)))]) H := hP
  have hD : va_D A (toldW cy v ++ [((v 0), .inr (13, [.int 0, .int 0, .int 0, .int (-1), .int 0, .int 0, .int 0, .int 0, .ref (v 1), .ref (v 2), .ref (v 3), .ref (v 4), .ref (v 5), .ref (v 6), .ref (v 7), .ref (v 8), .ref (v 9), .int 0, .int 0, .int 0, .int 0, .int 0, .int 0, .int 0, .int 0, .int 0, .ref (v 10), .ref (v 11), .ref (v 12), .ref (v 13), .int 48, .ref (v 14), .ref (v 15), .ref (v 16), .ref (v 17), .ref (v 18), .int 0, .int 0, .int 0, .ref (v 19), .ref (v 20), .ref (v 21), .ref (v 22), .ref (v 23), .int 0, .int 0, .int 0, .int 0])), (a, .inl (cy 0, 120, .inl (fun _ => 0)))]) := hD
  obtain rfl : r15 = 0 := hwu16
  refine k_iast0 hx hb hG.1 hP hD hS 2 0 rfl rfl (by unfold vp_in; decide) dX12_movesTold_68 (fun H locs hP hD hS => ?_)
  refine lv_iinc (v := 2) (lv' := [(4, .int 2), (3, .int 1), (0, .ref (v 0)), (1, .ref a), (2, .int b)]) hx hb dX12_movesTold_69 hl (k := 0) rfl (by decide) (by decide) rfl (fun ls hl => ?_)
  refine lv_goto (tgt := 39) hx hb dX12_movesTold_72 (by decide) ?_
  refine lv_iload hx hb dX12_movesTold_39 (lv_at hl 0 rfl) ?_
  refine lv_iconst (v := 2) hx hb dX12_movesTold_41 (by decide) ?_
  refine lv_icmp_ge (tgt := 75) hx hb dX12_movesTold_42 (by decide) (fun _ => ?_) (fun h => absurd (by decide) h)
  refine lv_iinc (v := 2) (lv' := [(3, .int 2), (4, .int 2), (0, .ref (v 0)), (1, .ref a), (2, .int b)]) hx hb dX12_movesTold_75 hl (k := 1) rfl (by decide) (by decide) rfl (fun ls hl => ?_)
  refine lv_goto (tgt := 30) hx hb dX12_movesTold_78 (by decide) ?_
  refine lv_iload_n hx hb dX12_movesTold_30 rfl (lv_at hl 0 rfl) ?_
  refine lv_bipush (v := 30) hx hb dX12_movesTold_31 (by decide) ?_
  refine lv_icmp_ge (tgt := 81) hx hb dX12_movesTold_33 (by decide) (fun h => absurd h (by decide)) (fun _ => ?_)
  refine lv_iconst (v := 0) hx hb dX12_movesTold_36 (by decide) ?_
  refine lv_istore (lv' := [(4, .int 0), (3, .int 2), (0, .ref (v 0)), (1, .ref a), (2, .int b)]) hx hb dX12_movesTold_37 hl (by decide) rfl (fun ls hl => ?_)
  refine lv_iload hx hb dX12_movesTold_39 (lv_at hl 0 rfl) ?_
  refine lv_iconst (v := 2) hx hb dX12_movesTold_41 (by decide) ?_
  refine lv_icmp_ge (tgt := 75) hx hb dX12_movesTold_42 (by decide) (fun h => absurd h (by decide)) (fun _ => ?_)
  refine lv_aload_n hx hb dX12_movesTold_45 rfl (lv_at hl 2 rfl) ?_
  refine va_get (D := D) (ci := 13) (v := .ref (v 10)) (C := RX12) (T := TX12) (N := 48) hx hb hts kin_RX12 hown hG.1 hP 38 rfl rfl 26 (by decide) (hts _ wm_1545) (fun _ h9 => h9) rfl dX12_movesTold_46 ?_
  refine lv_iload_n hx hb dX12_movesTold_49 rfl (lv_at hl 1 rfl) ?_
  refine k_aldA hx hb hG.1 hP 0 rfl (by unfold vp_in; decide) dX12_movesTold_50 ?_
  refine W.eq (g2 := F0 m 51 ls [.ref ((v 10) + 1 + 2)]) rfl ?_
  refine lv_iload hx hb dX12_movesTold_51 (lv_at hl 0 rfl) ?_
  refine lv_aload_n hx hb dX12_movesTold_53 rfl (lv_at hl 2 rfl) ?_
  refine lv_aload_n hx hb dX12_movesTold_54 rfl (lv_at hl 3 rfl) ?_
  refine lv_aload_n hx hb dX12_movesTold_55 rfl (lv_at hl 2 rfl) ?_
  refine va_get (D := D) (ci := 13) (v := .ref (v 10)) (C := RX12) (T := TX12) (N := 48) hx hb hts kin_RX12 hown hG.1 hP 38 rfl rfl 26 (by decide) (hts _ wm_1545) (fun _ h9 => h9) rfl dX12_movesTold_56 ?_
  refine lv_iload_n hx hb dX12_movesTold_59 rfl (lv_at hl 1 rfl) ?_
  refine k_aldA hx hb hG.1 hP 0 rfl (by unfold vp_in; decide) dX12_movesTold_60 ?_
  refine W.eq (g2 := F0 m 61 ls [.ref ((v 10) + 1 + 2), .ref a, .ref (v 0), .int 0, .ref ((v 10) + 1 + 2)]) rfl ?_
  refine lv_iload hx hb dX12_movesTold_61 (lv_at hl 0 rfl) ?_
  refine va_iald hx hb hG.1 hP 3 0 rfl rfl (by unfold vp_in; decide) dX12_movesTold_63 ?_
  refine lv_topi (fun x17 ex17 => ?_)
  obtain rfl : x17 = 0 := ex17.trans (rfl)
  refine lv_iload_n hx hb dX12_movesTold_64 rfl (lv_at hl 4 rfl) ?_
  refine k_cali [0, 1, 2, 3, 4, 5, 6, 7, 8, 9, 10, 11, 12, 13, 14, 15, 16, 17, 18, 19, 20, 21, 22, 23, 24, 25, 26, 27, 28, 29, 30, 31, 32, 33, 34, 35, 36, 37] (⟨hP, hD, hG, hS, hA, rfl, rfl⟩ : kAt D cy sa A s H _ _ [((v 0), .inr (13, [.int 0, .int 0, .int 0, .int (-1), .int 0, .int 0, .int 0, .int 0, .ref (v 1), .ref (v 2), .ref (v 3), .ref (v 4), .ref (v 5), .ref (v 6), .ref (v 7), .ref (v 8), .ref (v 9), .int 0, .int 0, .int 0, .int 0, .int 0, .int 0, .int 0, .int 0, .int 0, .ref (v 10), .ref (v 11), .ref (v 12), .ref (v 13), .int 48, .ref (v 14), .ref (v 15), .ref (v 16), .ref (v 17), .ref (v 18), .int 0, .int 0, .int 0, .ref (v 19), .ref (v 20), .ref (v 21), .ref (v 22), .ref (v 23), .int 0, .int 0, .int 0, .int 0])), (a, .inl (cy 0, 120, .inl (fun _ => 0)))] [38, 39]) (wr := (toldW cy v ++ [])) rfl rfl (by decide) (k_runV 13 38 (As := [.ref a, .int 0, .int b]) (rest := [.int 0, .ref ((v 10) + 1 + 2)]) E lk_VRX12_251 rfl rfl rfl (m_moves l hl0 D cy sa v a 0 48 (by unfold vp_in; decide) b H.size) (⟨hP, hD, hG, hS, hA, rfl, rfl⟩ : kAt D cy sa A s H _ _ [((v 0), .inr (13, [.int 0, .int 0, .int 0, .int (-1), .int 0, .int 0, .int 0, .int 0, .ref (v 1), .ref (v 2), .ref (v 3), .ref (v 4), .ref (v 5), .ref (v 6), .ref (v 7), .ref (v 8), .ref (v 9), .int 0, .int 0, .int 0, .int 0, .int 0, .int 0, .int 0, .int 0, .int 0, .ref (v 10), .ref (v 11), .ref (v 12), .ref (v 13), .int 48, .ref (v 14), .ref (v 15), .ref (v 16), .ref (v 17), .ref (v 18), .int 0, .int 0, .int 0, .ref (v 19), .ref (v 20), .ref (v 21), .ref (v 22), .ref (v 23), .int 0, .int 0, .int 0, .int 0])), (a, .inl (cy 0, 120, .inl (fun _ => 0)))] [38, 39]) hl.1 rfl rfl ⟨rfl, rfl, ⟨Nat.le_of_ble_eq_true rfl, Nat.le_of_ble_eq_true rfl⟩, ⟨Nat.le_of_ble_eq_true rfl, Nat.le_of_ble_eq_true rfl⟩, Nat.le_of_ble_eq_true rfl⟩ dX12_movesTold_65) (fun r18 u19 H locs hwu19 hP hD hS => ?_)
  have hP : va_P D vwCl (toldW cy v ++ [((v 0), .inr (13, [.int 0, .int 0, .int 0, .int (-1), .int 0, .int 0, .int 0, .int 0, .ref (v 1), .ref (v 2), .ref (v 3), .ref (v 4), .ref (v 5), .ref (v 6), .ref (v 7), .ref (v 8), .ref (v 9), .int 0, .int 0, .int 0, .int 0, .int 0, .int 0, .int 0, .int 0, .int 0, .ref (v 10), .ref (v 11), .ref (v 12), .ref (v 13), .int 49, .ref (v 14), .ref (v 15), .ref (v 16), .ref (v 17), .ref (v 18), .int 0, .int 0, .int 0, .ref (v 19), .ref (v 20), .ref (v 21), .ref (v 22), .ref (v 23), .int 0, .int 0, .int 0, .int 0])), (a, .inl (cy 0, 120, .inl (fun _ => 0)))]) H := hP
  have hD : va_D A (toldW cy v ++ [((v 0), .inr (13, [.int 0, .int 0, .int 0, .int (-1), .int 0, .int 0, .int 0, .int 0, .ref (v 1), .ref (v 2), .ref (v 3), .ref (v 4), .ref (v 5), .ref (v 6), .ref (v 7), .ref (v 8), .ref (v 9), .int 0, .int 0, .int 0, .int 0, .int 0, .int 0, .int 0, .int 0, .int 0, .ref (v 10), .ref (v 11), .ref (v 12), .ref (v 13), .int 49, .ref (v 14), .ref (v 15), .ref (v 16), .ref (v 17), .ref (v 18), .int 0, .int 0, .int 0, .ref (v 19), .ref (v 20), .ref (v 21), .ref (v 22), .ref (v 23), .int 0, .int 0, .int 0, .int 0])), (a, .inl (cy 0, 120, .inl (fun _ => 0)))]) := hD
  obtain rfl : r18 = 0 := hwu19
  refine k_iast0 hx hb hG.1 hP hD hS 3 0 rfl rfl (by unfold vp_in; decide) dX12_movesTold_68 (fun H locs hP hD hS => ?_)
  refine lv_iinc (v := 1) (lv' := [(4, .int 1), (3, .int 2), (0, .ref (v 0)), (1, .ref a), (2, .int b)]) hx hb dX12_movesTold_69 hl (k := 0) rfl (by decide) (by decide) rfl (fun ls hl => ?_)
  refine lv_goto (tgt := 39) hx hb dX12_movesTold_72 (by decide) ?_
  refine lv_iload hx hb dX12_movesTold_39 (lv_at hl 0 rfl) ?_
  refine lv_iconst (v := 2) hx hb dX12_movesTold_41 (by decide) ?_
  refine lv_icmp_ge (tgt := 75) hx hb dX12_movesTold_42 (by decide) (fun h => absurd h (by decide)) (fun _ => ?_)
  refine lv_aload_n hx hb dX12_movesTold_45 rfl (lv_at hl 2 rfl) ?_
  refine va_get (D := D) (ci := 13) (v := .ref (v 10)) (C := RX12) (T := TX12) (N := 48) hx hb hts kin_RX12 hown hG.1 hP 38 rfl rfl 26 (by decide) (hts _ wm_1545) (fun _ h9 => h9) rfl dX12_movesTold_46 ?_
  refine lv_iload_n hx hb dX12_movesTold_49 rfl (lv_at hl 1 rfl) ?_
  refine k_aldA hx hb hG.1 hP 0 rfl (by unfold vp_in; decide) dX12_movesTold_50 ?_
  refine W.eq (g2 := F0 m 51 ls [.ref ((v 10) + 1 + 2)]) rfl ?_
  refine lv_iload hx hb dX12_movesTold_51 (lv_at hl 0 rfl) ?_
  refine lv_aload_n hx hb dX12_movesTold_53 rfl (lv_at hl 2 rfl) ?_
  refine lv_aload_n hx hb dX12_movesTold_54 rfl (lv_at hl 3 rfl) ?_
  refine lv_aload_n hx hb dX12_movesTold_55 rfl (lv_at hl 2 rfl) ?_
  refine va_get (D := D) (ci := 13) (v := .ref (v 10)) (C := RX12) (T := TX12) (N := 48) hx hb hts kin_RX12 hown hG.1 hP 38 rfl rfl 26 (by decide) (hts _ wm_1545) (fun _ h9 => h9) rfl dX12_movesTold_56 ?_
  refine lv_iload_n hx hb dX12_movesTold_59 rfl (lv_at hl 1 rfl) ?_
  refine k_aldA hx hb hG.1 hP 0 rfl (by unfold vp_in; decide) dX12_movesTold_60 ?_
  refine W.eq (g2 := F0 m 61 ls [.ref ((v 10) + 1 + 2), .ref a, .ref (v 0), .int 1, .ref ((v 10) + 1 + 2)]) rfl ?_
  refine lv_iload hx hb dX12_movesTold_61 (lv_at hl 0 rfl) ?_
  refine va_iald hx hb hG.1 hP 3 0 rfl rfl (by unfold vp_in; decide) dX12_movesTold_63 ?_
  refine lv_topi (fun x20 ex20 => ?_)
  obtain rfl : x20 = 0 := ex20.trans (rfl)
  refine lv_iload_n hx hb dX12_movesTold_64 rfl (lv_at hl 4 rfl) ?_
  refine k_cali [0, 1, 2, 3, 4, 5, 6, 7, 8, 9, 10, 11, 12, 13, 14, 15, 16, 17, 18, 19, 20, 21, 22, 23, 24, 25, 26, 27, 28, 29, 30, 31, 32, 33, 34, 35, 36, 37] (⟨hP, hD, hG, hS, hA, rfl, rfl⟩ : kAt D cy sa A s H _ _ [((v 0), .inr (13, [.int 0, .int 0, .int 0, .int (-1), .int 0, .int 0, .int 0, .int 0, .ref (v 1), .ref (v 2), .ref (v 3), .ref (v 4), .ref (v 5), .ref (v 6), .ref (v 7), .ref (v 8), .ref (v 9), .int 0, .int 0, .int 0, .int 0, .int 0, .int 0, .int 0, .int 0, .int 0, .ref (v 10), .ref (v 11), .ref (v 12), .ref (v 13), .int 49, .ref (v 14), .ref (v 15), .ref (v 16), .ref (v 17), .ref (v 18), .int 0, .int 0, .int 0, .ref (v 19), .ref (v 20), .ref (v 21), .ref (v 22), .ref (v 23), .int 0, .int 0, .int 0, .int 0])), (a, .inl (cy 0, 120, .inl (fun _ => 0)))] [38, 39]) (wr := (toldW cy v ++ [])) rfl rfl (by decide) (k_runV 13 38 (As := [.ref a, .int 0, .int b]) (rest := [.int 1, .ref ((v 10) + 1 + 2)]) E lk_VRX12_251 rfl rfl rfl (m_moves l hl0 D cy sa v a 0 49 (by unfold vp_in; decide) b H.size) (⟨hP, hD, hG, hS, hA, rfl, rfl⟩ : kAt D cy sa A s H _ _ [((v 0), .inr (13, [.int 0, .int 0, .int 0, .int (-1), .int 0, .int 0, .int 0, .int 0, .ref (v 1), .ref (v 2), .ref (v 3), .ref (v 4), .ref (v 5), .ref (v 6), .ref (v 7), .ref (v 8), .ref (v 9), .int 0, .int 0, .int 0, .int 0, .int 0, .int 0, .int 0, .int 0, .int 0, .ref (v 10), .ref (v 11), .ref (v 12), .ref (v 13), .int 49, .ref (v 14), .ref (v 15), .ref (v 16), .ref (v 17), .ref (v 18), .int 0, .int 0, .int 0, .ref (v 19), .ref (v 20), .ref (v 21), .ref (v 22), .ref (v 23), .int 0, .int 0, .int 0, .int 0])), (a, .inl (cy 0, 120, .inl (fun _ => 0)))] [38, 39]) hl.1 rfl rfl ⟨rfl, rfl, ⟨Nat.le_of_ble_eq_true rfl, Nat.le_of_ble_eq_true rfl⟩, ⟨Nat.le_of_ble_eq_true rfl, Nat.le_of_ble_eq_true rfl⟩, Nat.le_of_ble_eq_true rfl⟩ dX12_movesTold_65) (fun r21 u22 H locs hwu22 hP hD hS => ?_)
  have hP : va_P D vwCl (toldW cy v ++ [((v 0), .inr (13, [.int 0, .int 0, .int 0, .int (-1), .int 0, .int 0, .int 0, .int 0, .ref (v 1), .ref (v 2), .ref (v 3), .ref (v 4), .ref (v 5), .ref (v 6), .ref (v 7), .ref (v 8), .ref (v 9), .int 0, .int 0, .int 0, .int 0, .int 0, .int 0, .int 0, .int 0, .int 0, .ref (v 10), .ref (v 11), .ref (v 12), .ref (v 13), .int 50, .ref (v 14), .ref (v 15), .ref (v 16), .ref (v 17), .ref (v 18), .int 0, .int 0, .int 0, .ref (v 19), .ref (v 20), .ref (v 21), .ref (v 22), .ref (v 23), .int 0, .int 0, .int 0, .int 0])), (a, .inl (cy 0, 120, .inl (fun _ => 0)))]) H := hP
  have hD : va_D A (toldW cy v ++ [((v 0), .inr (13, [.int 0, .int 0, .int 0, .int (-1), .int 0, .int 0, .int 0, .int 0, .ref (v 1), .ref (v 2), .ref (v 3), .ref (v 4), .ref (v 5), .ref (v 6), .ref (v 7), .ref (v 8), .ref (v 9), .int 0, .int 0, .int 0, .int 0, .int 0, .int 0, .int 0, .int 0, .int 0, .ref (v 10), .ref (v 11), .ref (v 12), .ref (v 13), .int 50, .ref (v 14), .ref (v 15), .ref (v 16), .ref (v 17), .ref (v 18), .int 0, .int 0, .int 0, .ref (v 19), .ref (v 20), .ref (v 21), .ref (v 22), .ref (v 23), .int 0, .int 0, .int 0, .int 0])), (a, .inl (cy 0, 120, .inl (fun _ => 0)))]) := hD
  obtain rfl : r21 = 0 := hwu22
  refine k_iast0 hx hb hG.1 hP hD hS 3 0 rfl rfl (by unfold vp_in; decide) dX12_movesTold_68 (fun H locs hP hD hS => ?_)
  refine lv_iinc (v := 2) (lv' := [(4, .int 2), (3, .int 2), (0, .ref (v 0)), (1, .ref a), (2, .int b)]) hx hb dX12_movesTold_69 hl (k := 0) rfl (by decide) (by decide) rfl (fun ls hl => ?_)
  refine lv_goto (tgt := 39) hx hb dX12_movesTold_72 (by decide) ?_
  refine lv_iload hx hb dX12_movesTold_39 (lv_at hl 0 rfl) ?_
  refine lv_iconst (v := 2) hx hb dX12_movesTold_41 (by decide) ?_
  refine lv_icmp_ge (tgt := 75) hx hb dX12_movesTold_42 (by decide) (fun _ => ?_) (fun h => absurd (by decide) h)
  refine lv_iinc (v := 3) (lv' := [(3, .int 3), (4, .int 2), (0, .ref (v 0)), (1, .ref a), (2, .int b)]) hx hb dX12_movesTold_75 hl (k := 1) rfl (by decide) (by decide) rfl (fun ls hl => ?_)
  refine lv_goto (tgt := 30) hx hb dX12_movesTold_78 (by decide) ?_
  refine lv_iload_n hx hb dX12_movesTold_30 rfl (lv_at hl 0 rfl) ?_
  refine lv_bipush (v := 30) hx hb dX12_movesTold_31 (by decide) ?_
  refine lv_icmp_ge (tgt := 81) hx hb dX12_movesTold_33 (by decide) (fun h => absurd h (by decide)) (fun _ => ?_)
  refine lv_iconst (v := 0) hx hb dX12_movesTold_36 (by decide) ?_
  refine lv_istore (lv' := [(4, .int 0), (3, .int 3), (0, .ref (v 0)), (1, .ref a), (2, .int b)]) hx hb dX12_movesTold_37 hl (by decide) rfl (fun ls hl => ?_)
  refine lv_iload hx hb dX12_movesTold_39 (lv_at hl 0 rfl) ?_
  refine lv_iconst (v := 2) hx hb dX12_movesTold_41 (by decide) ?_
  refine lv_icmp_ge (tgt := 75) hx hb dX12_movesTold_42 (by decide) (fun h => absurd h (by decide)) (fun _ => ?_)
  refine lv_aload_n hx hb dX12_movesTold_45 rfl (lv_at hl 2 rfl) ?_
  refine va_get (D := D) (ci := 13) (v := .ref (v 10)) (C := RX12) (T := TX12) (N := 48) hx hb hts kin_RX12 hown hG.1 hP 38 rfl rfl 26 (by decide) (hts _ wm_1545) (fun _ h9 => h9) rfl dX12_movesTold_46 ?_
  refine lv_iload_n hx hb dX12_movesTold_49 rfl (lv_at hl 1 rfl) ?_
  refine k_aldA hx hb hG.1 hP 0 rfl (by unfold vp_in; decide) dX12_movesTold_50 ?_
  refine W.eq (g2 := F0 m 51 ls [.ref ((v 10) + 1 + 3)]) rfl ?_
  refine lv_iload hx hb dX12_movesTold_51 (lv_at hl 0 rfl) ?_
  refine lv_aload_n hx hb dX12_movesTold_53 rfl (lv_at hl 2 rfl) ?_
  refine lv_aload_n hx hb dX12_movesTold_54 rfl (lv_at hl 3 rfl) ?_
  refine lv_aload_n hx hb dX12_movesTold_55 rfl (lv_at hl 2 rfl) ?_
  refine va_get (D := D) (ci := 13) (v := .ref (v 10)) (C := RX12) (T := TX12) (N := 48) hx hb hts kin_RX12 hown hG.1 hP 38 rfl rfl 26 (by decide) (hts _ wm_1545) (fun _ h9 => h9) rfl dX12_movesTold_56 ?_
  refine lv_iload_n hx hb dX12_movesTold_59 rfl (lv_at hl 1 rfl) ?_
  refine k_aldA hx hb hG.1 hP 0 rfl (by unfold vp_in; decide) dX12_movesTold_60 ?_
  refine W.eq (g2 := F0 m 61 ls [.ref ((v 10) + 1 + 3), .ref a, .ref (v 0), .int 0, .ref ((v 10) + 1 + 3)]) rfl ?_
  refine lv_iload hx hb dX12_movesTold_61 (lv_at hl 0 rfl) ?_
  refine va_iald hx hb hG.1 hP 4 0 rfl rfl (by unfold vp_in; decide) dX12_movesTold_63 ?_
  refine lv_topi (fun x23 ex23 => ?_)
  obtain rfl : x23 = 0 := ex23.trans (rfl)
  refine lv_iload_n hx hb dX12_movesTold_64 rfl (lv_at hl 4 rfl) ?_
  refine k_cali [0, 1, 2, 3, 4, 5, 6, 7, 8, 9, 10, 11, 12, 13, 14, 15, 16, 17, 18, 19, 20, 21, 22, 23, 24, 25, 26, 27, 28, 29, 30, 31, 32, 33, 34, 35, 36, 37] (⟨hP, hD, hG, hS, hA, rfl, rfl⟩ : kAt D cy sa A s H _ _ [((v 0), .inr (13, [.int 0, .int 0, .int 0, .int (-1), .int 0, .int 0, .int 0, .int 0, .ref (v 1), .ref (v 2), .ref (v 3), .ref (v 4), .ref (v 5), .ref (v 6), .ref (v 7), .ref (v 8), .ref (v 9), .int 0, .int 0, .int 0, .int 0, .int 0, .int 0, .int 0, .int 0, .int 0, .ref (v 10), .ref (v 11), .ref (v 12), .ref (v 13), .int 50, .ref (v 14), .ref (v 15), .ref (v 16), .ref (v 17), .ref (v 18), .int 0, .int 0, .int 0, .ref (v 19), .ref (v 20), .ref (v 21), .ref (v 22), .ref (v 23), .int 0, .int 0, .int 0, .int 0])), (a, .inl (cy 0, 120, .inl (fun _ => 0)))] [38, 39]) (wr := (toldW cy v ++ [])) rfl rfl (by decide) (k_runV 13 38 (As := [.ref a, .int 0, .int b]) (rest := [.int 0, .ref ((v 10) + 1 + 3)]) E lk_VRX12_251 rfl rfl rfl (m_moves l hl0 D cy sa v a 0 50 (by unfold vp_in; decide) b H.size) (⟨hP, hD, hG, hS, hA, rfl, rfl⟩ : kAt D cy sa A s H _ _ [((v 0), .inr (13, [.int 0, .int 0, .int 0, .int (-1), .int 0, .int 0, .int 0, .int 0, .ref (v 1), .ref (v 2), .ref (v 3), .ref (v 4), .ref (v 5), .ref (v 6), .ref (v 7), .ref (v 8), .ref (v 9), .int 0, .int 0, .int 0, .int 0, .int 0, .int 0, .int 0, .int 0, .int 0, .ref (v 10), .ref (v 11), .ref (v 12), .ref (v 13), .int 50, .ref (v 14), .ref (v 15), .ref (v 16), .ref (v 17), .ref (v 18), .int 0, .int 0, .int 0, .ref (v 19), .ref (v 20), .ref (v 21), .ref (v 22), .ref (v 23), .int 0, .int 0, .int 0, .int 0])), (a, .inl (cy 0, 120, .inl (fun _ => 0)))] [38, 39]) hl.1 rfl rfl ⟨rfl, rfl, ⟨Nat.le_of_ble_eq_true rfl, Nat.le_of_ble_eq_true rfl⟩, ⟨Nat.le_of_ble_eq_true rfl, Nat.le_of_ble_eq_true rfl⟩, Nat.le_of_ble_eq_true rfl⟩ dX12_movesTold_65) (fun r24 u25 H locs hwu25 hP hD hS => ?_)
  have hP : va_P D vwCl (toldW cy v ++ [((v 0), .inr (13, [.int 0, .int 0, .int 0, .int (-1), .int 0, .int 0, .int 0, .int 0, .ref (v 1), .ref (v 2), .ref (v 3), .ref (v 4), .ref (v 5), .ref (v 6), .ref (v 7), .ref (v 8), .ref (v 9), .int 0, .int 0, .int 0, .int 0, .int 0, .int 0, .int 0, .int 0, .int 0, .ref (v 10), .ref (v 11), .ref (v 12), .ref (v 13), .int 51, .ref (v 14), .ref (v 15), .ref (v 16), .ref (v 17), .ref (v 18), .int 0, .int 0, .int 0, .ref (v 19), .ref (v 20), .ref (v 21), .ref (v 22), .ref (v 23), .int 0, .int 0, .int 0, .int 0])), (a, .inl (cy 0, 120, .inl (fun _ => 0)))]) H := hP
  have hD : va_D A (toldW cy v ++ [((v 0), .inr (13, [.int 0, .int 0, .int 0, .int (-1), .int 0, .int 0, .int 0, .int 0, .ref (v 1), .ref (v 2), .ref (v 3), .ref (v 4), .ref (v 5), .ref (v 6), .ref (v 7), .ref (v 8), .ref (v 9), .int 0, .int 0, .int 0, .int 0, .int 0, .int 0, .int 0, .int 0, .int 0, .ref (v 10), .ref (v 11), .ref (v 12), .ref (v 13), .int 51, .ref (v 14), .ref (v 15), .ref (v 16), .ref (v 17), .ref (v 18), .int 0, .int 0, .int 0, .ref (v 19), .ref (v 20), .ref (v 21), .ref (v 22), .ref (v 23), .int 0, .int 0, .int 0, .int 0])), (a, .inl (cy 0, 120, .inl (fun _ => 0)))]) := hD
  obtain rfl : r24 = 0 := hwu25
  refine k_iast0 hx hb hG.1 hP hD hS 4 0 rfl rfl (by unfold vp_in; decide) dX12_movesTold_68 (fun H locs hP hD hS => ?_)
  refine lv_iinc (v := 1) (lv' := [(4, .int 1), (3, .int 3), (0, .ref (v 0)), (1, .ref a), (2, .int b)]) hx hb dX12_movesTold_69 hl (k := 0) rfl (by decide) (by decide) rfl (fun ls hl => ?_)
  refine lv_goto (tgt := 39) hx hb dX12_movesTold_72 (by decide) ?_
  refine lv_iload hx hb dX12_movesTold_39 (lv_at hl 0 rfl) ?_
  refine lv_iconst (v := 2) hx hb dX12_movesTold_41 (by decide) ?_
  refine lv_icmp_ge (tgt := 75) hx hb dX12_movesTold_42 (by decide) (fun h => absurd h (by decide)) (fun _ => ?_)
  refine lv_aload_n hx hb dX12_movesTold_45 rfl (lv_at hl 2 rfl) ?_
  refine va_get (D := D) (ci := 13) (v := .ref (v 10)) (C := RX12) (T := TX12) (N := 48) hx hb hts kin_RX12 hown hG.1 hP 38 rfl rfl 26 (by decide) (hts _ wm_1545) (fun _ h9 => h9) rfl dX12_movesTold_46 ?_
  refine lv_iload_n hx hb dX12_movesTold_49 rfl (lv_at hl 1 rfl) ?_
  refine k_aldA hx hb hG.1 hP 0 rfl (by unfold vp_in; decide) dX12_movesTold_50 ?_
  refine W.eq (g2 := F0 m 51 ls [.ref ((v 10) + 1 + 3)]) rfl ?_
  refine lv_iload hx hb dX12_movesTold_51 (lv_at hl 0 rfl) ?_
  refine lv_aload_n hx hb dX12_movesTold_53 rfl (lv_at hl 2 rfl) ?_
  refine lv_aload_n hx hb dX12_movesTold_54 rfl (lv_at hl 3 rfl) ?_
  refine lv_aload_n hx hb dX12_movesTold_55 rfl (lv_at hl 2 rfl) ?_
  refine va_get (D := D) (ci := 13) (v := .ref (v 10)) (C := RX12) (T := TX12) (N := 48) hx hb hts kin_RX12 hown hG.1 hP 38 rfl rfl 26 (by decide) (hts _ wm_1545) (fun _ h9 => h9) rfl dX12_movesTold_56 ?_
  refine lv_iload_n hx hb dX12_movesTold_59 rfl (lv_at hl 1 rfl) ?_
  refine k_aldA hx hb hG.1 hP 0 rfl (by unfold vp_in; decide) dX12_movesTold_60 ?_
  refine W.eq (g2 := F0 m 61 ls [.ref ((v 10) + 1 + 3), .ref a, .ref (v 0), .int 1, .ref ((v 10) + 1 + 3)]) rfl ?_
  refine lv_iload hx hb dX12_movesTold_61 (lv_at hl 0 rfl) ?_
  refine va_iald hx hb hG.1 hP 4 0 rfl rfl (by unfold vp_in; decide) dX12_movesTold_63 ?_
  refine lv_topi (fun x26 ex26 => ?_)
  obtain rfl : x26 = 0 := ex26.trans (rfl)
  refine lv_iload_n hx hb dX12_movesTold_64 rfl (lv_at hl 4 rfl) ?_
  refine k_cali [0, 1, 2, 3, 4, 5, 6, 7, 8, 9, 10, 11, 12, 13, 14, 15, 16, 17, 18, 19, 20, 21, 22, 23, 24, 25, 26, 27, 28, 29, 30, 31, 32, 33, 34, 35, 36, 37] (⟨hP, hD, hG, hS, hA, rfl, rfl⟩ : kAt D cy sa A s H _ _ [((v 0), .inr (13, [.int 0, .int 0, .int 0, .int (-1), .int 0, .int 0, .int 0, .int 0, .ref (v 1), .ref (v 2), .ref (v 3), .ref (v 4), .ref (v 5), .ref (v 6), .ref (v 7), .ref (v 8), .ref (v 9), .int 0, .int 0, .int 0, .int 0, .int 0, .int 0, .int 0, .int 0, .int 0, .ref (v 10), .ref (v 11), .ref (v 12), .ref (v 13), .int 51, .ref (v 14), .ref (v 15), .ref (v 16), .ref (v 17), .ref (v 18), .int 0, .int 0, .int 0, .ref (v 19), .ref (v 20), .ref (v 21), .ref (v 22), .ref (v 23), .int 0, .int 0, .int 0, .int 0])), (a, .inl (cy 0, 120, .inl (fun _ => 0)))] [38, 39]) (wr := (toldW cy v ++ [])) rfl rfl (by decide) (k_runV 13 38 (As := [.ref a, .int 0, .int b]) (rest := [.int 1, .ref ((v 10) + 1 + 3)]) E lk_VRX12_251 rfl rfl rfl (m_moves l hl0 D cy sa v a 0 51 (by unfold vp_in; decide) b H.size) (⟨hP, hD, hG, hS, hA, rfl, rfl⟩ : kAt D cy sa A s H _ _ [((v 0), .inr (13, [.int 0, .int 0, .int 0, .int (-1), .int 0, .int 0, .int 0, .int 0, .ref (v 1), .ref (v 2), .ref (v 3), .ref (v 4), .ref (v 5), .ref (v 6), .ref (v 7), .ref (v 8), .ref (v 9), .int 0, .int 0, .int 0, .int 0, .int 0, .int 0, .int 0, .int 0, .int 0, .ref (v 10), .ref (v 11), .ref (v 12), .ref (v 13), .int 51, .ref (v 14), .ref (v 15), .ref (v 16), .ref (v 17), .ref (v 18), .int 0, .int 0, .int 0, .ref (v 19), .ref (v 20), .ref (v 21), .ref (v 22), .ref (v 23), .int 0, .int 0, .int 0, .int 0])), (a, .inl (cy 0, 120, .inl (fun _ => 0)))] [38, 39]) hl.1 rfl rfl ⟨rfl, rfl, ⟨Nat.le_of_ble_eq_true rfl, Nat.le_of_ble_eq_true rfl⟩, ⟨Nat.le_of_ble_eq_true rfl, Nat.le_of_ble_eq_true rfl⟩, Nat.le_of_ble_eq_true rfl⟩ dX12_movesTold_65) (fun r27 u28 H locs hwu28 hP hD hS => ?_)
  have hP : va_P D vwCl (toldW cy v ++ [((v 0), .inr (13, [.int 0, .int 0, .int 0, .int (-1), .int 0, .int 0, .int 0, .int 0, .ref (v 1), .ref (v 2), .ref (v 3), .ref (v 4), .ref (v 5), .ref (v 6), .ref (v 7), .ref (v 8), .ref (v 9), .int 0, .int 0, .int 0, .int 0, .int 0, .int 0, .int 0, .int 0, .int 0, .ref (v 10), .ref (v 11), .ref (v 12), .ref (v 13), .int 52, .ref (v 14), .ref (v 15), .ref (v 16), .ref (v 17), .ref (v 18), .int 0, .int 0, .int 0, .ref (v 19), .ref (v 20), .ref (v 21), .ref (v 22), .ref (v 23), .int 0, .int 0, .int 0, .int 0])), (a, .inl (cy 0, 120, .inl (fun _ => 0)))]) H := hP
  have hD : va_D A (toldW cy v ++ [((v 0), .inr (13, [.int 0, .int 0, .int 0, .int (-1), .int 0, .int 0, .int 0, .int 0, .ref (v 1), .ref (v 2), .ref (v 3), .ref (v 4), .ref (v 5), .ref (v 6), .ref (v 7), .ref (v 8), .ref (v 9), .int 0, .int 0, .int 0, .int 0, .int 0, .int 0, .int 0, .int 0, .int 0, .ref (v 10), .ref (v 11), .ref (v 12), .ref (v 13), .int 52, .ref (v 14), .ref (v 15), .ref (v 16), .ref (v 17), .ref (v 18), .int 0, .int 0, .int 0, .ref (v 19), .ref (v 20), .ref (v 21), .ref (v 22), .ref (v 23), .int 0, .int 0, .int 0, .int 0])), (a, .inl (cy 0, 120, .inl (fun _ => 0)))]) := hD
  obtain rfl : r27 = 0 := hwu28
  refine k_iast0 hx hb hG.1 hP hD hS 4 0 rfl rfl (by unfold vp_in; decide) dX12_movesTold_68 (fun H locs hP hD hS => ?_)
  refine lv_iinc (v := 2) (lv' := [(4, .int 2), (3, .int 3), (0, .ref (v 0)), (1, .ref a), (2, .int b)]) hx hb dX12_movesTold_69 hl (k := 0) rfl (by decide) (by decide) rfl (fun ls hl => ?_)
  refine lv_goto (tgt := 39) hx hb dX12_movesTold_72 (by decide) ?_
  refine lv_iload hx hb dX12_movesTold_39 (lv_at hl 0 rfl) ?_
  refine lv_iconst (v := 2) hx hb dX12_movesTold_41 (by decide) ?_
  refine lv_icmp_ge (tgt := 75) hx hb dX12_movesTold_42 (by decide) (fun _ => ?_) (fun h => absurd (by decide) h)
  refine lv_iinc (v := 4) (lv' := [(3, .int 4), (4, .int 2), (0, .ref (v 0)), (1, .ref a), (2, .int b)]) hx hb dX12_movesTold_75 hl (k := 1) rfl (by decide) (by decide) rfl (fun ls hl => ?_)
  refine lv_goto (tgt := 30) hx hb dX12_movesTold_78 (by decide) ?_
  refine lv_iload_n hx hb dX12_movesTold_30 rfl (lv_at hl 0 rfl) ?_
  refine lv_bipush (v := 30) hx hb dX12_movesTold_31 (by decide) ?_
  refine lv_icmp_ge (tgt := 81) hx hb dX12_movesTold_33 (by decide) (fun h => absurd h (by decide)) (fun _ => ?_)
  refine lv_iconst (v := 0) hx hb dX12_movesTold_36 (by decide) ?_
  refine lv_istore (lv' := [(4, .int 0), (3, .int 4), (0, .ref (v 0)), (1, .ref a), (2, .int b)]) hx hb dX12_movesTold_37 hl (by decide) rfl (fun ls hl => ?_)
  refine lv_iload hx hb dX12_movesTold_39 (lv_at hl 0 rfl) ?_
  refine lv_iconst (v := 2) hx hb dX12_movesTold_41 (by decide) ?_
  refine lv_icmp_ge (tgt := 75) hx hb dX12_movesTold_42 (by decide) (fun h => absurd h (by decide)) (fun _ => ?_)
  refine lv_aload_n hx hb dX12_movesTold_45 rfl (lv_at hl 2 rfl) ?_
  refine va_get (D := D) (ci := 13) (v := .ref (v 10)) (C := RX12) (T := TX12) (N := 48) hx hb hts kin_RX12 hown hG.1 hP 38 rfl rfl 26 (by decide) (hts _ wm_1545) (fun _ h9 => h9) rfl dX12_movesTold_46 ?_
  refine lv_iload_n hx hb dX12_movesTold_49 rfl (lv_at hl 1 rfl) ?_
  refine k_aldA hx hb hG.1 hP 0 rfl (by unfold vp_in; decide) dX12_movesTold_50 ?_
  refine W.eq (g2 := F0 m 51 ls [.ref ((v 10) + 1 + 4)]) rfl ?_
  refine lv_iload hx hb dX12_movesTold_51 (lv_at hl 0 rfl) ?_
  refine lv_aload_n hx hb dX12_movesTold_53 rfl (lv_at hl 2 rfl) ?_
  refine lv_aload_n hx hb dX12_movesTold_54 rfl (lv_at hl 3 rfl) ?_
  refine lv_aload_n hx hb dX12_movesTold_55 rfl (lv_at hl 2 rfl) ?_
  refine va_get (D := D) (ci := 13) (v := .ref (v 10)) (C := RX12) (T := TX12) (N := 48) hx hb hts kin_RX12 hown hG.1 hP 38 rfl rfl 26 (by decide) (hts _ wm_1545) (fun _ h9 => h9) rfl dX12_movesTold_56 ?_
  refine lv_iload_n hx hb dX12_movesTold_59 rfl (lv_at hl 1 rfl) ?_
  refine k_aldA hx hb hG.1 hP 0 rfl (by unfold vp_in; decide) dX12_movesTold_60 ?_
  refine W.eq (g2 := F0 m 61 ls [.ref ((v 10) + 1 + 4), .ref a, .ref (v 0), .int 0, .ref ((v 10) + 1 + 4)]) rfl ?_
  refine lv_iload hx hb dX12_movesTold_61 (lv_at hl 0 rfl) ?_
  refine va_iald hx hb hG.1 hP 5 0 rfl rfl (by unfold vp_in; decide) dX12_movesTold_63 ?_
  refine lv_topi (fun x29 ex29 => ?_)
  obtain rfl : x29 = 0 := ex29.trans (rfl)
  refine lv_iload_n hx hb dX12_movesTold_64 rfl (lv_at hl 4 rfl) ?_
  refine k_cali [0, 1, 2, 3, 4, 5, 6, 7, 8, 9, 10, 11, 12, 13, 14, 15, 16, 17, 18, 19, 20, 21, 22, 23, 24, 25, 26, 27, 28, 29, 30, 31, 32, 33, 34, 35, 36, 37] (⟨hP, hD, hG, hS, hA, rfl, rfl⟩ : kAt D cy sa A s H _ _ [((v 0), .inr (13, [.int 0, .int 0, .int 0, .int (-1), .int 0, .int 0, .int 0, .int 0, .ref (v 1), .ref (v 2), .ref (v 3), .ref (v 4), .ref (v 5), .ref (v 6), .ref (v 7), .ref (v 8), .ref (v 9), .int 0, .int 0, .int 0, .int 0, .int 0, .int 0, .int 0, .int 0, .int 0, .ref (v 10), .ref (v 11), .ref (v 12), .ref (v 13), .int 52, .ref (v 14), .ref (v 15), .ref (v 16), .ref (v 17), .ref (v 18), .int 0, .int 0, .int 0, .ref (v 19), .ref (v 20), .ref (v 21), .ref (v 22), .ref (v 23), .int 0, .int 0, .int 0, .int 0])), (a, .inl (cy 0, 120, .inl (fun _ => 0)))] [38, 39]) (wr := (toldW cy v ++ [])) rfl rfl (by decide) (k_runV 13 38 (As := [.ref a, .int 0, .int b]) (rest := [.int 0, .ref ((v 10) + 1 + 4)]) E lk_VRX12_251 rfl rfl rfl (m_moves l hl0 D cy sa v a 0 52 (by unfold vp_in; decide) b H.size) (⟨hP, hD, hG, hS, hA, rfl, rfl⟩ : kAt D cy sa A s H _ _ [((v 0), .inr (13, [.int 0, .int 0, .int 0, .int (-1), .int 0, .int 0, .int 0, .int 0, .ref (v 1), .ref (v 2), .ref (v 3), .ref (v 4), .ref (v 5), .ref (v 6), .ref (v 7), .ref (v 8), .ref (v 9), .int 0, .int 0, .int 0, .int 0, .int 0, .int 0, .int 0, .int 0, .int 0, .ref (v 10), .ref (v 11), .ref (v 12), .ref (v 13), .int 52, .ref (v 14), .ref (v 15), .ref (v 16), .ref (v 17), .ref (v 18), .int 0, .int 0, .int 0, .ref (v 19), .ref (v 20), .ref (v 21), .ref (v 22), .ref (v 23), .int 0, .int 0, .int 0, .int 0])), (a, .inl (cy 0, 120, .inl (fun _ => 0)))] [38, 39]) hl.1 rfl rfl ⟨rfl, rfl, ⟨Nat.le_of_ble_eq_true rfl, Nat.le_of_ble_eq_true rfl⟩, ⟨Nat.le_of_ble_eq_true rfl, Nat.le_of_ble_eq_true rfl⟩, Nat.le_of_ble_eq_true rfl⟩ dX12_movesTold_65) (fun r30 u31 H locs hwu31 hP hD hS => ?_)
  have hP : va_P D vwCl (toldW cy v ++ [((v 0), .inr (13, [.int 0, .int 0, .int 0, .int (-1), .int 0, .int 0, .int 0, .int 0, .ref (v 1), .ref (v 2), .ref (v 3), .ref (v 4), .ref (v 5), .ref (v 6), .ref (v 7), .ref (v 8), .ref (v 9), .int 0, .int 0, .int 0, .int 0, .int 0, .int 0, .int 0, .int 0, .int 0, .ref (v 10), .ref (v 11), .ref (v 12), .ref (v 13), .int 53, .ref (v 14), .ref (v 15), .ref (v 16), .ref (v 17), .ref (v 18), .int 0, .int 0, .int 0, .ref (v 19), .ref (v 20), .ref (v 21), .ref (v 22), .ref (v 23), .int 0, .int 0, .int 0, .int 0])), (a, .inl (cy 0, 120, .inl (fun _ => 0)))]) H := hP
  have hD : va_D A (toldW cy v ++ [((v 0), .inr (13, [.int 0, .int 0, .int 0, .int (-1), .int 0, .int 0, .int 0, .int 0, .ref (v 1), .ref (v 2), .ref (v 3), .ref (v 4), .ref (v 5), .ref (v 6), .ref (v 7), .ref (v 8), .ref (v 9), .int 0, .int 0, .int 0, .int 0, .int 0, .int 0, .int 0, .int 0, .int 0, .ref (v 10), .ref (v 11), .ref (v 12), .ref (v 13), .int 53, .ref (v 14), .ref (v 15), .ref (v 16), .ref (v 17), .ref (v 18), .int 0, .int 0, .int 0, .ref (v 19), .ref (v 20), .ref (v 21), .ref (v 22), .ref (v 23), .int 0, .int 0, .int 0, .int 0])), (a, .inl (cy 0, 120, .inl (fun _ => 0)))]) := hD
  obtain rfl : r30 = 0 := hwu31
  refine k_iast0 hx hb hG.1 hP hD hS 5 0 rfl rfl (by unfold vp_in; decide) dX12_movesTold_68 (fun H locs hP hD hS => ?_)
  refine lv_iinc (v := 1) (lv' := [(4, .int 1), (3, .int 4), (0, .ref (v 0)), (1, .ref a), (2, .int b)]) hx hb dX12_movesTold_69 hl (k := 0) rfl (by decide) (by decide) rfl (fun ls hl => ?_)
  refine lv_goto (tgt := 39) hx hb dX12_movesTold_72 (by decide) ?_
  refine lv_iload hx hb dX12_movesTold_39 (lv_at hl 0 rfl) ?_
  refine lv_iconst (v := 2) hx hb dX12_movesTold_41 (by decide) ?_
  refine lv_icmp_ge (tgt := 75) hx hb dX12_movesTold_42 (by decide) (fun h => absurd h (by decide)) (fun _ => ?_)
  refine lv_aload_n hx hb dX12_movesTold_45 rfl (lv_at hl 2 rfl) ?_
  refine va_get (D := D) (ci := 13) (v := .ref (v 10)) (C := RX12) (T := TX12) (N := 48) hx hb hts kin_RX12 hown hG.1 hP 38 rfl rfl 26 (by decide) (hts _ wm_1545) (fun _ h9 => h9) rfl dX12_movesTold_46 ?_
  refine lv_iload_n hx hb dX12_movesTold_49 rfl (lv_at hl 1 rfl) ?_
  refine k_aldA hx hb hG.1 hP 0 rfl (by unfold vp_in; decide) dX12_movesTold_50 ?_
  refine W.eq (g2 := F0 m 51 ls [.ref ((v 10) + 1 + 4)]) rfl ?_
  refine lv_iload hx hb dX12_movesTold_51 (lv_at hl 0 rfl) ?_
  refine lv_aload_n hx hb dX12_movesTold_53 rfl (lv_at hl 2 rfl) ?_
  refine lv_aload_n hx hb dX12_movesTold_54 rfl (lv_at hl 3 rfl) ?_
  refine lv_aload_n hx hb dX12_movesTold_55 rfl (lv_at hl 2 rfl) ?_
  refine va_get (D := D) (ci := 13) (v := .ref (v 10)) (C := RX12) (T := TX12) (N := 48) hx hb hts kin_RX12 hown hG.1 hP 38 rfl rfl 26 (by decide) (hts _ wm_1545) (fun _ h9 => h9) rfl dX12_movesTold_56 ?_
  refine lv_iload_n hx hb dX12_movesTold_59 rfl (lv_at hl 1 rfl) ?_
  refine k_aldA hx hb hG.1 hP 0 rfl (by unfold vp_in; decide) dX12_movesTold_60 ?_
  refine W.eq (g2 := F0 m 61 ls [.ref ((v 10) + 1 + 4), .ref a, .ref (v 0), .int 1, .ref ((v 10) + 1 + 4)]) rfl ?_
  refine lv_iload hx hb dX12_movesTold_61 (lv_at hl 0 rfl) ?_
  refine va_iald hx hb hG.1 hP 5 0 rfl rfl (by unfold vp_in; decide) dX12_movesTold_63 ?_
  refine lv_topi (fun x32 ex32 => ?_)
  obtain rfl : x32 = 0 := ex32.trans (rfl)
  refine lv_iload_n hx hb dX12_movesTold_64 rfl (lv_at hl 4 rfl) ?_
  refine k_cali [0, 1, 2, 3, 4, 5, 6, 7, 8, 9, 10, 11, 12, 13, 14, 15, 16, 17, 18, 19, 20, 21, 22, 23, 24, 25, 26, 27, 28, 29, 30, 31, 32, 33, 34, 35, 36, 37] (⟨hP, hD, hG, hS, hA, rfl, rfl⟩ : kAt D cy sa A s H _ _ [((v 0), .inr (13, [.int 0, .int 0, .int 0, .int (-1), .int 0, .int 0, .int 0, .int 0, .ref (v 1), .ref (v 2), .ref (v 3), .ref (v 4), .ref (v 5), .ref (v 6), .ref (v 7), .ref (v 8), .ref (v 9), .int 0, .int 0, .int 0, .int 0, .int 0, .int 0, .int 0, .int 0, .int 0, .ref (v 10), .ref (v 11), .ref (v 12), .ref (v 13), .int 53, .ref (v 14), .ref (v 15), .ref (v 16), .ref (v 17), .ref (v 18), .int 0, .int 0, .int 0, .ref (v 19), .ref (v 20), .ref (v 21), .ref (v 22), .ref (v 23), .int 0, .int 0, .int 0, .int 0])), (a, .inl (cy 0, 120, .inl (fun _ => 0)))] [38, 39]) (wr := (toldW cy v ++ [])) rfl rfl (by decide) (k_runV 13 38 (As := [.ref a, .int 0, .int b]) (rest := [.int 1, .ref ((v 10) + 1 + 4)]) E lk_VRX12_251 rfl rfl rfl (m_moves l hl0 D cy sa v a 0 53 (by unfold vp_in; decide) b H.size) (⟨hP, hD, hG, hS, hA, rfl, rfl⟩ : kAt D cy sa A s H _ _ [((v 0), .inr (13, [.int 0, .int 0, .int 0, .int (-1), .int 0, .int 0, .int 0, .int 0, .ref (v 1), .ref (v 2), .ref (v 3), .ref (v 4), .ref (v 5), .ref (v 6), .ref (v 7), .ref (v 8), .ref (v 9), .int 0, .int 0, .int 0, .int 0, .int 0, .int 0, .int 0, .int 0, .int 0, .ref (v 10), .ref (v 11), .ref (v 12), .ref (v 13), .int 53, .ref (v 14), .ref (v 15), .ref (v 16), .ref (v 17), .ref (v 18), .int 0, .int 0, .int 0, .ref (v 19), .ref (v 20), .ref (v 21), .ref (v 22), .ref (v 23), .int 0, .int 0, .int 0, .int 0])), (a, .inl (cy 0, 120, .inl (fun _ => 0)))] [38, 39]) hl.1 rfl rfl ⟨rfl, rfl, ⟨Nat.le_of_ble_eq_true rfl, Nat.le_of_ble_eq_true rfl⟩, ⟨Nat.le_of_ble_eq_true rfl, Nat.le_of_ble_eq_true rfl⟩, Nat.le_of_ble_eq_true rfl⟩ dX12_movesTold_65) (fun r33 u34 H locs hwu34 hP hD hS => ?_)
  have hP : va_P D vwCl (toldW cy v ++ [((v 0), .inr (13, [.int 0, .int 0, .int 0, .int (-1), .int 0, .int 0, .int 0, .int 0, .ref (v 1), .ref (v 2), .ref (v 3), .ref (v 4), .ref (v 5), .ref (v 6), .ref (v 7), .ref (v 8), .ref (v 9), .int 0, .int 0, .int 0, .int 0, .int 0, .int 0, .int 0, .int 0, .int 0, .ref (v 10), .ref (v 11), .ref (v 12), .ref (v 13), .int 54, .ref (v 14), .ref (v 15), .ref (v 16), .ref (v 17), .ref (v 18), .int 0, .int 0, .int 0, .ref (v 19), .ref (v 20), .ref (v 21), .ref (v 22), .ref (v 23), .int 0, .int 0, .int 0, .int 0])), (a, .inl (cy 0, 120, .inl (fun _ => 0)))]) H := hP
  have hD : va_D A (toldW cy v ++ [((v 0), .inr (13, [.int 0, .int 0, .int 0, .int (-1), .int 0, .int 0, .int 0, .int 0, .ref (v 1), .ref (v 2), .ref (v 3), .ref (v 4), .ref (v 5), .ref (v 6), .ref (v 7), .ref (v 8), .ref (v 9), .int 0, .int 0, .int 0, .int 0, .int 0, .int 0, .int 0, .int 0, .int 0, .ref (v 10), .ref (v 11), .ref (v 12), .ref (v 13), .int 54, .ref (v 14), .ref (v 15), .ref (v 16), .ref (v 17), .ref (v 18), .int 0, .int 0, .int 0, .ref (v 19), .ref (v 20), .ref (v 21), .ref (v 22), .ref (v 23), .int 0, .int 0, .int 0, .int 0])), (a, .inl (cy 0, 120, .inl (fun _ => 0)))]) := hD
  obtain rfl : r33 = 0 := hwu34
  refine k_iast0 hx hb hG.1 hP hD hS 5 0 rfl rfl (by unfold vp_in; decide) dX12_movesTold_68 (fun H locs hP hD hS => ?_)
  refine lv_iinc (v := 2) (lv' := [(4, .int 2), (3, .int 4), (0, .ref (v 0)), (1, .ref a), (2, .int b)]) hx hb dX12_movesTold_69 hl (k := 0) rfl (by decide) (by decide) rfl (fun ls hl => ?_)
  refine lv_goto (tgt := 39) hx hb dX12_movesTold_72 (by decide) ?_
  refine lv_iload hx hb dX12_movesTold_39 (lv_at hl 0 rfl) ?_
  refine lv_iconst (v := 2) hx hb dX12_movesTold_41 (by decide) ?_
  refine lv_icmp_ge (tgt := 75) hx hb dX12_movesTold_42 (by decide) (fun _ => ?_) (fun h => absurd (by decide) h)
  refine lv_iinc (v := 5) (lv' := [(3, .int 5), (4, .int 2), (0, .ref (v 0)), (1, .ref a), (2, .int b)]) hx hb dX12_movesTold_75 hl (k := 1) rfl (by decide) (by decide) rfl (fun ls hl => ?_)
  refine lv_goto (tgt := 30) hx hb dX12_movesTold_78 (by decide) ?_
  refine lv_iload_n hx hb dX12_movesTold_30 rfl (lv_at hl 0 rfl) ?_
  refine lv_bipush (v := 30) hx hb dX12_movesTold_31 (by decide) ?_
  refine lv_icmp_ge (tgt := 81) hx hb dX12_movesTold_33 (by decide) (fun h => absurd h (by decide)) (fun _ => ?_)
  refine lv_iconst (v := 0) hx hb dX12_movesTold_36 (by decide) ?_
  refine lv_istore (lv' := [(4, .int 0), (3, .int 5), (0, .ref (v 0)), (1, .ref a), (2, .int b)]) hx hb dX12_movesTold_37 hl (by decide) rfl (fun ls hl => ?_)
  refine lv_iload hx hb dX12_movesTold_39 (lv_at hl 0 rfl) ?_
  refine lv_iconst (v := 2) hx hb dX12_movesTold_41 (by decide) ?_
  refine lv_icmp_ge (tgt := 75) hx hb dX12_movesTold_42 (by decide) (fun h => absurd h (by decide)) (fun _ => ?_)
  refine lv_aload_n hx hb dX12_movesTold_45 rfl (lv_at hl 2 rfl) ?_
  refine va_get (D := D) (ci := 13) (v := .ref (v 10)) (C := RX12) (T := TX12) (N := 48) hx hb hts kin_RX12 hown hG.1 hP 38 rfl rfl 26 (by decide) (hts _ wm_1545) (fun _ h9 => h9) rfl dX12_movesTold_46 ?_
  refine lv_iload_n hx hb dX12_movesTold_49 rfl (lv_at hl 1 rfl) ?_
  refine k_aldA hx hb hG.1 hP 0 rfl (by unfold vp_in; decide) dX12_movesTold_50 ?_
  refine W.eq (g2 := F0 m 51 ls [.ref ((v 10) + 1 + 5)]) rfl ?_
  refine lv_iload hx hb dX12_movesTold_51 (lv_at hl 0 rfl) ?_
  refine lv_aload_n hx hb dX12_movesTold_53 rfl (lv_at hl 2 rfl) ?_
  refine lv_aload_n hx hb dX12_movesTold_54 rfl (lv_at hl 3 rfl) ?_
  refine lv_aload_n hx hb dX12_movesTold_55 rfl (lv_at hl 2 rfl) ?_
  refine va_get (D := D) (ci := 13) (v := .ref (v 10)) (C := RX12) (T := TX12) (N := 48) hx hb hts kin_RX12 hown hG.1 hP 38 rfl rfl 26 (by decide) (hts _ wm_1545) (fun _ h9 => h9) rfl dX12_movesTold_56 ?_
  refine lv_iload_n hx hb dX12_movesTold_59 rfl (lv_at hl 1 rfl) ?_
  refine k_aldA hx hb hG.1 hP 0 rfl (by unfold vp_in; decide) dX12_movesTold_60 ?_
  refine W.eq (g2 := F0 m 61 ls [.ref ((v 10) + 1 + 5), .ref a, .ref (v 0), .int 0, .ref ((v 10) + 1 + 5)]) rfl ?_
  refine lv_iload hx hb dX12_movesTold_61 (lv_at hl 0 rfl) ?_
  refine va_iald hx hb hG.1 hP 6 0 rfl rfl (by unfold vp_in; decide) dX12_movesTold_63 ?_
  refine lv_topi (fun x35 ex35 => ?_)
  obtain rfl : x35 = 0 := ex35.trans (rfl)
  refine lv_iload_n hx hb dX12_movesTold_64 rfl (lv_at hl 4 rfl) ?_
  refine k_cali [0, 1, 2, 3, 4, 5, 6, 7, 8, 9, 10, 11, 12, 13, 14, 15, 16, 17, 18, 19, 20, 21, 22, 23, 24, 25, 26, 27, 28, 29, 30, 31, 32, 33, 34, 35, 36, 37] (⟨hP, hD, hG, hS, hA, rfl, rfl⟩ : kAt D cy sa A s H _ _ [((v 0), .inr (13, [.int 0, .int 0, .int 0, .int (-1), .int 0, .int 0, .int 0, .int 0, .ref (v 1), .ref (v 2), .ref (v 3), .ref (v 4), .ref (v 5), .ref (v 6), .ref (v 7), .ref (v 8), .ref (v 9), .int 0, .int 0, .int 0, .int 0, .int 0, .int 0, .int 0, .int 0, .int 0, .ref (v 10), .ref (v 11), .ref (v 12), .ref (v 13), .int 54, .ref (v 14), .ref (v 15), .ref (v 16), .ref (v 17), .ref (v 18), .int 0, .int 0, .int 0, .ref (v 19), .ref (v 20), .ref (v 21), .ref (v 22), .ref (v 23), .int 0, .int 0, .int 0, .int 0])), (a, .inl (cy 0, 120, .inl (fun _ => 0)))] [38, 39]) (wr := (toldW cy v ++ [])) rfl rfl (by decide) (k_runV 13 38 (As := [.ref a, .int 0, .int b]) (rest := [.int 0, .ref ((v 10) + 1 + 5)]) E lk_VRX12_251 rfl rfl rfl (m_moves l hl0 D cy sa v a 0 54 (by unfold vp_in; decide) b H.size) (⟨hP, hD, hG, hS, hA, rfl, rfl⟩ : kAt D cy sa A s H _ _ [((v 0), .inr (13, [.int 0, .int 0, .int 0, .int (-1), .int 0, .int 0, .int 0, .int 0, .ref (v 1), .ref (v 2), .ref (v 3), .ref (v 4), .ref (v 5), .ref (v 6), .ref (v 7), .ref (v 8), .ref (v 9), .int 0, .int 0, .int 0, .int 0, .int 0, .int 0, .int 0, .int 0, .int 0, .ref (v 10), .ref (v 11), .ref (v 12), .ref (v 13), .int 54, .ref (v 14), .ref (v 15), .ref (v 16), .ref (v 17), .ref (v 18), .int 0, .int 0, .int 0, .ref (v 19), .ref (v 20), .ref (v 21), .ref (v 22), .ref (v 23), .int 0, .int 0, .int 0, .int 0])), (a, .inl (cy 0, 120, .inl (fun _ => 0)))] [38, 39]) hl.1 rfl rfl ⟨rfl, rfl, ⟨Nat.le_of_ble_eq_true rfl, Nat.le_of_ble_eq_true rfl⟩, ⟨Nat.le_of_ble_eq_true rfl, Nat.le_of_ble_eq_true rfl⟩, Nat.le_of_ble_eq_true rfl⟩ dX12_movesTold_65) (fun r36 u37 H locs hwu37 hP hD hS => ?_)
  have hP : va_P D vwCl (toldW cy v ++ [((v 0), .inr (13, [.int 0, .int 0, .int 0, .int (-1), .int 0, .int 0, .int 0, .int 0, .ref (v 1), .ref (v 2), .ref (v 3), .ref (v 4), .ref (v 5), .ref (v 6), .ref (v 7), .ref (v 8), .ref (v 9), .int 0, .int 0, .int 0, .int 0, .int 0, .int 0, .int 0, .int 0, .int 0, .ref (v 10), .ref (v 11), .ref (v 12), .ref (v 13), .int 55, .ref (v 14), .ref (v 15), .ref (v 16), .ref (v 17), .ref (v 18), .int 0, .int 0, .int 0, .ref (v 19), .ref (v 20), .ref (v 21), .ref (v 22), .ref (v 23), .int 0, .int 0, .int 0, .int 0])), (a, .inl (cy 0, 120, .inl (fun _ => 0)))]) H := hP
  have hD : va_D A (toldW cy v ++ [((v 0), .inr (13, [.int 0, .int 0, .int 0, .int (-1), .int 0, .int 0, .int 0, .int 0, .ref (v 1), .ref (v 2), .ref (v 3), .ref (v 4), .ref (v 5), .ref (v 6), .ref (v 7), .ref (v 8), .ref (v 9), .int 0, .int 0, .int 0, .int 0, .int 0, .int 0, .int 0, .int 0, .int 0, .ref (v 10), .ref (v 11), .ref (v 12), .ref (v 13), .int 55, .ref (v 14), .ref (v 15), .ref (v 16), .ref (v 17), .ref (v 18), .int 0, .int 0, .int 0, .ref (v 19), .ref (v 20), .ref (v 21), .ref (v 22), .ref (v 23), .int 0, .int 0, .int 0, .int 0])), (a, .inl (cy 0, 120, .inl (fun _ => 0)))]) := hD
  obtain rfl : r36 = 0 := hwu37
  refine k_iast0 hx hb hG.1 hP hD hS 6 0 rfl rfl (by unfold vp_in; decide) dX12_movesTold_68 (fun H locs hP hD hS => ?_)
  refine lv_iinc (v := 1) (lv' := [(4, .int 1), (3, .int 5), (0, .ref (v 0)), (1, .ref a), (2, .int b)]) hx hb dX12_movesTold_69 hl (k := 0) rfl (by decide) (by decide) rfl (fun ls hl => ?_)
  refine lv_goto (tgt := 39) hx hb dX12_movesTold_72 (by decide) ?_
  refine lv_iload hx hb dX12_movesTold_39 (lv_at hl 0 rfl) ?_
  refine lv_iconst (v := 2) hx hb dX12_movesTold_41 (by decide) ?_
  refine lv_icmp_ge (tgt := 75) hx hb dX12_movesTold_42 (by decide) (fun h => absurd h (by decide)) (fun _ => ?_)
  refine lv_aload_n hx hb dX12_movesTold_45 rfl (lv_at hl 2 rfl) ?_
  refine va_get (D := D) (ci := 13) (v := .ref (v 10)) (C := RX12) (T := TX12) (N := 48) hx hb hts kin_RX12 hown hG.1 hP 38 rfl rfl 26 (by decide) (hts _ wm_1545) (fun _ h9 => h9) rfl dX12_movesTold_46 ?_
  refine lv_iload_n hx hb dX12_movesTold_49 rfl (lv_at hl 1 rfl) ?_
  refine k_aldA hx hb hG.1 hP 0 rfl (by unfold vp_in; decide) dX12_movesTold_50 ?_
  refine W.eq (g2 := F0 m 51 ls [.ref ((v 10) + 1 + 5)]) rfl ?_
  refine lv_iload hx hb dX12_movesTold_51 (lv_at hl 0 rfl) ?_
  refine lv_aload_n hx hb dX12_movesTold_53 rfl (lv_at hl 2 rfl) ?_
  refine lv_aload_n hx hb dX12_movesTold_54 rfl (lv_at hl 3 rfl) ?_
  refine lv_aload_n hx hb dX12_movesTold_55 rfl (lv_at hl 2 rfl) ?_
  refine va_get (D := D) (ci := 13) (v := .ref (v 10)) (C := RX12) (T := TX12) (N := 48) hx hb hts kin_RX12 hown hG.1 hP 38 rfl rfl 26 (by decide) (hts _ wm_1545) (fun _ h9 => h9) rfl dX12_movesTold_56 ?_
  refine lv_iload_n hx hb dX12_movesTold_59 rfl (lv_at hl 1 rfl) ?_
  refine k_aldA hx hb hG.1 hP 0 rfl (by unfold vp_in; decide) dX12_movesTold_60 ?_
  refine W.eq (g2 := F0 m 61 ls [.ref ((v 10) + 1 + 5), .ref a, .ref (v 0), .int 1, .ref ((v 10) + 1 + 5)]) rfl ?_
  refine lv_iload hx hb dX12_movesTold_61 (lv_at hl 0 rfl) ?_
  refine va_iald hx hb hG.1 hP 6 0 rfl rfl (by unfold vp_in; decide) dX12_movesTold_63 ?_
  refine lv_topi (fun x38 ex38 => ?_)
  obtain rfl : x38 = 0 := ex38.trans (rfl)
  refine lv_iload_n hx hb dX12_movesTold_64 rfl (lv_at hl 4 rfl) ?_
  refine k_cali [0, 1, 2, 3, 4, 5, 6, 7, 8, 9, 10, 11, 12, 13, 14, 15, 16, 17, 18, 19, 20, 21, 22, 23, 24, 25, 26, 27, 28, 29, 30, 31, 32, 33, 34, 35, 36, 37] (⟨hP, hD, hG, hS, hA, rfl, rfl⟩ : kAt D cy sa A s H _ _ [((v 0), .inr (13, [.int 0, .int 0, .int 0, .int (-1), .int 0, .int 0, .int 0, .int 0, .ref (v 1), .ref (v 2), .ref (v 3), .ref (v 4), .ref (v 5), .ref (v 6), .ref (v 7), .ref (v 8), .ref (v 9), .int 0, .int 0, .int 0, .int 0, .int 0, .int 0, .int 0, .int 0, .int 0, .ref (v 10), .ref (v 11), .ref (v 12), .ref (v 13), .int 55, .ref (v 14), .ref (v 15), .ref (v 16), .ref (v 17), .ref (v 18), .int 0, .int 0, .int 0, .ref (v 19), .ref (v 20), .ref (v 21), .ref (v 22), .ref (v 23), .int 0, .int 0, .int 0, .int 0])), (a, .inl (cy 0, 120, .inl (fun _ => 0)))] [38, 39]) (wr := (toldW cy v ++ [])) rfl rfl (by decide) (k_runV 13 38 (As := [.ref a, .int 0, .int b]) (rest := [.int 1, .ref ((v 10) + 1 + 5)]) E lk_VRX12_251 rfl rfl rfl (m_moves l hl0 D cy sa v a 0 55 (by unfold vp_in; decide) b H.size) (⟨hP, hD, hG, hS, hA, rfl, rfl⟩ : kAt D cy sa A s H _ _ [((v 0), .inr (13, [.int 0, .int 0, .int 0, .int (-1), .int 0, .int 0, .int 0, .int 0, .ref (v 1), .ref (v 2), .ref (v 3), .ref (v 4), .ref (v 5), .ref (v 6), .ref (v 7), .ref (v 8), .ref (v 9), .int 0, .int 0, .int 0, .int 0, .int 0, .int 0, .int 0, .int 0, .int 0, .ref (v 10), .ref (v 11), .ref (v 12), .ref (v 13), .int 55, .ref (v 14), .ref (v 15), .ref (v 16), .ref (v 17), .ref (v 18), .int 0, .int 0, .int 0, .ref (v 19), .ref (v 20), .ref (v 21), .ref (v 22), .ref (v 23), .int 0, .int 0, .int 0, .int 0])), (a, .inl (cy 0, 120, .inl (fun _ => 0)))] [38, 39]) hl.1 rfl rfl ⟨rfl, rfl, ⟨Nat.le_of_ble_eq_true rfl, Nat.le_of_ble_eq_true rfl⟩, ⟨Nat.le_of_ble_eq_true rfl, Nat.le_of_ble_eq_true rfl⟩, Nat.le_of_ble_eq_true rfl⟩ dX12_movesTold_65) (fun r39 u40 H locs hwu40 hP hD hS => ?_)
  have hP : va_P D vwCl (toldW cy v ++ [((v 0), .inr (13, [.int 0, .int 0, .int 0, .int (-1), .int 0, .int 0, .int 0, .int 0, .ref (v 1), .ref (v 2), .ref (v 3), .ref (v 4), .ref (v 5), .ref (v 6), .ref (v 7), .ref (v 8), .ref (v 9), .int 0, .int 0, .int 0, .int 0, .int 0, .int 0, .int 0, .int 0, .int 0, .ref (v 10), .ref (v 11), .ref (v 12), .ref (v 13), .int 56, .ref (v 14), .ref (v 15), .ref (v 16), .ref (v 17), .ref (v 18), .int 0, .int 0, .int 0, .ref (v 19), .ref (v 20), .ref (v 21), .ref (v 22), .ref (v 23), .int 0, .int 0, .int 0, .int 0])), (a, .inl (cy 0, 120, .inl (fun _ => 0)))]) H := hP
  have hD : va_D A (toldW cy v ++ [((v 0), .inr (13, [.int 0, .int 0, .int 0, .int (-1), .int 0, .int 0, .int 0, .int 0, .ref (v 1), .ref (v 2), .ref (v 3), .ref (v 4), .ref (v 5), .ref (v 6), .ref (v 7), .ref (v 8), .ref (v 9), .int 0, .int 0, .int 0, .int 0, .int 0, .int 0, .int 0, .int 0, .int 0, .ref (v 10), .ref (v 11), .ref (v 12), .ref (v 13), .int 56, .ref (v 14), .ref (v 15), .ref (v 16), .ref (v 17), .ref (v 18), .int 0, .int 0, .int 0, .ref (v 19), .ref (v 20), .ref (v 21), .ref (v 22), .ref (v 23), .int 0, .int 0, .int 0, .int 0])), (a, .inl (cy 0, 120, .inl (fun _ => 0)))]) := hD
  obtain rfl : r39 = 0 := hwu40
  refine k_iast0 hx hb hG.1 hP hD hS 6 0 rfl rfl (by unfold vp_in; decide) dX12_movesTold_68 (fun H locs hP hD hS => ?_)
  refine lv_iinc (v := 2) (lv' := [(4, .int 2), (3, .int 5), (0, .ref (v 0)), (1, .ref a), (2, .int b)]) hx hb dX12_movesTold_69 hl (k := 0) rfl (by decide) (by decide) rfl (fun ls hl => ?_)
  refine lv_goto (tgt := 39) hx hb dX12_movesTold_72 (by decide) ?_
  refine lv_iload hx hb dX12_movesTold_39 (lv_at hl 0 rfl) ?_
  refine lv_iconst (v := 2) hx hb dX12_movesTold_41 (by decide) ?_
  refine lv_icmp_ge (tgt := 75) hx hb dX12_movesTold_42 (by decide) (fun _ => ?_) (fun h => absurd (by decide) h)
  refine lv_iinc (v := 6) (lv' := [(3, .int 6), (4, .int 2), (0, .ref (v 0)), (1, .ref a), (2, .int b)]) hx hb dX12_movesTold_75 hl (k := 1) rfl (by decide) (by decide) rfl (fun ls hl => ?_)
  refine lv_goto (tgt := 30) hx hb dX12_movesTold_78 (by decide) ?_
  refine lv_iload_n hx hb dX12_movesTold_30 rfl (lv_at hl 0 rfl) ?_
  refine lv_bipush (v := 30) hx hb dX12_movesTold_31 (by decide) ?_
  refine lv_icmp_ge (tgt := 81) hx hb dX12_movesTold_33 (by decide) (fun h => absurd h (by decide)) (fun _ => ?_)
  refine lv_iconst (v := 0) hx hb dX12_movesTold_36 (by decide) ?_
  refine lv_istore (lv' := [(4, .int 0), (3, .int 6), (0, .ref (v 0)), (1, .ref a), (2, .int b)]) hx hb dX12_movesTold_37 hl (by decide) rfl (fun ls hl => ?_)
  refine lv_iload hx hb dX12_movesTold_39 (lv_at hl 0 rfl) ?_
  refine lv_iconst (v := 2) hx hb dX12_movesTold_41 (by decide) ?_
  refine lv_icmp_ge (tgt := 75) hx hb dX12_movesTold_42 (by decide) (fun h => absurd h (by decide)) (fun _ => ?_)
  refine lv_aload_n hx hb dX12_movesTold_45 rfl (lv_at hl 2 rfl) ?_
  refine va_get (D := D) (ci := 13) (v := .ref (v 10)) (C := RX12) (T := TX12) (N := 48) hx hb hts kin_RX12 hown hG.1 hP 38 rfl rfl 26 (by decide) (hts _ wm_1545) (fun _ h9 => h9) rfl dX12_movesTold_46 ?_
  refine lv_iload_n hx hb dX12_movesTold_49 rfl (lv_at hl 1 rfl) ?_
  refine k_aldA hx hb hG.1 hP 0 rfl (by unfold vp_in; decide) dX12_movesTold_50 ?_
  refine W.eq (g2 := F0 m 51 ls [.ref ((v 10) + 1 + 6)]) rfl ?_
  refine lv_iload hx hb dX12_movesTold_51 (lv_at hl 0 rfl) ?_
  refine lv_aload_n hx hb dX12_movesTold_53 rfl (lv_at hl 2 rfl) ?_
  refine lv_aload_n hx hb dX12_movesTold_54 rfl (lv_at hl 3 rfl) ?_
  refine lv_aload_n hx hb dX12_movesTold_55 rfl (lv_at hl 2 rfl) ?_
  refine va_get (D := D) (ci := 13) (v := .ref (v 10)) (C := RX12) (T := TX12) (N := 48) hx hb hts kin_RX12 hown hG.1 hP 38 rfl rfl 26 (by decide) (hts _ wm_1545) (fun _ h9 => h9) rfl dX12_movesTold_56 ?_
  refine lv_iload_n hx hb dX12_movesTold_59 rfl (lv_at hl 1 rfl) ?_
  refine k_aldA hx hb hG.1 hP 0 rfl (by unfold vp_in; decide) dX12_movesTold_60 ?_
  refine W.eq (g2 := F0 m 61 ls [.ref ((v 10) + 1 + 6), .ref a, .ref (v 0), .int 0, .ref ((v 10) + 1 + 6)]) rfl ?_
  refine lv_iload hx hb dX12_movesTold_61 (lv_at hl 0 rfl) ?_
  refine va_iald hx hb hG.1 hP 7 0 rfl rfl (by unfold vp_in; decide) dX12_movesTold_63 ?_
  refine lv_topi (fun x41 ex41 => ?_)
  obtain rfl : x41 = 0 := ex41.trans (rfl)
  refine lv_iload_n hx hb dX12_movesTold_64 rfl (lv_at hl 4 rfl) ?_
  refine k_cali [0, 1, 2, 3, 4, 5, 6, 7, 8, 9, 10, 11, 12, 13, 14, 15, 16, 17, 18, 19, 20, 21, 22, 23, 24, 25, 26, 27, 28, 29, 30, 31, 32, 33, 34, 35, 36, 37] (⟨hP, hD, hG, hS, hA, rfl, rfl⟩ : kAt D cy sa A s H _ _ [((v 0), .inr (13, [.int 0, .int 0, .int 0, .int (-1), .int 0, .int 0, .int 0, .int 0, .ref (v 1), .ref (v 2), .ref (v 3), .ref (v 4), .ref (v 5), .ref (v 6), .ref (v 7), .ref (v 8), .ref (v 9), .int 0, .int 0, .int 0, .int 0, .int 0, .int 0, .int 0, .int 0, .int 0, .ref (v 10), .ref (v 11), .ref (v 12), .ref (v 13), .int 56, .ref (v 14), .ref (v 15), .ref (v 16), .ref (v 17), .ref (v 18), .int 0, .int 0, .int 0, .ref (v 19), .ref (v 20), .ref (v 21), .ref (v 22), .ref (v 23), .int 0, .int 0, .int 0, .int 0])), (a, .inl (cy 0, 120, .inl (fun _ => 0)))] [38, 39]) (wr := (toldW cy v ++ [])) rfl rfl (by decide) (k_runV 13 38 (As := [.ref a, .int 0, .int b]) (rest := [.int 0, .ref ((v 10) + 1 + 6)]) E lk_VRX12_251 rfl rfl rfl (m_moves l hl0 D cy sa v a 0 56 (by unfold vp_in; decide) b H.size) (⟨hP, hD, hG, hS, hA, rfl, rfl⟩ : kAt D cy sa A s H _ _ [((v 0), .inr (13, [.int 0, .int 0, .int 0, .int (-1), .int 0, .int 0, .int 0, .int 0, .ref (v 1), .ref (v 2), .ref (v 3), .ref (v 4), .ref (v 5), .ref (v 6), .ref (v 7), .ref (v 8), .ref (v 9), .int 0, .int 0, .int 0, .int 0, .int 0, .int 0, .int 0, .int 0, .int 0, .ref (v 10), .ref (v 11), .ref (v 12), .ref (v 13), .int 56, .ref (v 14), .ref (v 15), .ref (v 16), .ref (v 17), .ref (v 18), .int 0, .int 0, .int 0, .ref (v 19), .ref (v 20), .ref (v 21), .ref (v 22), .ref (v 23), .int 0, .int 0, .int 0, .int 0])), (a, .inl (cy 0, 120, .inl (fun _ => 0)))] [38, 39]) hl.1 rfl rfl ⟨rfl, rfl, ⟨Nat.le_of_ble_eq_true rfl, Nat.le_of_ble_eq_true rfl⟩, ⟨Nat.le_of_ble_eq_true rfl, Nat.le_of_ble_eq_true rfl⟩, Nat.le_of_ble_eq_true rfl⟩ dX12_movesTold_65) (fun r42 u43 H locs hwu43 hP hD hS => ?_)
  have hP : va_P D vwCl (toldW cy v ++ [((v 0), .inr (13, [.int 0, .int 0, .int 0, .int (-1), .int 0, .int 0, .int 0, .int 0, .ref (v 1), .ref (v 2), .ref (v 3), .ref (v 4), .ref (v 5), .ref (v 6), .ref (v 7), .ref (v 8), .ref (v 9), .int 0, .int 0, .int 0, .int 0, .int 0, .int 0, .int 0, .int 0, .int 0, .ref (v 10), .ref (v 11), .ref (v 12), .ref (v 13), .int 57, .ref (v 14), .ref (v 15), .ref (v 16), .ref (v 17), .ref (v 18), .int 0, .int 0, .int 0, .ref (v 19), .ref (v 20), .ref (v 21), .ref (v 22), .ref (v 23), .int 0, .int 0, .int 0, .int 0])), (a, .inl (cy 0, 120, .inl (fun _ => 0)))]) H := hP
  have hD : va_D A (toldW cy v ++ [((v 0), .inr (13, [.int 0, .int 0, .int 0, .int (-1), .int 0, .int 0, .int 0, .int 0, .ref (v 1), .ref (v 2), .ref (v 3), .ref (v 4), .ref (v 5), .ref (v 6), .ref (v 7), .ref (v 8), .ref (v 9), .int 0, .int 0, .int 0, .int 0, .int 0, .int 0, .int 0, .int 0, .int 0, .ref (v 10), .ref (v 11), .ref (v 12), .ref (v 13), .int 57, .ref (v 14), .ref (v 15), .ref (v 16), .ref (v 17), .ref (v 18), .int 0, .int 0, .int 0, .ref (v 19), .ref (v 20), .ref (v 21), .ref (v 22), .ref (v 23), .int 0, .int 0, .int 0, .int 0])), (a, .inl (cy 0, 120, .inl (fun _ => 0)))]) := hD
  obtain rfl : r42 = 0 := hwu43
  refine k_iast0 hx hb hG.1 hP hD hS 7 0 rfl rfl (by unfold vp_in; decide) dX12_movesTold_68 (fun H locs hP hD hS => ?_)
  refine lv_iinc (v := 1) (lv' := [(4, .int 1), (3, .int 6), (0, .ref (v 0)), (1, .ref a), (2, .int b)]) hx hb dX12_movesTold_69 hl (k := 0) rfl (by decide) (by decide) rfl (fun ls hl => ?_)
  refine lv_goto (tgt := 39) hx hb dX12_movesTold_72 (by decide) ?_
  refine lv_iload hx hb dX12_movesTold_39 (lv_at hl 0 rfl) ?_
  refine lv_iconst (v := 2) hx hb dX12_movesTold_41 (by decide) ?_
  refine lv_icmp_ge (tgt := 75) hx hb dX12_movesTold_42 (by decide) (fun h => absurd h (by decide)) (fun _ => ?_)
  refine lv_aload_n hx hb dX12_movesTold_45 rfl (lv_at hl 2 rfl) ?_
  refine va_get (D := D) (ci := 13) (v := .ref (v 10)) (C := RX12) (T := TX12) (N := 48) hx hb hts kin_RX12 hown hG.1 hP 38 rfl rfl 26 (by decide) (hts _ wm_1545) (fun _ h9 => h9) rfl dX12_movesTold_46 ?_
  refine lv_iload_n hx hb dX12_movesTold_49 rfl (lv_at hl 1 rfl) ?_
  refine k_aldA hx hb hG.1 hP 0 rfl (by unfold vp_in; decide) dX12_movesTold_50 ?_
  refine W.eq (g2 := F0 m 51 ls [.ref ((v 10) + 1 + 6)]) rfl ?_
  refine lv_iload hx hb dX12_movesTold_51 (lv_at hl 0 rfl) ?_
  refine lv_aload_n hx hb dX12_movesTold_53 rfl (lv_at hl 2 rfl) ?_
  refine lv_aload_n hx hb dX12_movesTold_54 rfl (lv_at hl 3 rfl) ?_
  refine lv_aload_n hx hb dX12_movesTold_55 rfl (lv_at hl 2 rfl) ?_
  refine va_get (D := D) (ci := 13) (v := .ref (v 10)) (C := RX12) (T := TX12) (N := 48) hx hb hts kin_RX12 hown hG.1 hP 38 rfl rfl 26 (by decide) (hts _ wm_1545) (fun _ h9 => h9) rfl dX12_movesTold_56 ?_
  refine lv_iload_n hx hb dX12_movesTold_59 rfl (lv_at hl 1 rfl) ?_
  refine k_aldA hx hb hG.1 hP 0 rfl (by unfold vp_in; decide) dX12_movesTold_60 ?_
  refine W.eq (g2 := F0 m 61 ls [.ref ((v 10) + 1 + 6), .ref a, .ref (v 0), .int 1, .ref ((v 10) + 1 + 6)]) rfl ?_
  refine lv_iload hx hb dX12_movesTold_61 (lv_at hl 0 rfl) ?_
  refine va_iald hx hb hG.1 hP 7 0 rfl rfl (by unfold vp_in; decide) dX12_movesTold_63 ?_
  refine lv_topi (fun x44 ex44 => ?_)
  obtain rfl : x44 = 0 := ex44.trans (rfl)
  refine lv_iload_n hx hb dX12_movesTold_64 rfl (lv_at hl 4 rfl) ?_
  refine k_cali [0, 1, 2, 3, 4, 5, 6, 7, 8, 9, 10, 11, 12, 13, 14, 15, 16, 17, 18, 19, 20, 21, 22, 23, 24, 25, 26, 27, 28, 29, 30, 31, 32, 33, 34, 35, 36, 37] (⟨hP, hD, hG, hS, hA, rfl, rfl⟩ : kAt D cy sa A s H _ _ [((v 0), .inr (13, [.int 0, .int 0, .int 0, .int (-1), .int 0, .int 0, .int 0, .int 0, .ref (v 1), .ref (v 2), .ref (v 3), .ref (v 4), .ref (v 5), .ref (v 6), .ref (v 7), .ref (v 8), .ref (v 9), .int 0, .int 0, .int 0, .int 0, .int 0, .int 0, .int 0, .int 0, .int 0, .ref (v 10), .ref (v 11), .ref (v 12), .ref (v 13), .int 57, .ref (v 14), .ref (v 15), .ref (v 16), .ref (v 17), .ref (v 18), .int 0, .int 0, .int 0, .ref (v 19), .ref (v 20), .ref (v 21), .ref (v 22), .ref (v 23), .int 0, .int 0, .int 0, .int 0])), (a, .inl (cy 0, 120, .inl (fun _ => 0)))] [38, 39]) (wr := (toldW cy v ++ [])) rfl rfl (by decide) (k_runV 13 38 (As := [.ref a, .int 0, .int b]) (rest := [.int 1, .ref ((v 10) + 1 + 6)]) E lk_VRX12_251 rfl rfl rfl (m_moves l hl0 D cy sa v a 0 57 (by unfold vp_in; decide) b H.size) (⟨hP, hD, hG, hS, hA, rfl, rfl⟩ : kAt D cy sa A s H _ _ [((v 0), .inr (13, [.int 0, .int 0, .int 0, .int (-1), .int 0, .int 0, .int 0, .int 0, .ref (v 1), .ref (v 2), .ref (v 3), .ref (v 4), .ref (v 5), .ref (v 6), .ref (v 7), .ref (v 8), .ref (v 9), .int 0, .int 0, .int 0, .int 0, .int 0, .int 0, .int 0, .int 0, .int 0, .ref (v 10), .ref (v 11), .ref (v 12), .ref (v 13), .int 57, .ref (v 14), .ref (v 15), .ref (v 16), .ref (v 17), .ref (v 18), .int 0, .int 0, .int 0, .ref (v 19), .ref (v 20), .ref (v 21), .ref (v 22), .ref (v 23), .int 0, .int 0, .int 0, .int 0])), (a, .inl (cy 0, 120, .inl (fun _ => 0)))] [38, 39]) hl.1 rfl rfl ⟨rfl, rfl, ⟨Nat.le_of_ble_eq_true rfl, Nat.le_of_ble_eq_true rfl⟩, ⟨Nat.le_of_ble_eq_true rfl, Nat.le_of_ble_eq_true rfl⟩, Nat.le_of_ble_eq_true rfl⟩ dX12_movesTold_65) (fun r45 u46 H locs hwu46 hP hD hS => ?_)
  have hP : va_P D vwCl (toldW cy v ++ [((v 0), .inr (13, [.int 0, .int 0, .int 0, .int (-1), .int 0, .int 0, .int 0, .int 0, .ref (v 1), .ref (v 2), .ref (v 3), .ref (v 4), .ref (v 5), .ref (v 6), .ref (v 7), .ref (v 8), .ref (v 9), .int 0, .int 0, .int 0, .int 0, .int 0, .int 0, .int 0, .int 0, .int 0, .ref (v 10), .ref (v 11), .ref (v 12), .ref (v 13), .int 58, .ref (v 14), .ref (v 15), .ref (v 16), .ref (v 17), .ref (v 18), .int 0, .int 0, .int 0, .ref (v 19), .ref (v 20), .ref (v 21), .ref (v 22), .ref (v 23), .int 0, .int 0, .int 0, .int 0])), (a, .inl (cy 0, 120, .inl (fun _ => 0)))]) H := hP
  have hD : va_D A (toldW cy v ++ [((v 0), .inr (13, [.int 0, .int 0, .int 0, .int (-1), .int 0, .int 0, .int 0, .int 0, .ref (v 1), .ref (v 2), .ref (v 3), .ref (v 4), .ref (v 5), .ref (v 6), .ref (v 7), .ref (v 8), .ref (v 9), .int 0, .int 0, .int 0, .int 0, .int 0, .int 0, .int 0, .int 0, .int 0, .ref (v 10), .ref (v 11), .ref (v 12), .ref (v 13), .int 58, .ref (v 14), .ref (v 15), .ref (v 16), .ref (v 17), .ref (v 18), .int 0, .int 0, .int 0, .ref (v 19), .ref (v 20), .ref (v 21), .ref (v 22), .ref (v 23), .int 0, .int 0, .int 0, .int 0])), (a, .inl (cy 0, 120, .inl (fun _ => 0)))]) := hD
  obtain rfl : r45 = 0 := hwu46
  refine k_iast0 hx hb hG.1 hP hD hS 7 0 rfl rfl (by unfold vp_in; decide) dX12_movesTold_68 (fun H locs hP hD hS => ?_)
  refine lv_iinc (v := 2) (lv' := [(4, .int 2), (3, .int 6), (0, .ref (v 0)), (1, .ref a), (2, .int b)]) hx hb dX12_movesTold_69 hl (k := 0) rfl (by decide) (by decide) rfl (fun ls hl => ?_)
  refine lv_goto (tgt := 39) hx hb dX12_movesTold_72 (by decide) ?_
  refine lv_iload hx hb dX12_movesTold_39 (lv_at hl 0 rfl) ?_
  refine lv_iconst (v := 2) hx hb dX12_movesTold_41 (by decide) ?_
  refine lv_icmp_ge (tgt := 75) hx hb dX12_movesTold_42 (by decide) (fun _ => ?_) (fun h => absurd (by decide) h)
  refine lv_iinc (v := 7) (lv' := [(3, .int 7), (4, .int 2), (0, .ref (v 0)), (1, .ref a), (2, .int b)]) hx hb dX12_movesTold_75 hl (k := 1) rfl (by decide) (by decide) rfl (fun ls hl => ?_)
  refine lv_goto (tgt := 30) hx hb dX12_movesTold_78 (by decide) ?_
  refine lv_iload_n hx hb dX12_movesTold_30 rfl (lv_at hl 0 rfl) ?_
  refine lv_bipush (v := 30) hx hb dX12_movesTold_31 (by decide) ?_
  refine lv_icmp_ge (tgt := 81) hx hb dX12_movesTold_33 (by decide) (fun h => absurd h (by decide)) (fun _ => ?_)
  refine lv_iconst (v := 0) hx hb dX12_movesTold_36 (by decide) ?_
  refine lv_istore (lv' := [(4, .int 0), (3, .int 7), (0, .ref (v 0)), (1, .ref a), (2, .int b)]) hx hb dX12_movesTold_37 hl (by decide) rfl (fun ls hl => ?_)
  refine lv_iload hx hb dX12_movesTold_39 (lv_at hl 0 rfl) ?_
  refine lv_iconst (v := 2) hx hb dX12_movesTold_41 (by decide) ?_
  refine lv_icmp_ge (tgt := 75) hx hb dX12_movesTold_42 (by decide) (fun h => absurd h (by decide)) (fun _ => ?_)
  refine lv_aload_n hx hb dX12_movesTold_45 rfl (lv_at hl 2 rfl) ?_
  refine va_get (D := D) (ci := 13) (v := .ref (v 10)) (C := RX12) (T := TX12) (N := 48) hx hb hts kin_RX12 hown hG.1 hP 38 rfl rfl 26 (by decide) (hts _ wm_1545) (fun _ h9 => h9) rfl dX12_movesTold_46 ?_
  refine lv_iload_n hx hb dX12_movesTold_49 rfl (lv_at hl 1 rfl) ?_
  refine k_aldA hx hb hG.1 hP 0 rfl (by unfold vp_in; decide) dX12_movesTold_50 ?_
  refine W.eq (g2 := F0 m 51 ls [.ref ((v 10) + 1 + 7)]) rfl ?_
  refine lv_iload hx hb dX12_movesTold_51 (lv_at hl 0 rfl) ?_
  refine lv_aload_n hx hb dX12_movesTold_53 rfl (lv_at hl 2 rfl) ?_
  refine lv_aload_n hx hb dX12_movesTold_54 rfl (lv_at hl 3 rfl) ?_
  refine lv_aload_n hx hb dX12_movesTold_55 rfl (lv_at hl 2 rfl) ?_
  refine va_get (D := D) (ci := 13) (v := .ref (v 10)) (C := RX12) (T := TX12) (N := 48) hx hb hts kin_RX12 hown hG.1 hP 38 rfl rfl 26 (by decide) (hts _ wm_1545) (fun _ h9 => h9) rfl dX12_movesTold_56 ?_
  refine lv_iload_n hx hb dX12_movesTold_59 rfl (lv_at hl 1 rfl) ?_
  refine k_aldA hx hb hG.1 hP 0 rfl (by unfold vp_in; decide) dX12_movesTold_60 ?_
  refine W.eq (g2 := F0 m 61 ls [.ref ((v 10) + 1 + 7), .ref a, .ref (v 0), .int 0, .ref ((v 10) + 1 + 7)]) rfl ?_
  refine lv_iload hx hb dX12_movesTold_61 (lv_at hl 0 rfl) ?_
  refine va_iald hx hb hG.1 hP 8 0 rfl rfl (by unfold vp_in; decide) dX12_movesTold_63 ?_
  refine lv_topi (fun x47 ex47 => ?_)
  obtain rfl : x47 = 0 := ex47.trans (rfl)
  refine lv_iload_n hx hb dX12_movesTold_64 rfl (lv_at hl 4 rfl) ?_
  refine k_cali [0, 1, 2, 3, 4, 5, 6, 7, 8, 9, 10, 11, 12, 13, 14, 15, 16, 17, 18, 19, 20, 21, 22, 23, 24, 25, 26, 27, 28, 29, 30, 31, 32, 33, 34, 35, 36, 37] (⟨hP, hD, hG, hS, hA, rfl, rfl⟩ : kAt D cy sa A s H _ _ [((v 0), .inr (13, [.int 0, .int 0, .int 0, .int (-1), .int 0, .int 0, .int 0, .int 0, .ref (v 1), .ref (v 2), .ref (v 3), .ref (v 4), .ref (v 5), .ref (v 6), .ref (v 7), .ref (v 8), .ref (v 9), .int 0, .int 0, .int 0, .int 0, .int 0, .int 0, .int 0, .int 0, .int 0, .ref (v 10), .ref (v 11), .ref (v 12), .ref (v 13), .int 58, .ref (v 14), .ref (v 15), .ref (v 16), .ref (v 17), .ref (v 18), .int 0, .int 0, .int 0, .ref (v 19), .ref (v 20), .ref (v 21), .ref (v 22), .ref (v 23), .int 0, .int 0, .int 0, .int 0])), (a, .inl (cy 0, 120, .inl (fun _ => 0)))] [38, 39]) (wr := (toldW cy v ++ [])) rfl rfl (by decide) (k_runV 13 38 (As := [.ref a, .int 0, .int b]) (rest := [.int 0, .ref ((v 10) + 1 + 7)]) E lk_VRX12_251 rfl rfl rfl (m_moves l hl0 D cy sa v a 0 58 (by unfold vp_in; decide) b H.size) (⟨hP, hD, hG, hS, hA, rfl, rfl⟩ : kAt D cy sa A s H _ _ [((v 0), .inr (13, [.int 0, .int 0, .int 0, .int (-1), .int 0, .int 0, .int 0, .int 0, .ref (v 1), .ref (v 2), .ref (v 3), .ref (v 4), .ref (v 5), .ref (v 6), .ref (v 7), .ref (v 8), .ref (v 9), .int 0, .int 0, .int 0, .int 0, .int 0, .int 0, .int 0, .int 0, .int 0, .ref (v 10), .ref (v 11), .ref (v 12), .ref (v 13), .int 58, .ref (v 14), .ref (v 15), .ref (v 16), .ref (v 17), .ref (v 18), .int 0, .int 0, .int 0, .ref (v 19), .ref (v 20), .ref (v 21), .ref (v 22), .ref (v 23), .int 0, .int 0, .int 0, .int 0])), (a, .inl (cy 0, 120, .inl (fun _ => 0)))] [38, 39]) hl.1 rfl rfl ⟨rfl, rfl, ⟨Nat.le_of_ble_eq_true rfl, Nat.le_of_ble_eq_true rfl⟩, ⟨Nat.le_of_ble_eq_true rfl, Nat.le_of_ble_eq_true rfl⟩, Nat.le_of_ble_eq_true rfl⟩ dX12_movesTold_65) (fun r48 u49 H locs hwu49 hP hD hS => ?_)
  have hP : va_P D vwCl (toldW cy v ++ [((v 0), .inr (13, [.int 0, .int 0, .int 0, .int (-1), .int 0, .int 0, .int 0, .int 0, .ref (v 1), .ref (v 2), .ref (v 3), .ref (v 4), .ref (v 5), .ref (v 6), .ref (v 7), .ref (v 8), .ref (v 9), .int 0, .int 0, .int 0, .int 0, .int 0, .int 0, .int 0, .int 0, .int 0, .ref (v 10), .ref (v 11), .ref (v 12), .ref (v 13), .int 59, .ref (v 14), .ref (v 15), .ref (v 16), .ref (v 17), .ref (v 18), .int 0, .int 0, .int 0, .ref (v 19), .ref (v 20), .ref (v 21), .ref (v 22), .ref (v 23), .int 0, .int 0, .int 0, .int 0])), (a, .inl (cy 0, 120, .inl (fun _ => 0)))]) H := hP
  have hD : va_D A (toldW cy v ++ [((v 0), .inr (13, [.int 0, .int 0, .int 0, .int (-1), .int 0, .int 0, .int 0, .int 0, .ref (v 1), .ref (v 2), .ref (v 3), .ref (v 4), .ref (v 5), .ref (v 6), .ref (v 7), .ref (v 8), .ref (v 9), .int 0, .int 0, .int 0, .int 0, .int 0, .int 0, .int 0, .int 0, .int 0, .ref (v 10), .ref (v 11), .ref (v 12), .ref (v 13), .int 59, .ref (v 14), .ref (v 15), .ref (v 16), .ref (v 17), .ref (v 18), .int 0, .int 0, .int 0, .ref (v 19), .ref (v 20), .ref (v 21), .ref (v 22), .ref (v 23), .int 0, .int 0, .int 0, .int 0])), (a, .inl (cy 0, 120, .inl (fun _ => 0)))]) := hD
  obtain rfl : r48 = 0 := hwu49
  refine k_iast0 hx hb hG.1 hP hD hS 8 0 rfl rfl (by unfold vp_in; decide) dX12_movesTold_68 (fun H locs hP hD hS => ?_)
  refine lv_iinc (v := 1) (lv' := [(4, .int 1), (3, .int 7), (0, .ref (v 0)), (1, .ref a), (2, .int b)]) hx hb dX12_movesTold_69 hl (k := 0) rfl (by decide) (by decide) rfl (fun ls hl => ?_)
  refine lv_goto (tgt := 39) hx hb dX12_movesTold_72 (by decide) ?_
  refine lv_iload hx hb dX12_movesTold_39 (lv_at hl 0 rfl) ?_
  refine lv_iconst (v := 2) hx hb dX12_movesTold_41 (by decide) ?_
  refine lv_icmp_ge (tgt := 75) hx hb dX12_movesTold_42 (by decide) (fun h => absurd h (by decide)) (fun _ => ?_)
  refine lv_aload_n hx hb dX12_movesTold_45 rfl (lv_at hl 2 rfl) ?_
  refine va_get (D := D) (ci := 13) (v := .ref (v 10)) (C := RX12) (T := TX12) (N := 48) hx hb hts kin_RX12 hown hG.1 hP 38 rfl rfl 26 (by decide) (hts _ wm_1545) (fun _ h9 => h9) rfl dX12_movesTold_46 ?_
  refine lv_iload_n hx hb dX12_movesTold_49 rfl (lv_at hl 1 rfl) ?_
  refine k_aldA hx hb hG.1 hP 0 rfl (by unfold vp_in; decide) dX12_movesTold_50 ?_
  refine W.eq (g2 := F0 m 51 ls [.ref ((v 10) + 1 + 7)]) rfl ?_
  refine lv_iload hx hb dX12_movesTold_51 (lv_at hl 0 rfl) ?_
  refine lv_aload_n hx hb dX12_movesTold_53 rfl (lv_at hl 2 rfl) ?_
  refine lv_aload_n hx hb dX12_movesTold_54 rfl (lv_at hl 3 rfl) ?_
  refine lv_aload_n hx hb dX12_movesTold_55 rfl (lv_at hl 2 rfl) ?_
  refine va_get (D := D) (ci := 13) (v := .ref (v 10)) (C := RX12) (T := TX12) (N := 48) hx hb hts kin_RX12 hown hG.1 hP 38 rfl rfl 26 (by decide) (hts _ wm_1545) (fun _ h9 => h9) rfl dX12_movesTold_56 ?_
  refine lv_iload_n hx hb dX12_movesTold_59 rfl (lv_at hl 1 rfl) ?_
  refine k_aldA hx hb hG.1 hP 0 rfl (by unfold vp_in; decide) dX12_movesTold_60 ?_
  refine W.eq (g2 := F0 m 61 ls [.ref ((v 10) + 1 + 7), .ref a, .ref (v 0), .int 1, .ref ((v 10) + 1 + 7)]) rfl ?_
  refine lv_iload hx hb dX12_movesTold_61 (lv_at hl 0 rfl) ?_
  refine va_iald hx hb hG.1 hP 8 0 rfl rfl (by unfold vp_in; decide) dX12_movesTold_63 ?_
  refine lv_topi (fun x50 ex50 => ?_)
  obtain rfl : x50 = 0 := ex50.trans (rfl)
  refine lv_iload_n hx hb dX12_movesTold_64 rfl (lv_at hl 4 rfl) ?_
  refine k_cali [0, 1, 2, 3, 4, 5, 6, 7, 8, 9, 10, 11, 12, 13, 14, 15, 16, 17, 18, 19, 20, 21, 22, 23, 24, 25, 26, 27, 28, 29, 30, 31, 32, 33, 34, 35, 36, 37] (⟨hP, hD, hG, hS, hA, rfl, rfl⟩ : kAt D cy sa A s H _ _ [((v 0), .inr (13, [.int 0, .int 0, .int 0, .int (-1), .int 0, .int 0, .int 0, .int 0, .ref (v 1), .ref (v 2), .ref (v 3), .ref (v 4), .ref (v 5), .ref (v 6), .ref (v 7), .ref (v 8), .ref (v 9), .int 0, .int 0, .int 0, .int 0, .int 0, .int 0, .int 0, .int 0, .int 0, .ref (v 10), .ref (v 11), .ref (v 12), .ref (v 13), .int 59, .ref (v 14), .ref (v 15), .ref (v 16), .ref (v 17), .ref (v 18), .int 0, .int 0, .int 0, .ref (v 19), .ref (v 20), .ref (v 21), .ref (v 22), .ref (v 23), .int 0, .int 0, .int 0, .int 0])), (a, .inl (cy 0, 120, .inl (fun _ => 0)))] [38, 39]) (wr := (toldW cy v ++ [])) rfl rfl (by decide) (k_runV 13 38 (As := [.ref a, .int 0, .int b]) (rest := [.int 1, .ref ((v 10) + 1 + 7)]) E lk_VRX12_251 rfl rfl rfl (m_moves l hl0 D cy sa v a 0 59 (by unfold vp_in; decide) b H.size) (⟨hP, hD, hG, hS, hA, rfl, rfl⟩ : kAt D cy sa A s H _ _ [((v 0), .inr (13, [.int 0, .int 0, .int 0, .int (-1), .int 0, .int 0, .int 0, .int 0, .ref (v 1), .ref (v 2), .ref (v 3), .ref (v 4), .ref (v 5), .ref (v 6), .ref (v 7), .ref (v 8), .ref (v 9), .int 0, .int 0, .int 0, .int 0, .int 0, .int 0, .int 0, .int 0, .int 0, .ref (v 10), .ref (v 11), .ref (v 12), .ref (v 13), .int 59, .ref (v 14), .ref (v 15), .ref (v 16), .ref (v 17), .ref (v 18), .int 0, .int 0, .int 0, .ref (v 19), .ref (v 20), .ref (v 21), .ref (v 22), .ref (v 23), .int 0, .int 0, .int 0, .int 0])), (a, .inl (cy 0, 120, .inl (fun _ => 0)))] [38, 39]) hl.1 rfl rfl ⟨rfl, rfl, ⟨Nat.le_of_ble_eq_true rfl, Nat.le_of_ble_eq_true rfl⟩, ⟨Nat.le_of_ble_eq_true rfl, Nat.le_of_ble_eq_true rfl⟩, Nat.le_of_ble_eq_true rfl⟩ dX12_movesTold_65) (fun r51 u52 H locs hwu52 hP hD hS => ?_)
  have hP : va_P D vwCl (toldW cy v ++ [((v 0), .inr (13, [.int 0, .int 0, .int 0, .int (-1), .int 0, .int 0, .int 0, .int 0, .ref (v 1), .ref (v 2), .ref (v 3), .ref (v 4), .ref (v 5), .ref (v 6), .ref (v 7), .ref (v 8), .ref (v 9), .int 0, .int 0, .int 0, .int 0, .int 0, .int 0, .int 0, .int 0, .int 0, .ref (v 10), .ref (v 11), .ref (v 12), .ref (v 13), .int 60, .ref (v 14), .ref (v 15), .ref (v 16), .ref (v 17), .ref (v 18), .int 0, .int 0, .int 0, .ref (v 19), .ref (v 20), .ref (v 21), .ref (v 22), .ref (v 23), .int 0, .int 0, .int 0, .int 0])), (a, .inl (cy 0, 120, .inl (fun _ => 0)))]) H := hP
  have hD : va_D A (toldW cy v ++ [((v 0), .inr (13, [.int 0, .int 0, .int 0, .int (-1), .int 0, .int 0, .int 0, .int 0, .ref (v 1), .ref (v 2), .ref (v 3), .ref (v 4), .ref (v 5), .ref (v 6), .ref (v 7), .ref (v 8), .ref (v 9), .int 0, .int 0, .int 0, .int 0, .int 0, .int 0, .int 0, .int 0, .int 0, .ref (v 10), .ref (v 11), .ref (v 12), .ref (v 13), .int 60, .ref (v 14), .ref (v 15), .ref (v 16), .ref (v 17), .ref (v 18), .int 0, .int 0, .int 0, .ref (v 19), .ref (v 20), .ref (v 21), .ref (v 22), .ref (v 23), .int 0, .int 0, .int 0, .int 0])), (a, .inl (cy 0, 120, .inl (fun _ => 0)))]) := hD
  obtain rfl : r51 = 0 := hwu52
  refine k_iast0 hx hb hG.1 hP hD hS 8 0 rfl rfl (by unfold vp_in; decide) dX12_movesTold_68 (fun H locs hP hD hS => ?_)
  refine lv_iinc (v := 2) (lv' := [(4, .int 2), (3, .int 7), (0, .ref (v 0)), (1, .ref a), (2, .int b)]) hx hb dX12_movesTold_69 hl (k := 0) rfl (by decide) (by decide) rfl (fun ls hl => ?_)
  refine lv_goto (tgt := 39) hx hb dX12_movesTold_72 (by decide) ?_
  refine lv_iload hx hb dX12_movesTold_39 (lv_at hl 0 rfl) ?_
  refine lv_iconst (v := 2) hx hb dX12_movesTold_41 (by decide) ?_
  refine lv_icmp_ge (tgt := 75) hx hb dX12_movesTold_42 (by decide) (fun _ => ?_) (fun h => absurd (by decide) h)
  refine lv_iinc (v := 8) (lv' := [(3, .int 8), (4, .int 2), (0, .ref (v 0)), (1, .ref a), (2, .int b)]) hx hb dX12_movesTold_75 hl (k := 1) rfl (by decide) (by decide) rfl (fun ls hl => ?_)
  refine lv_goto (tgt := 30) hx hb dX12_movesTold_78 (by decide) ?_
  refine lv_iload_n hx hb dX12_movesTold_30 rfl (lv_at hl 0 rfl) ?_
  refine lv_bipush (v := 30) hx hb dX12_movesTold_31 (by decide) ?_
  refine lv_icmp_ge (tgt := 81) hx hb dX12_movesTold_33 (by decide) (fun h => absurd h (by decide)) (fun _ => ?_)
  refine lv_iconst (v := 0) hx hb dX12_movesTold_36 (by decide) ?_
  refine lv_istore (lv' := [(4, .int 0), (3, .int 8), (0, .ref (v 0)), (1, .ref a), (2, .int b)]) hx hb dX12_movesTold_37 hl (by decide) rfl (fun ls hl => ?_)
  refine lv_iload hx hb dX12_movesTold_39 (lv_at hl 0 rfl) ?_
  refine lv_iconst (v := 2) hx hb dX12_movesTold_41 (by decide) ?_
  refine lv_icmp_ge (tgt := 75) hx hb dX12_movesTold_42 (by decide) (fun h => absurd h (by decide)) (fun _ => ?_)
  refine lv_aload_n hx hb dX12_movesTold_45 rfl (lv_at hl 2 rfl) ?_
  refine va_get (D := D) (ci := 13) (v := .ref (v 10)) (C := RX12) (T := TX12) (N := 48) hx hb hts kin_RX12 hown hG.1 hP 38 rfl rfl 26 (by decide) (hts _ wm_1545) (fun _ h9 => h9) rfl dX12_movesTold_46 ?_
  refine lv_iload_n hx hb dX12_movesTold_49 rfl (lv_at hl 1 rfl) ?_
  refine k_aldA hx hb hG.1 hP 0 rfl (by unfold vp_in; decide) dX12_movesTold_50 ?_
  refine W.eq (g2 := F0 m 51 ls [.ref ((v 10) + 1 + 8)]) rfl ?_
  refine lv_iload hx hb dX12_movesTold_51 (lv_at hl 0 rfl) ?_
  refine lv_aload_n hx hb dX12_movesTold_53 rfl (lv_at hl 2 rfl) ?_
  refine lv_aload_n hx hb dX12_movesTold_54 rfl (lv_at hl 3 rfl) ?_
  refine lv_aload_n hx hb dX12_movesTold_55 rfl (lv_at hl 2 rfl) ?_
  refine va_get (D := D) (ci := 13) (v := .ref (v 10)) (C := RX12) (T := TX12) (N := 48) hx hb hts kin_RX12 hown hG.1 hP 38 rfl rfl 26 (by decide) (hts _ wm_1545) (fun _ h9 => h9) rfl dX12_movesTold_56 ?_
  refine lv_iload_n hx hb dX12_movesTold_59 rfl (lv_at hl 1 rfl) ?_
  refine k_aldA hx hb hG.1 hP 0 rfl (by unfold vp_in; decide) dX12_movesTold_60 ?_
  refine W.eq (g2 := F0 m 61 ls [.ref ((v 10) + 1 + 8), .ref a, .ref (v 0), .int 0, .ref ((v 10) + 1 + 8)]) rfl ?_
  refine lv_iload hx hb dX12_movesTold_61 (lv_at hl 0 rfl) ?_
  refine va_iald hx hb hG.1 hP 9 0 rfl rfl (by unfold vp_in; decide) dX12_movesTold_63 ?_
  refine lv_topi (fun x53 ex53 => ?_)
  obtain rfl : x53 = 0 := ex53.trans (rfl)
  refine lv_iload_n hx hb dX12_movesTold_64 rfl (lv_at hl 4 rfl) ?_
  refine k_cali [0, 1, 2, 3, 4, 5, 6, 7, 8, 9, 10, 11, 12, 13, 14, 15, 16, 17, 18, 19, 20, 21, 22, 23, 24, 25, 26, 27, 28, 29, 30, 31, 32, 33, 34, 35, 36, 37] (⟨hP, hD, hG, hS, hA, rfl, rfl⟩ : kAt D cy sa A s H _ _ [((v 0), .inr (13, [.int 0, .int 0, .int 0, .int (-1), .int 0, .int 0, .int 0, .int 0, .ref (v 1), .ref (v 2), .ref (v 3), .ref (v 4), .ref (v 5), .ref (v 6), .ref (v 7), .ref (v 8), .ref (v 9), .int 0, .int 0, .int 0, .int 0, .int 0, .int 0, .int 0, .int 0, .int 0, .ref (v 10), .ref (v 11), .ref (v 12), .ref (v 13), .int 60, .ref (v 14), .ref (v 15), .ref (v 16), .ref (v 17), .ref (v 18), .int 0, .int 0, .int 0, .ref (v 19), .ref (v 20), .ref (v 21), .ref (v 22), .ref (v 23), .int 0, .int 0, .int 0, .int 0])), (a, .inl (cy 0, 120, .inl (fun _ => 0)))] [38, 39]) (wr := (toldW cy v ++ [])) rfl rfl (by decide) (k_runV 13 38 (As := [.ref a, .int 0, .int b]) (rest := [.int 0, .ref ((v 10) + 1 + 8)]) E lk_VRX12_251 rfl rfl rfl (m_moves l hl0 D cy sa v a 0 60 (by unfold vp_in; decide) b H.size) (⟨hP, hD, hG, hS, hA, rfl, rfl⟩ : kAt D cy sa A s H _ _ [((v 0), .inr (13, [.int 0, .int 0, .int 0, .int (-1), .int 0, .int 0, .int 0, .int 0, .ref (v 1), .ref (v 2), .ref (v 3), .ref (v 4), .ref (v 5), .ref (v 6), .ref (v 7), .ref (v 8), .ref (v 9), .int 0, .int 0, .int 0, .int 0, .int 0, .int 0, .int 0, .int 0, .int 0, .ref (v 10), .ref (v 11), .ref (v 12), .ref (v 13), .int 60, .ref (v 14), .ref (v 15), .ref (v 16), .ref (v 17), .ref (v 18), .int 0, .int 0, .int 0, .ref (v 19), .ref (v 20), .ref (v 21), .ref (v 22), .ref (v 23), .int 0, .int 0, .int 0, .int 0])), (a, .inl (cy 0, 120, .inl (fun _ => 0)))] [38, 39]) hl.1 rfl rfl ⟨rfl, rfl, ⟨Nat.le_of_ble_eq_true rfl, Nat.le_of_ble_eq_true rfl⟩, ⟨Nat.le_of_ble_eq_true rfl, Nat.le_of_ble_eq_true rfl⟩, Nat.le_of_ble_eq_true rfl⟩ dX12_movesTold_65) (fun r54 u55 H locs hwu55 hP hD hS => ?_)
  have hP : va_P D vwCl (toldW cy v ++ [((v 0), .inr (13, [.int 0, .int 0, .int 0, .int (-1), .int 0, .int 0, .int 0, .int 0, .ref (v 1), .ref (v 2), .ref (v 3), .ref (v 4), .ref (v 5), .ref (v 6), .ref (v 7), .ref (v 8), .ref (v 9), .int 0, .int 0, .int 0, .int 0, .int 0, .int 0, .int 0, .int 0, .int 0, .ref (v 10), .ref (v 11), .ref (v 12), .ref (v 13), .int 61, .ref (v 14), .ref (v 15), .ref (v 16), .ref (v 17), .ref (v 18), .int 0, .int 0, .int 0, .ref (v 19), .ref (v 20), .ref (v 21), .ref (v 22), .ref (v 23), .int 0, .int 0, .int 0, .int 0])), (a, .inl (cy 0, 120, .inl (fun _ => 0)))]) H := hP
  have hD : va_D A (toldW cy v ++ [((v 0), .inr (13, [.int 0, .int 0, .int 0, .int (-1), .int 0, .int 0, .int 0, .int 0, .ref (v 1), .ref (v 2), .ref (v 3), .ref (v 4), .ref (v 5), .ref (v 6), .ref (v 7), .ref (v 8), .ref (v 9), .int 0, .int 0, .int 0, .int 0, .int 0, .int 0, .int 0, .int 0, .int 0, .ref (v 10), .ref (v 11), .ref (v 12), .ref (v 13), .int 61, .ref (v 14), .ref (v 15), .ref (v 16), .ref (v 17), .ref (v 18), .int 0, .int 0, .int 0, .ref (v 19), .ref (v 20), .ref (v 21), .ref (v 22), .ref (v 23), .int 0, .int 0, .int 0, .int 0])), (a, .inl (cy 0, 120, .inl (fun _ => 0)))]) := hD
  obtain rfl : r54 = 0 := hwu55
  refine k_iast0 hx hb hG.1 hP hD hS 9 0 rfl rfl (by unfold vp_in; decide) dX12_movesTold_68 (fun H locs hP hD hS => ?_)
  refine lv_iinc (v := 1) (lv' := [(4, .int 1), (3, .int 8), (0, .ref (v 0)), (1, .ref a), (2, .int b)]) hx hb dX12_movesTold_69 hl (k := 0) rfl (by decide) (by decide) rfl (fun ls hl => ?_)
  refine lv_goto (tgt := 39) hx hb dX12_movesTold_72 (by decide) ?_
  refine lv_iload hx hb dX12_movesTold_39 (lv_at hl 0 rfl) ?_
  refine lv_iconst (v := 2) hx hb dX12_movesTold_41 (by decide) ?_
  refine lv_icmp_ge (tgt := 75) hx hb dX12_movesTold_42 (by decide) (fun h => absurd h (by decide)) (fun _ => ?_)
  refine lv_aload_n hx hb dX12_movesTold_45 rfl (lv_at hl 2 rfl) ?_
  refine va_get (D := D) (ci := 13) (v := .ref (v 10)) (C := RX12) (T := TX12) (N := 48) hx hb hts kin_RX12 hown hG.1 hP 38 rfl rfl 26 (by decide) (hts _ wm_1545) (fun _ h9 => h9) rfl dX12_movesTold_46 ?_
  refine lv_iload_n hx hb dX12_movesTold_49 rfl (lv_at hl 1 rfl) ?_
  refine k_aldA hx hb hG.1 hP 0 rfl (by unfold vp_in; decide) dX12_movesTold_50 ?_
  refine W.eq (g2 := F0 m 51 ls [.ref ((v 10) + 1 + 8)]) rfl ?_
  refine lv_iload hx hb dX12_movesTold_51 (lv_at hl 0 rfl) ?_
  refine lv_aload_n hx hb dX12_movesTold_53 rfl (lv_at hl 2 rfl) ?_
  refine lv_aload_n hx hb dX12_movesTold_54 rfl (lv_at hl 3 rfl) ?_
  refine lv_aload_n hx hb dX12_movesTold_55 rfl (lv_at hl 2 rfl) ?_
  refine va_get (D := D) (ci := 13) (v := .ref (v 10)) (C := RX12) (T := TX12) (N := 48) hx hb hts kin_RX12 hown hG.1 hP 38 rfl rfl 26 (by decide) (hts _ wm_1545) (fun _ h9 => h9) rfl dX12_movesTold_56 ?_
  refine lv_iload_n hx hb dX12_movesTold_59 rfl (lv_at hl 1 rfl) ?_
  refine k_aldA hx hb hG.1 hP 0 rfl (by unfold vp_in; decide) dX12_movesTold_60 ?_
  refine W.eq (g2 := F0 m 61 ls [.ref ((v 10) + 1 + 8), .ref a, .ref (v 0), .int 1, .ref ((v 10) + 1 + 8)]) rfl ?_
  refine lv_iload hx hb dX12_movesTold_61 (lv_at hl 0 rfl) ?_
  refine va_iald hx hb hG.1 hP 9 0 rfl rfl (by unfold vp_in; decide) dX12_movesTold_63 ?_
  refine lv_topi (fun x56 ex56 => ?_)
  obtain rfl : x56 = 0 := ex56.trans (rfl)
  refine lv_iload_n hx hb dX12_movesTold_64 rfl (lv_at hl 4 rfl) ?_
  refine k_cali [0, 1, 2, 3, 4, 5, 6, 7, 8, 9, 10, 11, 12, 13, 14, 15, 16, 17, 18, 19, 20, 21, 22, 23, 24, 25, 26, 27, 28, 29, 30, 31, 32, 33, 34, 35, 36, 37] (⟨hP, hD, hG, hS, hA, rfl, rfl⟩ : kAt D cy sa A s H _ _ [((v 0), .inr (13, [.int 0, .int 0, .int 0, .int (-1), .int 0, .int 0, .int 0, .int 0, .ref (v 1), .ref (v 2), .ref (v 3), .ref (v 4), .ref (v 5), .ref (v 6), .ref (v 7), .ref (v 8), .ref (v 9), .int 0, .int 0, .int 0, .int 0, .int 0, .int 0, .int 0, .int 0, .int 0, .ref (v 10), .ref (v 11), .ref (v 12), .ref (v 13), .int 61, .ref (v 14), .ref (v 15), .ref (v 16), .ref (v 17), .ref (v 18), .int 0, .int 0, .int 0, .ref (v 19), .ref (v 20), .ref (v 21), .ref (v 22), .ref (v 23), .int 0, .int 0, .int 0, .int 0])), (a, .inl (cy 0, 120, .inl (fun _ => 0)))] [38, 39]) (wr := (toldW cy v ++ [])) rfl rfl (by decide) (k_runV 13 38 (As := [.ref a, .int 0, .int b]) (rest := [.int 1, .ref ((v 10) + 1 + 8)]) E lk_VRX12_251 rfl rfl rfl (m_moves l hl0 D cy sa v a 0 61 (by unfold vp_in; decide) b H.size) (⟨hP, hD, hG, hS, hA, rfl, rfl⟩ : kAt D cy sa A s H _ _ [((v 0), .inr (13, [.int 0, .int 0, .int 0, .int (-1), .int 0, .int 0, .int 0, .int 0, .ref (v 1), .ref (v 2), .ref (v 3), .ref (v 4), .ref (v 5), .ref (v 6), .ref (v 7), .ref (v 8), .ref (v 9), .int 0, .int 0, .int 0, .int 0, .int 0, .int 0, .int 0, .int 0, .int 0, .ref (v 10), .ref (v 11), .ref (v 12), .ref (v 13), .int 61, .ref (v 14), .ref (v 15), .ref (v 16), .ref (v 17), .ref (v 18), .int 0, .int 0, .int 0, .ref (v 19), .ref (v 20), .ref (v 21), .ref (v 22), .ref (v 23), .int 0, .int 0, .int 0, .int 0])), (a, .inl (cy 0, 120, .inl (fun _ => 0)))] [38, 39]) hl.1 rfl rfl ⟨rfl, rfl, ⟨Nat.le_of_ble_eq_true rfl, Nat.le_of_ble_eq_true rfl⟩, ⟨Nat.le_of_ble_eq_true rfl, Nat.le_of_ble_eq_true rfl⟩, Nat.le_of_ble_eq_true rfl⟩ dX12_movesTold_65) (fun r57 u58 H locs hwu58 hP hD hS => ?_)
  have hP : va_P D vwCl (toldW cy v ++ [((v 0), .inr (13, [.int 0, .int 0, .int 0, .int (-1), .int 0, .int 0, .int 0, .int 0, .ref (v 1), .ref (v 2), .ref (v 3), .ref (v 4), .ref (v 5), .ref (v 6), .ref (v 7), .ref (v 8), .ref (v 9), .int 0, .int 0, .int 0, .int 0, .int 0, .int 0, .int 0, .int 0, .int 0, .ref (v 10), .ref (v 11), .ref (v 12), .ref (v 13), .int 62, .ref (v 14), .ref (v 15), .ref (v 16), .ref (v 17), .ref (v 18), .int 0, .int 0, .int 0, .ref (v 19), .ref (v 20), .ref (v 21), .ref (v 22), .ref (v 23), .int 0, .int 0, .int 0, .int 0])), (a, .inl (cy 0, 120, .inl (fun _ => 0)))]) H := hP
  have hD : va_D A (toldW cy v ++ [((v 0), .inr (13, [.int 0, .int 0, .int 0, .int (-1), .int 0, .int 0, .int 0, .int 0, .ref (v 1), .ref (v 2), .ref (v 3), .ref (v 4), .ref (v 5), .ref (v 6), .ref (v 7), .ref (v 8), .ref (v 9), .int 0, .int 0, .int 0, .int 0, .int 0, .int 0, .int 0, .int 0, .int 0, .ref (v 10), .ref (v 11), .ref (v 12), .ref (v 13), .int 62, .ref (v 14), .ref (v 15), .ref (v 16), .ref (v 17), .ref (v 18), .int 0, .int 0, .int 0, .ref (v 19), .ref (v 20), .ref (v 21), .ref (v 22), .ref (v 23), .int 0, .int 0, .int 0, .int 0])), (a, .inl (cy 0, 120, .inl (fun _ => 0)))]) := hD
  obtain rfl : r57 = 0 := hwu58
  refine k_iast0 hx hb hG.1 hP hD hS 9 0 rfl rfl (by unfold vp_in; decide) dX12_movesTold_68 (fun H locs hP hD hS => ?_)
  refine lv_iinc (v := 2) (lv' := [(4, .int 2), (3, .int 8), (0, .ref (v 0)), (1, .ref a), (2, .int b)]) hx hb dX12_movesTold_69 hl (k := 0) rfl (by decide) (by decide) rfl (fun ls hl => ?_)
  refine lv_goto (tgt := 39) hx hb dX12_movesTold_72 (by decide) ?_
  refine lv_iload hx hb dX12_movesTold_39 (lv_at hl 0 rfl) ?_
  refine lv_iconst (v := 2) hx hb dX12_movesTold_41 (by decide) ?_
  refine lv_icmp_ge (tgt := 75) hx hb dX12_movesTold_42 (by decide) (fun _ => ?_) (fun h => absurd (by decide) h)
  refine lv_iinc (v := 9) (lv' := [(3, .int 9), (4, .int 2), (0, .ref (v 0)), (1, .ref a), (2, .int b)]) hx hb dX12_movesTold_75 hl (k := 1) rfl (by decide) (by decide) rfl (fun ls hl => ?_)
  refine lv_goto (tgt := 30) hx hb dX12_movesTold_78 (by decide) ?_
  refine lv_iload_n hx hb dX12_movesTold_30 rfl (lv_at hl 0 rfl) ?_
  refine lv_bipush (v := 30) hx hb dX12_movesTold_31 (by decide) ?_
  refine lv_icmp_ge (tgt := 81) hx hb dX12_movesTold_33 (by decide) (fun h => absurd h (by decide)) (fun _ => ?_)
  refine lv_iconst (v := 0) hx hb dX12_movesTold_36 (by decide) ?_
  refine lv_istore (lv' := [(4, .int 0), (3, .int 9), (0, .ref (v 0)), (1, .ref a), (2, .int b)]) hx hb dX12_movesTold_37 hl (by decide) rfl (fun ls hl => ?_)
  refine lv_iload hx hb dX12_movesTold_39 (lv_at hl 0 rfl) ?_
  refine lv_iconst (v := 2) hx hb dX12_movesTold_41 (by decide) ?_
  refine lv_icmp_ge (tgt := 75) hx hb dX12_movesTold_42 (by decide) (fun h => absurd h (by decide)) (fun _ => ?_)
  refine lv_aload_n hx hb dX12_movesTold_45 rfl (lv_at hl 2 rfl) ?_
  refine va_get (D := D) (ci := 13) (v := .ref (v 10)) (C := RX12) (T := TX12) (N := 48) hx hb hts kin_RX12 hown hG.1 hP 38 rfl rfl 26 (by decide) (hts _ wm_1545) (fun _ h9 => h9) rfl dX12_movesTold_46 ?_
  refine lv_iload_n hx hb dX12_movesTold_49 rfl (lv_at hl 1 rfl) ?_
  refine k_aldA hx hb hG.1 hP 0 rfl (by unfold vp_in; decide) dX12_movesTold_50 ?_
  refine W.eq (g2 := F0 m 51 ls [.ref ((v 10) + 1 + 9)]) rfl ?_
  refine lv_iload hx hb dX12_movesTold_51 (lv_at hl 0 rfl) ?_
  refine lv_aload_n hx hb dX12_movesTold_53 rfl (lv_at hl 2 rfl) ?_
  refine lv_aload_n hx hb dX12_movesTold_54 rfl (lv_at hl 3 rfl) ?_
  refine lv_aload_n hx hb dX12_movesTold_55 rfl (lv_at hl 2 rfl) ?_
  refine va_get (D := D) (ci := 13) (v := .ref (v 10)) (C := RX12) (T := TX12) (N := 48) hx hb hts kin_RX12 hown hG.1 hP 38 rfl rfl 26 (by decide) (hts _ wm_1545) (fun _ h9 => h9) rfl dX12_movesTold_56 ?_
  refine lv_iload_n hx hb dX12_movesTold_59 rfl (lv_at hl 1 rfl) ?_
  refine k_aldA hx hb hG.1 hP 0 rfl (by unfold vp_in; decide) dX12_movesTold_60 ?_
  refine W.eq (g2 := F0 m 61 ls [.ref ((v 10) + 1 + 9), .ref a, .ref (v 0), .int 0, .ref ((v 10) + 1 + 9)]) rfl ?_
  refine lv_iload hx hb dX12_movesTold_61 (lv_at hl 0 rfl) ?_
  refine va_iald hx hb hG.1 hP 10 0 rfl rfl (by unfold vp_in; decide) dX12_movesTold_63 ?_
  refine lv_topi (fun x59 ex59 => ?_)
  obtain rfl : x59 = 0 := ex59.trans (rfl)
  refine lv_iload_n hx hb dX12_movesTold_64 rfl (lv_at hl 4 rfl) ?_
  refine k_cali [0, 1, 2, 3, 4, 5, 6, 7, 8, 9, 10, 11, 12, 13, 14, 15, 16, 17, 18, 19, 20, 21, 22, 23, 24, 25, 26, 27, 28, 29, 30, 31, 32, 33, 34, 35, 36, 37] (⟨hP, hD, hG, hS, hA, rfl, rfl⟩ : kAt D cy sa A s H _ _ [((v 0), .inr (13, [.int 0, .int 0, .int 0, .int (-1), .int 0, .int 0, .int 0, .int 0, .ref (v 1), .ref (v 2), .ref (v 3), .ref (v 4), .ref (v 5), .ref (v 6), .ref (v 7), .ref (v 8), .ref (v 9), .int 0, .int 0, .int 0, .int 0, .int 0, .int 0, .int 0, .int 0, .int 0, .ref (v 10), .ref (v 11), .ref (v 12), .ref (v 13), .int 62, .ref (v 14), .ref (v 15), .ref (v 16), .ref (v 17), .ref (v 18), .int 0, .int 0, .int 0, .ref (v 19), .ref (v 20), .ref (v 21), .ref (v 22), .ref (v 23), .int 0, .int 0, .int 0, .int 0])), (a, .inl (cy 0, 120, .inl (fun _ => 0)))] [38, 39]) (wr := (toldW cy v ++ [])) rfl rfl (by decide) (k_runV 13 38 (As := [.ref a, .int 0, .int b]) (rest := [.int 0, .ref ((v 10) + 1 + 9)]) E lk_VRX12_251 rfl rfl rfl (m_moves l hl0 D cy sa v a 0 62 (by unfold vp_in; decide) b H.size) (⟨hP, hD, hG, hS, hA, rfl, rfl⟩ : kAt D cy sa A s H _ _ [((v 0), .inr (13, [.int 0, .int 0, .int 0, .int (-1), .int 0, .int 0, .int 0, .int 0, .ref (v 1), .ref (v 2), .ref (v 3), .ref (v 4), .ref (v 5), .ref (v 6), .ref (v 7), .ref (v 8), .ref (v 9), .int 0, .int 0, .int 0, .int 0, .int 0, .int 0, .int 0, .int 0, .int 0, .ref (v 10), .ref (v 11), .ref (v 12), .ref (v 13), .int 62, .ref (v 14), .ref (v 15), .ref (v 16), .ref (v 17), .ref (v 18), .int 0, .int 0, .int 0, .ref (v 19), .ref (v 20), .ref (v 21), .ref (v 22), .ref (v 23), .int 0, .int 0, .int 0, .int 0])), (a, .inl (cy 0, 120, .inl (fun _ => 0)))] [38, 39]) hl.1 rfl rfl ⟨rfl, rfl, ⟨Nat.le_of_ble_eq_true rfl, Nat.le_of_ble_eq_true rfl⟩, ⟨Nat.le_of_ble_eq_true rfl, Nat.le_of_ble_eq_true rfl⟩, Nat.le_of_ble_eq_true rfl⟩ dX12_movesTold_65) (fun r60 u61 H locs hwu61 hP hD hS => ?_)
  have hP : va_P D vwCl (toldW cy v ++ [((v 0), .inr (13, [.int 0, .int 0, .int 0, .int (-1), .int 0, .int 0, .int 0, .int 0, .ref (v 1), .ref (v 2), .ref (v 3), .ref (v 4), .ref (v 5), .ref (v 6), .ref (v 7), .ref (v 8), .ref (v 9), .int 0, .int 0, .int 0, .int 0, .int 0, .int 0, .int 0, .int 0, .int 0, .ref (v 10), .ref (v 11), .ref (v 12), .ref (v 13), .int 63, .ref (v 14), .ref (v 15), .ref (v 16), .ref (v 17), .ref (v 18), .int 0, .int 0, .int 0, .ref (v 19), .ref (v 20), .ref (v 21), .ref (v 22), .ref (v 23), .int 0, .int 0, .int 0, .int 0])), (a, .inl (cy 0, 120, .inl (fun _ => 0)))]) H := hP
  have hD : va_D A (toldW cy v ++ [((v 0), .inr (13, [.int 0, .int 0, .int 0, .int (-1), .int 0, .int 0, .int 0, .int 0, .ref (v 1), .ref (v 2), .ref (v 3), .ref (v 4), .ref (v 5), .ref (v 6), .ref (v 7), .ref (v 8), .ref (v 9), .int 0, .int 0, .int 0, .int 0, .int 0, .int 0, .int 0, .int 0, .int 0, .ref (v 10), .ref (v 11), .ref (v 12), .ref (v 13), .int 63, .ref (v 14), .ref (v 15), .ref (v 16), .ref (v 17), .ref (v 18), .int 0, .int 0, .int 0, .ref (v 19), .ref (v 20), .ref (v 21), .ref (v 22), .ref (v 23), .int 0, .int 0, .int 0, .int 0])), (a, .inl (cy 0, 120, .inl (fun _ => 0)))]) := hD
  obtain rfl : r60 = 0 := hwu61
  refine k_iast0 hx hb hG.1 hP hD hS 10 0 rfl rfl (by unfold vp_in; decide) dX12_movesTold_68 (fun H locs hP hD hS => ?_)
  refine lv_iinc (v := 1) (lv' := [(4, .int 1), (3, .int 9), (0, .ref (v 0)), (1, .ref a), (2, .int b)]) hx hb dX12_movesTold_69 hl (k := 0) rfl (by decide) (by decide) rfl (fun ls hl => ?_)
  refine lv_goto (tgt := 39) hx hb dX12_movesTold_72 (by decide) ?_
  refine lv_iload hx hb dX12_movesTold_39 (lv_at hl 0 rfl) ?_
  refine lv_iconst (v := 2) hx hb dX12_movesTold_41 (by decide) ?_
  refine lv_icmp_ge (tgt := 75) hx hb dX12_movesTold_42 (by decide) (fun h => absurd h (by decide)) (fun _ => ?_)
  refine lv_aload_n hx hb dX12_movesTold_45 rfl (lv_at hl 2 rfl) ?_
  refine va_get (D := D) (ci := 13) (v := .ref (v 10)) (C := RX12) (T := TX12) (N := 48) hx hb hts kin_RX12 hown hG.1 hP 38 rfl rfl 26 (by decide) (hts _ wm_1545) (fun _ h9 => h9) rfl dX12_movesTold_46 ?_
  refine lv_iload_n hx hb dX12_movesTold_49 rfl (lv_at hl 1 rfl) ?_
  refine k_aldA hx hb hG.1 hP 0 rfl (by unfold vp_in; decide) dX12_movesTold_50 ?_
  refine W.eq (g2 := F0 m 51 ls [.ref ((v 10) + 1 + 9)]) rfl ?_
  refine lv_iload hx hb dX12_movesTold_51 (lv_at hl 0 rfl) ?_
  refine lv_aload_n hx hb dX12_movesTold_53 rfl (lv_at hl 2 rfl) ?_
  refine lv_aload_n hx hb dX12_movesTold_54 rfl (lv_at hl 3 rfl) ?_
  refine lv_aload_n hx hb dX12_movesTold_55 rfl (lv_at hl 2 rfl) ?_
  refine va_get (D := D) (ci := 13) (v := .ref (v 10)) (C := RX12) (T := TX12) (N := 48) hx hb hts kin_RX12 hown hG.1 hP 38 rfl rfl 26 (by decide) (hts _ wm_1545) (fun _ h9 => h9) rfl dX12_movesTold_56 ?_
  refine lv_iload_n hx hb dX12_movesTold_59 rfl (lv_at hl 1 rfl) ?_
  refine k_aldA hx hb hG.1 hP 0 rfl (by unfold vp_in; decide) dX12_movesTold_60 ?_
  refine W.eq (g2 := F0 m 61 ls [.ref ((v 10) + 1 + 9), .ref a, .ref (v 0), .int 1, .ref ((v 10) + 1 + 9)]) rfl ?_
  refine lv_iload hx hb dX12_movesTold_61 (lv_at hl 0 rfl) ?_
  refine va_iald hx hb hG.1 hP 10 0 rfl rfl (by unfold vp_in; decide) dX12_movesTold_63 ?_
  refine lv_topi (fun x62 ex62 => ?_)
  obtain rfl : x62 = 0 := ex62.trans (rfl)
  refine lv_iload_n hx hb dX12_movesTold_64 rfl (lv_at hl 4 rfl) ?_
  refine k_cali [0, 1, 2, 3, 4, 5, 6, 7, 8, 9, 10, 11, 12, 13, 14, 15, 16, 17, 18, 19, 20, 21, 22, 23, 24, 25, 26, 27, 28, 29, 30, 31, 32, 33, 34, 35, 36, 37] (⟨hP, hD, hG, hS, hA, rfl, rfl⟩ : kAt D cy sa A s H _ _ [((v 0), .inr (13, [.int 0, .int 0, .int 0, .int (-1), .int 0, .int 0, .int 0, .int 0, .ref (v 1), .ref (v 2), .ref (v 3), .ref (v 4), .ref (v 5), .ref (v 6), .ref (v 7), .ref (v 8), .ref (v 9), .int 0, .int 0, .int 0, .int 0, .int 0, .int 0, .int 0, .int 0, .int 0, .ref (v 10), .ref (v 11), .ref (v 12), .ref (v 13), .int 63, .ref (v 14), .ref (v 15), .ref (v 16), .ref (v 17), .ref (v 18), .int 0, .int 0, .int 0, .ref (v 19), .ref (v 20), .ref (v 21), .ref (v 22), .ref (v 23), .int 0, .int 0, .int 0, .int 0])), (a, .inl (cy 0, 120, .inl (fun _ => 0)))] [38, 39]) (wr := (toldW cy v ++ [])) rfl rfl (by decide) (k_runV 13 38 (As := [.ref a, .int 0, .int b]) (rest := [.int 1, .ref ((v 10) + 1 + 9)]) E lk_VRX12_251 rfl rfl rfl (m_moves l hl0 D cy sa v a 0 63 (by unfold vp_in; decide) b H.size) (⟨hP, hD, hG, hS, hA, rfl, rfl⟩ : kAt D cy sa A s H _ _ [((v 0), .inr (13, [.int 0, .int 0, .int 0, .int (-1), .int 0, .int 0, .int 0, .int 0, .ref (v 1), .ref (v 2), .ref (v 3), .ref (v 4), .ref (v 5), .ref (v 6), .ref (v 7), .ref (v 8), .ref (v 9), .int 0, .int 0, .int 0, .int 0, .int 0, .int 0, .int 0, .int 0, .int 0, .ref (v 10), .ref (v 11), .ref (v 12), .ref (v 13), .int 63, .ref (v 14), .ref (v 15), .ref (v 16), .ref (v 17), .ref (v 18), .int 0, .int 0, .int 0, .ref (v 19), .ref (v 20), .ref (v 21), .ref (v 22), .ref (v 23), .int 0, .int 0, .int 0, .int 0])), (a, .inl (cy 0, 120, .inl (fun _ => 0)))] [38, 39]) hl.1 rfl rfl ⟨rfl, rfl, ⟨Nat.le_of_ble_eq_true rfl, Nat.le_of_ble_eq_true rfl⟩, ⟨Nat.le_of_ble_eq_true rfl, Nat.le_of_ble_eq_true rfl⟩, Nat.le_of_ble_eq_true rfl⟩ dX12_movesTold_65) (fun r63 u64 H locs hwu64 hP hD hS => ?_)
  have hP : va_P D vwCl (toldW cy v ++ [((v 0), .inr (13, [.int 0, .int 0, .int 0, .int (-1), .int 0, .int 0, .int 0, .int 0, .ref (v 1), .ref (v 2), .ref (v 3), .ref (v 4), .ref (v 5), .ref (v 6), .ref (v 7), .ref (v 8), .ref (v 9), .int 0, .int 0, .int 0, .int 0, .int 0, .int 0, .int 0, .int 0, .int 0, .ref (v 10), .ref (v 11), .ref (v 12), .ref (v 13), .int 64, .ref (v 14), .ref (v 15), .ref (v 16), .ref (v 17), .ref (v 18), .int 0, .int 0, .int 0, .ref (v 19), .ref (v 20), .ref (v 21), .ref (v 22), .ref (v 23), .int 0, .int 0, .int 0, .int 0])), (a, .inl (cy 0, 120, .inl (fun _ => 0)))]) H := hP
  have hD : va_D A (toldW cy v ++ [((v 0), .inr (13, [.int 0, .int 0, .int 0, .int (-1), .int 0, .int 0, .int 0, .int 0, .ref (v 1), .ref (v 2), .ref (v 3), .ref (v 4), .ref (v 5), .ref (v 6), .ref (v 7), .ref (v 8), .ref (v 9), .int 0, .int 0, .int 0, .int 0, .int 0, .int 0, .int 0, .int 0, .int 0, .ref (v 10), .ref (v 11), .ref (v 12), .ref (v 13), .int 64, .ref (v 14), .ref (v 15), .ref (v 16), .ref (v 17), .ref (v 18), .int 0, .int 0, .int 0, .ref (v 19), .ref (v 20), .ref (v 21), .ref (v 22), .ref (v 23), .int 0, .int 0, .int 0, .int 0])), (a, .inl (cy 0, 120, .inl (fun _ => 0)))]) := hD
  obtain rfl : r63 = 0 := hwu64
  refine k_iast0 hx hb hG.1 hP hD hS 10 0 rfl rfl (by unfold vp_in; decide) dX12_movesTold_68 (fun H locs hP hD hS => ?_)
  refine lv_iinc (v := 2) (lv' := [(4, .int 2), (3, .int 9), (0, .ref (v 0)), (1, .ref a), (2, .int b)]) hx hb dX12_movesTold_69 hl (k := 0) rfl (by decide) (by decide) rfl (fun ls hl => ?_)
  refine lv_goto (tgt := 39) hx hb dX12_movesTold_72 (by decide) ?_
  refine lv_iload hx hb dX12_movesTold_39 (lv_at hl 0 rfl) ?_
  refine lv_iconst (v := 2) hx hb dX12_movesTold_41 (by decide) ?_
  refine lv_icmp_ge (tgt := 75) hx hb dX12_movesTold_42 (by decide) (fun _ => ?_) (fun h => absurd (by decide) h)
  refine lv_iinc (v := 10) (lv' := [(3, .int 10), (4, .int 2), (0, .ref (v 0)), (1, .ref a), (2, .int b)]) hx hb dX12_movesTold_75 hl (k := 1) rfl (by decide) (by decide) rfl (fun ls hl => ?_)
  refine lv_goto (tgt := 30) hx hb dX12_movesTold_78 (by decide) ?_
  refine lv_iload_n hx hb dX12_movesTold_30 rfl (lv_at hl 0 rfl) ?_
  refine lv_bipush (v := 30) hx hb dX12_movesTold_31 (by decide) ?_
  refine lv_icmp_ge (tgt := 81) hx hb dX12_movesTold_33 (by decide) (fun h => absurd h (by decide)) (fun _ => ?_)
  refine lv_iconst (v := 0) hx hb dX12_movesTold_36 (by decide) ?_
  refine lv_istore (lv' := [(4, .int 0), (3, .int 10), (0, .ref (v 0)), (1, .ref a), (2, .int b)]) hx hb dX12_movesTold_37 hl (by decide) rfl (fun ls hl => ?_)
  refine lv_iload hx hb dX12_movesTold_39 (lv_at hl 0 rfl) ?_
  refine lv_iconst (v := 2) hx hb dX12_movesTold_41 (by decide) ?_
  refine lv_icmp_ge (tgt := 75) hx hb dX12_movesTold_42 (by decide) (fun h => absurd h (by decide)) (fun _ => ?_)
  refine lv_aload_n hx hb dX12_movesTold_45 rfl (lv_at hl 2 rfl) ?_
  refine va_get (D := D) (ci := 13) (v := .ref (v 10)) (C := RX12) (T := TX12) (N := 48) hx hb hts kin_RX12 hown hG.1 hP 38 rfl rfl 26 (by decide) (hts _ wm_1545) (fun _ h9 => h9) rfl dX12_movesTold_46 ?_
  refine lv_iload_n hx hb dX12_movesTold_49 rfl (lv_at hl 1 rfl) ?_
  refine k_aldA hx hb hG.1 hP 0 rfl (by unfold vp_in; decide) dX12_movesTold_50 ?_
  refine W.eq (g2 := F0 m 51 ls [.ref ((v 10) + 1 + 10)]) rfl ?_
  refine lv_iload hx hb dX12_movesTold_51 (lv_at hl 0 rfl) ?_
  refine lv_aload_n hx hb dX12_movesTold_53 rfl (lv_at hl 2 rfl) ?_
  refine lv_aload_n hx hb dX12_movesTold_54 rfl (lv_at hl 3 rfl) ?_
  refine lv_aload_n hx hb dX12_movesTold_55 rfl (lv_at hl 2 rfl) ?_
  refine va_get (D := D) (ci := 13) (v := .ref (v 10)) (C := RX12) (T := TX12) (N := 48) hx hb hts kin_RX12 hown hG.1 hP 38 rfl rfl 26 (by decide) (hts _ wm_1545) (fun _ h9 => h9) rfl dX12_movesTold_56 ?_
  refine lv_iload_n hx hb dX12_movesTold_59 rfl (lv_at hl 1 rfl) ?_
  refine k_aldA hx hb hG.1 hP 0 rfl (by unfold vp_in; decide) dX12_movesTold_60 ?_
  refine W.eq (g2 := F0 m 61 ls [.ref ((v 10) + 1 + 10), .ref a, .ref (v 0), .int 0, .ref ((v 10) + 1 + 10)]) rfl ?_
  refine lv_iload hx hb dX12_movesTold_61 (lv_at hl 0 rfl) ?_
  refine va_iald hx hb hG.1 hP 11 0 rfl rfl (by unfold vp_in; decide) dX12_movesTold_63 ?_
  refine lv_topi (fun x65 ex65 => ?_)
  obtain rfl : x65 = 0 := ex65.trans (rfl)
  refine lv_iload_n hx hb dX12_movesTold_64 rfl (lv_at hl 4 rfl) ?_
  refine k_cali [0, 1, 2, 3, 4, 5, 6, 7, 8, 9, 10, 11, 12, 13, 14, 15, 16, 17, 18, 19, 20, 21, 22, 23, 24, 25, 26, 27, 28, 29, 30, 31, 32, 33, 34, 35, 36, 37] (⟨hP, hD, hG, hS, hA, rfl, rfl⟩ : kAt D cy sa A s H _ _ [((v 0), .inr (13, [.int 0, .int 0, .int 0, .int (-1), .int 0, .int 0, .int 0, .int 0, .ref (v 1), .ref (v 2), .ref (v 3), .ref (v 4), .ref (v 5), .ref (v 6), .ref (v 7), .ref (v 8), .ref (v 9), .int 0, .int 0, .int 0, .int 0, .int 0, .int 0, .int 0, .int 0, .int 0, .ref (v 10), .ref (v 11), .ref (v 12), .ref (v 13), .int 64, .ref (v 14), .ref (v 15), .ref (v 16), .ref (v 17), .ref (v 18), .int 0, .int 0, .int 0, .ref (v 19), .ref (v 20), .ref (v 21), .ref (v 22), .ref (v 23), .int 0, .int 0, .int 0, .int 0])), (a, .inl (cy 0, 120, .inl (fun _ => 0)))] [38, 39]) (wr := (toldW cy v ++ [])) rfl rfl (by decide) (k_runV 13 38 (As := [.ref a, .int 0, .int b]) (rest := [.int 0, .ref ((v 10) + 1 + 10)]) E lk_VRX12_251 rfl rfl rfl (m_moves l hl0 D cy sa v a 0 64 (by unfold vp_in; decide) b H.size) (⟨hP, hD, hG, hS, hA, rfl, rfl⟩ : kAt D cy sa A s H _ _ [((v 0), .inr (13, [.int 0, .int 0, .int 0, .int (-1), .int 0, .int 0, .int 0, .int 0, .ref (v 1), .ref (v 2), .ref (v 3), .ref (v 4), .ref (v 5), .ref (v 6), .ref (v 7), .ref (v 8), .ref (v 9), .int 0, .int 0, .int 0, .int 0, .int 0, .int 0, .int 0, .int 0, .int 0, .ref (v 10), .ref (v 11), .ref (v 12), .ref (v 13), .int 64, .ref (v 14), .ref (v 15), .ref (v 16), .ref (v 17), .ref (v 18), .int 0, .int 0, .int 0, .ref (v 19), .ref (v 20), .ref (v 21), .ref (v 22), .ref (v 23), .int 0, .int 0, .int 0, .int 0])), (a, .inl (cy 0, 120, .inl (fun _ => 0)))] [38, 39]) hl.1 rfl rfl ⟨rfl, rfl, ⟨Nat.le_of_ble_eq_true rfl, Nat.le_of_ble_eq_true rfl⟩, ⟨Nat.le_of_ble_eq_true rfl, Nat.le_of_ble_eq_true rfl⟩, Nat.le_of_ble_eq_true rfl⟩ dX12_movesTold_65) (fun r66 u67 H locs hwu67 hP hD hS => ?_)
  have hP : va_P D vwCl (toldW cy v ++ [((v 0), .inr (13, [.int 0, .int 0, .int 0, .int (-1), .int 0, .int 0, .int 0, .int 0, .ref (v 1), .ref (v 2), .ref (v 3), .ref (v 4), .ref (v 5), .ref (v 6), .ref (v 7), .ref (v 8), .ref (v 9), .int 0, .int 0, .int 0, .int 0, .int 0, .int 0, .int 0, .int 0, .int 0, .ref (v 10), .ref (v 11), .ref (v 12), .ref (v 13), .int 65, .ref (v 14), .ref (v 15), .ref (v 16), .ref (v 17), .ref (v 18), .int 0, .int 0, .int 0, .ref (v 19), .ref (v 20), .ref (v 21), .ref (v 22), .ref (v 23), .int 0, .int 0, .int 0, .int 0])), (a, .inl (cy 0, 120, .inl (fun _ => 0)))]) H := hP
  have hD : va_D A (toldW cy v ++ [((v 0), .inr (13, [.int 0, .int 0, .int 0, .int (-1), .int 0, .int 0, .int 0, .int 0, .ref (v 1), .ref (v 2), .ref (v 3), .ref (v 4), .ref (v 5), .ref (v 6), .ref (v 7), .ref (v 8), .ref (v 9), .int 0, .int 0, .int 0, .int 0, .int 0, .int 0, .int 0, .int 0, .int 0, .ref (v 10), .ref (v 11), .ref (v 12), .ref (v 13), .int 65, .ref (v 14), .ref (v 15), .ref (v 16), .ref (v 17), .ref (v 18), .int 0, .int 0, .int 0, .ref (v 19), .ref (v 20), .ref (v 21), .ref (v 22), .ref (v 23), .int 0, .int 0, .int 0, .int 0])), (a, .inl (cy 0, 120, .inl (fun _ => 0)))]) := hD
  obtain rfl : r66 = 0 := hwu67
  refine k_iast0 hx hb hG.1 hP hD hS 11 0 rfl rfl (by unfold vp_in; decide) dX12_movesTold_68 (fun H locs hP hD hS => ?_)
  refine lv_iinc (v := 1) (lv' := [(4, .int 1), (3, .int 10), (0, .ref (v 0)), (1, .ref a), (2, .int b)]) hx hb dX12_movesTold_69 hl (k := 0) rfl (by decide) (by decide) rfl (fun ls hl => ?_)
  refine lv_goto (tgt := 39) hx hb dX12_movesTold_72 (by decide) ?_
  refine lv_iload hx hb dX12_movesTold_39 (lv_at hl 0 rfl) ?_
  refine lv_iconst (v := 2) hx hb dX12_movesTold_41 (by decide) ?_
  refine lv_icmp_ge (tgt := 75) hx hb dX12_movesTold_42 (by decide) (fun h => absurd h (by decide)) (fun _ => ?_)
  refine lv_aload_n hx hb dX12_movesTold_45 rfl (lv_at hl 2 rfl) ?_
  refine va_get (D := D) (ci := 13) (v := .ref (v 10)) (C := RX12) (T := TX12) (N := 48) hx hb hts kin_RX12 hown hG.1 hP 38 rfl rfl 26 (by decide) (hts _ wm_1545) (fun _ h9 => h9) rfl dX12_movesTold_46 ?_
  refine lv_iload_n hx hb dX12_movesTold_49 rfl (lv_at hl 1 rfl) ?_
  refine k_aldA hx hb hG.1 hP 0 rfl (by unfold vp_in; decide) dX12_movesTold_50 ?_
  refine W.eq (g2 := F0 m 51 ls [.ref ((v 10) + 1 + 10)]) rfl ?_
  refine lv_iload hx hb dX12_movesTold_51 (lv_at hl 0 rfl) ?_
  refine lv_aload_n hx hb dX12_movesTold_53 rfl (lv_at hl 2 rfl) ?_
  refine lv_aload_n hx hb dX12_movesTold_54 rfl (lv_at hl 3 rfl) ?_
  refine lv_aload_n hx hb dX12_movesTold_55 rfl (lv_at hl 2 rfl) ?_
  refine va_get (D := D) (ci := 13) (v := .ref (v 10)) (C := RX12) (T := TX12) (N := 48) hx hb hts kin_RX12 hown hG.1 hP 38 rfl rfl 26 (by decide) (hts _ wm_1545) (fun _ h9 => h9) rfl dX12_movesTold_56 ?_
  refine lv_iload_n hx hb dX12_movesTold_59 rfl (lv_at hl 1 rfl) ?_
  refine k_aldA hx hb hG.1 hP 0 rfl (by unfold vp_in; decide) dX12_movesTold_60 ?_
  refine W.eq (g2 := F0 m 61 ls [.ref ((v 10) + 1 + 10), .ref a, .ref (v 0), .int 1, .ref ((v 10) + 1 + 10)]) rfl ?_
  refine lv_iload hx hb dX12_movesTold_61 (lv_at hl 0 rfl) ?_
  refine va_iald hx hb hG.1 hP 11 0 rfl rfl (by unfold vp_in; decide) dX12_movesTold_63 ?_
  refine lv_topi (fun x68 ex68 => ?_)
  obtain rfl : x68 = 0 := ex68.trans (rfl)
  refine lv_iload_n hx hb dX12_movesTold_64 rfl (lv_at hl 4 rfl) ?_
  refine k_cali [0, 1, 2, 3, 4, 5, 6, 7, 8, 9, 10, 11, 12, 13, 14, 15, 16, 17, 18, 19, 20, 21, 22, 23, 24, 25, 26, 27, 28, 29, 30, 31, 32, 33, 34, 35, 36, 37] (⟨hP, hD, hG, hS, hA, rfl, rfl⟩ : kAt D cy sa A s H _ _ [((v 0), .inr (13, [.int 0, .int 0, .int 0, .int (-1), .int 0, .int 0, .int 0, .int 0, .ref (v 1), .ref (v 2), .ref (v 3), .ref (v 4), .ref (v 5), .ref (v 6), .ref (v 7), .ref (v 8), .ref (v 9), .int 0, .int 0, .int 0, .int 0, .int 0, .int 0, .int 0, .int 0, .int 0, .ref (v 10), .ref (v 11), .ref (v 12), .ref (v 13), .int 65, .ref (v 14), .ref (v 15), .ref (v 16), .ref (v 17), .ref (v 18), .int 0, .int 0, .int 0, .ref (v 19), .ref (v 20), .ref (v 21), .ref (v 22), .ref (v 23), .int 0, .int 0, .int 0, .int 0])), (a, .inl (cy 0, 120, .inl (fun _ => 0)))] [38, 39]) (wr := (toldW cy v ++ [])) rfl rfl (by decide) (k_runV 13 38 (As := [.ref a, .int 0, .int b]) (rest := [.int 1, .ref ((v 10) + 1 + 10)]) E lk_VRX12_251 rfl rfl rfl (m_moves l hl0 D cy sa v a 0 65 (by unfold vp_in; decide) b H.size) (⟨hP, hD, hG, hS, hA, rfl, rfl⟩ : kAt D cy sa A s H _ _ [((v 0), .inr (13, [.int 0, .int 0, .int 0, .int (-1), .int 0, .int 0, .int 0, .int 0, .ref (v 1), .ref (v 2), .ref (v 3), .ref (v 4), .ref (v 5), .ref (v 6), .ref (v 7), .ref (v 8), .ref (v 9), .int 0, .int 0, .int 0, .int 0, .int 0, .int 0, .int 0, .int 0, .int 0, .ref (v 10), .ref (v 11), .ref (v 12), .ref (v 13), .int 65, .ref (v 14), .ref (v 15), .ref (v 16), .ref (v 17), .ref (v 18), .int 0, .int 0, .int 0, .ref (v 19), .ref (v 20), .ref (v 21), .ref (v 22), .ref (v 23), .int 0, .int 0, .int 0, .int 0])), (a, .inl (cy 0, 120, .inl (fun _ => 0)))] [38, 39]) hl.1 rfl rfl ⟨rfl, rfl, ⟨Nat.le_of_ble_eq_true rfl, Nat.le_of_ble_eq_true rfl⟩, ⟨Nat.le_of_ble_eq_true rfl, Nat.le_of_ble_eq_true rfl⟩, Nat.le_of_ble_eq_true rfl⟩ dX12_movesTold_65) (fun r69 u70 H locs hwu70 hP hD hS => ?_)
  have hP : va_P D vwCl (toldW cy v ++ [((v 0), .inr (13, [.int 0, .int 0, .int 0, .int (-1), .int 0, .int 0, .int 0, .int 0, .ref (v 1), .ref (v 2), .ref (v 3), .ref (v 4), .ref (v 5), .ref (v 6), .ref (v 7), .ref (v 8), .ref (v 9), .int 0, .int 0, .int 0, .int 0, .int 0, .int 0, .int 0, .int 0, .int 0, .ref (v 10), .ref (v 11), .ref (v 12), .ref (v 13), .int 66, .ref (v 14), .ref (v 15), .ref (v 16), .ref (v 17), .ref (v 18), .int 0, .int 0, .int 0, .ref (v 19), .ref (v 20), .ref (v 21), .ref (v 22), .ref (v 23), .int 0, .int 0, .int 0, .int 0])), (a, .inl (cy 0, 120, .inl (fun _ => 0)))]) H := hP
  have hD : va_D A (toldW cy v ++ [((v 0), .inr (13, [.int 0, .int 0, .int 0, .int (-1), .int 0, .int 0, .int 0, .int 0, .ref (v 1), .ref (v 2), .ref (v 3), .ref (v 4), .ref (v 5), .ref (v 6), .ref (v 7), .ref (v 8), .ref (v 9), .int 0, .int 0, .int 0, .int 0, .int 0, .int 0, .int 0, .int 0, .int 0, .ref (v 10), .ref (v 11), .ref (v 12), .ref (v 13), .int 66, .ref (v 14), .ref (v 15), .ref (v 16), .ref (v 17), .ref (v 18), .int 0, .int 0, .int 0, .ref (v 19), .ref (v 20), .ref (v 21), .ref (v 22), .ref (v 23), .int 0, .int 0, .int 0, .int 0])), (a, .inl (cy 0, 120, .inl (fun _ => 0)))]) := hD
  obtain rfl : r69 = 0 := hwu70
  refine k_iast0 hx hb hG.1 hP hD hS 11 0 rfl rfl (by unfold vp_in; decide) dX12_movesTold_68 (fun H locs hP hD hS => ?_)
  refine lv_iinc (v := 2) (lv' := [(4, .int 2), (3, .int 10), (0, .ref (v 0)), (1, .ref a), (2, .int b)]) hx hb dX12_movesTold_69 hl (k := 0) rfl (by decide) (by decide) rfl (fun ls hl => ?_)
  refine lv_goto (tgt := 39) hx hb dX12_movesTold_72 (by decide) ?_
  refine lv_iload hx hb dX12_movesTold_39 (lv_at hl 0 rfl) ?_
  refine lv_iconst (v := 2) hx hb dX12_movesTold_41 (by decide) ?_
  refine lv_icmp_ge (tgt := 75) hx hb dX12_movesTold_42 (by decide) (fun _ => ?_) (fun h => absurd (by decide) h)
  refine lv_iinc (v := 11) (lv' := [(3, .int 11), (4, .int 2), (0, .ref (v 0)), (1, .ref a), (2, .int b)]) hx hb dX12_movesTold_75 hl (k := 1) rfl (by decide) (by decide) rfl (fun ls hl => ?_)
  refine lv_goto (tgt := 30) hx hb dX12_movesTold_78 (by decide) ?_
  refine lv_iload_n hx hb dX12_movesTold_30 rfl (lv_at hl 0 rfl) ?_
  refine lv_bipush (v := 30) hx hb dX12_movesTold_31 (by decide) ?_
  refine lv_icmp_ge (tgt := 81) hx hb dX12_movesTold_33 (by decide) (fun h => absurd h (by decide)) (fun _ => ?_)
  refine lv_iconst (v := 0) hx hb dX12_movesTold_36 (by decide) ?_
  refine lv_istore (lv' := [(4, .int 0), (3, .int 11), (0, .ref (v 0)), (1, .ref a), (2, .int b)]) hx hb dX12_movesTold_37 hl (by decide) rfl (fun ls hl => ?_)
  refine lv_iload hx hb dX12_movesTold_39 (lv_at hl 0 rfl) ?_
  refine lv_iconst (v := 2) hx hb dX12_movesTold_41 (by decide) ?_
  refine lv_icmp_ge (tgt := 75) hx hb dX12_movesTold_42 (by decide) (fun h => absurd h (by decide)) (fun _ => ?_)
  refine lv_aload_n hx hb dX12_movesTold_45 rfl (lv_at hl 2 rfl) ?_
  refine va_get (D := D) (ci := 13) (v := .ref (v 10)) (C := RX12) (T := TX12) (N := 48) hx hb hts kin_RX12 hown hG.1 hP 38 rfl rfl 26 (by decide) (hts _ wm_1545) (fun _ h9 => h9) rfl dX12_movesTold_46 ?_
  refine lv_iload_n hx hb dX12_movesTold_49 rfl (lv_at hl 1 rfl) ?_
  refine k_aldA hx hb hG.1 hP 0 rfl (by unfold vp_in; decide) dX12_movesTold_50 ?_
  refine W.eq (g2 := F0 m 51 ls [.ref ((v 10) + 1 + 11)]) rfl ?_
  refine lv_iload hx hb dX12_movesTold_51 (lv_at hl 0 rfl) ?_
  refine lv_aload_n hx hb dX12_movesTold_53 rfl (lv_at hl 2 rfl) ?_
  refine lv_aload_n hx hb dX12_movesTold_54 rfl (lv_at hl 3 rfl) ?_
  refine lv_aload_n hx hb dX12_movesTold_55 rfl (lv_at hl 2 rfl) ?_
  refine va_get (D := D) (ci := 13) (v := .ref (v 10)) (C := RX12) (T := TX12) (N := 48) hx hb hts kin_RX12 hown hG.1 hP 38 rfl rfl 26 (by decide) (hts _ wm_1545) (fun _ h9 => h9) rfl dX12_movesTold_56 ?_
  refine lv_iload_n hx hb dX12_movesTold_59 rfl (lv_at hl 1 rfl) ?_
  refine k_aldA hx hb hG.1 hP 0 rfl (by unfold vp_in; decide) dX12_movesTold_60 ?_
  refine W.eq (g2 := F0 m 61 ls [.ref ((v 10) + 1 + 11), .ref a, .ref (v 0), .int 0, .ref ((v 10) + 1 + 11)]) rfl ?_
  refine lv_iload hx hb dX12_movesTold_61 (lv_at hl 0 rfl) ?_
  refine va_iald hx hb hG.1 hP 12 0 rfl rfl (by unfold vp_in; decide) dX12_movesTold_63 ?_
  refine lv_topi (fun x71 ex71 => ?_)
  obtain rfl : x71 = 0 := ex71.trans (rfl)
  refine lv_iload_n hx hb dX12_movesTold_64 rfl (lv_at hl 4 rfl) ?_
  refine k_cali [0, 1, 2, 3, 4, 5, 6, 7, 8, 9, 10, 11, 12, 13, 14, 15, 16, 17, 18, 19, 20, 21, 22, 23, 24, 25, 26, 27, 28, 29, 30, 31, 32, 33, 34, 35, 36, 37] (⟨hP, hD, hG, hS, hA, rfl, rfl⟩ : kAt D cy sa A s H _ _ [((v 0), .inr (13, [.int 0, .int 0, .int 0, .int (-1), .int 0, .int 0, .int 0, .int 0, .ref (v 1), .ref (v 2), .ref (v 3), .ref (v 4), .ref (v 5), .ref (v 6), .ref (v 7), .ref (v 8), .ref (v 9), .int 0, .int 0, .int 0, .int 0, .int 0, .int 0, .int 0, .int 0, .int 0, .ref (v 10), .ref (v 11), .ref (v 12), .ref (v 13), .int 66, .ref (v 14), .ref (v 15), .ref (v 16), .ref (v 17), .ref (v 18), .int 0, .int 0, .int 0, .ref (v 19), .ref (v 20), .ref (v 21), .ref (v 22), .ref (v 23), .int 0, .int 0, .int 0, .int 0])), (a, .inl (cy 0, 120, .inl (fun _ => 0)))] [38, 39]) (wr := (toldW cy v ++ [])) rfl rfl (by decide) (k_runV 13 38 (As := [.ref a, .int 0, .int b]) (rest := [.int 0, .ref ((v 10) + 1 + 11)]) E lk_VRX12_251 rfl rfl rfl (m_moves l hl0 D cy sa v a 0 66 (by unfold vp_in; decide) b H.size) (⟨hP, hD, hG, hS, hA, rfl, rfl⟩ : kAt D cy sa A s H _ _ [((v 0), .inr (13, [.int 0, .int 0, .int 0, .int (-1), .int 0, .int 0, .int 0, .int 0, .ref (v 1), .ref (v 2), .ref (v 3), .ref (v 4), .ref (v 5), .ref (v 6), .ref (v 7), .ref (v 8), .ref (v 9), .int 0, .int 0, .int 0, .int 0, .int 0, .int 0, .int 0, .int 0, .int 0, .ref (v 10), .ref (v 11), .ref (v 12), .ref (v 13), .int 66, .ref (v 14), .ref (v 15), .ref (v 16), .ref (v 17), .ref (v 18), .int 0, .int 0, .int 0, .ref (v 19), .ref (v 20), .ref (v 21), .ref (v 22), .ref (v 23), .int 0, .int 0, .int 0, .int 0])), (a, .inl (cy 0, 120, .inl (fun _ => 0)))] [38, 39]) hl.1 rfl rfl ⟨rfl, rfl, ⟨Nat.le_of_ble_eq_true rfl, Nat.le_of_ble_eq_true rfl⟩, ⟨Nat.le_of_ble_eq_true rfl, Nat.le_of_ble_eq_true rfl⟩, Nat.le_of_ble_eq_true rfl⟩ dX12_movesTold_65) (fun r72 u73 H locs hwu73 hP hD hS => ?_)
  have hP : va_P D vwCl (toldW cy v ++ [((v 0), .inr (13, [.int 0, .int 0, .int 0, .int (-1), .int 0, .int 0, .int 0, .int 0, .ref (v 1), .ref (v 2), .ref (v 3), .ref (v 4), .ref (v 5), .ref (v 6), .ref (v 7), .ref (v 8), .ref (v 9), .int 0, .int 0, .int 0, .int 0, .int 0, .int 0, .int 0, .int 0, .int 0, .ref (v 10), .ref (v 11), .ref (v 12), .ref (v 13), .int 67, .ref (v 14), .ref (v 15), .ref (v 16), .ref (v 17), .ref (v 18), .int 0, .int 0, .int 0, .ref (v 19), .ref (v 20), .ref (v 21), .ref (v 22), .ref (v 23), .int 0, .int 0, .int 0, .int 0])), (a, .inl (cy 0, 120, .inl (fun _ => 0)))]) H := hP
  have hD : va_D A (toldW cy v ++ [((v 0), .inr (13, [.int 0, .int 0, .int 0, .int (-1), .int 0, .int 0, .int 0, .int 0, .ref (v 1), .ref (v 2), .ref (v 3), .ref (v 4), .ref (v 5), .ref (v 6), .ref (v 7), .ref (v 8), .ref (v 9), .int 0, .int 0, .int 0, .int 0, .int 0, .int 0, .int 0, .int 0, .int 0, .ref (v 10), .ref (v 11), .ref (v 12), .ref (v 13), .int 67, .ref (v 14), .ref (v 15), .ref (v 16), .ref (v 17), .ref (v 18), .int 0, .int 0, .int 0, .ref (v 19), .ref (v 20), .ref (v 21), .ref (v 22), .ref (v 23), .int 0, .int 0, .int 0, .int 0])), (a, .inl (cy 0, 120, .inl (fun _ => 0)))]) := hD
  obtain rfl : r72 = 0 := hwu73
  refine k_iast0 hx hb hG.1 hP hD hS 12 0 rfl rfl (by unfold vp_in; decide) dX12_movesTold_68 (fun H locs hP hD hS => ?_)
  refine lv_iinc (v := 1) (lv' := [(4, .int 1), (3, .int 11), (0, .ref (v 0)), (1, .ref a), (2, .int b)]) hx hb dX12_movesTold_69 hl (k := 0) rfl (by decide) (by decide) rfl (fun ls hl => ?_)
  refine lv_goto (tgt := 39) hx hb dX12_movesTold_72 (by decide) ?_
  refine lv_iload hx hb dX12_movesTold_39 (lv_at hl 0 rfl) ?_
  refine lv_iconst (v := 2) hx hb dX12_movesTold_41 (by decide) ?_
  refine lv_icmp_ge (tgt := 75) hx hb dX12_movesTold_42 (by decide) (fun h => absurd h (by decide)) (fun _ => ?_)
  refine lv_aload_n hx hb dX12_movesTold_45 rfl (lv_at hl 2 rfl) ?_
  refine va_get (D := D) (ci := 13) (v := .ref (v 10)) (C := RX12) (T := TX12) (N := 48) hx hb hts kin_RX12 hown hG.1 hP 38 rfl rfl 26 (by decide) (hts _ wm_1545) (fun _ h9 => h9) rfl dX12_movesTold_46 ?_
  refine lv_iload_n hx hb dX12_movesTold_49 rfl (lv_at hl 1 rfl) ?_
  refine k_aldA hx hb hG.1 hP 0 rfl (by unfold vp_in; decide) dX12_movesTold_50 ?_
  refine W.eq (g2 := F0 m 51 ls [.ref ((v 10) + 1 + 11)]) rfl ?_
  refine lv_iload hx hb dX12_movesTold_51 (lv_at hl 0 rfl) ?_
  refine lv_aload_n hx hb dX12_movesTold_53 rfl (lv_at hl 2 rfl) ?_
  refine lv_aload_n hx hb dX12_movesTold_54 rfl (lv_at hl 3 rfl) ?_
  refine lv_aload_n hx hb dX12_movesTold_55 rfl (lv_at hl 2 rfl) ?_
  refine va_get (D := D) (ci := 13) (v := .ref (v 10)) (C := RX12) (T := TX12) (N := 48) hx hb hts kin_RX12 hown hG.1 hP 38 rfl rfl 26 (by decide) (hts _ wm_1545) (fun _ h9 => h9) rfl dX12_movesTold_56 ?_
  refine lv_iload_n hx hb dX12_movesTold_59 rfl (lv_at hl 1 rfl) ?_
  refine k_aldA hx hb hG.1 hP 0 rfl (by unfold vp_in; decide) dX12_movesTold_60 ?_
  refine W.eq (g2 := F0 m 61 ls [.ref ((v 10) + 1 + 11), .ref a, .ref (v 0), .int 1, .ref ((v 10) + 1 + 11)]) rfl ?_
  refine lv_iload hx hb dX12_movesTold_61 (lv_at hl 0 rfl) ?_
  refine va_iald hx hb hG.1 hP 12 0 rfl rfl (by unfold vp_in; decide) dX12_movesTold_63 ?_
  refine lv_topi (fun x74 ex74 => ?_)
  obtain rfl : x74 = 0 := ex74.trans (rfl)
  refine lv_iload_n hx hb dX12_movesTold_64 rfl (lv_at hl 4 rfl) ?_
  refine k_cali [0, 1, 2, 3, 4, 5, 6, 7, 8, 9, 10, 11, 12, 13, 14, 15, 16, 17, 18, 19, 20, 21, 22, 23, 24, 25, 26, 27, 28, 29, 30, 31, 32, 33, 34, 35, 36, 37] (⟨hP, hD, hG, hS, hA, rfl, rfl⟩ : kAt D cy sa A s H _ _ [((v 0), .inr (13, [.int 0, .int 0, .int 0, .int (-1), .int 0, .int 0, .int 0, .int 0, .ref (v 1), .ref (v 2), .ref (v 3), .ref (v 4), .ref (v 5), .ref (v 6), .ref (v 7), .ref (v 8), .ref (v 9), .int 0, .int 0, .int 0, .int 0, .int 0, .int 0, .int 0, .int 0, .int 0, .ref (v 10), .ref (v 11), .ref (v 12), .ref (v 13), .int 67, .ref (v 14), .ref (v 15), .ref (v 16), .ref (v 17), .ref (v 18), .int 0, .int 0, .int 0, .ref (v 19), .ref (v 20), .ref (v 21), .ref (v 22), .ref (v 23), .int 0, .int 0, .int 0, .int 0])), (a, .inl (cy 0, 120, .inl (fun _ => 0)))] [38, 39]) (wr := (toldW cy v ++ [])) rfl rfl (by decide) (k_runV 13 38 (As := [.ref a, .int 0, .int b]) (rest := [.int 1, .ref ((v 10) + 1 + 11)]) E lk_VRX12_251 rfl rfl rfl (m_moves l hl0 D cy sa v a 0 67 (by unfold vp_in; decide) b H.size) (⟨hP, hD, hG, hS, hA, rfl, rfl⟩ : kAt D cy sa A s H _ _ [((v 0), .inr (13, [.int 0, .int 0, .int 0, .int (-1), .int 0, .int 0, .int 0, .int 0, .ref (v 1), .ref (v 2), .ref (v 3), .ref (v 4), .ref (v 5), .ref (v 6), .ref (v 7), .ref (v 8), .ref (v 9), .int 0, .int 0, .int 0, .int 0, .int 0, .int 0, .int 0, .int 0, .int 0, .ref (v 10), .ref (v 11), .ref (v 12), .ref (v 13), .int 67, .ref (v 14), .ref (v 15), .ref (v 16), .ref (v 17), .ref (v 18), .int 0, .int 0, .int 0, .ref (v 19), .ref (v 20), .ref (v 21), .ref (v 22), .ref (v 23), .int 0, .int 0, .int 0, .int 0])), (a, .inl (cy 0, 120, .inl (fun _ => 0)))] [38, 39]) hl.1 rfl rfl ⟨rfl, rfl, ⟨Nat.le_of_ble_eq_true rfl, Nat.le_of_ble_eq_true rfl⟩, ⟨Nat.le_of_ble_eq_true rfl, Nat.le_of_ble_eq_true rfl⟩, Nat.le_of_ble_eq_true rfl⟩ dX12_movesTold_65) (fun r75 u76 H locs hwu76 hP hD hS => ?_)
  have hP : va_P D vwCl (toldW cy v ++ [((v 0), .inr (13, [.int 0, .int 0, .int 0, .int (-1), .int 0, .int 0, .int 0, .int 0, .ref (v 1), .ref (v 2), .ref (v 3), .ref (v 4), .ref (v 5), .ref (v 6), .ref (v 7), .ref (v 8), .ref (v 9), .int 0, .int 0, .int 0, .int 0, .int 0, .int 0, .int 0, .int 0, .int 0, .ref (v 10), .ref (v 11), .ref (v 12), .ref (v 13), .int 68, .ref (v 14), .ref (v 15), .ref (v 16), .ref (v 17), .ref (v 18), .int 0, .int 0, .int 0, .ref (v 19), .ref (v 20), .ref (v 21), .ref (v 22), .ref (v 23), .int 0, .int 0, .int 0, .int 0])), (a, .inl (cy 0, 120, .inl (fun _ => 0)))]) H := hP
  have hD : va_D A (toldW cy v ++ [((v 0), .inr (13, [.int 0, .int 0, .int 0, .int (-1), .int 0, .int 0, .int 0, .int 0, .ref (v 1), .ref (v 2), .ref (v 3), .ref (v 4), .ref (v 5), .ref (v 6), .ref (v 7), .ref (v 8), .ref (v 9), .int 0, .int 0, .int 0, .int 0, .int 0, .int 0, .int 0, .int 0, .int 0, .ref (v 10), .ref (v 11), .ref (v 12), .ref (v 13), .int 68, .ref (v 14), .ref (v 15), .ref (v 16), .ref (v 17), .ref (v 18), .int 0, .int 0, .int 0, .ref (v 19), .ref (v 20), .ref (v 21), .ref (v 22), .ref (v 23), .int 0, .int 0, .int 0, .int 0])), (a, .inl (cy 0, 120, .inl (fun _ => 0)))]) := hD
  obtain rfl : r75 = 0 := hwu76
  refine k_iast0 hx hb hG.1 hP hD hS 12 0 rfl rfl (by unfold vp_in; decide) dX12_movesTold_68 (fun H locs hP hD hS => ?_)
  refine lv_iinc (v := 2) (lv' := [(4, .int 2), (3, .int 11), (0, .ref (v 0)), (1, .ref a), (2, .int b)]) hx hb dX12_movesTold_69 hl (k := 0) rfl (by decide) (by decide) rfl (fun ls hl => ?_)
  refine lv_goto (tgt := 39) hx hb dX12_movesTold_72 (by decide) ?_
  refine lv_iload hx hb dX12_movesTold_39 (lv_at hl 0 rfl) ?_
  refine lv_iconst (v := 2) hx hb dX12_movesTold_41 (by decide) ?_
  refine lv_icmp_ge (tgt := 75) hx hb dX12_movesTold_42 (by decide) (fun _ => ?_) (fun h => absurd (by decide) h)
  refine lv_iinc (v := 12) (lv' := [(3, .int 12), (4, .int 2), (0, .ref (v 0)), (1, .ref a), (2, .int b)]) hx hb dX12_movesTold_75 hl (k := 1) rfl (by decide) (by decide) rfl (fun ls hl => ?_)
  refine lv_goto (tgt := 30) hx hb dX12_movesTold_78 (by decide) ?_
  refine lv_iload_n hx hb dX12_movesTold_30 rfl (lv_at hl 0 rfl) ?_
  refine lv_bipush (v := 30) hx hb dX12_movesTold_31 (by decide) ?_
  refine lv_icmp_ge (tgt := 81) hx hb dX12_movesTold_33 (by decide) (fun h => absurd h (by decide)) (fun _ => ?_)
  refine lv_iconst (v := 0) hx hb dX12_movesTold_36 (by decide) ?_
  refine lv_istore (lv' := [(4, .int 0), (3, .int 12), (0, .ref (v 0)), (1, .ref a), (2, .int b)]) hx hb dX12_movesTold_37 hl (by decide) rfl (fun ls hl => ?_)
  refine lv_iload hx hb dX12_movesTold_39 (lv_at hl 0 rfl) ?_
  refine lv_iconst (v := 2) hx hb dX12_movesTold_41 (by decide) ?_
  refine lv_icmp_ge (tgt := 75) hx hb dX12_movesTold_42 (by decide) (fun h => absurd h (by decide)) (fun _ => ?_)
  refine lv_aload_n hx hb dX12_movesTold_45 rfl (lv_at hl 2 rfl) ?_
  refine va_get (D := D) (ci := 13) (v := .ref (v 10)) (C := RX12) (T := TX12) (N := 48) hx hb hts kin_RX12 hown hG.1 hP 38 rfl rfl 26 (by decide) (hts _ wm_1545) (fun _ h9 => h9) rfl dX12_movesTold_46 ?_
  refine lv_iload_n hx hb dX12_movesTold_49 rfl (lv_at hl 1 rfl) ?_
  refine k_aldA hx hb hG.1 hP 0 rfl (by unfold vp_in; decide) dX12_movesTold_50 ?_
  refine W.eq (g2 := F0 m 51 ls [.ref ((v 10) + 1 + 12)]) rfl ?_
  refine lv_iload hx hb dX12_movesTold_51 (lv_at hl 0 rfl) ?_
  refine lv_aload_n hx hb dX12_movesTold_53 rfl (lv_at hl 2 rfl) ?_
  refine lv_aload_n hx hb dX12_movesTold_54 rfl (lv_at hl 3 rfl) ?_
  refine lv_aload_n hx hb dX12_movesTold_55 rfl (lv_at hl 2 rfl) ?_
  refine va_get (D := D) (ci := 13) (v := .ref (v 10)) (C := RX12) (T := TX12) (N := 48) hx hb hts kin_RX12 hown hG.1 hP 38 rfl rfl 26 (by decide) (hts _ wm_1545) (fun _ h9 => h9) rfl dX12_movesTold_56 ?_
  refine lv_iload_n hx hb dX12_movesTold_59 rfl (lv_at hl 1 rfl) ?_
  refine k_aldA hx hb hG.1 hP 0 rfl (by unfold vp_in; decide) dX12_movesTold_60 ?_
  refine W.eq (g2 := F0 m 61 ls [.ref ((v 10) + 1 + 12), .ref a, .ref (v 0), .int 0, .ref ((v 10) + 1 + 12)]) rfl ?_
  refine lv_iload hx hb dX12_movesTold_61 (lv_at hl 0 rfl) ?_
  refine va_iald hx hb hG.1 hP 13 0 rfl rfl (by unfold vp_in; decide) dX12_movesTold_63 ?_
  refine lv_topi (fun x77 ex77 => ?_)
  obtain rfl : x77 = 0 := ex77.trans (rfl)
  refine lv_iload_n hx hb dX12_movesTold_64 rfl (lv_at hl 4 rfl) ?_
  refine k_cali [0, 1, 2, 3, 4, 5, 6, 7, 8, 9, 10, 11, 12, 13, 14, 15, 16, 17, 18, 19, 20, 21, 22, 23, 24, 25, 26, 27, 28, 29, 30, 31, 32, 33, 34, 35, 36, 37] (⟨hP, hD, hG, hS, hA, rfl, rfl⟩ : kAt D cy sa A s H _ _ [((v 0), .inr (13, [.int 0, .int 0, .int 0, .int (-1), .int 0, .int 0, .int 0, .int 0, .ref (v 1), .ref (v 2), .ref (v 3), .ref (v 4), .ref (v 5), .ref (v 6), .ref (v 7), .ref (v 8), .ref (v 9), .int 0, .int 0, .int 0, .int 0, .int 0, .int 0, .int 0, .int 0, .int 0, .ref (v 10), .ref (v 11), .ref (v 12), .ref (v 13), .int 68, .ref (v 14), .ref (v 15), .ref (v 16), .ref (v 17), .ref (v 18), .int 0, .int 0, .int 0, .ref (v 19), .ref (v 20), .ref (v 21), .ref (v 22), .ref (v 23), .int 0, .int 0, .int 0, .int 0])), (a, .inl (cy 0, 120, .inl (fun _ => 0)))] [38, 39]) (wr := (toldW cy v ++ [])) rfl rfl (by decide) (k_runV 13 38 (As := [.ref a, .int 0, .int b]) (rest := [.int 0, .ref ((v 10) + 1 + 12)]) E lk_VRX12_251 rfl rfl rfl (m_moves l hl0 D cy sa v a 0 68 (by unfold vp_in; decide) b H.size) (⟨hP, hD, hG, hS, hA, rfl, rfl⟩ : kAt D cy sa A s H _ _ [((v 0), .inr (13, [.int 0, .int 0, .int 0, .int (-1), .int 0, .int 0, .int 0, .int 0, .ref (v 1), .ref (v 2), .ref (v 3), .ref (v 4), .ref (v 5), .ref (v 6), .ref (v 7), .ref (v 8), .ref (v 9), .int 0, .int 0, .int 0, .int 0, .int 0, .int 0, .int 0, .int 0, .int 0, .ref (v 10), .ref (v 11), .ref (v 12), .ref (v 13), .int 68, .ref (v 14), .ref (v 15), .ref (v 16), .ref (v 17), .ref (v 18), .int 0, .int 0, .int 0, .ref (v 19), .ref (v 20), .ref (v 21), .ref (v 22), .ref (v 23), .int 0, .int 0, .int 0, .int 0])), (a, .inl (cy 0, 120, .inl (fun _ => 0)))] [38, 39]) hl.1 rfl rfl ⟨rfl, rfl, ⟨Nat.le_of_ble_eq_true rfl, Nat.le_of_ble_eq_true rfl⟩, ⟨Nat.le_of_ble_eq_true rfl, Nat.le_of_ble_eq_true rfl⟩, Nat.le_of_ble_eq_true rfl⟩ dX12_movesTold_65) (fun r78 u79 H locs hwu79 hP hD hS => ?_)
  have hP : va_P D vwCl (toldW cy v ++ [((v 0), .inr (13, [.int 0, .int 0, .int 0, .int (-1), .int 0, .int 0, .int 0, .int 0, .ref (v 1), .ref (v 2), .ref (v 3), .ref (v 4), .ref (v 5), .ref (v 6), .ref (v 7), .ref (v 8), .ref (v 9), .int 0, .int 0, .int 0, .int 0, .int 0, .int 0, .int 0, .int 0, .int 0, .ref (v 10), .ref (v 11), .ref (v 12), .ref (v 13), .int 69, .ref (v 14), .ref (v 15), .ref (v 16), .ref (v 17), .ref (v 18), .int 0, .int 0, .int 0, .ref (v 19), .ref (v 20), .ref (v 21), .ref (v 22), .ref (v 23), .int 0, .int 0, .int 0, .int 0])), (a, .inl (cy 0, 120, .inl (fun _ => 0)))]) H := hP
  have hD : va_D A (toldW cy v ++ [((v 0), .inr (13, [.int 0, .int 0, .int 0, .int (-1), .int 0, .int 0, .int 0, .int 0, .ref (v 1), .ref (v 2), .ref (v 3), .ref (v 4), .ref (v 5), .ref (v 6), .ref (v 7), .ref (v 8), .ref (v 9), .int 0, .int 0, .int 0, .int 0, .int 0, .int 0, .int 0, .int 0, .int 0, .ref (v 10), .ref (v 11), .ref (v 12), .ref (v 13), .int 69, .ref (v 14), .ref (v 15), .ref (v 16), .ref (v 17), .ref (v 18), .int 0, .int 0, .int 0, .ref (v 19), .ref (v 20), .ref (v 21), .ref (v 22), .ref (v 23), .int 0, .int 0, .int 0, .int 0])), (a, .inl (cy 0, 120, .inl (fun _ => 0)))]) := hD
  obtain rfl : r78 = 0 := hwu79
  refine k_iast0 hx hb hG.1 hP hD hS 13 0 rfl rfl (by unfold vp_in; decide) dX12_movesTold_68 (fun H locs hP hD hS => ?_)
  refine lv_iinc (v := 1) (lv' := [(4, .int 1), (3, .int 12), (0, .ref (v 0)), (1, .ref a), (2, .int b)]) hx hb dX12_movesTold_69 hl (k := 0) rfl (by decide) (by decide) rfl (fun ls hl => ?_)
  refine lv_goto (tgt := 39) hx hb dX12_movesTold_72 (by decide) ?_
  refine lv_iload hx hb dX12_movesTold_39 (lv_at hl 0 rfl) ?_
  refine lv_iconst (v := 2) hx hb dX12_movesTold_41 (by decide) ?_
  refine lv_icmp_ge (tgt := 75) hx hb dX12_movesTold_42 (by decide) (fun h => absurd h (by decide)) (fun _ => ?_)
  refine lv_aload_n hx hb dX12_movesTold_45 rfl (lv_at hl 2 rfl) ?_
  refine va_get (D := D) (ci := 13) (v := .ref (v 10)) (C := RX12) (T := TX12) (N := 48) hx hb hts kin_RX12 hown hG.1 hP 38 rfl rfl 26 (by decide) (hts _ wm_1545) (fun _ h9 => h9) rfl dX12_movesTold_46 ?_
  refine lv_iload_n hx hb dX12_movesTold_49 rfl (lv_at hl 1 rfl) ?_
  refine k_aldA hx hb hG.1 hP 0 rfl (by unfold vp_in; decide) dX12_movesTold_50 ?_
  refine W.eq (g2 := F0 m 51 ls [.ref ((v 10) + 1 + 12)]) rfl ?_
  refine lv_iload hx hb dX12_movesTold_51 (lv_at hl 0 rfl) ?_
  refine lv_aload_n hx hb dX12_movesTold_53 rfl (lv_at hl 2 rfl) ?_
  refine lv_aload_n hx hb dX12_movesTold_54 rfl (lv_at hl 3 rfl) ?_
  refine lv_aload_n hx hb dX12_movesTold_55 rfl (lv_at hl 2 rfl) ?_
  refine va_get (D := D) (ci := 13) (v := .ref (v 10)) (C := RX12) (T := TX12) (N := 48) hx hb hts kin_RX12 hown hG.1 hP 38 rfl rfl 26 (by decide) (hts _ wm_1545) (fun _ h9 => h9) rfl dX12_movesTold_56 ?_
  refine lv_iload_n hx hb dX12_movesTold_59 rfl (lv_at hl 1 rfl) ?_
  refine k_aldA hx hb hG.1 hP 0 rfl (by unfold vp_in; decide) dX12_movesTold_60 ?_
  refine W.eq (g2 := F0 m 61 ls [.ref ((v 10) + 1 + 12), .ref a, .ref (v 0), .int 1, .ref ((v 10) + 1 + 12)]) rfl ?_
  refine lv_iload hx hb dX12_movesTold_61 (lv_at hl 0 rfl) ?_
  refine va_iald hx hb hG.1 hP 13 0 rfl rfl (by unfold vp_in; decide) dX12_movesTold_63 ?_
  refine lv_topi (fun x80 ex80 => ?_)
  obtain rfl : x80 = 0 := ex80.trans (rfl)
  refine lv_iload_n hx hb dX12_movesTold_64 rfl (lv_at hl 4 rfl) ?_
  refine k_cali [0, 1, 2, 3, 4, 5, 6, 7, 8, 9, 10, 11, 12, 13, 14, 15, 16, 17, 18, 19, 20, 21, 22, 23, 24, 25, 26, 27, 28, 29, 30, 31, 32, 33, 34, 35, 36, 37] (⟨hP, hD, hG, hS, hA, rfl, rfl⟩ : kAt D cy sa A s H _ _ [((v 0), .inr (13, [.int 0, .int 0, .int 0, .int (-1), .int 0, .int 0, .int 0, .int 0, .ref (v 1), .ref (v 2), .ref (v 3), .ref (v 4), .ref (v 5), .ref (v 6), .ref (v 7), .ref (v 8), .ref (v 9), .int 0, .int 0, .int 0, .int 0, .int 0, .int 0, .int 0, .int 0, .int 0, .ref (v 10), .ref (v 11), .ref (v 12), .ref (v 13), .int 69, .ref (v 14), .ref (v 15), .ref (v 16), .ref (v 17), .ref (v 18), .int 0, .int 0, .int 0, .ref (v 19), .ref (v 20), .ref (v 21), .ref (v 22), .ref (v 23), .int 0, .int 0, .int 0, .int 0])), (a, .inl (cy 0, 120, .inl (fun _ => 0)))] [38, 39]) (wr := (toldW cy v ++ [])) rfl rfl (by decide) (k_runV 13 38 (As := [.ref a, .int 0, .int b]) (rest := [.int 1, .ref ((v 10) + 1 + 12)]) E lk_VRX12_251 rfl rfl rfl (m_moves l hl0 D cy sa v a 0 69 (by unfold vp_in; decide) b H.size) (⟨hP, hD, hG, hS, hA, rfl, rfl⟩ : kAt D cy sa A s H _ _ [((v 0), .inr (13, [.int 0, .int 0, .int 0, .int (-1), .int 0, .int 0, .int 0, .int 0, .ref (v 1), .ref (v 2), .ref (v 3), .ref (v 4), .ref (v 5), .ref (v 6), .ref (v 7), .ref (v 8), .ref (v 9), .int 0, .int 0, .int 0, .int 0, .int 0, .int 0, .int 0, .int 0, .int 0, .ref (v 10), .ref (v 11), .ref (v 12), .ref (v 13), .int 69, .ref (v 14), .ref (v 15), .ref (v 16), .ref (v 17), .ref (v 18), .int 0, .int 0, .int 0, .ref (v 19), .ref (v 20), .ref (v 21), .ref (v 22), .ref (v 23), .int 0, .int 0, .int 0, .int 0])), (a, .inl (cy 0, 120, .inl (fun _ => 0)))] [38, 39]) hl.1 rfl rfl ⟨rfl, rfl, ⟨Nat.le_of_ble_eq_true rfl, Nat.le_of_ble_eq_true rfl⟩, ⟨Nat.le_of_ble_eq_true rfl, Nat.le_of_ble_eq_true rfl⟩, Nat.le_of_ble_eq_true rfl⟩ dX12_movesTold_65) (fun r81 u82 H locs hwu82 hP hD hS => ?_)
  have hP : va_P D vwCl (toldW cy v ++ [((v 0), .inr (13, [.int 0, .int 0, .int 0, .int (-1), .int 0, .int 0, .int 0, .int 0, .ref (v 1), .ref (v 2), .ref (v 3), .ref (v 4), .ref (v 5), .ref (v 6), .ref (v 7), .ref (v 8), .ref (v 9), .int 0, .int 0, .int 0, .int 0, .int 0, .int 0, .int 0, .int 0, .int 0, .ref (v 10), .ref (v 11), .ref (v 12), .ref (v 13), .int 70, .ref (v 14), .ref (v 15), .ref (v 16), .ref (v 17), .ref (v 18), .int 0, .int 0, .int 0, .ref (v 19), .ref (v 20), .ref (v 21), .ref (v 22), .ref (v 23), .int 0, .int 0, .int 0, .int 0])), (a, .inl (cy 0, 120, .inl (fun _ => 0)))]) H := hP
  have hD : va_D A (toldW cy v ++ [((v 0), .inr (13, [.int 0, .int 0, .int 0, .int (-1), .int 0, .int 0, .int 0, .int 0, .ref (v 1), .ref (v 2), .ref (v 3), .ref (v 4), .ref (v 5), .ref (v 6), .ref (v 7), .ref (v 8), .ref (v 9), .int 0, .int 0, .int 0, .int 0, .int 0, .int 0, .int 0, .int 0, .int 0, .ref (v 10), .ref (v 11), .ref (v 12), .ref (v 13), .int 70, .ref (v 14), .ref (v 15), .ref (v 16), .ref (v 17), .ref (v 18), .int 0, .int 0, .int 0, .ref (v 19), .ref (v 20), .ref (v 21), .ref (v 22), .ref (v 23), .int 0, .int 0, .int 0, .int 0])), (a, .inl (cy 0, 120, .inl (fun _ => 0)))]) := hD
  obtain rfl : r81 = 0 := hwu82
  refine k_iast0 hx hb hG.1 hP hD hS 13 0 rfl rfl (by unfold vp_in; decide) dX12_movesTold_68 (fun H locs hP hD hS => ?_)
  refine lv_iinc (v := 2) (lv' := [(4, .int 2), (3, .int 12), (0, .ref (v 0)), (1, .ref a), (2, .int b)]) hx hb dX12_movesTold_69 hl (k := 0) rfl (by decide) (by decide) rfl (fun ls hl => ?_)
  refine lv_goto (tgt := 39) hx hb dX12_movesTold_72 (by decide) ?_
  refine lv_iload hx hb dX12_movesTold_39 (lv_at hl 0 rfl) ?_
  refine lv_iconst (v := 2) hx hb dX12_movesTold_41 (by decide) ?_
  refine lv_icmp_ge (tgt := 75) hx hb dX12_movesTold_42 (by decide) (fun _ => ?_) (fun h => absurd (by decide) h)
  refine lv_iinc (v := 13) (lv' := [(3, .int 13), (4, .int 2), (0, .ref (v 0)), (1, .ref a), (2, .int b)]) hx hb dX12_movesTold_75 hl (k := 1) rfl (by decide) (by decide) rfl (fun ls hl => ?_)
  refine lv_goto (tgt := 30) hx hb dX12_movesTold_78 (by decide) ?_
  refine lv_iload_n hx hb dX12_movesTold_30 rfl (lv_at hl 0 rfl) ?_
  refine lv_bipush (v := 30) hx hb dX12_movesTold_31 (by decide) ?_
  refine lv_icmp_ge (tgt := 81) hx hb dX12_movesTold_33 (by decide) (fun h => absurd h (by decide)) (fun _ => ?_)
  refine lv_iconst (v := 0) hx hb dX12_movesTold_36 (by decide) ?_
  refine lv_istore (lv' := [(4, .int 0), (3, .int 13), (0, .ref (v 0)), (1, .ref a), (2, .int b)]) hx hb dX12_movesTold_37 hl (by decide) rfl (fun ls hl => ?_)
  refine lv_iload hx hb dX12_movesTold_39 (lv_at hl 0 rfl) ?_
  refine lv_iconst (v := 2) hx hb dX12_movesTold_41 (by decide) ?_
  refine lv_icmp_ge (tgt := 75) hx hb dX12_movesTold_42 (by decide) (fun h => absurd h (by decide)) (fun _ => ?_)
  refine lv_aload_n hx hb dX12_movesTold_45 rfl (lv_at hl 2 rfl) ?_
  refine va_get (D := D) (ci := 13) (v := .ref (v 10)) (C := RX12) (T := TX12) (N := 48) hx hb hts kin_RX12 hown hG.1 hP 38 rfl rfl 26 (by decide) (hts _ wm_1545) (fun _ h9 => h9) rfl dX12_movesTold_46 ?_
  refine lv_iload_n hx hb dX12_movesTold_49 rfl (lv_at hl 1 rfl) ?_
  refine k_aldA hx hb hG.1 hP 0 rfl (by unfold vp_in; decide) dX12_movesTold_50 ?_
  refine W.eq (g2 := F0 m 51 ls [.ref ((v 10) + 1 + 13)]) rfl ?_
  refine lv_iload hx hb dX12_movesTold_51 (lv_at hl 0 rfl) ?_
  refine lv_aload_n hx hb dX12_movesTold_53 rfl (lv_at hl 2 rfl) ?_
  refine lv_aload_n hx hb dX12_movesTold_54 rfl (lv_at hl 3 rfl) ?_
  refine lv_aload_n hx hb dX12_movesTold_55 rfl (lv_at hl 2 rfl) ?_
  refine va_get (D := D) (ci := 13) (v := .ref (v 10)) (C := RX12) (T := TX12) (N := 48) hx hb hts kin_RX12 hown hG.1 hP 38 rfl rfl 26 (by decide) (hts _ wm_1545) (fun _ h9 => h9) rfl dX12_movesTold_56 ?_
  refine lv_iload_n hx hb dX12_movesTold_59 rfl (lv_at hl 1 rfl) ?_
  refine k_aldA hx hb hG.1 hP 0 rfl (by unfold vp_in; decide) dX12_movesTold_60 ?_
  refine W.eq (g2 := F0 m 61 ls [.ref ((v 10) + 1 + 13), .ref a, .ref (v 0), .int 0, .ref ((v 10) + 1 + 13)]) rfl ?_
  refine lv_iload hx hb dX12_movesTold_61 (lv_at hl 0 rfl) ?_
  refine va_iald hx hb hG.1 hP 14 0 rfl rfl (by unfold vp_in; decide) dX12_movesTold_63 ?_
  refine lv_topi (fun x83 ex83 => ?_)
  obtain rfl : x83 = 0 := ex83.trans (rfl)
  refine lv_iload_n hx hb dX12_movesTold_64 rfl (lv_at hl 4 rfl) ?_
  refine k_cali [0, 1, 2, 3, 4, 5, 6, 7, 8, 9, 10, 11, 12, 13, 14, 15, 16, 17, 18, 19, 20, 21, 22, 23, 24, 25, 26, 27, 28, 29, 30, 31, 32, 33, 34, 35, 36, 37] (⟨hP, hD, hG, hS, hA, rfl, rfl⟩ : kAt D cy sa A s H _ _ [((v 0), .inr (13, [.int 0, .int 0, .int 0, .int (-1), .int 0, .int 0, .int 0, .int 0, .ref (v 1), .ref (v 2), .ref (v 3), .ref (v 4), .ref (v 5), .ref (v 6), .ref (v 7), .ref (v 8), .ref (v 9), .int 0, .int 0, .int 0, .int 0, .int 0, .int 0, .int 0, .int 0, .int 0, .ref (v 10), .ref (v 11), .ref (v 12), .ref (v 13), .int 70, .ref (v 14), .ref (v 15), .ref (v 16), .ref (v 17), .ref (v 18), .int 0, .int 0, .int 0, .ref (v 19), .ref (v 20), .ref (v 21), .ref (v 22), .ref (v 23), .int 0, .int 0, .int 0, .int 0])), (a, .inl (cy 0, 120, .inl (fun _ => 0)))] [38, 39]) (wr := (toldW cy v ++ [])) rfl rfl (by decide) (k_runV 13 38 (As := [.ref a, .int 0, .int b]) (rest := [.int 0, .ref ((v 10) + 1 + 13)]) E lk_VRX12_251 rfl rfl rfl (m_moves l hl0 D cy sa v a 0 70 (by unfold vp_in; decide) b H.size) (⟨hP, hD, hG, hS, hA, rfl, rfl⟩ : kAt D cy sa A s H _ _ [((v 0), .inr (13, [.int 0, .int 0, .int 0, .int (-1), .int 0, .int 0, .int 0, .int 0, .ref (v 1), .ref (v 2), .ref (v 3), .ref (v 4), .ref (v 5), .ref (v 6), .ref (v 7), .ref (v 8), .ref (v 9), .int 0, .int 0, .int 0, .int 0, .int 0, .int 0, .int 0, .int 0, .int 0, .ref (v 10), .ref (v 11), .ref (v 12), .ref (v 13), .int 70, .ref (v 14), .ref (v 15), .ref (v 16), .ref (v 17), .ref (v 18), .int 0, .int 0, .int 0, .ref (v 19), .ref (v 20), .ref (v 21), .ref (v 22), .ref (v 23), .int 0, .int 0, .int 0, .int 0])), (a, .inl (cy 0, 120, .inl (fun _ => 0)))] [38, 39]) hl.1 rfl rfl ⟨rfl, rfl, ⟨Nat.le_of_ble_eq_true rfl, Nat.le_of_ble_eq_true rfl⟩, ⟨Nat.le_of_ble_eq_true rfl, Nat.le_of_ble_eq_true rfl⟩, Nat.le_of_ble_eq_true rfl⟩ dX12_movesTold_65) (fun r84 u85 H locs hwu85 hP hD hS => ?_)
  have hP : va_P D vwCl (toldW cy v ++ [((v 0), .inr (13, [.int 0, .int 0, .int 0, .int (-1), .int 0, .int 0, .int 0, .int 0, .ref (v 1), .ref (v 2), .ref (v 3), .ref (v 4), .ref (v 5), .ref (v 6), .ref (v 7), .ref (v 8), .ref (v 9), .int 0, .int 0, .int 0, .int 0, .int 0, .int 0, .int 0, .int 0, .int 0, .ref (v 10), .ref (v 11), .ref (v 12), .ref (v 13), .int 71, .ref (v 14), .ref (v 15), .ref (v 16), .ref (v 17), .ref (v 18), .int 0, .int 0, .int 0, .ref (v 19), .ref (v 20), .ref (v 21), .ref (v 22), .ref (v 23), .int 0, .int 0, .int 0, .int 0])), (a, .inl (cy 0, 120, .inl (fun _ => 0)))]) H := hP
  have hD : va_D A (toldW cy v ++ [((v 0), .inr (13, [.int 0, .int 0, .int 0, .int (-1), .int 0, .int 0, .int 0, .int 0, .ref (v 1), .ref (v 2), .ref (v 3), .ref (v 4), .ref (v 5), .ref (v 6), .ref (v 7), .ref (v 8), .ref (v 9), .int 0, .int 0, .int 0, .int 0, .int 0, .int 0, .int 0, .int 0, .int 0, .ref (v 10), .ref (v 11), .ref (v 12), .ref (v 13), .int 71, .ref (v 14), .ref (v 15), .ref (v 16), .ref (v 17), .ref (v 18), .int 0, .int 0, .int 0, .ref (v 19), .ref (v 20), .ref (v 21), .ref (v 22), .ref (v 23), .int 0, .int 0, .int 0, .int 0])), (a, .inl (cy 0, 120, .inl (fun _ => 0)))]) := hD
  obtain rfl : r84 = 0 := hwu85
  refine k_iast0 hx hb hG.1 hP hD hS 14 0 rfl rfl (by unfold vp_in; decide) dX12_movesTold_68 (fun H locs hP hD hS => ?_)
  refine lv_iinc (v := 1) (lv' := [(4, .int 1), (3, .int 13), (0, .ref (v 0)), (1, .ref a), (2, .int b)]) hx hb dX12_movesTold_69 hl (k := 0) rfl (by decide) (by decide) rfl (fun ls hl => ?_)
  refine lv_goto (tgt := 39) hx hb dX12_movesTold_72 (by decide) ?_
  refine lv_iload hx hb dX12_movesTold_39 (lv_at hl 0 rfl) ?_
  refine lv_iconst (v := 2) hx hb dX12_movesTold_41 (by decide) ?_
  refine lv_icmp_ge (tgt := 75) hx hb dX12_movesTold_42 (by decide) (fun h => absurd h (by decide)) (fun _ => ?_)
  refine lv_aload_n hx hb dX12_movesTold_45 rfl (lv_at hl 2 rfl) ?_
  refine va_get (D := D) (ci := 13) (v := .ref (v 10)) (C := RX12) (T := TX12) (N := 48) hx hb hts kin_RX12 hown hG.1 hP 38 rfl rfl 26 (by decide) (hts _ wm_1545) (fun _ h9 => h9) rfl dX12_movesTold_46 ?_
  refine lv_iload_n hx hb dX12_movesTold_49 rfl (lv_at hl 1 rfl) ?_
  refine k_aldA hx hb hG.1 hP 0 rfl (by unfold vp_in; decide) dX12_movesTold_50 ?_
  refine W.eq (g2 := F0 m 51 ls [.ref ((v 10) + 1 + 13)]) rfl ?_
  refine lv_iload hx hb dX12_movesTold_51 (lv_at hl 0 rfl) ?_
  refine lv_aload_n hx hb dX12_movesTold_53 rfl (lv_at hl 2 rfl) ?_
  refine lv_aload_n hx hb dX12_movesTold_54 rfl (lv_at hl 3 rfl) ?_
  refine lv_aload_n hx hb dX12_movesTold_55 rfl (lv_at hl 2 rfl) ?_
  refine va_get (D := D) (ci := 13) (v := .ref (v 10)) (C := RX12) (T := TX12) (N := 48) hx hb hts kin_RX12 hown hG.1 hP 38 rfl rfl 26 (by decide) (hts _ wm_1545) (fun _ h9 => h9) rfl dX12_movesTold_56 ?_
  refine lv_iload_n hx hb dX12_movesTold_59 rfl (lv_at hl 1 rfl) ?_
  refine k_aldA hx hb hG.1 hP 0 rfl (by unfold vp_in; decide) dX12_movesTold_60 ?_
  refine W.eq (g2 := F0 m 61 ls [.ref ((v 10) + 1 + 13), .ref a, .ref (v 0), .int 1, .ref ((v 10) + 1 + 13)]) rfl ?_
  refine lv_iload hx hb dX12_movesTold_61 (lv_at hl 0 rfl) ?_
  refine va_iald hx hb hG.1 hP 14 0 rfl rfl (by unfold vp_in; decide) dX12_movesTold_63 ?_
  refine lv_topi (fun x86 ex86 => ?_)
  obtain rfl : x86 = 0 := ex86.trans (rfl)
  refine lv_iload_n hx hb dX12_movesTold_64 rfl (lv_at hl 4 rfl) ?_
  refine k_cali [0, 1, 2, 3, 4, 5, 6, 7, 8, 9, 10, 11, 12, 13, 14, 15, 16, 17, 18, 19, 20, 21, 22, 23, 24, 25, 26, 27, 28, 29, 30, 31, 32, 33, 34, 35, 36, 37] (⟨hP, hD, hG, hS, hA, rfl, rfl⟩ : kAt D cy sa A s H _ _ [((v 0), .inr (13, [.int 0, .int 0, .int 0, .int (-1), .int 0, .int 0, .int 0, .int 0, .ref (v 1), .ref (v 2), .ref (v 3), .ref (v 4), .ref (v 5), .ref (v 6), .ref (v 7), .ref (v 8), .ref (v 9), .int 0, .int 0, .int 0, .int 0, .int 0, .int 0, .int 0, .int 0, .int 0, .ref (v 10), .ref (v 11), .ref (v 12), .ref (v 13), .int 71, .ref (v 14), .ref (v 15), .ref (v 16), .ref (v 17), .ref (v 18), .int 0, .int 0, .int 0, .ref (v 19), .ref (v 20), .ref (v 21), .ref (v 22), .ref (v 23), .int 0, .int 0, .int 0, .int 0])), (a, .inl (cy 0, 120, .inl (fun _ => 0)))] [38, 39]) (wr := (toldW cy v ++ [])) rfl rfl (by decide) (k_runV 13 38 (As := [.ref a, .int 0, .int b]) (rest := [.int 1, .ref ((v 10) + 1 + 13)]) E lk_VRX12_251 rfl rfl rfl (m_moves l hl0 D cy sa v a 0 71 (by unfold vp_in; decide) b H.size) (⟨hP, hD, hG, hS, hA, rfl, rfl⟩ : kAt D cy sa A s H _ _ [((v 0), .inr (13, [.int 0, .int 0, .int 0, .int (-1), .int 0, .int 0, .int 0, .int 0, .ref (v 1), .ref (v 2), .ref (v 3), .ref (v 4), .ref (v 5), .ref (v 6), .ref (v 7), .ref (v 8), .ref (v 9), .int 0, .int 0, .int 0, .int 0, .int 0, .int 0, .int 0, .int 0, .int 0, .ref (v 10), .ref (v 11), .ref (v 12), .ref (v 13), .int 71, .ref (v 14), .ref (v 15), .ref (v 16), .ref (v 17), .ref (v 18), .int 0, .int 0, .int 0, .ref (v 19), .ref (v 20), .ref (v 21), .ref (v 22), .ref (v 23), .int 0, .int 0, .int 0, .int 0])), (a, .inl (cy 0, 120, .inl (fun _ => 0)))] [38, 39]) hl.1 rfl rfl ⟨rfl, rfl, ⟨Nat.le_of_ble_eq_true rfl, Nat.le_of_ble_eq_true rfl⟩, ⟨Nat.le_of_ble_eq_true rfl, Nat.le_of_ble_eq_true rfl⟩, Nat.le_of_ble_eq_true rfl⟩ dX12_movesTold_65) (fun r87 u88 H locs hwu88 hP hD hS => ?_)
  have hP : va_P D vwCl (toldW cy v ++ [((v 0), .inr (13, [.int 0, .int 0, .int 0, .int (-1), .int 0, .int 0, .int 0, .int 0, .ref (v 1), .ref (v 2), .ref (v 3), .ref (v 4), .ref (v 5), .ref (v 6), .ref (v 7), .ref (v 8), .ref (v 9), .int 0, .int 0, .int 0, .int 0, .int 0, .int 0, .int 0, .int 0, .int 0, .ref (v 10), .ref (v 11), .ref (v 12), .ref (v 13), .int 72, .ref (v 14), .ref (v 15), .ref (v 16), .ref (v 17), .ref (v 18), .int 0, .int 0, .int 0, .ref (v 19), .ref (v 20), .ref (v 21), .ref (v 22), .ref (v 23), .int 0, .int 0, .int 0, .int 0])), (a, .inl (cy 0, 120, .inl (fun _ => 0)))]) H := hP
  have hD : va_D A (toldW cy v ++ [((v 0), .inr (13, [.int 0, .int 0, .int 0, .int (-1), .int 0, .int 0, .int 0, .int 0, .ref (v 1), .ref (v 2), .ref (v 3), .ref (v 4), .ref (v 5), .ref (v 6), .ref (v 7), .ref (v 8), .ref (v 9), .int 0, .int 0, .int 0, .int 0, .int 0, .int 0, .int 0, .int 0, .int 0, .ref (v 10), .ref (v 11), .ref (v 12), .ref (v 13), .int 72, .ref (v 14), .ref (v 15), .ref (v 16), .ref (v 17), .ref (v 18), .int 0, .int 0, .int 0, .ref (v 19), .ref (v 20), .ref (v 21), .ref (v 22), .ref (v 23), .int 0, .int 0, .int 0, .int 0])), (a, .inl (cy 0, 120, .inl (fun _ => 0)))]) := hD
  obtain rfl : r87 = 0 := hwu88
  refine k_iast0 hx hb hG.1 hP hD hS 14 0 rfl rfl (by unfold vp_in; decide) dX12_movesTold_68 (fun H locs hP hD hS => ?_)
  refine lv_iinc (v := 2) (lv' := [(4, .int 2), (3, .int 13), (0, .ref (v 0)), (1, .ref a), (2, .int b)]) hx hb dX12_movesTold_69 hl (k := 0) rfl (by decide) (by decide) rfl (fun ls hl => ?_)
  refine lv_goto (tgt := 39) hx hb dX12_movesTold_72 (by decide) ?_
  refine lv_iload hx hb dX12_movesTold_39 (lv_at hl 0 rfl) ?_
  refine lv_iconst (v := 2) hx hb dX12_movesTold_41 (by decide) ?_
  refine lv_icmp_ge (tgt := 75) hx hb dX12_movesTold_42 (by decide) (fun _ => ?_) (fun h => absurd (by decide) h)
  refine lv_iinc (v := 14) (lv' := [(3, .int 14), (4, .int 2), (0, .ref (v 0)), (1, .ref a), (2, .int b)]) hx hb dX12_movesTold_75 hl (k := 1) rfl (by decide) (by decide) rfl (fun ls hl => ?_)
  refine lv_goto (tgt := 30) hx hb dX12_movesTold_78 (by decide) ?_
  refine lv_iload_n hx hb dX12_movesTold_30 rfl (lv_at hl 0 rfl) ?_
  refine lv_bipush (v := 30) hx hb dX12_movesTold_31 (by decide) ?_
  refine lv_icmp_ge (tgt := 81) hx hb dX12_movesTold_33 (by decide) (fun h => absurd h (by decide)) (fun _ => ?_)
  refine lv_iconst (v := 0) hx hb dX12_movesTold_36 (by decide) ?_
  refine lv_istore (lv' := [(4, .int 0), (3, .int 14), (0, .ref (v 0)), (1, .ref a), (2, .int b)]) hx hb dX12_movesTold_37 hl (by decide) rfl (fun ls hl => ?_)
  refine lv_iload hx hb dX12_movesTold_39 (lv_at hl 0 rfl) ?_
  refine lv_iconst (v := 2) hx hb dX12_movesTold_41 (by decide) ?_
  refine lv_icmp_ge (tgt := 75) hx hb dX12_movesTold_42 (by decide) (fun h => absurd h (by decide)) (fun _ => ?_)
  refine lv_aload_n hx hb dX12_movesTold_45 rfl (lv_at hl 2 rfl) ?_
  refine va_get (D := D) (ci := 13) (v := .ref (v 10)) (C := RX12) (T := TX12) (N := 48) hx hb hts kin_RX12 hown hG.1 hP 38 rfl rfl 26 (by decide) (hts _ wm_1545) (fun _ h9 => h9) rfl dX12_movesTold_46 ?_
  refine lv_iload_n hx hb dX12_movesTold_49 rfl (lv_at hl 1 rfl) ?_
  refine k_aldA hx hb hG.1 hP 0 rfl (by unfold vp_in; decide) dX12_movesTold_50 ?_
  refine W.eq (g2 := F0 m 51 ls [.ref ((v 10) + 1 + 14)]) rfl ?_
  refine lv_iload hx hb dX12_movesTold_51 (lv_at hl 0 rfl) ?_
  refine lv_aload_n hx hb dX12_movesTold_53 rfl (lv_at hl 2 rfl) ?_
  refine lv_aload_n hx hb dX12_movesTold_54 rfl (lv_at hl 3 rfl) ?_
  refine lv_aload_n hx hb dX12_movesTold_55 rfl (lv_at hl 2 rfl) ?_
  refine va_get (D := D) (ci := 13) (v := .ref (v 10)) (C := RX12) (T := TX12) (N := 48) hx hb hts kin_RX12 hown hG.1 hP 38 rfl rfl 26 (by decide) (hts _ wm_1545) (fun _ h9 => h9) rfl dX12_movesTold_56 ?_
  refine lv_iload_n hx hb dX12_movesTold_59 rfl (lv_at hl 1 rfl) ?_
  refine k_aldA hx hb hG.1 hP 0 rfl (by unfold vp_in; decide) dX12_movesTold_60 ?_
  refine W.eq (g2 := F0 m 61 ls [.ref ((v 10) + 1 + 14), .ref a, .ref (v 0), .int 0, .ref ((v 10) + 1 + 14)]) rfl ?_
  refine lv_iload hx hb dX12_movesTold_61 (lv_at hl 0 rfl) ?_
  refine va_iald hx hb hG.1 hP 15 0 rfl rfl (by unfold vp_in; decide) dX12_movesTold_63 ?_
  refine lv_topi (fun x89 ex89 => ?_)
  obtain rfl : x89 = 0 := ex89.trans (rfl)
  refine lv_iload_n hx hb dX12_movesTold_64 rfl (lv_at hl 4 rfl) ?_
  refine k_cali [0, 1, 2, 3, 4, 5, 6, 7, 8, 9, 10, 11, 12, 13, 14, 15, 16, 17, 18, 19, 20, 21, 22, 23, 24, 25, 26, 27, 28, 29, 30, 31, 32, 33, 34, 35, 36, 37] (⟨hP, hD, hG, hS, hA, rfl, rfl⟩ : kAt D cy sa A s H _ _ [((v 0), .inr (13, [.int 0, .int 0, .int 0, .int (-1), .int 0, .int 0, .int 0, .int 0, .ref (v 1), .ref (v 2), .ref (v 3), .ref (v 4), .ref (v 5), .ref (v 6), .ref (v 7), .ref (v 8), .ref (v 9), .int 0, .int 0, .int 0, .int 0, .int 0, .int 0, .int 0, .int 0, .int 0, .ref (v 10), .ref (v 11), .ref (v 12), .ref (v 13), .int 72, .ref (v 14), .ref (v 15), .ref (v 16), .ref (v 17), .ref (v 18), .int 0, .int 0, .int 0, .ref (v 19), .ref (v 20), .ref (v 21), .ref (v 22), .ref (v 23), .int 0, .int 0, .int 0, .int 0])), (a, .inl (cy 0, 120, .inl (fun _ => 0)))] [38, 39]) (wr := (toldW cy v ++ [])) rfl rfl (by decide) (k_runV 13 38 (As := [.ref a, .int 0, .int b]) (rest := [.int 0, .ref ((v 10) + 1 + 14)]) E lk_VRX12_251 rfl rfl rfl (m_moves l hl0 D cy sa v a 0 72 (by unfold vp_in; decide) b H.size) (⟨hP, hD, hG, hS, hA, rfl, rfl⟩ : kAt D cy sa A s H _ _ [((v 0), .inr (13, [.int 0, .int 0, .int 0, .int (-1), .int 0, .int 0, .int 0, .int 0, .ref (v 1), .ref (v 2), .ref (v 3), .ref (v 4), .ref (v 5), .ref (v 6), .ref (v 7), .ref (v 8), .ref (v 9), .int 0, .int 0, .int 0, .int 0, .int 0, .int 0, .int 0, .int 0, .int 0, .ref (v 10), .ref (v 11), .ref (v 12), .ref (v 13), .int 72, .ref (v 14), .ref (v 15), .ref (v 16), .ref (v 17), .ref (v 18), .int 0, .int 0, .int 0, .ref (v 19), .ref (v 20), .ref (v 21), .ref (v 22), .ref (v 23), .int 0, .int 0, .int 0, .int 0])), (a, .inl (cy 0, 120, .inl (fun _ => 0)))] [38, 39]) hl.1 rfl rfl ⟨rfl, rfl, ⟨Nat.le_of_ble_eq_true rfl, Nat.le_of_ble_eq_true rfl⟩, ⟨Nat.le_of_ble_eq_true rfl, Nat.le_of_ble_eq_true rfl⟩, Nat.le_of_ble_eq_true rfl⟩ dX12_movesTold_65) (fun r90 u91 H locs hwu91 hP hD hS => ?_)
  have hP : va_P D vwCl (toldW cy v ++ [((v 0), .inr (13, [.int 0, .int 0, .int 0, .int (-1), .int 0, .int 0, .int 0, .int 0, .ref (v 1), .ref (v 2), .ref (v 3), .ref (v 4), .ref (v 5), .ref (v 6), .ref (v 7), .ref (v 8), .ref (v 9), .int 0, .int 0, .int 0, .int 0, .int 0, .int 0, .int 0, .int 0, .int 0, .ref (v 10), .ref (v 11), .ref (v 12), .ref (v 13), .int 73, .ref (v 14), .ref (v 15), .ref (v 16), .ref (v 17), .ref (v 18), .int 0, .int 0, .int 0, .ref (v 19), .ref (v 20), .ref (v 21), .ref (v 22), .ref (v 23), .int 0, .int 0, .int 0, .int 0])), (a, .inl (cy 0, 120, .inl (fun _ => 0)))]) H := hP
  have hD : va_D A (toldW cy v ++ [((v 0), .inr (13, [.int 0, .int 0, .int 0, .int (-1), .int 0, .int 0, .int 0, .int 0, .ref (v 1), .ref (v 2), .ref (v 3), .ref (v 4), .ref (v 5), .ref (v 6), .ref (v 7), .ref (v 8), .ref (v 9), .int 0, .int 0, .int 0, .int 0, .int 0, .int 0, .int 0, .int 0, .int 0, .ref (v 10), .ref (v 11), .ref (v 12), .ref (v 13), .int 73, .ref (v 14), .ref (v 15), .ref (v 16), .ref (v 17), .ref (v 18), .int 0, .int 0, .int 0, .ref (v 19), .ref (v 20), .ref (v 21), .ref (v 22), .ref (v 23), .int 0, .int 0, .int 0, .int 0])), (a, .inl (cy 0, 120, .inl (fun _ => 0)))]) := hD
  obtain rfl : r90 = 0 := hwu91
  refine k_iast0 hx hb hG.1 hP hD hS 15 0 rfl rfl (by unfold vp_in; decide) dX12_movesTold_68 (fun H locs hP hD hS => ?_)
  refine lv_iinc (v := 1) (lv' := [(4, .int 1), (3, .int 14), (0, .ref (v 0)), (1, .ref a), (2, .int b)]) hx hb dX12_movesTold_69 hl (k := 0) rfl (by decide) (by decide) rfl (fun ls hl => ?_)
  refine lv_goto (tgt := 39) hx hb dX12_movesTold_72 (by decide) ?_
  refine lv_iload hx hb dX12_movesTold_39 (lv_at hl 0 rfl) ?_
  refine lv_iconst (v := 2) hx hb dX12_movesTold_41 (by decide) ?_
  refine lv_icmp_ge (tgt := 75) hx hb dX12_movesTold_42 (by decide) (fun h => absurd h (by decide)) (fun _ => ?_)
  refine lv_aload_n hx hb dX12_movesTold_45 rfl (lv_at hl 2 rfl) ?_
  refine va_get (D := D) (ci := 13) (v := .ref (v 10)) (C := RX12) (T := TX12) (N := 48) hx hb hts kin_RX12 hown hG.1 hP 38 rfl rfl 26 (by decide) (hts _ wm_1545) (fun _ h9 => h9) rfl dX12_movesTold_46 ?_
  refine lv_iload_n hx hb dX12_movesTold_49 rfl (lv_at hl 1 rfl) ?_
  refine k_aldA hx hb hG.1 hP 0 rfl (by unfold vp_in; decide) dX12_movesTold_50 ?_
  refine W.eq (g2 := F0 m 51 ls [.ref ((v 10) + 1 + 14)]) rfl ?_
  refine lv_iload hx hb dX12_movesTold_51 (lv_at hl 0 rfl) ?_
  refine lv_aload_n hx hb dX12_movesTold_53 rfl (lv_at hl 2 rfl) ?_
  refine lv_aload_n hx hb dX12_movesTold_54 rfl (lv_at hl 3 rfl) ?_
  refine lv_aload_n hx hb dX12_movesTold_55 rfl (lv_at hl 2 rfl) ?_
  refine va_get (D := D) (ci := 13) (v := .ref (v 10)) (C := RX12) (T := TX12) (N := 48) hx hb hts kin_RX12 hown hG.1 hP 38 rfl rfl 26 (by decide) (hts _ wm_1545) (fun _ h9 => h9) rfl dX12_movesTold_56 ?_
  refine lv_iload_n hx hb dX12_movesTold_59 rfl (lv_at hl 1 rfl) ?_
  refine k_aldA hx hb hG.1 hP 0 rfl (by unfold vp_in; decide) dX12_movesTold_60 ?_
  refine W.eq (g2 := F0 m 61 ls [.ref ((v 10) + 1 + 14), .ref a, .ref (v 0), .int 1, .ref ((v 10) + 1 + 14)]) rfl ?_
  refine lv_iload hx hb dX12_movesTold_61 (lv_at hl 0 rfl) ?_
  refine va_iald hx hb hG.1 hP 15 0 rfl rfl (by unfold vp_in; decide) dX12_movesTold_63 ?_
  refine lv_topi (fun x92 ex92 => ?_)
  obtain rfl : x92 = 0 := ex92.trans (rfl)
  refine lv_iload_n hx hb dX12_movesTold_64 rfl (lv_at hl 4 rfl) ?_
  refine k_cali [0, 1, 2, 3, 4, 5, 6, 7, 8, 9, 10, 11, 12, 13, 14, 15, 16, 17, 18, 19, 20, 21, 22, 23, 24, 25, 26, 27, 28, 29, 30, 31, 32, 33, 34, 35, 36, 37] (⟨hP, hD, hG, hS, hA, rfl, rfl⟩ : kAt D cy sa A s H _ _ [((v 0), .inr (13, [.int 0, .int 0, .int 0, .int (-1), .int 0, .int 0, .int 0, .int 0, .ref (v 1), .ref (v 2), .ref (v 3), .ref (v 4), .ref (v 5), .ref (v 6), .ref (v 7), .ref (v 8), .ref (v 9), .int 0, .int 0, .int 0, .int 0, .int 0, .int 0, .int 0, .int 0, .int 0, .ref (v 10), .ref (v 11), .ref (v 12), .ref (v 13), .int 73, .ref (v 14), .ref (v 15), .ref (v 16), .ref (v 17), .ref (v 18), .int 0, .int 0, .int 0, .ref (v 19), .ref (v 20), .ref (v 21), .ref (v 22), .ref (v 23), .int 0, .int 0, .int 0, .int 0])), (a, .inl (cy 0, 120, .inl (fun _ => 0)))] [38, 39]) (wr := (toldW cy v ++ [])) rfl rfl (by decide) (k_runV 13 38 (As := [.ref a, .int 0, .int b]) (rest := [.int 1, .ref ((v 10) + 1 + 14)]) E lk_VRX12_251 rfl rfl rfl (m_moves l hl0 D cy sa v a 0 73 (by unfold vp_in; decide) b H.size) (⟨hP, hD, hG, hS, hA, rfl, rfl⟩ : kAt D cy sa A s H _ _ [((v 0), .inr (13, [.int 0, .int 0, .int 0, .int (-1), .int 0, .int 0, .int 0, .int 0, .ref (v 1), .ref (v 2), .ref (v 3), .ref (v 4), .ref (v 5), .ref (v 6), .ref (v 7), .ref (v 8), .ref (v 9), .int 0, .int 0, .int 0, .int 0, .int 0, .int 0, .int 0, .int 0, .int 0, .ref (v 10), .ref (v 11), .ref (v 12), .ref (v 13), .int 73, .ref (v 14), .ref (v 15), .ref (v 16), .ref (v 17), .ref (v 18), .int 0, .int 0, .int 0, .ref (v 19), .ref (v 20), .ref (v 21), .ref (v 22), .ref (v 23), .int 0, .int 0, .int 0, .int 0])), (a, .inl (cy 0, 120, .inl (fun _ => 0)))] [38, 39]) hl.1 rfl rfl ⟨rfl, rfl, ⟨Nat.le_of_ble_eq_true rfl, Nat.le_of_ble_eq_true rfl⟩, ⟨Nat.le_of_ble_eq_true rfl, Nat.le_of_ble_eq_true rfl⟩, Nat.le_of_ble_eq_true rfl⟩ dX12_movesTold_65) (fun r93 u94 H locs hwu94 hP hD hS => ?_)
  have hP : va_P D vwCl (toldW cy v ++ [((v 0), .inr (13, [.int 0, .int 0, .int 0, .int (-1), .int 0, .int 0, .int 0, .int 0, .ref (v 1), .ref (v 2), .ref (v 3), .ref (v 4), .ref (v 5), .ref (v 6), .ref (v 7), .ref (v 8), .ref (v 9), .int 0, .int 0, .int 0, .int 0, .int 0, .int 0, .int 0, .int 0, .int 0, .ref (v 10), .ref (v 11), .ref (v 12), .ref (v 13), .int 74, .ref (v 14), .ref (v 15), .ref (v 16), .ref (v 17), .ref (v 18), .int 0, .int 0, .int 0, .ref (v 19), .ref (v 20), .ref (v 21), .ref (v 22), .ref (v 23), .int 0, .int 0, .int 0, .int 0])), (a, .inl (cy 0, 120, .inl (fun _ => 0)))]) H := hP
  have hD : va_D A (toldW cy v ++ [((v 0), .inr (13, [.int 0, .int 0, .int 0, .int (-1), .int 0, .int 0, .int 0, .int 0, .ref (v 1), .ref (v 2), .ref (v 3), .ref (v 4), .ref (v 5), .ref (v 6), .ref (v 7), .ref (v 8), .ref (v 9), .int 0, .int 0, .int 0, .int 0, .int 0, .int 0, .int 0, .int 0, .int 0, .ref (v 10), .ref (v 11), .ref (v 12), .ref (v 13), .int 74, .ref (v 14), .ref (v 15), .ref (v 16), .ref (v 17), .ref (v 18), .int 0, .int 0, .int 0, .ref (v 19), .ref (v 20), .ref (v 21), .ref (v 22), .ref (v 23), .int 0, .int 0, .int 0, .int 0])), (a, .inl (cy 0, 120, .inl (fun _ => 0)))]) := hD
  obtain rfl : r93 = 0 := hwu94
  refine k_iast0 hx hb hG.1 hP hD hS 15 0 rfl rfl (by unfold vp_in; decide) dX12_movesTold_68 (fun H locs hP hD hS => ?_)
  refine lv_iinc (v := 2) (lv' := [(4, .int 2), (3, .int 14), (0, .ref (v 0)), (1, .ref a), (2, .int b)]) hx hb dX12_movesTold_69 hl (k := 0) rfl (by decide) (by decide) rfl (fun ls hl => ?_)
  refine lv_goto (tgt := 39) hx hb dX12_movesTold_72 (by decide) ?_
  refine lv_iload hx hb dX12_movesTold_39 (lv_at hl 0 rfl) ?_
  refine lv_iconst (v := 2) hx hb dX12_movesTold_41 (by decide) ?_
  refine lv_icmp_ge (tgt := 75) hx hb dX12_movesTold_42 (by decide) (fun _ => ?_) (fun h => absurd (by decide) h)
  refine lv_iinc (v := 15) (lv' := [(3, .int 15), (4, .int 2), (0, .ref (v 0)), (1, .ref a), (2, .int b)]) hx hb dX12_movesTold_75 hl (k := 1) rfl (by decide) (by decide) rfl (fun ls hl => ?_)
  refine lv_goto (tgt := 30) hx hb dX12_movesTold_78 (by decide) ?_
  refine lv_iload_n hx hb dX12_movesTold_30 rfl (lv_at hl 0 rfl) ?_
  refine lv_bipush (v := 30) hx hb dX12_movesTold_31 (by decide) ?_
  refine lv_icmp_ge (tgt := 81) hx hb dX12_movesTold_33 (by decide) (fun h => absurd h (by decide)) (fun _ => ?_)
  refine lv_iconst (v := 0) hx hb dX12_movesTold_36 (by decide) ?_
  refine lv_istore (lv' := [(4, .int 0), (3, .int 15), (0, .ref (v 0)), (1, .ref a), (2, .int b)]) hx hb dX12_movesTold_37 hl (by decide) rfl (fun ls hl => ?_)
  refine lv_iload hx hb dX12_movesTold_39 (lv_at hl 0 rfl) ?_
  refine lv_iconst (v := 2) hx hb dX12_movesTold_41 (by decide) ?_
  refine lv_icmp_ge (tgt := 75) hx hb dX12_movesTold_42 (by decide) (fun h => absurd h (by decide)) (fun _ => ?_)
  refine lv_aload_n hx hb dX12_movesTold_45 rfl (lv_at hl 2 rfl) ?_
  refine va_get (D := D) (ci := 13) (v := .ref (v 10)) (C := RX12) (T := TX12) (N := 48) hx hb hts kin_RX12 hown hG.1 hP 38 rfl rfl 26 (by decide) (hts _ wm_1545) (fun _ h9 => h9) rfl dX12_movesTold_46 ?_
  refine lv_iload_n hx hb dX12_movesTold_49 rfl (lv_at hl 1 rfl) ?_
  refine k_aldA hx hb hG.1 hP 0 rfl (by unfold vp_in; decide) dX12_movesTold_50 ?_
  refine W.eq (g2 := F0 m 51 ls [.ref ((v 10) + 1 + 15)]) rfl ?_
  refine lv_iload hx hb dX12_movesTold_51 (lv_at hl 0 rfl) ?_
  refine lv_aload_n hx hb dX12_movesTold_53 rfl (lv_at hl 2 rfl) ?_
  refine lv_aload_n hx hb dX12_movesTold_54 rfl (lv_at hl 3 rfl) ?_
  refine lv_aload_n hx hb dX12_movesTold_55 rfl (lv_at hl 2 rfl) ?_
  refine va_get (D := D) (ci := 13) (v := .ref (v 10)) (C := RX12) (T := TX12) (N := 48) hx hb hts kin_RX12 hown hG.1 hP 38 rfl rfl 26 (by decide) (hts _ wm_1545) (fun _ h9 => h9) rfl dX12_movesTold_56 ?_
  refine lv_iload_n hx hb dX12_movesTold_59 rfl (lv_at hl 1 rfl) ?_
  refine k_aldA hx hb hG.1 hP 0 rfl (by unfold vp_in; decide) dX12_movesTold_60 ?_
  refine W.eq (g2 := F0 m 61 ls [.ref ((v 10) + 1 + 15), .ref a, .ref (v 0), .int 0, .ref ((v 10) + 1 + 15)]) rfl ?_
  refine lv_iload hx hb dX12_movesTold_61 (lv_at hl 0 rfl) ?_
  refine va_iald hx hb hG.1 hP 16 0 rfl rfl (by unfold vp_in; decide) dX12_movesTold_63 ?_
  refine lv_topi (fun x95 ex95 => ?_)
  obtain rfl : x95 = 0 := ex95.trans (rfl)
  refine lv_iload_n hx hb dX12_movesTold_64 rfl (lv_at hl 4 rfl) ?_
  refine k_cali [0, 1, 2, 3, 4, 5, 6, 7, 8, 9, 10, 11, 12, 13, 14, 15, 16, 17, 18, 19, 20, 21, 22, 23, 24, 25, 26, 27, 28, 29, 30, 31, 32, 33, 34, 35, 36, 37] (⟨hP, hD, hG, hS, hA, rfl, rfl⟩ : kAt D cy sa A s H _ _ [((v 0), .inr (13, [.int 0, .int 0, .int 0, .int (-1), .int 0, .int 0, .int 0, .int 0, .ref (v 1), .ref (v 2), .ref (v 3), .ref (v 4), .ref (v 5), .ref (v 6), .ref (v 7), .ref (v 8), .ref (v 9), .int 0, .int 0, .int 0, .int 0, .int 0, .int 0, .int 0, .int 0, .int 0, .ref (v 10), .ref (v 11), .ref (v 12), .ref (v 13), .int 74, .ref (v 14), .ref (v 15), .ref (v 16), .ref (v 17), .ref (v 18), .int 0, .int 0, .int 0, .ref (v 19), .ref (v 20), .ref (v 21), .ref (v 22), .ref (v 23), .int 0, .int 0, .int 0, .int 0])), (a, .inl (cy 0, 120, .inl (fun _ => 0)))] [38, 39]) (wr := (toldW cy v ++ [])) rfl rfl (by decide) (k_runV 13 38 (As := [.ref a, .int 0, .int b]) (rest := [.int 0, .ref ((v 10) + 1 + 15)]) E lk_VRX12_251 rfl rfl rfl (m_moves l hl0 D cy sa v a 0 74 (by unfold vp_in; decide) b H.size) (⟨hP, hD, hG, hS, hA, rfl, rfl⟩ : kAt D cy sa A s H _ _ [((v 0), .inr (13, [.int 0, .int 0, .int 0, .int (-1), .int 0, .int 0, .int 0, .int 0, .ref (v 1), .ref (v 2), .ref (v 3), .ref (v 4), .ref (v 5), .ref (v 6), .ref (v 7), .ref (v 8), .ref (v 9), .int 0, .int 0, .int 0, .int 0, .int 0, .int 0, .int 0, .int 0, .int 0, .ref (v 10), .ref (v 11), .ref (v 12), .ref (v 13), .int 74, .ref (v 14), .ref (v 15), .ref (v 16), .ref (v 17), .ref (v 18), .int 0, .int 0, .int 0, .ref (v 19), .ref (v 20), .ref (v 21), .ref (v 22), .ref (v 23), .int 0, .int 0, .int 0, .int 0])), (a, .inl (cy 0, 120, .inl (fun _ => 0)))] [38, 39]) hl.1 rfl rfl ⟨rfl, rfl, ⟨Nat.le_of_ble_eq_true rfl, Nat.le_of_ble_eq_true rfl⟩, ⟨Nat.le_of_ble_eq_true rfl, Nat.le_of_ble_eq_true rfl⟩, Nat.le_of_ble_eq_true rfl⟩ dX12_movesTold_65) (fun r96 u97 H locs hwu97 hP hD hS => ?_)
  have hP : va_P D vwCl (toldW cy v ++ [((v 0), .inr (13, [.int 0, .int 0, .int 0, .int (-1), .int 0, .int 0, .int 0, .int 0, .ref (v 1), .ref (v 2), .ref (v 3), .ref (v 4), .ref (v 5), .ref (v 6), .ref (v 7), .ref (v 8), .ref (v 9), .int 0, .int 0, .int 0, .int 0, .int 0, .int 0, .int 0, .int 0, .int 0, .ref (v 10), .ref (v 11), .ref (v 12), .ref (v 13), .int 75, .ref (v 14), .ref (v 15), .ref (v 16), .ref (v 17), .ref (v 18), .int 0, .int 0, .int 0, .ref (v 19), .ref (v 20), .ref (v 21), .ref (v 22), .ref (v 23), .int 0, .int 0, .int 0, .int 0])), (a, .inl (cy 0, 120, .inl (fun _ => 0)))]) H := hP
  have hD : va_D A (toldW cy v ++ [((v 0), .inr (13, [.int 0, .int 0, .int 0, .int (-1), .int 0, .int 0, .int 0, .int 0, .ref (v 1), .ref (v 2), .ref (v 3), .ref (v 4), .ref (v 5), .ref (v 6), .ref (v 7), .ref (v 8), .ref (v 9), .int 0, .int 0, .int 0, .int 0, .int 0, .int 0, .int 0, .int 0, .int 0, .ref (v 10), .ref (v 11), .ref (v 12), .ref (v 13), .int 75, .ref (v 14), .ref (v 15), .ref (v 16), .ref (v 17), .ref (v 18), .int 0, .int 0, .int 0, .ref (v 19), .ref (v 20), .ref (v 21), .ref (v 22), .ref (v 23), .int 0, .int 0, .int 0, .int 0])), (a, .inl (cy 0, 120, .inl (fun _ => 0)))]) := hD
  obtain rfl : r96 = 0 := hwu97
  refine k_iast0 hx hb hG.1 hP hD hS 16 0 rfl rfl (by unfold vp_in; decide) dX12_movesTold_68 (fun H locs hP hD hS => ?_)
  refine lv_iinc (v := 1) (lv' := [(4, .int 1), (3, .int 15), (0, .ref (v 0)), (1, .ref a), (2, .int b)]) hx hb dX12_movesTold_69 hl (k := 0) rfl (by decide) (by decide) rfl (fun ls hl => ?_)
  refine lv_goto (tgt := 39) hx hb dX12_movesTold_72 (by decide) ?_
  refine lv_iload hx hb dX12_movesTold_39 (lv_at hl 0 rfl) ?_
  refine lv_iconst (v := 2) hx hb dX12_movesTold_41 (by decide) ?_
  refine lv_icmp_ge (tgt := 75) hx hb dX12_movesTold_42 (by decide) (fun h => absurd h (by decide)) (fun _ => ?_)
  refine lv_aload_n hx hb dX12_movesTold_45 rfl (lv_at hl 2 rfl) ?_
  refine va_get (D := D) (ci := 13) (v := .ref (v 10)) (C := RX12) (T := TX12) (N := 48) hx hb hts kin_RX12 hown hG.1 hP 38 rfl rfl 26 (by decide) (hts _ wm_1545) (fun _ h9 => h9) rfl dX12_movesTold_46 ?_
  refine lv_iload_n hx hb dX12_movesTold_49 rfl (lv_at hl 1 rfl) ?_
  refine k_aldA hx hb hG.1 hP 0 rfl (by unfold vp_in; decide) dX12_movesTold_50 ?_
  refine W.eq (g2 := F0 m 51 ls [.ref ((v 10) + 1 + 15)]) rfl ?_
  refine lv_iload hx hb dX12_movesTold_51 (lv_at hl 0 rfl) ?_
  refine lv_aload_n hx hb dX12_movesTold_53 rfl (lv_at hl 2 rfl) ?_
  refine lv_aload_n hx hb dX12_movesTold_54 rfl (lv_at hl 3 rfl) ?_
  refine lv_aload_n hx hb dX12_movesTold_55 rfl (lv_at hl 2 rfl) ?_
  refine va_get (D := D) (ci := 13) (v := .ref (v 10)) (C := RX12) (T := TX12) (N := 48) hx hb hts kin_RX12 hown hG.1 hP 38 rfl rfl 26 (by decide) (hts _ wm_1545) (fun _ h9 => h9) rfl dX12_movesTold_56 ?_
  refine lv_iload_n hx hb dX12_movesTold_59 rfl (lv_at hl 1 rfl) ?_
  refine k_aldA hx hb hG.1 hP 0 rfl (by unfold vp_in; decide) dX12_movesTold_60 ?_
  refine W.eq (g2 := F0 m 61 ls [.ref ((v 10) + 1 + 15), .ref a, .ref (v 0), .int 1, .ref ((v 10) + 1 + 15)]) rfl ?_
  refine lv_iload hx hb dX12_movesTold_61 (lv_at hl 0 rfl) ?_
  refine va_iald hx hb hG.1 hP 16 0 rfl rfl (by unfold vp_in; decide) dX12_movesTold_63 ?_
  refine lv_topi (fun x98 ex98 => ?_)
  obtain rfl : x98 = 0 := ex98.trans (rfl)
  refine lv_iload_n hx hb dX12_movesTold_64 rfl (lv_at hl 4 rfl) ?_
  refine k_cali [0, 1, 2, 3, 4, 5, 6, 7, 8, 9, 10, 11, 12, 13, 14, 15, 16, 17, 18, 19, 20, 21, 22, 23, 24, 25, 26, 27, 28, 29, 30, 31, 32, 33, 34, 35, 36, 37] (⟨hP, hD, hG, hS, hA, rfl, rfl⟩ : kAt D cy sa A s H _ _ [((v 0), .inr (13, [.int 0, .int 0, .int 0, .int (-1), .int 0, .int 0, .int 0, .int 0, .ref (v 1), .ref (v 2), .ref (v 3), .ref (v 4), .ref (v 5), .ref (v 6), .ref (v 7), .ref (v 8), .ref (v 9), .int 0, .int 0, .int 0, .int 0, .int 0, .int 0, .int 0, .int 0, .int 0, .ref (v 10), .ref (v 11), .ref (v 12), .ref (v 13), .int 75, .ref (v 14), .ref (v 15), .ref (v 16), .ref (v 17), .ref (v 18), .int 0, .int 0, .int 0, .ref (v 19), .ref (v 20), .ref (v 21), .ref (v 22), .ref (v 23), .int 0, .int 0, .int 0, .int 0])), (a, .inl (cy 0, 120, .inl (fun _ => 0)))] [38, 39]) (wr := (toldW cy v ++ [])) rfl rfl (by decide) (k_runV 13 38 (As := [.ref a, .int 0, .int b]) (rest := [.int 1, .ref ((v 10) + 1 + 15)]) E lk_VRX12_251 rfl rfl rfl (m_moves l hl0 D cy sa v a 0 75 (by unfold vp_in; decide) b H.size) (⟨hP, hD, hG, hS, hA, rfl, rfl⟩ : kAt D cy sa A s H _ _ [((v 0), .inr (13, [.int 0, .int 0, .int 0, .int (-1), .int 0, .int 0, .int 0, .int 0, .ref (v 1), .ref (v 2), .ref (v 3), .ref (v 4), .ref (v 5), .ref (v 6), .ref (v 7), .ref (v 8), .ref (v 9), .int 0, .int 0, .int 0, .int 0, .int 0, .int 0, .int 0, .int 0, .int 0, .ref (v 10), .ref (v 11), .ref (v 12), .ref (v 13), .int 75, .ref (v 14), .ref (v 15), .ref (v 16), .ref (v 17), .ref (v 18), .int 0, .int 0, .int 0, .ref (v 19), .ref (v 20), .ref (v 21), .ref (v 22), .ref (v 23), .int 0, .int 0, .int 0, .int 0])), (a, .inl (cy 0, 120, .inl (fun _ => 0)))] [38, 39]) hl.1 rfl rfl ⟨rfl, rfl, ⟨Nat.le_of_ble_eq_true rfl, Nat.le_of_ble_eq_true rfl⟩, ⟨Nat.le_of_ble_eq_true rfl, Nat.le_of_ble_eq_true rfl⟩, Nat.le_of_ble_eq_true rfl⟩ dX12_movesTold_65) (fun r99 u100 H locs hwu100 hP hD hS => ?_)
  have hP : va_P D vwCl (toldW cy v ++ [((v 0), .inr (13, [.int 0, .int 0, .int 0, .int (-1), .int 0, .int 0, .int 0, .int 0, .ref (v 1), .ref (v 2), .ref (v 3), .ref (v 4), .ref (v 5), .ref (v 6), .ref (v 7), .ref (v 8), .ref (v 9), .int 0, .int 0, .int 0, .int 0, .int 0, .int 0, .int 0, .int 0, .int 0, .ref (v 10), .ref (v 11), .ref (v 12), .ref (v 13), .int 76, .ref (v 14), .ref (v 15), .ref (v 16), .ref (v 17), .ref (v 18), .int 0, .int 0, .int 0, .ref (v 19), .ref (v 20), .ref (v 21), .ref (v 22), .ref (v 23), .int 0, .int 0, .int 0, .int 0])), (a, .inl (cy 0, 120, .inl (fun _ => 0)))]) H := hP
  have hD : va_D A (toldW cy v ++ [((v 0), .inr (13, [.int 0, .int 0, .int 0, .int (-1), .int 0, .int 0, .int 0, .int 0, .ref (v 1), .ref (v 2), .ref (v 3), .ref (v 4), .ref (v 5), .ref (v 6), .ref (v 7), .ref (v 8), .ref (v 9), .int 0, .int 0, .int 0, .int 0, .int 0, .int 0, .int 0, .int 0, .int 0, .ref (v 10), .ref (v 11), .ref (v 12), .ref (v 13), .int 76, .ref (v 14), .ref (v 15), .ref (v 16), .ref (v 17), .ref (v 18), .int 0, .int 0, .int 0, .ref (v 19), .ref (v 20), .ref (v 21), .ref (v 22), .ref (v 23), .int 0, .int 0, .int 0, .int 0])), (a, .inl (cy 0, 120, .inl (fun _ => 0)))]) := hD
  obtain rfl : r99 = 0 := hwu100
  refine k_iast0 hx hb hG.1 hP hD hS 16 0 rfl rfl (by unfold vp_in; decide) dX12_movesTold_68 (fun H locs hP hD hS => ?_)
  refine lv_iinc (v := 2) (lv' := [(4, .int 2), (3, .int 15), (0, .ref (v 0)), (1, .ref a), (2, .int b)]) hx hb dX12_movesTold_69 hl (k := 0) rfl (by decide) (by decide) rfl (fun ls hl => ?_)
  refine lv_goto (tgt := 39) hx hb dX12_movesTold_72 (by decide) ?_
  refine lv_iload hx hb dX12_movesTold_39 (lv_at hl 0 rfl) ?_
  refine lv_iconst (v := 2) hx hb dX12_movesTold_41 (by decide) ?_
  refine lv_icmp_ge (tgt := 75) hx hb dX12_movesTold_42 (by decide) (fun _ => ?_) (fun h => absurd (by decide) h)
  refine lv_iinc (v := 16) (lv' := [(3, .int 16), (4, .int 2), (0, .ref (v 0)), (1, .ref a), (2, .int b)]) hx hb dX12_movesTold_75 hl (k := 1) rfl (by decide) (by decide) rfl (fun ls hl => ?_)
  refine lv_goto (tgt := 30) hx hb dX12_movesTold_78 (by decide) ?_
  refine lv_iload_n hx hb dX12_movesTold_30 rfl (lv_at hl 0 rfl) ?_
  refine lv_bipush (v := 30) hx hb dX12_movesTold_31 (by decide) ?_
  refine lv_icmp_ge (tgt := 81) hx hb dX12_movesTold_33 (by decide) (fun h => absurd h (by decide)) (fun _ => ?_)
  refine lv_iconst (v := 0) hx hb dX12_movesTold_36 (by decide) ?_
  refine lv_istore (lv' := [(4, .int 0), (3, .int 16), (0, .ref (v 0)), (1, .ref a), (2, .int b)]) hx hb dX12_movesTold_37 hl (by decide) rfl (fun ls hl => ?_)
  refine lv_iload hx hb dX12_movesTold_39 (lv_at hl 0 rfl) ?_
  refine lv_iconst (v := 2) hx hb dX12_movesTold_41 (by decide) ?_
  refine lv_icmp_ge (tgt := 75) hx hb dX12_movesTold_42 (by decide) (fun h => absurd h (by decide)) (fun _ => ?_)
  refine lv_aload_n hx hb dX12_movesTold_45 rfl (lv_at hl 2 rfl) ?_
  refine va_get (D := D) (ci := 13) (v := .ref (v 10)) (C := RX12) (T := TX12) (N := 48) hx hb hts kin_RX12 hown hG.1 hP 38 rfl rfl 26 (by decide) (hts _ wm_1545) (fun _ h9 => h9) rfl dX12_movesTold_46 ?_
  refine lv_iload_n hx hb dX12_movesTold_49 rfl (lv_at hl 1 rfl) ?_
  refine k_aldA hx hb hG.1 hP 0 rfl (by unfold vp_in; decide) dX12_movesTold_50 ?_
  refine W.eq (g2 := F0 m 51 ls [.ref ((v 10) + 1 + 16)]) rfl ?_
  refine lv_iload hx hb dX12_movesTold_51 (lv_at hl 0 rfl) ?_
  refine lv_aload_n hx hb dX12_movesTold_53 rfl (lv_at hl 2 rfl) ?_
  refine lv_aload_n hx hb dX12_movesTold_54 rfl (lv_at hl 3 rfl) ?_
  refine lv_aload_n hx hb dX12_movesTold_55 rfl (lv_at hl 2 rfl) ?_
  refine va_get (D := D) (ci := 13) (v := .ref (v 10)) (C := RX12) (T := TX12) (N := 48) hx hb hts kin_RX12 hown hG.1 hP 38 rfl rfl 26 (by decide) (hts _ wm_1545) (fun _ h9 => h9) rfl dX12_movesTold_56 ?_
  refine lv_iload_n hx hb dX12_movesTold_59 rfl (lv_at hl 1 rfl) ?_
  refine k_aldA hx hb hG.1 hP 0 rfl (by unfold vp_in; decide) dX12_movesTold_60 ?_
  refine W.eq (g2 := F0 m 61 ls [.ref ((v 10) + 1 + 16), .ref a, .ref (v 0), .int 0, .ref ((v 10) + 1 + 16)]) rfl ?_
  refine lv_iload hx hb dX12_movesTold_61 (lv_at hl 0 rfl) ?_
  refine va_iald hx hb hG.1 hP 17 0 rfl rfl (by unfold vp_in; decide) dX12_movesTold_63 ?_
  refine lv_topi (fun x101 ex101 => ?_)
  obtain rfl : x101 = 0 := ex101.trans (rfl)
  refine lv_iload_n hx hb dX12_movesTold_64 rfl (lv_at hl 4 rfl) ?_
  refine k_cali [0, 1, 2, 3, 4, 5, 6, 7, 8, 9, 10, 11, 12, 13, 14, 15, 16, 17, 18, 19, 20, 21, 22, 23, 24, 25, 26, 27, 28, 29, 30, 31, 32, 33, 34, 35, 36, 37] (⟨hP, hD, hG, hS, hA, rfl, rfl⟩ : kAt D cy sa A s H _ _ [((v 0), .inr (13, [.int 0, .int 0, .int 0, .int (-1), .int 0, .int 0, .int 0, .int 0, .ref (v 1), .ref (v 2), .ref (v 3), .ref (v 4), .ref (v 5), .ref (v 6), .ref (v 7), .ref (v 8), .ref (v 9), .int 0, .int 0, .int 0, .int 0, .int 0, .int 0, .int 0, .int 0, .int 0, .ref (v 10), .ref (v 11), .ref (v 12), .ref (v 13), .int 76, .ref (v 14), .ref (v 15), .ref (v 16), .ref (v 17), .ref (v 18), .int 0, .int 0, .int 0, .ref (v 19), .ref (v 20), .ref (v 21), .ref (v 22), .ref (v 23), .int 0, .int 0, .int 0, .int 0])), (a, .inl (cy 0, 120, .inl (fun _ => 0)))] [38, 39]) (wr := (toldW cy v ++ [])) rfl rfl (by decide) (k_runV 13 38 (As := [.ref a, .int 0, .int b]) (rest := [.int 0, .ref ((v 10) + 1 + 16)]) E lk_VRX12_251 rfl rfl rfl (m_moves l hl0 D cy sa v a 0 76 (by unfold vp_in; decide) b H.size) (⟨hP, hD, hG, hS, hA, rfl, rfl⟩ : kAt D cy sa A s H _ _ [((v 0), .inr (13, [.int 0, .int 0, .int 0, .int (-1), .int 0, .int 0, .int 0, .int 0, .ref (v 1), .ref (v 2), .ref (v 3), .ref (v 4), .ref (v 5), .ref (v 6), .ref (v 7), .ref (v 8), .ref (v 9), .int 0, .int 0, .int 0, .int 0, .int 0, .int 0, .int 0, .int 0, .int 0, .ref (v 10), .ref (v 11), .ref (v 12), .ref (v 13), .int 76, .ref (v 14), .ref (v 15), .ref (v 16), .ref (v 17), .ref (v 18), .int 0, .int 0, .int 0, .ref (v 19), .ref (v 20), .ref (v 21), .ref (v 22), .ref (v 23), .int 0, .int 0, .int 0, .int 0])), (a, .inl (cy 0, 120, .inl (fun _ => 0)))] [38, 39]) hl.1 rfl rfl ⟨rfl, rfl, ⟨Nat.le_of_ble_eq_true rfl, Nat.le_of_ble_eq_true rfl⟩, ⟨Nat.le_of_ble_eq_true rfl, Nat.le_of_ble_eq_true rfl⟩, Nat.le_of_ble_eq_true rfl⟩ dX12_movesTold_65) (fun r102 u103 H locs hwu103 hP hD hS => ?_)
  have hP : va_P D vwCl (toldW cy v ++ [((v 0), .inr (13, [.int 0, .int 0, .int 0, .int (-1), .int 0, .int 0, .int 0, .int 0, .ref (v 1), .ref (v 2), .ref (v 3), .ref (v 4), .ref (v 5), .ref (v 6), .ref (v 7), .ref (v 8), .ref (v 9), .int 0, .int 0, .int 0, .int 0, .int 0, .int 0, .int 0, .int 0, .int 0, .ref (v 10), .ref (v 11), .ref (v 12), .ref (v 13), .int 77, .ref (v 14), .ref (v 15), .ref (v 16), .ref (v 17), .ref (v 18), .int 0, .int 0, .int 0, .ref (v 19), .ref (v 20), .ref (v 21), .ref (v 22), .ref (v 23), .int 0, .int 0, .int 0, .int 0])), (a, .inl (cy 0, 120, .inl (fun _ => 0)))]) H := hP
  have hD : va_D A (toldW cy v ++ [((v 0), .inr (13, [.int 0, .int 0, .int 0, .int (-1), .int 0, .int 0, .int 0, .int 0, .ref (v 1), .ref (v 2), .ref (v 3), .ref (v 4), .ref (v 5), .ref (v 6), .ref (v 7), .ref (v 8), .ref (v 9), .int 0, .int 0, .int 0, .int 0, .int 0, .int 0, .int 0, .int 0, .int 0, .ref (v 10), .ref (v 11), .ref (v 12), .ref (v 13), .int 77, .ref (v 14), .ref (v 15), .ref (v 16), .ref (v 17), .ref (v 18), .int 0, .int 0, .int 0, .ref (v 19), .ref (v 20), .ref (v 21), .ref (v 22), .ref (v 23), .int 0, .int 0, .int 0, .int 0])), (a, .inl (cy 0, 120, .inl (fun _ => 0)))]) := hD
  obtain rfl : r102 = 0 := hwu103
  refine k_iast0 hx hb hG.1 hP hD hS 17 0 rfl rfl (by unfold vp_in; decide) dX12_movesTold_68 (fun H locs hP hD hS => ?_)
  refine lv_iinc (v := 1) (lv' := [(4, .int 1), (3, .int 16), (0, .ref (v 0)), (1, .ref a), (2, .int b)]) hx hb dX12_movesTold_69 hl (k := 0) rfl (by decide) (by decide) rfl (fun ls hl => ?_)
  refine lv_goto (tgt := 39) hx hb dX12_movesTold_72 (by decide) ?_
  refine lv_iload hx hb dX12_movesTold_39 (lv_at hl 0 rfl) ?_
  refine lv_iconst (v := 2) hx hb dX12_movesTold_41 (by decide) ?_
  refine lv_icmp_ge (tgt := 75) hx hb dX12_movesTold_42 (by decide) (fun h => absurd h (by decide)) (fun _ => ?_)
  refine lv_aload_n hx hb dX12_movesTold_45 rfl (lv_at hl 2 rfl) ?_
  refine va_get (D := D) (ci := 13) (v := .ref (v 10)) (C := RX12) (T := TX12) (N := 48) hx hb hts kin_RX12 hown hG.1 hP 38 rfl rfl 26 (by decide) (hts _ wm_1545) (fun _ h9 => h9) rfl dX12_movesTold_46 ?_
  refine lv_iload_n hx hb dX12_movesTold_49 rfl (lv_at hl 1 rfl) ?_
  refine k_aldA hx hb hG.1 hP 0 rfl (by unfold vp_in; decide) dX12_movesTold_50 ?_
  refine W.eq (g2 := F0 m 51 ls [.ref ((v 10) + 1 + 16)]) rfl ?_
  refine lv_iload hx hb dX12_movesTold_51 (lv_at hl 0 rfl) ?_
  refine lv_aload_n hx hb dX12_movesTold_53 rfl (lv_at hl 2 rfl) ?_
  refine lv_aload_n hx hb dX12_movesTold_54 rfl (lv_at hl 3 rfl) ?_
  refine lv_aload_n hx hb dX12_movesTold_55 rfl (lv_at hl 2 rfl) ?_
  refine va_get (D := D) (ci := 13) (v := .ref (v 10)) (C := RX12) (T := TX12) (N := 48) hx hb hts kin_RX12 hown hG.1 hP 38 rfl rfl 26 (by decide) (hts _ wm_1545) (fun _ h9 => h9) rfl dX12_movesTold_56 ?_
  refine lv_iload_n hx hb dX12_movesTold_59 rfl (lv_at hl 1 rfl) ?_
  refine k_aldA hx hb hG.1 hP 0 rfl (by unfold vp_in; decide) dX12_movesTold_60 ?_
  refine W.eq (g2 := F0 m 61 ls [.ref ((v 10) + 1 + 16), .ref a, .ref (v 0), .int 1, .ref ((v 10) + 1 + 16)]) rfl ?_
  refine lv_iload hx hb dX12_movesTold_61 (lv_at hl 0 rfl) ?_
  refine va_iald hx hb hG.1 hP 17 0 rfl rfl (by unfold vp_in; decide) dX12_movesTold_63 ?_
  refine lv_topi (fun x104 ex104 => ?_)
  obtain rfl : x104 = 0 := ex104.trans (rfl)
  refine lv_iload_n hx hb dX12_movesTold_64 rfl (lv_at hl 4 rfl) ?_
  refine k_cali [0, 1, 2, 3, 4, 5, 6, 7, 8, 9, 10, 11, 12, 13, 14, 15, 16, 17, 18, 19, 20, 21, 22, 23, 24, 25, 26, 27, 28, 29, 30, 31, 32, 33, 34, 35, 36, 37] (⟨hP, hD, hG, hS, hA, rfl, rfl⟩ : kAt D cy sa A s H _ _ [((v 0), .inr (13, [.int 0, .int 0, .int 0, .int (-1), .int 0, .int 0, .int 0, .int 0, .ref (v 1), .ref (v 2), .ref (v 3), .ref (v 4), .ref (v 5), .ref (v 6), .ref (v 7), .ref (v 8), .ref (v 9), .int 0, .int 0, .int 0, .int 0, .int 0, .int 0, .int 0, .int 0, .int 0, .ref (v 10), .ref (v 11), .ref (v 12), .ref (v 13), .int 77, .ref (v 14), .ref (v 15), .ref (v 16), .ref (v 17), .ref (v 18), .int 0, .int 0, .int 0, .ref (v 19), .ref (v 20), .ref (v 21), .ref (v 22), .ref (v 23), .int 0, .int 0, .int 0, .int 0])), (a, .inl (cy 0, 120, .inl (fun _ => 0)))] [38, 39]) (wr := (toldW cy v ++ [])) rfl rfl (by decide) (k_runV 13 38 (As := [.ref a, .int 0, .int b]) (rest := [.int 1, .ref ((v 10) + 1 + 16)]) E lk_VRX12_251 rfl rfl rfl (m_moves l hl0 D cy sa v a 0 77 (by unfold vp_in; decide) b H.size) (⟨hP, hD, hG, hS, hA, rfl, rfl⟩ : kAt D cy sa A s H _ _ [((v 0), .inr (13, [.int 0, .int 0, .int 0, .int (-1), .int 0, .int 0, .int 0, .int 0, .ref (v 1), .ref (v 2), .ref (v 3), .ref (v 4), .ref (v 5), .ref (v 6), .ref (v 7), .ref (v 8), .ref (v 9), .int 0, .int 0, .int 0, .int 0, .int 0, .int 0, .int 0, .int 0, .int 0, .ref (v 10), .ref (v 11), .ref (v 12), .ref (v 13), .int 77, .ref (v 14), .ref (v 15), .ref (v 16), .ref (v 17), .ref (v 18), .int 0, .int 0, .int 0, .ref (v 19), .ref (v 20), .ref (v 21), .ref (v 22), .ref (v 23), .int 0, .int 0, .int 0, .int 0])), (a, .inl (cy 0, 120, .inl (fun _ => 0)))] [38, 39]) hl.1 rfl rfl ⟨rfl, rfl, ⟨Nat.le_of_ble_eq_true rfl, Nat.le_of_ble_eq_true rfl⟩, ⟨Nat.le_of_ble_eq_true rfl, Nat.le_of_ble_eq_true rfl⟩, Nat.le_of_ble_eq_true rfl⟩ dX12_movesTold_65) (fun r105 u106 H locs hwu106 hP hD hS => ?_)
  have hP : va_P D vwCl (toldW cy v ++ [((v 0), .inr (13, [.int 0, .int 0, .int 0, .int (-1), .int 0, .int 0, .int 0, .int 0, .ref (v 1), .ref (v 2), .ref (v 3), .ref (v 4), .ref (v 5), .ref (v 6), .ref (v 7), .ref (v 8), .ref (v 9), .int 0, .int 0, .int 0, .int 0, .int 0, .int 0, .int 0, .int 0, .int 0, .ref (v 10), .ref (v 11), .ref (v 12), .ref (v 13), .int 78, .ref (v 14), .ref (v 15), .ref (v 16), .ref (v 17), .ref (v 18), .int 0, .int 0, .int 0, .ref (v 19), .ref (v 20), .ref (v 21), .ref (v 22), .ref (v 23), .int 0, .int 0, .int 0, .int 0])), (a, .inl (cy 0, 120, .inl (fun _ => 0)))]) H := hP
  have hD : va_D A (toldW cy v ++ [((v 0), .inr (13, [.int 0, .int 0, .int 0, .int (-1), .int 0, .int 0, .int 0, .int 0, .ref (v 1), .ref (v 2), .ref (v 3), .ref (v 4), .ref (v 5), .ref (v 6), .ref (v 7), .ref (v 8), .ref (v 9), .int 0, .int 0, .int 0, .int 0, .int 0, .int 0, .int 0, .int 0, .int 0, .ref (v 10), .ref (v 11), .ref (v 12), .ref (v 13), .int 78, .ref (v 14), .ref (v 15), .ref (v 16), .ref (v 17), .ref (v 18), .int 0, .int 0, .int 0, .ref (v 19), .ref (v 20), .ref (v 21), .ref (v 22), .ref (v 23), .int 0, .int 0, .int 0, .int 0])), (a, .inl (cy 0, 120, .inl (fun _ => 0)))]) := hD
  obtain rfl : r105 = 0 := hwu106
  refine k_iast0 hx hb hG.1 hP hD hS 17 0 rfl rfl (by unfold vp_in; decide) dX12_movesTold_68 (fun H locs hP hD hS => ?_)
  refine lv_iinc (v := 2) (lv' := [(4, .int 2), (3, .int 16), (0, .ref (v 0)), (1, .ref a), (2, .int b)]) hx hb dX12_movesTold_69 hl (k := 0) rfl (by decide) (by decide) rfl (fun ls hl => ?_)
  refine lv_goto (tgt := 39) hx hb dX12_movesTold_72 (by decide) ?_
  refine lv_iload hx hb dX12_movesTold_39 (lv_at hl 0 rfl) ?_
  refine lv_iconst (v := 2) hx hb dX12_movesTold_41 (by decide) ?_
  refine lv_icmp_ge (tgt := 75) hx hb dX12_movesTold_42 (by decide) (fun _ => ?_) (fun h => absurd (by decide) h)
  refine lv_iinc (v := 17) (lv' := [(3, .int 17), (4, .int 2), (0, .ref (v 0)), (1, .ref a), (2, .int b)]) hx hb dX12_movesTold_75 hl (k := 1) rfl (by decide) (by decide) rfl (fun ls hl => ?_)
  refine lv_goto (tgt := 30) hx hb dX12_movesTold_78 (by decide) ?_
  refine lv_iload_n hx hb dX12_movesTold_30 rfl (lv_at hl 0 rfl) ?_
  refine lv_bipush (v := 30) hx hb dX12_movesTold_31 (by decide) ?_
  refine lv_icmp_ge (tgt := 81) hx hb dX12_movesTold_33 (by decide) (fun h => absurd h (by decide)) (fun _ => ?_)
  refine lv_iconst (v := 0) hx hb dX12_movesTold_36 (by decide) ?_
  refine lv_istore (lv' := [(4, .int 0), (3, .int 17), (0, .ref (v 0)), (1, .ref a), (2, .int b)]) hx hb dX12_movesTold_37 hl (by decide) rfl (fun ls hl => ?_)
  refine lv_iload hx hb dX12_movesTold_39 (lv_at hl 0 rfl) ?_
  refine lv_iconst (v := 2) hx hb dX12_movesTold_41 (by decide) ?_
  refine lv_icmp_ge (tgt := 75) hx hb dX12_movesTold_42 (by decide) (fun h => absurd h (by decide)) (fun _ => ?_)
  refine lv_aload_n hx hb dX12_movesTold_45 rfl (lv_at hl 2 rfl) ?_
  refine va_get (D := D) (ci := 13) (v := .ref (v 10)) (C := RX12) (T := TX12) (N := 48) hx hb hts kin_RX12 hown hG.1 hP 38 rfl rfl 26 (by decide) (hts _ wm_1545) (fun _ h9 => h9) rfl dX12_movesTold_46 ?_
  refine lv_iload_n hx hb dX12_movesTold_49 rfl (lv_at hl 1 rfl) ?_
  refine k_aldA hx hb hG.1 hP 0 rfl (by unfold vp_in; decide) dX12_movesTold_50 ?_
  refine W.eq (g2 := F0 m 51 ls [.ref ((v 10) + 1 + 17)]) rfl ?_
  refine lv_iload hx hb dX12_movesTold_51 (lv_at hl 0 rfl) ?_
  refine lv_aload_n hx hb dX12_movesTold_53 rfl (lv_at hl 2 rfl) ?_
  refine lv_aload_n hx hb dX12_movesTold_54 rfl (lv_at hl 3 rfl) ?_
  refine lv_aload_n hx hb dX12_movesTold_55 rfl (lv_at hl 2 rfl) ?_
  refine va_get (D := D) (ci := 13) (v := .ref (v 10)) (C := RX12) (T := TX12) (N := 48) hx hb hts kin_RX12 hown hG.1 hP 38 rfl rfl 26 (by decide) (hts _ wm_1545) (fun _ h9 => h9) rfl dX12_movesTold_56 ?_
  refine lv_iload_n hx hb dX12_movesTold_59 rfl (lv_at hl 1 rfl) ?_
  refine k_aldA hx hb hG.1 hP 0 rfl (by unfold vp_in; decide) dX12_movesTold_60 ?_
  refine W.eq (g2 := F0 m 61 ls [.ref ((v 10) + 1 + 17), .ref a, .ref (v 0), .int 0, .ref ((v 10) + 1 + 17)]) rfl ?_
  refine lv_iload hx hb dX12_movesTold_61 (lv_at hl 0 rfl) ?_
  refine va_iald hx hb hG.1 hP 18 0 rfl rfl (by unfold vp_in; decide) dX12_movesTold_63 ?_
  refine lv_topi (fun x107 ex107 => ?_)
  obtain rfl : x107 = 0 := ex107.trans (rfl)
  refine lv_iload_n hx hb dX12_movesTold_64 rfl (lv_at hl 4 rfl) ?_
  refine k_cali [0, 1, 2, 3, 4, 5, 6, 7, 8, 9, 10, 11, 12, 13, 14, 15, 16, 17, 18, 19, 20, 21, 22, 23, 24, 25, 26, 27, 28, 29, 30, 31, 32, 33, 34, 35, 36, 37] (⟨hP, hD, hG, hS, hA, rfl, rfl⟩ : kAt D cy sa A s H _ _ [((v 0), .inr (13, [.int 0, .int 0, .int 0, .int (-1), .int 0, .int 0, .int 0, .int 0, .ref (v 1), .ref (v 2), .ref (v 3), .ref (v 4), .ref (v 5), .ref (v 6), .ref (v 7), .ref (v 8), .ref (v 9), .int 0, .int 0, .int 0, .int 0, .int 0, .int 0, .int 0, .int 0, .int 0, .ref (v 10), .ref (v 11), .ref (v 12), .ref (v 13), .int 78, .ref (v 14), .ref (v 15), .ref (v 16), .ref (v 17), .ref (v 18), .int 0, .int 0, .int 0, .ref (v 19), .ref (v 20), .ref (v 21), .ref (v 22), .ref (v 23), .int 0, .int 0, .int 0, .int 0])), (a, .inl (cy 0, 120, .inl (fun _ => 0)))] [38, 39]) (wr := (toldW cy v ++ [])) rfl rfl (by decide) (k_runV 13 38 (As := [.ref a, .int 0, .int b]) (rest := [.int 0, .ref ((v 10) + 1 + 17)]) E lk_VRX12_251 rfl rfl rfl (m_moves l hl0 D cy sa v a 0 78 (by unfold vp_in; decide) b H.size) (⟨hP, hD, hG, hS, hA, rfl, rfl⟩ : kAt D cy sa A s H _ _ [((v 0), .inr (13, [.int 0, .int 0, .int 0, .int (-1), .int 0, .int 0, .int 0, .int 0, .ref (v 1), .ref (v 2), .ref (v 3), .ref (v 4), .ref (v 5), .ref (v 6), .ref (v 7), .ref (v 8), .ref (v 9), .int 0, .int 0, .int 0, .int 0, .int 0, .int 0, .int 0, .int 0, .int 0, .ref (v 10), .ref (v 11), .ref (v 12), .ref (v 13), .int 78, .ref (v 14), .ref (v 15), .ref (v 16), .ref (v 17), .ref (v 18), .int 0, .int 0, .int 0, .ref (v 19), .ref (v 20), .ref (v 21), .ref (v 22), .ref (v 23), .int 0, .int 0, .int 0, .int 0])), (a, .inl (cy 0, 120, .inl (fun _ => 0)))] [38, 39]) hl.1 rfl rfl ⟨rfl, rfl, ⟨Nat.le_of_ble_eq_true rfl, Nat.le_of_ble_eq_true rfl⟩, ⟨Nat.le_of_ble_eq_true rfl, Nat.le_of_ble_eq_true rfl⟩, Nat.le_of_ble_eq_true rfl⟩ dX12_movesTold_65) (fun r108 u109 H locs hwu109 hP hD hS => ?_)
  have hP : va_P D vwCl (toldW cy v ++ [((v 0), .inr (13, [.int 0, .int 0, .int 0, .int (-1), .int 0, .int 0, .int 0, .int 0, .ref (v 1), .ref (v 2), .ref (v 3), .ref (v 4), .ref (v 5), .ref (v 6), .ref (v 7), .ref (v 8), .ref (v 9), .int 0, .int 0, .int 0, .int 0, .int 0, .int 0, .int 0, .int 0, .int 0, .ref (v 10), .ref (v 11), .ref (v 12), .ref (v 13), .int 79, .ref (v 14), .ref (v 15), .ref (v 16), .ref (v 17), .ref (v 18), .int 0, .int 0, .int 0, .ref (v 19), .ref (v 20), .ref (v 21), .ref (v 22), .ref (v 23), .int 0, .int 0, .int 0, .int 0])), (a, .inl (cy 0, 120, .inl (fun _ => 0)))]) H := hP
  have hD : va_D A (toldW cy v ++ [((v 0), .inr (13, [.int 0, .int 0, .int 0, .int (-1), .int 0, .int 0, .int 0, .int 0, .ref (v 1), .ref (v 2), .ref (v 3), .ref (v 4), .ref (v 5), .ref (v 6), .ref (v 7), .ref (v 8), .ref (v 9), .int 0, .int 0, .int 0, .int 0, .int 0, .int 0, .int 0, .int 0, .int 0, .ref (v 10), .ref (v 11), .ref (v 12), .ref (v 13), .int 79, .ref (v 14), .ref (v 15), .ref (v 16), .ref (v 17), .ref (v 18), .int 0, .int 0, .int 0, .ref (v 19), .ref (v 20), .ref (v 21), .ref (v 22), .ref (v 23), .int 0, .int 0, .int 0, .int 0])), (a, .inl (cy 0, 120, .inl (fun _ => 0)))]) := hD
  obtain rfl : r108 = 0 := hwu109
  refine k_iast0 hx hb hG.1 hP hD hS 18 0 rfl rfl (by unfold vp_in; decide) dX12_movesTold_68 (fun H locs hP hD hS => ?_)
  refine lv_iinc (v := 1) (lv' := [(4, .int 1), (3, .int 17), (0, .ref (v 0)), (1, .ref a), (2, .int b)]) hx hb dX12_movesTold_69 hl (k := 0) rfl (by decide) (by decide) rfl (fun ls hl => ?_)
  refine lv_goto (tgt := 39) hx hb dX12_movesTold_72 (by decide) ?_
  refine lv_iload hx hb dX12_movesTold_39 (lv_at hl 0 rfl) ?_
  refine lv_iconst (v := 2) hx hb dX12_movesTold_41 (by decide) ?_
  refine lv_icmp_ge (tgt := 75) hx hb dX12_movesTold_42 (by decide) (fun h => absurd h (by decide)) (fun _ => ?_)
  refine lv_aload_n hx hb dX12_movesTold_45 rfl (lv_at hl 2 rfl) ?_
  refine va_get (D := D) (ci := 13) (v := .ref (v 10)) (C := RX12) (T := TX12) (N := 48) hx hb hts kin_RX12 hown hG.1 hP 38 rfl rfl 26 (by decide) (hts _ wm_1545) (fun _ h9 => h9) rfl dX12_movesTold_46 ?_
  refine lv_iload_n hx hb dX12_movesTold_49 rfl (lv_at hl 1 rfl) ?_
  refine k_aldA hx hb hG.1 hP 0 rfl (by unfold vp_in; decide) dX12_movesTold_50 ?_
  refine W.eq (g2 := F0 m 51 ls [.ref ((v 10) + 1 + 17)]) rfl ?_
  refine lv_iload hx hb dX12_movesTold_51 (lv_at hl 0 rfl) ?_
  refine lv_aload_n hx hb dX12_movesTold_53 rfl (lv_at hl 2 rfl) ?_
  refine lv_aload_n hx hb dX12_movesTold_54 rfl (lv_at hl 3 rfl) ?_
  refine lv_aload_n hx hb dX12_movesTold_55 rfl (lv_at hl 2 rfl) ?_
  refine va_get (D := D) (ci := 13) (v := .ref (v 10)) (C := RX12) (T := TX12) (N := 48) hx hb hts kin_RX12 hown hG.1 hP 38 rfl rfl 26 (by decide) (hts _ wm_1545) (fun _ h9 => h9) rfl dX12_movesTold_56 ?_
  refine lv_iload_n hx hb dX12_movesTold_59 rfl (lv_at hl 1 rfl) ?_
  refine k_aldA hx hb hG.1 hP 0 rfl (by unfold vp_in; decide) dX12_movesTold_60 ?_
  refine W.eq (g2 := F0 m 61 ls [.ref ((v 10) + 1 + 17), .ref a, .ref (v 0), .int 1, .ref ((v 10) + 1 + 17)]) rfl ?_
  refine lv_iload hx hb dX12_movesTold_61 (lv_at hl 0 rfl) ?_
  refine va_iald hx hb hG.1 hP 18 0 rfl rfl (by unfold vp_in; decide) dX12_movesTold_63 ?_
  refine lv_topi (fun x110 ex110 => ?_)
  obtain rfl : x110 = 0 := ex110.trans (rfl)
  refine lv_iload_n hx hb dX12_movesTold_64 rfl (lv_at hl 4 rfl) ?_
  refine k_cali [0, 1, 2, 3, 4, 5, 6, 7, 8, 9, 10, 11, 12, 13, 14, 15, 16, 17, 18, 19, 20, 21, 22, 23, 24, 25, 26, 27, 28, 29, 30, 31, 32, 33, 34, 35, 36, 37] (⟨hP, hD, hG, hS, hA, rfl, rfl⟩ : kAt D cy sa A s H _ _ [((v 0), .inr (13, [.int 0, .int 0, .int 0, .int (-1), .int 0, .int 0, .int 0, .int 0, .ref (v 1), .ref (v 2), .ref (v 3), .ref (v 4), .ref (v 5), .ref (v 6), .ref (v 7), .ref (v 8), .ref (v 9), .int 0, .int 0, .int 0, .int 0, .int 0, .int 0, .int 0, .int 0, .int 0, .ref (v 10), .ref (v 11), .ref (v 12), .ref (v 13), .int 79, .ref (v 14), .ref (v 15), .ref (v 16), .ref (v 17), .ref (v 18), .int 0, .int 0, .int 0, .ref (v 19), .ref (v 20), .ref (v 21), .ref (v 22), .ref (v 23), .int 0, .int 0, .int 0, .int 0])), (a, .inl (cy 0, 120, .inl (fun _ => 0)))] [38, 39]) (wr := (toldW cy v ++ [])) rfl rfl (by decide) (k_runV 13 38 (As := [.ref a, .int 0, .int b]) (rest := [.int 1, .ref ((v 10) + 1 + 17)]) E lk_VRX12_251 rfl rfl rfl (m_moves l hl0 D cy sa v a 0 79 (by unfold vp_in; decide) b H.size) (⟨hP, hD, hG, hS, hA, rfl, rfl⟩ : kAt D cy sa A s H _ _ [((v 0), .inr (13, [.int 0, .int 0, .int 0, .int (-1), .int 0, .int 0, .int 0, .int 0, .ref (v 1), .ref (v 2), .ref (v 3), .ref (v 4), .ref (v 5), .ref (v 6), .ref (v 7), .ref (v 8), .ref (v 9), .int 0, .int 0, .int 0, .int 0, .int 0, .int 0, .int 0, .int 0, .int 0, .ref (v 10), .ref (v 11), .ref (v 12), .ref (v 13), .int 79, .ref (v 14), .ref (v 15), .ref (v 16), .ref (v 17), .ref (v 18), .int 0, .int 0, .int 0, .ref (v 19), .ref (v 20), .ref (v 21), .ref (v 22), .ref (v 23), .int 0, .int 0, .int 0, .int 0])), (a, .inl (cy 0, 120, .inl (fun _ => 0)))] [38, 39]) hl.1 rfl rfl ⟨rfl, rfl, ⟨Nat.le_of_ble_eq_true rfl, Nat.le_of_ble_eq_true rfl⟩, ⟨Nat.le_of_ble_eq_true rfl, Nat.le_of_ble_eq_true rfl⟩, Nat.le_of_ble_eq_true rfl⟩ dX12_movesTold_65) (fun r111 u112 H locs hwu112 hP hD hS => ?_)
  have hP : va_P D vwCl (toldW cy v ++ [((v 0), .inr (13, [.int 0, .int 0, .int 0, .int (-1), .int 0, .int 0, .int 0, .int 0, .ref (v 1), .ref (v 2), .ref (v 3), .ref (v 4), .ref (v 5), .ref (v 6), .ref (v 7), .ref (v 8), .ref (v 9), .int 0, .int 0, .int 0, .int 0, .int 0, .int 0, .int 0, .int 0, .int 0, .ref (v 10), .ref (v 11), .ref (v 12), .ref (v 13), .int 80, .ref (v 14), .ref (v 15), .ref (v 16), .ref (v 17), .ref (v 18), .int 0, .int 0, .int 0, .ref (v 19), .ref (v 20), .ref (v 21), .ref (v 22), .ref (v 23), .int 0, .int 0, .int 0, .int 0])), (a, .inl (cy 0, 120, .inl (fun _ => 0)))]) H := hP
  have hD : va_D A (toldW cy v ++ [((v 0), .inr (13, [.int 0, .int 0, .int 0, .int (-1), .int 0, .int 0, .int 0, .int 0, .ref (v 1), .ref (v 2), .ref (v 3), .ref (v 4), .ref (v 5), .ref (v 6), .ref (v 7), .ref (v 8), .ref (v 9), .int 0, .int 0, .int 0, .int 0, .int 0, .int 0, .int 0, .int 0, .int 0, .ref (v 10), .ref (v 11), .ref (v 12), .ref (v 13), .int 80, .ref (v 14), .ref (v 15), .ref (v 16), .ref (v 17), .ref (v 18), .int 0, .int 0, .int 0, .ref (v 19), .ref (v 20), .ref (v 21), .ref (v 22), .ref (v 23), .int 0, .int 0, .int 0, .int 0])), (a, .inl (cy 0, 120, .inl (fun _ => 0)))]) := hD
  obtain rfl : r111 = 0 := hwu112
  refine k_iast0 hx hb hG.1 hP hD hS 18 0 rfl rfl (by unfold vp_in; decide) dX12_movesTold_68 (fun H locs hP hD hS => ?_)
  refine lv_iinc (v := 2) (lv' := [(4, .int 2), (3, .int 17), (0, .ref (v 0)), (1, .ref a), (2, .int b)]) hx hb dX12_movesTold_69 hl (k := 0) rfl (by decide) (by decide) rfl (fun ls hl => ?_)
  refine lv_goto (tgt := 39) hx hb dX12_movesTold_72 (by decide) ?_
  refine lv_iload hx hb dX12_movesTold_39 (lv_at hl 0 rfl) ?_
  refine lv_iconst (v := 2) hx hb dX12_movesTold_41 (by decide) ?_
  refine lv_icmp_ge (tgt := 75) hx hb dX12_movesTold_42 (by decide) (fun _ => ?_) (fun h => absurd (by decide) h)
  refine lv_iinc (v := 18) (lv' := [(3, .int 18), (4, .int 2), (0, .ref (v 0)), (1, .ref a), (2, .int b)]) hx hb dX12_movesTold_75 hl (k := 1) rfl (by decide) (by decide) rfl (fun ls hl => ?_)
  refine lv_goto (tgt := 30) hx hb dX12_movesTold_78 (by decide) ?_
  refine lv_iload_n hx hb dX12_movesTold_30 rfl (lv_at hl 0 rfl) ?_
  refine lv_bipush (v := 30) hx hb dX12_movesTold_31 (by decide) ?_
  refine lv_icmp_ge (tgt := 81) hx hb dX12_movesTold_33 (by decide) (fun h => absurd h (by decide)) (fun _ => ?_)
  refine lv_iconst (v := 0) hx hb dX12_movesTold_36 (by decide) ?_
  refine lv_istore (lv' := [(4, .int 0), (3, .int 18), (0, .ref (v 0)), (1, .ref a), (2, .int b)]) hx hb dX12_movesTold_37 hl (by decide) rfl (fun ls hl => ?_)
  refine lv_iload hx hb dX12_movesTold_39 (lv_at hl 0 rfl) ?_
  refine lv_iconst (v := 2) hx hb dX12_movesTold_41 (by decide) ?_
  refine lv_icmp_ge (tgt := 75) hx hb dX12_movesTold_42 (by decide) (fun h => absurd h (by decide)) (fun _ => ?_)
  refine lv_aload_n hx hb dX12_movesTold_45 rfl (lv_at hl 2 rfl) ?_
  refine va_get (D := D) (ci := 13) (v := .ref (v 10)) (C := RX12) (T := TX12) (N := 48) hx hb hts kin_RX12 hown hG.1 hP 38 rfl rfl 26 (by decide) (hts _ wm_1545) (fun _ h9 => h9) rfl dX12_movesTold_46 ?_
  refine lv_iload_n hx hb dX12_movesTold_49 rfl (lv_at hl 1 rfl) ?_
  refine k_aldA hx hb hG.1 hP 0 rfl (by unfold vp_in; decide) dX12_movesTold_50 ?_
  refine W.eq (g2 := F0 m 51 ls [.ref ((v 10) + 1 + 18)]) rfl ?_
  refine lv_iload hx hb dX12_movesTold_51 (lv_at hl 0 rfl) ?_
  refine lv_aload_n hx hb dX12_movesTold_53 rfl (lv_at hl 2 rfl) ?_
  refine lv_aload_n hx hb dX12_movesTold_54 rfl (lv_at hl 3 rfl) ?_
  refine lv_aload_n hx hb dX12_movesTold_55 rfl (lv_at hl 2 rfl) ?_
  refine va_get (D := D) (ci := 13) (v := .ref (v 10)) (C := RX12) (T := TX12) (N := 48) hx hb hts kin_RX12 hown hG.1 hP 38 rfl rfl 26 (by decide) (hts _ wm_1545) (fun _ h9 => h9) rfl dX12_movesTold_56 ?_
  refine lv_iload_n hx hb dX12_movesTold_59 rfl (lv_at hl 1 rfl) ?_
  refine k_aldA hx hb hG.1 hP 0 rfl (by unfold vp_in; decide) dX12_movesTold_60 ?_
  refine W.eq (g2 := F0 m 61 ls [.ref ((v 10) + 1 + 18), .ref a, .ref (v 0), .int 0, .ref ((v 10) + 1 + 18)]) rfl ?_
  refine lv_iload hx hb dX12_movesTold_61 (lv_at hl 0 rfl) ?_
  refine va_iald hx hb hG.1 hP 19 0 rfl rfl (by unfold vp_in; decide) dX12_movesTold_63 ?_
  refine lv_topi (fun x113 ex113 => ?_)
  obtain rfl : x113 = 0 := ex113.trans (rfl)
  refine lv_iload_n hx hb dX12_movesTold_64 rfl (lv_at hl 4 rfl) ?_
  refine k_cali [0, 1, 2, 3, 4, 5, 6, 7, 8, 9, 10, 11, 12, 13, 14, 15, 16, 17, 18, 19, 20, 21, 22, 23, 24, 25, 26, 27, 28, 29, 30, 31, 32, 33, 34, 35, 36, 37] (⟨hP, hD, hG, hS, hA, rfl, rfl⟩ : kAt D cy sa A s H _ _ [((v 0), .inr (13, [.int 0, .int 0, .int 0, .int (-1), .int 0, .int 0, .int 0, .int 0, .ref (v 1), .ref (v 2), .ref (v 3), .ref (v 4), .ref (v 5), .ref (v 6), .ref (v 7), .ref (v 8), .ref (v 9), .int 0, .int 0, .int 0, .int 0, .int 0, .int 0, .int 0, .int 0, .int 0, .ref (v 10), .ref (v 11), .ref (v 12), .ref (v 13), .int 80, .ref (v 14), .ref (v 15), .ref (v 16), .ref (v 17), .ref (v 18), .int 0, .int 0, .int 0, .ref (v 19), .ref (v 20), .ref (v 21), .ref (v 22), .ref (v 23), .int 0, .int 0, .int 0, .int 0])), (a, .inl (cy 0, 120, .inl (fun _ => 0)))] [38, 39]) (wr := (toldW cy v ++ [])) rfl rfl (by decide) (k_runV 13 38 (As := [.ref a, .int 0, .int b]) (rest := [.int 0, .ref ((v 10) + 1 + 18)]) E lk_VRX12_251 rfl rfl rfl (m_moves l hl0 D cy sa v a 0 80 (by unfold vp_in; decide) b H.size) (⟨hP, hD, hG, hS, hA, rfl, rfl⟩ : kAt D cy sa A s H _ _ [((v 0), .inr (13, [.int 0, .int 0, .int 0, .int (-1), .int 0, .int 0, .int 0, .int 0, .ref (v 1), .ref (v 2), .ref (v 3), .ref (v 4), .ref (v 5), .ref (v 6), .ref (v 7), .ref (v 8), .ref (v 9), .int 0, .int 0, .int 0, .int 0, .int 0, .int 0, .int 0, .int 0, .int 0, .ref (v 10), .ref (v 11), .ref (v 12), .ref (v 13), .int 80, .ref (v 14), .ref (v 15), .ref (v 16), .ref (v 17), .ref (v 18), .int 0, .int 0, .int 0, .ref (v 19), .ref (v 20), .ref (v 21), .ref (v 22), .ref (v 23), .int 0, .int 0, .int 0, .int 0])), (a, .inl (cy 0, 120, .inl (fun _ => 0)))] [38, 39]) hl.1 rfl rfl ⟨rfl, rfl, ⟨Nat.le_of_ble_eq_true rfl, Nat.le_of_ble_eq_true rfl⟩, ⟨Nat.le_of_ble_eq_true rfl, Nat.le_of_ble_eq_true rfl⟩, Nat.le_of_ble_eq_true rfl⟩ dX12_movesTold_65) (fun r114 u115 H locs hwu115 hP hD hS => ?_)
  have hP : va_P D vwCl (toldW cy v ++ [((v 0), .inr (13, [.int 0, .int 0, .int 0, .int (-1), .int 0, .int 0, .int 0, .int 0, .ref (v 1), .ref (v 2), .ref (v 3), .ref (v 4), .ref (v 5), .ref (v 6), .ref (v 7), .ref (v 8), .ref (v 9), .int 0, .int 0, .int 0, .int 0, .int 0, .int 0, .int 0, .int 0, .int 0, .ref (v 10), .ref (v 11), .ref (v 12), .ref (v 13), .int 81, .ref (v 14), .ref (v 15), .ref (v 16), .ref (v 17), .ref (v 18), .int 0, .int 0, .int 0, .ref (v 19), .ref (v 20), .ref (v 21), .ref (v 22), .ref (v 23), .int 0, .int 0, .int 0, .int 0])), (a, .inl (cy 0, 120, .inl (fun _ => 0)))]) H := hP
  have hD : va_D A (toldW cy v ++ [((v 0), .inr (13, [.int 0, .int 0, .int 0, .int (-1), .int 0, .int 0, .int 0, .int 0, .ref (v 1), .ref (v 2), .ref (v 3), .ref (v 4), .ref (v 5), .ref (v 6), .ref (v 7), .ref (v 8), .ref (v 9), .int 0, .int 0, .int 0, .int 0, .int 0, .int 0, .int 0, .int 0, .int 0, .ref (v 10), .ref (v 11), .ref (v 12), .ref (v 13), .int 81, .ref (v 14), .ref (v 15), .ref (v 16), .ref (v 17), .ref (v 18), .int 0, .int 0, .int 0, .ref (v 19), .ref (v 20), .ref (v 21), .ref (v 22), .ref (v 23), .int 0, .int 0, .int 0, .int 0])), (a, .inl (cy 0, 120, .inl (fun _ => 0)))]) := hD
  obtain rfl : r114 = 0 := hwu115
  refine k_iast0 hx hb hG.1 hP hD hS 19 0 rfl rfl (by unfold vp_in; decide) dX12_movesTold_68 (fun H locs hP hD hS => ?_)
  refine lv_iinc (v := 1) (lv' := [(4, .int 1), (3, .int 18), (0, .ref (v 0)), (1, .ref a), (2, .int b)]) hx hb dX12_movesTold_69 hl (k := 0) rfl (by decide) (by decide) rfl (fun ls hl => ?_)
  refine lv_goto (tgt := 39) hx hb dX12_movesTold_72 (by decide) ?_
  refine lv_iload hx hb dX12_movesTold_39 (lv_at hl 0 rfl) ?_
  refine lv_iconst (v := 2) hx hb dX12_movesTold_41 (by decide) ?_
  refine lv_icmp_ge (tgt := 75) hx hb dX12_movesTold_42 (by decide) (fun h => absurd h (by decide)) (fun _ => ?_)
  refine lv_aload_n hx hb dX12_movesTold_45 rfl (lv_at hl 2 rfl) ?_
  refine va_get (D := D) (ci := 13) (v := .ref (v 10)) (C := RX12) (T := TX12) (N := 48) hx hb hts kin_RX12 hown hG.1 hP 38 rfl rfl 26 (by decide) (hts _ wm_1545) (fun _ h9 => h9) rfl dX12_movesTold_46 ?_
  refine lv_iload_n hx hb dX12_movesTold_49 rfl (lv_at hl 1 rfl) ?_
  refine k_aldA hx hb hG.1 hP 0 rfl (by unfold vp_in; decide) dX12_movesTold_50 ?_
  refine W.eq (g2 := F0 m 51 ls [.ref ((v 10) + 1 + 18)]) rfl ?_
  refine lv_iload hx hb dX12_movesTold_51 (lv_at hl 0 rfl) ?_
  refine lv_aload_n hx hb dX12_movesTold_53 rfl (lv_at hl 2 rfl) ?_
  refine lv_aload_n hx hb dX12_movesTold_54 rfl (lv_at hl 3 rfl) ?_
  refine lv_aload_n hx hb dX12_movesTold_55 rfl (lv_at hl 2 rfl) ?_
  refine va_get (D := D) (ci := 13) (v := .ref (v 10)) (C := RX12) (T := TX12) (N := 48) hx hb hts kin_RX12 hown hG.1 hP 38 rfl rfl 26 (by decide) (hts _ wm_1545) (fun _ h9 => h9) rfl dX12_movesTold_56 ?_
  refine lv_iload_n hx hb dX12_movesTold_59 rfl (lv_at hl 1 rfl) ?_
  refine k_aldA hx hb hG.1 hP 0 rfl (by unfold vp_in; decide) dX12_movesTold_60 ?_
  refine W.eq (g2 := F0 m 61 ls [.ref ((v 10) + 1 + 18), .ref a, .ref (v 0), .int 1, .ref ((v 10) + 1 + 18)]) rfl ?_
  refine lv_iload hx hb dX12_movesTold_61 (lv_at hl 0 rfl) ?_
  refine va_iald hx hb hG.1 hP 19 0 rfl rfl (by unfold vp_in; decide) dX12_movesTold_63 ?_
  refine lv_topi (fun x116 ex116 => ?_)
  obtain rfl : x116 = 0 := ex116.trans (rfl)
  refine lv_iload_n hx hb dX12_movesTold_64 rfl (lv_at hl 4 rfl) ?_
  refine k_cali [0, 1, 2, 3, 4, 5, 6, 7, 8, 9, 10, 11, 12, 13, 14, 15, 16, 17, 18, 19, 20, 21, 22, 23, 24, 25, 26, 27, 28, 29, 30, 31, 32, 33, 34, 35, 36, 37] (⟨hP, hD, hG, hS, hA, rfl, rfl⟩ : kAt D cy sa A s H _ _ [((v 0), .inr (13, [.int 0, .int 0, .int 0, .int (-1), .int 0, .int 0, .int 0, .int 0, .ref (v 1), .ref (v 2), .ref (v 3), .ref (v 4), .ref (v 5), .ref (v 6), .ref (v 7), .ref (v 8), .ref (v 9), .int 0, .int 0, .int 0, .int 0, .int 0, .int 0, .int 0, .int 0, .int 0, .ref (v 10), .ref (v 11), .ref (v 12), .ref (v 13), .int 81, .ref (v 14), .ref (v 15), .ref (v 16), .ref (v 17), .ref (v 18), .int 0, .int 0, .int 0, .ref (v 19), .ref (v 20), .ref (v 21), .ref (v 22), .ref (v 23), .int 0, .int 0, .int 0, .int 0])), (a, .inl (cy 0, 120, .inl (fun _ => 0)))] [38, 39]) (wr := (toldW cy v ++ [])) rfl rfl (by decide) (k_runV 13 38 (As := [.ref a, .int 0, .int b]) (rest := [.int 1, .ref ((v 10) + 1 + 18)]) E lk_VRX12_251 rfl rfl rfl (m_moves l hl0 D cy sa v a 0 81 (by unfold vp_in; decide) b H.size) (⟨hP, hD, hG, hS, hA, rfl, rfl⟩ : kAt D cy sa A s H _ _ [((v 0), .inr (13, [.int 0, .int 0, .int 0, .int (-1), .int 0, .int 0, .int 0, .int 0, .ref (v 1), .ref (v 2), .ref (v 3), .ref (v 4), .ref (v 5), .ref (v 6), .ref (v 7), .ref (v 8), .ref (v 9), .int 0, .int 0, .int 0, .int 0, .int 0, .int 0, .int 0, .int 0, .int 0, .ref (v 10), .ref (v 11), .ref (v 12), .ref (v 13), .int 81, .ref (v 14), .ref (v 15), .ref (v 16), .ref (v 17), .ref (v 18), .int 0, .int 0, .int 0, .ref (v 19), .ref (v 20), .ref (v 21), .ref (v 22), .ref (v 23), .int 0, .int 0, .int 0, .int 0])), (a, .inl (cy 0, 120, .inl (fun _ => 0)))] [38, 39]) hl.1 rfl rfl ⟨rfl, rfl, ⟨Nat.le_of_ble_eq_true rfl, Nat.le_of_ble_eq_true rfl⟩, ⟨Nat.le_of_ble_eq_true rfl, Nat.le_of_ble_eq_true rfl⟩, Nat.le_of_ble_eq_true rfl⟩ dX12_movesTold_65) (fun r117 u118 H locs hwu118 hP hD hS => ?_)
  have hP : va_P D vwCl (toldW cy v ++ [((v 0), .inr (13, [.int 0, .int 0, .int 0, .int (-1), .int 0, .int 0, .int 0, .int 0, .ref (v 1), .ref (v 2), .ref (v 3), .ref (v 4), .ref (v 5), .ref (v 6), .ref (v 7), .ref (v 8), .ref (v 9), .int 0, .int 0, .int 0, .int 0, .int 0, .int 0, .int 0, .int 0, .int 0, .ref (v 10), .ref (v 11), .ref (v 12), .ref (v 13), .int 82, .ref (v 14), .ref (v 15), .ref (v 16), .ref (v 17), .ref (v 18), .int 0, .int 0, .int 0, .ref (v 19), .ref (v 20), .ref (v 21), .ref (v 22), .ref (v 23), .int 0, .int 0, .int 0, .int 0])), (a, .inl (cy 0, 120, .inl (fun _ => 0)))]) H := hP
  have hD : va_D A (toldW cy v ++ [((v 0), .inr (13, [.int 0, .int 0, .int 0, .int (-1), .int 0, .int 0, .int 0, .int 0, .ref (v 1), .ref (v 2), .ref (v 3), .ref (v 4), .ref (v 5), .ref (v 6), .ref (v 7), .ref (v 8), .ref (v 9), .int 0, .int 0, .int 0, .int 0, .int 0, .int 0, .int 0, .int 0, .int 0, .ref (v 10), .ref (v 11), .ref (v 12), .ref (v 13), .int 82, .ref (v 14), .ref (v 15), .ref (v 16), .ref (v 17), .ref (v 18), .int 0, .int 0, .int 0, .ref (v 19), .ref (v 20), .ref (v 21), .ref (v 22), .ref (v 23), .int 0, .int 0, .int 0, .int 0])), (a, .inl (cy 0, 120, .inl (fun _ => 0)))]) := hD
  obtain rfl : r117 = 0 := hwu118
  refine k_iast0 hx hb hG.1 hP hD hS 19 0 rfl rfl (by unfold vp_in; decide) dX12_movesTold_68 (fun H locs hP hD hS => ?_)
  refine lv_iinc (v := 2) (lv' := [(4, .int 2), (3, .int 18), (0, .ref (v 0)), (1, .ref a), (2, .int b)]) hx hb dX12_movesTold_69 hl (k := 0) rfl (by decide) (by decide) rfl (fun ls hl => ?_)
  refine lv_goto (tgt := 39) hx hb dX12_movesTold_72 (by decide) ?_
  refine lv_iload hx hb dX12_movesTold_39 (lv_at hl 0 rfl) ?_
  refine lv_iconst (v := 2) hx hb dX12_movesTold_41 (by decide) ?_
  refine lv_icmp_ge (tgt := 75) hx hb dX12_movesTold_42 (by decide) (fun _ => ?_) (fun h => absurd (by decide) h)
  refine lv_iinc (v := 19) (lv' := [(3, .int 19), (4, .int 2), (0, .ref (v 0)), (1, .ref a), (2, .int b)]) hx hb dX12_movesTold_75 hl (k := 1) rfl (by decide) (by decide) rfl (fun ls hl => ?_)
  refine lv_goto (tgt := 30) hx hb dX12_movesTold_78 (by decide) ?_
  refine lv_iload_n hx hb dX12_movesTold_30 rfl (lv_at hl 0 rfl) ?_
  refine lv_bipush (v := 30) hx hb dX12_movesTold_31 (by decide) ?_
  refine lv_icmp_ge (tgt := 81) hx hb dX12_movesTold_33 (by decide) (fun h => absurd h (by decide)) (fun _ => ?_)
  refine lv_iconst (v := 0) hx hb dX12_movesTold_36 (by decide) ?_
  refine lv_istore (lv' := [(4, .int 0), (3, .int 19), (0, .ref (v 0)), (1, .ref a), (2, .int b)]) hx hb dX12_movesTold_37 hl (by decide) rfl (fun ls hl => ?_)
  refine lv_iload hx hb dX12_movesTold_39 (lv_at hl 0 rfl) ?_
  refine lv_iconst (v := 2) hx hb dX12_movesTold_41 (by decide) ?_
  refine lv_icmp_ge (tgt := 75) hx hb dX12_movesTold_42 (by decide) (fun h => absurd h (by decide)) (fun _ => ?_)
  refine lv_aload_n hx hb dX12_movesTold_45 rfl (lv_at hl 2 rfl) ?_
  refine va_get (D := D) (ci := 13) (v := .ref (v 10)) (C := RX12) (T := TX12) (N := 48) hx hb hts kin_RX12 hown hG.1 hP 38 rfl rfl 26 (by decide) (hts _ wm_1545) (fun _ h9 => h9) rfl dX12_movesTold_46 ?_
  refine lv_iload_n hx hb dX12_movesTold_49 rfl (lv_at hl 1 rfl) ?_
  refine k_aldA hx hb hG.1 hP 0 rfl (by unfold vp_in; decide) dX12_movesTold_50 ?_
  refine W.eq (g2 := F0 m 51 ls [.ref ((v 10) + 1 + 19)]) rfl ?_
  refine lv_iload hx hb dX12_movesTold_51 (lv_at hl 0 rfl) ?_
  refine lv_aload_n hx hb dX12_movesTold_53 rfl (lv_at hl 2 rfl) ?_
  refine lv_aload_n hx hb dX12_movesTold_54 rfl (lv_at hl 3 rfl) ?_
  refine lv_aload_n hx hb dX12_movesTold_55 rfl (lv_at hl 2 rfl) ?_
  refine va_get (D := D) (ci := 13) (v := .ref (v 10)) (C := RX12) (T := TX12) (N := 48) hx hb hts kin_RX12 hown hG.1 hP 38 rfl rfl 26 (by decide) (hts _ wm_1545) (fun _ h9 => h9) rfl dX12_movesTold_56 ?_
  refine lv_iload_n hx hb dX12_movesTold_59 rfl (lv_at hl 1 rfl) ?_
  refine k_aldA hx hb hG.1 hP 0 rfl (by unfold vp_in; decide) dX12_movesTold_60 ?_
  refine W.eq (g2 := F0 m 61 ls [.ref ((v 10) + 1 + 19), .ref a, .ref (v 0), .int 0, .ref ((v 10) + 1 + 19)]) rfl ?_
  refine lv_iload hx hb dX12_movesTold_61 (lv_at hl 0 rfl) ?_
  refine va_iald hx hb hG.1 hP 20 0 rfl rfl (by unfold vp_in; decide) dX12_movesTold_63 ?_
  refine lv_topi (fun x119 ex119 => ?_)
  obtain rfl : x119 = 0 := ex119.trans (rfl)
  refine lv_iload_n hx hb dX12_movesTold_64 rfl (lv_at hl 4 rfl) ?_
  refine k_cali [0, 1, 2, 3, 4, 5, 6, 7, 8, 9, 10, 11, 12, 13, 14, 15, 16, 17, 18, 19, 20, 21, 22, 23, 24, 25, 26, 27, 28, 29, 30, 31, 32, 33, 34, 35, 36, 37] (⟨hP, hD, hG, hS, hA, rfl, rfl⟩ : kAt D cy sa A s H _ _ [((v 0), .inr (13, [.int 0, .int 0, .int 0, .int (-1), .int 0, .int 0, .int 0, .int 0, .ref (v 1), .ref (v 2), .ref (v 3), .ref (v 4), .ref (v 5), .ref (v 6), .ref (v 7), .ref (v 8), .ref (v 9), .int 0, .int 0, .int 0, .int 0, .int 0, .int 0, .int 0, .int 0, .int 0, .ref (v 10), .ref (v 11), .ref (v 12), .ref (v 13), .int 82, .ref (v 14), .ref (v 15), .ref (v 16), .ref (v 17), .ref (v 18), .int 0, .int 0, .int 0, .ref (v 19), .ref (v 20), .ref (v 21), .ref (v 22), .ref (v 23), .int 0, .int 0, .int 0, .int 0])), (a, .inl (cy 0, 120, .inl (fun _ => 0)))] [38, 39]) (wr := (toldW cy v ++ [])) rfl rfl (by decide) (k_runV 13 38 (As := [.ref a, .int 0, .int b]) (rest := [.int 0, .ref ((v 10) + 1 + 19)]) E lk_VRX12_251 rfl rfl rfl (m_moves l hl0 D cy sa v a 0 82 (by unfold vp_in; decide) b H.size) (⟨hP, hD, hG, hS, hA, rfl, rfl⟩ : kAt D cy sa A s H _ _ [((v 0), .inr (13, [.int 0, .int 0, .int 0, .int (-1), .int 0, .int 0, .int 0, .int 0, .ref (v 1), .ref (v 2), .ref (v 3), .ref (v 4), .ref (v 5), .ref (v 6), .ref (v 7), .ref (v 8), .ref (v 9), .int 0, .int 0, .int 0, .int 0, .int 0, .int 0, .int 0, .int 0, .int 0, .ref (v 10), .ref (v 11), .ref (v 12), .ref (v 13), .int 82, .ref (v 14), .ref (v 15), .ref (v 16), .ref (v 17), .ref (v 18), .int 0, .int 0, .int 0, .ref (v 19), .ref (v 20), .ref (v 21), .ref (v 22), .ref (v 23), .int 0, .int 0, .int 0, .int 0])), (a, .inl (cy 0, 120, .inl (fun _ => 0)))] [38, 39]) hl.1 rfl rfl ⟨rfl, rfl, ⟨Nat.le_of_ble_eq_true rfl, Nat.le_of_ble_eq_true rfl⟩, ⟨Nat.le_of_ble_eq_true rfl, Nat.le_of_ble_eq_true rfl⟩, Nat.le_of_ble_eq_true rfl⟩ dX12_movesTold_65) (fun r120 u121 H locs hwu121 hP hD hS => ?_)
  have hP : va_P D vwCl (toldW cy v ++ [((v 0), .inr (13, [.int 0, .int 0, .int 0, .int (-1), .int 0, .int 0, .int 0, .int 0, .ref (v 1), .ref (v 2), .ref (v 3), .ref (v 4), .ref (v 5), .ref (v 6), .ref (v 7), .ref (v 8), .ref (v 9), .int 0, .int 0, .int 0, .int 0, .int 0, .int 0, .int 0, .int 0, .int 0, .ref (v 10), .ref (v 11), .ref (v 12), .ref (v 13), .int 83, .ref (v 14), .ref (v 15), .ref (v 16), .ref (v 17), .ref (v 18), .int 0, .int 0, .int 0, .ref (v 19), .ref (v 20), .ref (v 21), .ref (v 22), .ref (v 23), .int 0, .int 0, .int 0, .int 0])), (a, .inl (cy 0, 120, .inl (fun _ => 0)))]) H := hP
  have hD : va_D A (toldW cy v ++ [((v 0), .inr (13, [.int 0, .int 0, .int 0, .int (-1), .int 0, .int 0, .int 0, .int 0, .ref (v 1), .ref (v 2), .ref (v 3), .ref (v 4), .ref (v 5), .ref (v 6), .ref (v 7), .ref (v 8), .ref (v 9), .int 0, .int 0, .int 0, .int 0, .int 0, .int 0, .int 0, .int 0, .int 0, .ref (v 10), .ref (v 11), .ref (v 12), .ref (v 13), .int 83, .ref (v 14), .ref (v 15), .ref (v 16), .ref (v 17), .ref (v 18), .int 0, .int 0, .int 0, .ref (v 19), .ref (v 20), .ref (v 21), .ref (v 22), .ref (v 23), .int 0, .int 0, .int 0, .int 0])), (a, .inl (cy 0, 120, .inl (fun _ => 0)))]) := hD
  obtain rfl : r120 = 0 := hwu121
  refine k_iast0 hx hb hG.1 hP hD hS 20 0 rfl rfl (by unfold vp_in; decide) dX12_movesTold_68 (fun H locs hP hD hS => ?_)
  refine lv_iinc (v := 1) (lv' := [(4, .int 1), (3, .int 19), (0, .ref (v 0)), (1, .ref a), (2, .int b)]) hx hb dX12_movesTold_69 hl (k := 0) rfl (by decide) (by decide) rfl (fun ls hl => ?_)
  refine lv_goto (tgt := 39) hx hb dX12_movesTold_72 (by decide) ?_
  refine lv_iload hx hb dX12_movesTold_39 (lv_at hl 0 rfl) ?_
  refine lv_iconst (v := 2) hx hb dX12_movesTold_41 (by decide) ?_
  refine lv_icmp_ge (tgt := 75) hx hb dX12_movesTold_42 (by decide) (fun h => absurd h (by decide)) (fun _ => ?_)
  refine lv_aload_n hx hb dX12_movesTold_45 rfl (lv_at hl 2 rfl) ?_
  refine va_get (D := D) (ci := 13) (v := .ref (v 10)) (C := RX12) (T := TX12) (N := 48) hx hb hts kin_RX12 hown hG.1 hP 38 rfl rfl 26 (by decide) (hts _ wm_1545) (fun _ h9 => h9) rfl dX12_movesTold_46 ?_
  refine lv_iload_n hx hb dX12_movesTold_49 rfl (lv_at hl 1 rfl) ?_
  refine k_aldA hx hb hG.1 hP 0 rfl (by unfold vp_in; decide) dX12_movesTold_50 ?_
  refine W.eq (g2 := F0 m 51 ls [.ref ((v 10) + 1 + 19)]) rfl ?_
  refine lv_iload hx hb dX12_movesTold_51 (lv_at hl 0 rfl) ?_
  refine lv_aload_n hx hb dX12_movesTold_53 rfl (lv_at hl 2 rfl) ?_
  refine lv_aload_n hx hb dX12_movesTold_54 rfl (lv_at hl 3 rfl) ?_
  refine lv_aload_n hx hb dX12_movesTold_55 rfl (lv_at hl 2 rfl) ?_
  refine va_get (D := D) (ci := 13) (v := .ref (v 10)) (C := RX12) (T := TX12) (N := 48) hx hb hts kin_RX12 hown hG.1 hP 38 rfl rfl 26 (by decide) (hts _ wm_1545) (fun _ h9 => h9) rfl dX12_movesTold_56 ?_
  refine lv_iload_n hx hb dX12_movesTold_59 rfl (lv_at hl 1 rfl) ?_
  refine k_aldA hx hb hG.1 hP 0 rfl (by unfold vp_in; decide) dX12_movesTold_60 ?_
  refine W.eq (g2 := F0 m 61 ls [.ref ((v 10) + 1 + 19), .ref a, .ref (v 0), .int 1, .ref ((v 10) + 1 + 19)]) rfl ?_
  refine lv_iload hx hb dX12_movesTold_61 (lv_at hl 0 rfl) ?_
  refine va_iald hx hb hG.1 hP 20 0 rfl rfl (by unfold vp_in; decide) dX12_movesTold_63 ?_
  refine lv_topi (fun x122 ex122 => ?_)
  obtain rfl : x122 = 0 := ex122.trans (rfl)
  refine lv_iload_n hx hb dX12_movesTold_64 rfl (lv_at hl 4 rfl) ?_
  refine k_cali [0, 1, 2, 3, 4, 5, 6, 7, 8, 9, 10, 11, 12, 13, 14, 15, 16, 17, 18, 19, 20, 21, 22, 23, 24, 25, 26, 27, 28, 29, 30, 31, 32, 33, 34, 35, 36, 37] (⟨hP, hD, hG, hS, hA, rfl, rfl⟩ : kAt D cy sa A s H _ _ [((v 0), .inr (13, [.int 0, .int 0, .int 0, .int (-1), .int 0, .int 0, .int 0, .int 0, .ref (v 1), .ref (v 2), .ref (v 3), .ref (v 4), .ref (v 5), .ref (v 6), .ref (v 7), .ref (v 8), .ref (v 9), .int 0, .int 0, .int 0, .int 0, .int 0, .int 0, .int 0, .int 0, .int 0, .ref (v 10), .ref (v 11), .ref (v 12), .ref (v 13), .int 83, .ref (v 14), .ref (v 15), .ref (v 16), .ref (v 17), .ref (v 18), .int 0, .int 0, .int 0, .ref (v 19), .ref (v 20), .ref (v 21), .ref (v 22), .ref (v 23), .int 0, .int 0, .int 0, .int 0])), (a, .inl (cy 0, 120, .inl (fun _ => 0)))] [38, 39]) (wr := (toldW cy v ++ [])) rfl rfl (by decide) (k_runV 13 38 (As := [.ref a, .int 0, .int b]) (rest := [.int 1, .ref ((v 10) + 1 + 19)]) E lk_VRX12_251 rfl rfl rfl (m_moves l hl0 D cy sa v a 0 83 (by unfold vp_in; decide) b H.size) (⟨hP, hD, hG, hS, hA, rfl, rfl⟩ : kAt D cy sa A s H _ _ [((v 0), .inr (13, [.int 0, .int 0, .int 0, .int (-1), .int 0, .int 0, .int 0, .int 0, .ref (v 1), .ref (v 2), .ref (v 3), .ref (v 4), .ref (v 5), .ref (v 6), .ref (v 7), .ref (v 8), .ref (v 9), .int 0, .int 0, .int 0, .int 0, .int 0, .int 0, .int 0, .int 0, .int 0, .ref (v 10), .ref (v 11), .ref (v 12), .ref (v 13), .int 83, .ref (v 14), .ref (v 15), .ref (v 16), .ref (v 17), .ref (v 18), .int 0, .int 0, .int 0, .ref (v 19), .ref (v 20), .ref (v 21), .ref (v 22), .ref (v 23), .int 0, .int 0, .int 0, .int 0])), (a, .inl (cy 0, 120, .inl (fun _ => 0)))] [38, 39]) hl.1 rfl rfl ⟨rfl, rfl, ⟨Nat.le_of_ble_eq_true rfl, Nat.le_of_ble_eq_true rfl⟩, ⟨Nat.le_of_ble_eq_true rfl, Nat.le_of_ble_eq_true rfl⟩, Nat.le_of_ble_eq_true rfl⟩ dX12_movesTold_65) (fun r123 u124 H locs hwu124 hP hD hS => ?_)
  have hP : va_P D vwCl (toldW cy v ++ [((v 0), .inr (13, [.int 0, .int 0, .int 0, .int (-1), .int 0, .int 0, .int 0, .int 0, .ref (v 1), .ref (v 2), .ref (v 3), .ref (v 4), .ref (v 5), .ref (v 6), .ref (v 7), .ref (v 8), .ref (v 9), .int 0, .int 0, .int 0, .int 0, .int 0, .int 0, .int 0, .int 0, .int 0, .ref (v 10), .ref (v 11), .ref (v 12), .ref (v 13), .int 84, .ref (v 14), .ref (v 15), .ref (v 16), .ref (v 17), .ref (v 18), .int 0, .int 0, .int 0, .ref (v 19), .ref (v 20), .ref (v 21), .ref (v 22), .ref (v 23), .int 0, .int 0, .int 0, .int 0])), (a, .inl (cy 0, 120, .inl (fun _ => 0)))]) H := hP
  have hD : va_D A (toldW cy v ++ [((v 0), .inr (13, [.int 0, .int 0, .int 0, .int (-1), .int 0, .int 0, .int 0, .int 0, .ref (v 1), .ref (v 2), .ref (v 3), .ref (v 4), .ref (v 5), .ref (v 6), .ref (v 7), .ref (v 8), .ref (v 9), .int 0, .int 0, .int 0, .int 0, .int 0, .int 0, .int 0, .int 0, .int 0, .ref (v 10), .ref (v 11), .ref (v 12), .ref (v 13), .int 84, .ref (v 14), .ref (v 15), .ref (v 16), .ref (v 17), .ref (v 18), .int 0, .int 0, .int 0, .ref (v 19), .ref (v 20), .ref (v 21), .ref (v 22), .ref (v 23), .int 0, .int 0, .int 0, .int 0])), (a, .inl (cy 0, 120, .inl (fun _ => 0)))]) := hD
  obtain rfl : r123 = 0 := hwu124
  refine k_iast0 hx hb hG.1 hP hD hS 20 0 rfl rfl (by unfold vp_in; decide) dX12_movesTold_68 (fun H locs hP hD hS => ?_)
  refine lv_iinc (v := 2) (lv' := [(4, .int 2), (3, .int 19), (0, .ref (v 0)), (1, .ref a), (2, .int b)]) hx hb dX12_movesTold_69 hl (k := 0) rfl (by decide) (by decide) rfl (fun ls hl => ?_)
  refine lv_goto (tgt := 39) hx hb dX12_movesTold_72 (by decide) ?_
  refine lv_iload hx hb dX12_movesTold_39 (lv_at hl 0 rfl) ?_
  refine lv_iconst (v := 2) hx hb dX12_movesTold_41 (by decide) ?_
  refine lv_icmp_ge (tgt := 75) hx hb dX12_movesTold_42 (by decide) (fun _ => ?_) (fun h => absurd (by decide) h)
  refine lv_iinc (v := 20) (lv' := [(3, .int 20), (4, .int 2), (0, .ref (v 0)), (1, .ref a), (2, .int b)]) hx hb dX12_movesTold_75 hl (k := 1) rfl (by decide) (by decide) rfl (fun ls hl => ?_)
  refine lv_goto (tgt := 30) hx hb dX12_movesTold_78 (by decide) ?_
  refine lv_iload_n hx hb dX12_movesTold_30 rfl (lv_at hl 0 rfl) ?_
  refine lv_bipush (v := 30) hx hb dX12_movesTold_31 (by decide) ?_
  refine lv_icmp_ge (tgt := 81) hx hb dX12_movesTold_33 (by decide) (fun h => absurd h (by decide)) (fun _ => ?_)
  refine lv_iconst (v := 0) hx hb dX12_movesTold_36 (by decide) ?_
  refine lv_istore (lv' := [(4, .int 0), (3, .int 20), (0, .ref (v 0)), (1, .ref a), (2, .int b)]) hx hb dX12_movesTold_37 hl (by decide) rfl (fun ls hl => ?_)
  refine lv_iload hx hb dX12_movesTold_39 (lv_at hl 0 rfl) ?_
  refine lv_iconst (v := 2) hx hb dX12_movesTold_41 (by decide) ?_
  refine lv_icmp_ge (tgt := 75) hx hb dX12_movesTold_42 (by decide) (fun h => absurd h (by decide)) (fun _ => ?_)
  refine lv_aload_n hx hb dX12_movesTold_45 rfl (lv_at hl 2 rfl) ?_
  refine va_get (D := D) (ci := 13) (v := .ref (v 10)) (C := RX12) (T := TX12) (N := 48) hx hb hts kin_RX12 hown hG.1 hP 38 rfl rfl 26 (by decide) (hts _ wm_1545) (fun _ h9 => h9) rfl dX12_movesTold_46 ?_
  refine lv_iload_n hx hb dX12_movesTold_49 rfl (lv_at hl 1 rfl) ?_
  refine k_aldA hx hb hG.1 hP 0 rfl (by unfold vp_in; decide) dX12_movesTold_50 ?_
  refine W.eq (g2 := F0 m 51 ls [.ref ((v 10) + 1 + 20)]) rfl ?_
  refine lv_iload hx hb dX12_movesTold_51 (lv_at hl 0 rfl) ?_
  refine lv_aload_n hx hb dX12_movesTold_53 rfl (lv_at hl 2 rfl) ?_
  refine lv_aload_n hx hb dX12_movesTold_54 rfl (lv_at hl 3 rfl) ?_
  refine lv_aload_n hx hb dX12_movesTold_55 rfl (lv_at hl 2 rfl) ?_
  refine va_get (D := D) (ci := 13) (v := .ref (v 10)) (C := RX12) (T := TX12) (N := 48) hx hb hts kin_RX12 hown hG.1 hP 38 rfl rfl 26 (by decide) (hts _ wm_1545) (fun _ h9 => h9) rfl dX12_movesTold_56 ?_
  refine lv_iload_n hx hb dX12_movesTold_59 rfl (lv_at hl 1 rfl) ?_
  refine k_aldA hx hb hG.1 hP 0 rfl (by unfold vp_in; decide) dX12_movesTold_60 ?_
  refine W.eq (g2 := F0 m 61 ls [.ref ((v 10) + 1 + 20), .ref a, .ref (v 0), .int 0, .ref ((v 10) + 1 + 20)]) rfl ?_
  refine lv_iload hx hb dX12_movesTold_61 (lv_at hl 0 rfl) ?_
  refine va_iald hx hb hG.1 hP 21 0 rfl rfl (by unfold vp_in; decide) dX12_movesTold_63 ?_
  refine lv_topi (fun x125 ex125 => ?_)
  obtain rfl : x125 = 0 := ex125.trans (rfl)
  refine lv_iload_n hx hb dX12_movesTold_64 rfl (lv_at hl 4 rfl) ?_
  refine k_cali [0, 1, 2, 3, 4, 5, 6, 7, 8, 9, 10, 11, 12, 13, 14, 15, 16, 17, 18, 19, 20, 21, 22, 23, 24, 25, 26, 27, 28, 29, 30, 31, 32, 33, 34, 35, 36, 37] (⟨hP, hD, hG, hS, hA, rfl, rfl⟩ : kAt D cy sa A s H _ _ [((v 0), .inr (13, [.int 0, .int 0, .int 0, .int (-1), .int 0, .int 0, .int 0, .int 0, .ref (v 1), .ref (v 2), .ref (v 3), .ref (v 4), .ref (v 5), .ref (v 6), .ref (v 7), .ref (v 8), .ref (v 9), .int 0, .int 0, .int 0, .int 0, .int 0, .int 0, .int 0, .int 0, .int 0, .ref (v 10), .ref (v 11), .ref (v 12), .ref (v 13), .int 84, .ref (v 14), .ref (v 15), .ref (v 16), .ref (v 17), .ref (v 18), .int 0, .int 0, .int 0, .ref (v 19), .ref (v 20), .ref (v 21), .ref (v 22), .ref (v 23), .int 0, .int 0, .int 0, .int 0])), (a, .inl (cy 0, 120, .inl (fun _ => 0)))] [38, 39]) (wr := (toldW cy v ++ [])) rfl rfl (by decide) (k_runV 13 38 (As := [.ref a, .int 0, .int b]) (rest := [.int 0, .ref ((v 10) + 1 + 20)]) E lk_VRX12_251 rfl rfl rfl (m_moves l hl0 D cy sa v a 0 84 (by unfold vp_in; decide) b H.size) (⟨hP, hD, hG, hS, hA, rfl, rfl⟩ : kAt D cy sa A s H _ _ [((v 0), .inr (13, [.int 0, .int 0, .int 0, .int (-1), .int 0, .int 0, .int 0, .int 0, .ref (v 1), .ref (v 2), .ref (v 3), .ref (v 4), .ref (v 5), .ref (v 6), .ref (v 7), .ref (v 8), .ref (v 9), .int 0, .int 0, .int 0, .int 0, .int 0, .int 0, .int 0, .int 0, .int 0, .ref (v 10), .ref (v 11), .ref (v 12), .ref (v 13), .int 84, .ref (v 14), .ref (v 15), .ref (v 16), .ref (v 17), .ref (v 18), .int 0, .int 0, .int 0, .ref (v 19), .ref (v 20), .ref (v 21), .ref (v 22), .ref (v 23), .int 0, .int 0, .int 0, .int 0])), (a, .inl (cy 0, 120, .inl (fun _ => 0)))] [38, 39]) hl.1 rfl rfl ⟨rfl, rfl, ⟨Nat.le_of_ble_eq_true rfl, Nat.le_of_ble_eq_true rfl⟩, ⟨Nat.le_of_ble_eq_true rfl, Nat.le_of_ble_eq_true rfl⟩, Nat.le_of_ble_eq_true rfl⟩ dX12_movesTold_65) (fun r126 u127 H locs hwu127 hP hD hS => ?_)
  have hP : va_P D vwCl (toldW cy v ++ [((v 0), .inr (13, [.int 0, .int 0, .int 0, .int (-1), .int 0, .int 0, .int 0, .int 0, .ref (v 1), .ref (v 2), .ref (v 3), .ref (v 4), .ref (v 5), .ref (v 6), .ref (v 7), .ref (v 8), .ref (v 9), .int 0, .int 0, .int 0, .int 0, .int 0, .int 0, .int 0, .int 0, .int 0, .ref (v 10), .ref (v 11), .ref (v 12), .ref (v 13), .int 85, .ref (v 14), .ref (v 15), .ref (v 16), .ref (v 17), .ref (v 18), .int 0, .int 0, .int 0, .ref (v 19), .ref (v 20), .ref (v 21), .ref (v 22), .ref (v 23), .int 0, .int 0, .int 0, .int 0])), (a, .inl (cy 0, 120, .inl (fun _ => 0)))]) H := hP
  have hD : va_D A (toldW cy v ++ [((v 0), .inr (13, [.int 0, .int 0, .int 0, .int (-1), .int 0, .int 0, .int 0, .int 0, .ref (v 1), .ref (v 2), .ref (v 3), .ref (v 4), .ref (v 5), .ref (v 6), .ref (v 7), .ref (v 8), .ref (v 9), .int 0, .int 0, .int 0, .int 0, .int 0, .int 0, .int 0, .int 0, .int 0, .ref (v 10), .ref (v 11), .ref (v 12), .ref (v 13), .int 85, .ref (v 14), .ref (v 15), .ref (v 16), .ref (v 17), .ref (v 18), .int 0, .int 0, .int 0, .ref (v 19), .ref (v 20), .ref (v 21), .ref (v 22), .ref (v 23), .int 0, .int 0, .int 0, .int 0])), (a, .inl (cy 0, 120, .inl (fun _ => 0)))]) := hD
  obtain rfl : r126 = 0 := hwu127
  refine k_iast0 hx hb hG.1 hP hD hS 21 0 rfl rfl (by unfold vp_in; decide) dX12_movesTold_68 (fun H locs hP hD hS => ?_)
  refine lv_iinc (v := 1) (lv' := [(4, .int 1), (3, .int 20), (0, .ref (v 0)), (1, .ref a), (2, .int b)]) hx hb dX12_movesTold_69 hl (k := 0) rfl (by decide) (by decide) rfl (fun ls hl => ?_)
  refine lv_goto (tgt := 39) hx hb dX12_movesTold_72 (by decide) ?_
  refine lv_iload hx hb dX12_movesTold_39 (lv_at hl 0 rfl) ?_
  refine lv_iconst (v := 2) hx hb dX12_movesTold_41 (by decide) ?_
  refine lv_icmp_ge (tgt := 75) hx hb dX12_movesTold_42 (by decide) (fun h => absurd h (by decide)) (fun _ => ?_)
  refine lv_aload_n hx hb dX12_movesTold_45 rfl (lv_at hl 2 rfl) ?_
  refine va_get (D := D) (ci := 13) (v := .ref (v 10)) (C := RX12) (T := TX12) (N := 48) hx hb hts kin_RX12 hown hG.1 hP 38 rfl rfl 26 (by decide) (hts _ wm_1545) (fun _ h9 => h9) rfl dX12_movesTold_46 ?_
  refine lv_iload_n hx hb dX12_movesTold_49 rfl (lv_at hl 1 rfl) ?_
  refine k_aldA hx hb hG.1 hP 0 rfl (by unfold vp_in; decide) dX12_movesTold_50 ?_
  refine W.eq (g2 := F0 m 51 ls [.ref ((v 10) + 1 + 20)]) rfl ?_
  refine lv_iload hx hb dX12_movesTold_51 (lv_at hl 0 rfl) ?_
  refine lv_aload_n hx hb dX12_movesTold_53 rfl (lv_at hl 2 rfl) ?_
  refine lv_aload_n hx hb dX12_movesTold_54 rfl (lv_at hl 3 rfl) ?_
  refine lv_aload_n hx hb dX12_movesTold_55 rfl (lv_at hl 2 rfl) ?_
  refine va_get (D := D) (ci := 13) (v := .ref (v 10)) (C := RX12) (T := TX12) (N := 48) hx hb hts kin_RX12 hown hG.1 hP 38 rfl rfl 26 (by decide) (hts _ wm_1545) (fun _ h9 => h9) rfl dX12_movesTold_56 ?_
  refine lv_iload_n hx hb dX12_movesTold_59 rfl (lv_at hl 1 rfl) ?_
  refine k_aldA hx hb hG.1 hP 0 rfl (by unfold vp_in; decide) dX12_movesTold_60 ?_
  refine W.eq (g2 := F0 m 61 ls [.ref ((v 10) + 1 + 20), .ref a, .ref (v 0), .int 1, .ref ((v 10) + 1 + 20)]) rfl ?_
  refine lv_iload hx hb dX12_movesTold_61 (lv_at hl 0 rfl) ?_
  refine va_iald hx hb hG.1 hP 21 0 rfl rfl (by unfold vp_in; decide) dX12_movesTold_63 ?_
  refine lv_topi (fun x128 ex128 => ?_)
  obtain rfl : x128 = 0 := ex128.trans (rfl)
  refine lv_iload_n hx hb dX12_movesTold_64 rfl (lv_at hl 4 rfl) ?_
  refine k_cali [0, 1, 2, 3, 4, 5, 6, 7, 8, 9, 10, 11, 12, 13, 14, 15, 16, 17, 18, 19, 20, 21, 22, 23, 24, 25, 26, 27, 28, 29, 30, 31, 32, 33, 34, 35, 36, 37] (⟨hP, hD, hG, hS, hA, rfl, rfl⟩ : kAt D cy sa A s H _ _ [((v 0), .inr (13, [.int 0, .int 0, .int 0, .int (-1), .int 0, .int 0, .int 0, .int 0, .ref (v 1), .ref (v 2), .ref (v 3), .ref (v 4), .ref (v 5), .ref (v 6), .ref (v 7), .ref (v 8), .ref (v 9), .int 0, .int 0, .int 0, .int 0, .int 0, .int 0, .int 0, .int 0, .int 0, .ref (v 10), .ref (v 11), .ref (v 12), .ref (v 13), .int 85, .ref (v 14), .ref (v 15), .ref (v 16), .ref (v 17), .ref (v 18), .int 0, .int 0, .int 0, .ref (v 19), .ref (v 20), .ref (v 21), .ref (v 22), .ref (v 23), .int 0, .int 0, .int 0, .int 0])), (a, .inl (cy 0, 120, .inl (fun _ => 0)))] [38, 39]) (wr := (toldW cy v ++ [])) rfl rfl (by decide) (k_runV 13 38 (As := [.ref a, .int 0, .int b]) (rest := [.int 1, .ref ((v 10) + 1 + 20)]) E lk_VRX12_251 rfl rfl rfl (m_moves l hl0 D cy sa v a 0 85 (by unfold vp_in; decide) b H.size) (⟨hP, hD, hG, hS, hA, rfl, rfl⟩ : kAt D cy sa A s H _ _ [((v 0), .inr (13, [.int 0, .int 0, .int 0, .int (-1), .int 0, .int 0, .int 0, .int 0, .ref (v 1), .ref (v 2), .ref (v 3), .ref (v 4), .ref (v 5), .ref (v 6), .ref (v 7), .ref (v 8), .ref (v 9), .int 0, .int 0, .int 0, .int 0, .int 0, .int 0, .int 0, .int 0, .int 0, .ref (v 10), .ref (v 11), .ref (v 12), .ref (v 13), .int 85, .ref (v 14), .ref (v 15), .ref (v 16), .ref (v 17), .ref (v 18), .int 0, .int 0, .int 0, .ref (v 19), .ref (v 20), .ref (v 21), .ref (v 22), .ref (v 23), .int 0, .int 0, .int 0, .int 0])), (a, .inl (cy 0, 120, .inl (fun _ => 0)))] [38, 39]) hl.1 rfl rfl ⟨rfl, rfl, ⟨Nat.le_of_ble_eq_true rfl, Nat.le_of_ble_eq_true rfl⟩, ⟨Nat.le_of_ble_eq_true rfl, Nat.le_of_ble_eq_true rfl⟩, Nat.le_of_ble_eq_true rfl⟩ dX12_movesTold_65) (fun r129 u130 H locs hwu130 hP hD hS => ?_)
  have hP : va_P D vwCl (toldW cy v ++ [((v 0), .inr (13, [.int 0, .int 0, .int 0, .int (-1), .int 0, .int 0, .int 0, .int 0, .ref (v 1), .ref (v 2), .ref (v 3), .ref (v 4), .ref (v 5), .ref (v 6), .ref (v 7), .ref (v 8), .ref (v 9), .int 0, .int 0, .int 0, .int 0, .int 0, .int 0, .int 0, .int 0, .int 0, .ref (v 10), .ref (v 11), .ref (v 12), .ref (v 13), .int 86, .ref (v 14), .ref (v 15), .ref (v 16), .ref (v 17), .ref (v 18), .int 0, .int 0, .int 0, .ref (v 19), .ref (v 20), .ref (v 21), .ref (v 22), .ref (v 23), .int 0, .int 0, .int 0, .int 0])), (a, .inl (cy 0, 120, .inl (fun _ => 0)))]) H := hP
  have hD : va_D A (toldW cy v ++ [((v 0), .inr (13, [.int 0, .int 0, .int 0, .int (-1), .int 0, .int 0, .int 0, .int 0, .ref (v 1), .ref (v 2), .ref (v 3), .ref (v 4), .ref (v 5), .ref (v 6), .ref (v 7), .ref (v 8), .ref (v 9), .int 0, .int 0, .int 0, .int 0, .int 0, .int 0, .int 0, .int 0, .int 0, .ref (v 10), .ref (v 11), .ref (v 12), .ref (v 13), .int 86, .ref (v 14), .ref (v 15), .ref (v 16), .ref (v 17), .ref (v 18), .int 0, .int 0, .int 0, .ref (v 19), .ref (v 20), .ref (v 21), .ref (v 22), .ref (v 23), .int 0, .int 0, .int 0, .int 0])), (a, .inl (cy 0, 120, .inl (fun _ => 0)))]) := hD
  obtain rfl : r129 = 0 := hwu130
  refine k_iast0 hx hb hG.1 hP hD hS 21 0 rfl rfl (by unfold vp_in; decide) dX12_movesTold_68 (fun H locs hP hD hS => ?_)
  refine lv_iinc (v := 2) (lv' := [(4, .int 2), (3, .int 20), (0, .ref (v 0)), (1, .ref a), (2, .int b)]) hx hb dX12_movesTold_69 hl (k := 0) rfl (by decide) (by decide) rfl (fun ls hl => ?_)
  refine lv_goto (tgt := 39) hx hb dX12_movesTold_72 (by decide) ?_
  refine lv_iload hx hb dX12_movesTold_39 (lv_at hl 0 rfl) ?_
  refine lv_iconst (v := 2) hx hb dX12_movesTold_41 (by decide) ?_
  refine lv_icmp_ge (tgt := 75) hx hb dX12_movesTold_42 (by decide) (fun _ => ?_) (fun h => absurd (by decide) h)
  refine lv_iinc (v := 21) (lv' := [(3, .int 21), (4, .int 2), (0, .ref (v 0)), (1, .ref a), (2, .int b)]) hx hb dX12_movesTold_75 hl (k := 1) rfl (by decide) (by decide) rfl (fun ls hl => ?_)
  refine lv_goto (tgt := 30) hx hb dX12_movesTold_78 (by decide) ?_
  refine lv_iload_n hx hb dX12_movesTold_30 rfl (lv_at hl 0 rfl) ?_
  refine lv_bipush (v := 30) hx hb dX12_movesTold_31 (by decide) ?_
  refine lv_icmp_ge (tgt := 81) hx hb dX12_movesTold_33 (by decide) (fun h => absurd h (by decide)) (fun _ => ?_)
  refine lv_iconst (v := 0) hx hb dX12_movesTold_36 (by decide) ?_
  refine lv_istore (lv' := [(4, .int 0), (3, .int 21), (0, .ref (v 0)), (1, .ref a), (2, .int b)]) hx hb dX12_movesTold_37 hl (by decide) rfl (fun ls hl => ?_)
  refine lv_iload hx hb dX12_movesTold_39 (lv_at hl 0 rfl) ?_
  refine lv_iconst (v := 2) hx hb dX12_movesTold_41 (by decide) ?_
  refine lv_icmp_ge (tgt := 75) hx hb dX12_movesTold_42 (by decide) (fun h => absurd h (by decide)) (fun _ => ?_)
  refine lv_aload_n hx hb dX12_movesTold_45 rfl (lv_at hl 2 rfl) ?_
  refine va_get (D := D) (ci := 13) (v := .ref (v 10)) (C := RX12) (T := TX12) (N := 48) hx hb hts kin_RX12 hown hG.1 hP 38 rfl rfl 26 (by decide) (hts _ wm_1545) (fun _ h9 => h9) rfl dX12_movesTold_46 ?_
  refine lv_iload_n hx hb dX12_movesTold_49 rfl (lv_at hl 1 rfl) ?_
  refine k_aldA hx hb hG.1 hP 0 rfl (by unfold vp_in; decide) dX12_movesTold_50 ?_
  refine W.eq (g2 := F0 m 51 ls [.ref ((v 10) + 1 + 21)]) rfl ?_
  refine lv_iload hx hb dX12_movesTold_51 (lv_at hl 0 rfl) ?_
  refine lv_aload_n hx hb dX12_movesTold_53 rfl (lv_at hl 2 rfl) ?_
  refine lv_aload_n hx hb dX12_movesTold_54 rfl (lv_at hl 3 rfl) ?_
  refine lv_aload_n hx hb dX12_movesTold_55 rfl (lv_at hl 2 rfl) ?_
  refine va_get (D := D) (ci := 13) (v := .ref (v 10)) (C := RX12) (T := TX12) (N := 48) hx hb hts kin_RX12 hown hG.1 hP 38 rfl rfl 26 (by decide) (hts _ wm_1545) (fun _ h9 => h9) rfl dX12_movesTold_56 ?_
  refine lv_iload_n hx hb dX12_movesTold_59 rfl (lv_at hl 1 rfl) ?_
  refine k_aldA hx hb hG.1 hP 0 rfl (by unfold vp_in; decide) dX12_movesTold_60 ?_
  refine W.eq (g2 := F0 m 61 ls [.ref ((v 10) + 1 + 21), .ref a, .ref (v 0), .int 0, .ref ((v 10) + 1 + 21)]) rfl ?_
  refine lv_iload hx hb dX12_movesTold_61 (lv_at hl 0 rfl) ?_
  refine va_iald hx hb hG.1 hP 22 0 rfl rfl (by unfold vp_in; decide) dX12_movesTold_63 ?_
  refine lv_topi (fun x131 ex131 => ?_)
  obtain rfl : x131 = 0 := ex131.trans (rfl)
  refine lv_iload_n hx hb dX12_movesTold_64 rfl (lv_at hl 4 rfl) ?_
  refine k_cali [0, 1, 2, 3, 4, 5, 6, 7, 8, 9, 10, 11, 12, 13, 14, 15, 16, 17, 18, 19, 20, 21, 22, 23, 24, 25, 26, 27, 28, 29, 30, 31, 32, 33, 34, 35, 36, 37] (⟨hP, hD, hG, hS, hA, rfl, rfl⟩ : kAt D cy sa A s H _ _ [((v 0), .inr (13, [.int 0, .int 0, .int 0, .int (-1), .int 0, .int 0, .int 0, .int 0, .ref (v 1), .ref (v 2), .ref (v 3), .ref (v 4), .ref (v 5), .ref (v 6), .ref (v 7), .ref (v 8), .ref (v 9), .int 0, .int 0, .int 0, .int 0, .int 0, .int 0, .int 0, .int 0, .int 0, .ref (v 10), .ref (v 11), .ref (v 12), .ref (v 13), .int 86, .ref (v 14), .ref (v 15), .ref (v 16), .ref (v 17), .ref (v 18), .int 0, .int 0, .int 0, .ref (v 19), .ref (v 20), .ref (v 21), .ref (v 22), .ref (v 23), .int 0, .int 0, .int 0, .int 0])), (a, .inl (cy 0, 120, .inl (fun _ => 0)))] [38, 39]) (wr := (toldW cy v ++ [])) rfl rfl (by decide) (k_runV 13 38 (As := [.ref a, .int 0, .int b]) (rest := [.int 0, .ref ((v 10) + 1 + 21)]) E lk_VRX12_251 rfl rfl rfl (m_moves l hl0 D cy sa v a 0 86 (by unfold vp_in; decide) b H.size) (⟨hP, hD, hG, hS, hA, rfl, rfl⟩ : kAt D cy sa A s H _ _ [((v 0), .inr (13, [.int 0, .int 0, .int 0, .int (-1), .int 0, .int 0, .int 0, .int 0, .ref (v 1), .ref (v 2), .ref (v 3), .ref (v 4), .ref (v 5), .ref (v 6), .ref (v 7), .ref (v 8), .ref (v 9), .int 0, .int 0, .int 0, .int 0, .int 0, .int 0, .int 0, .int 0, .int 0, .ref (v 10), .ref (v 11), .ref (v 12), .ref (v 13), .int 86, .ref (v 14), .ref (v 15), .ref (v 16), .ref (v 17), .ref (v 18), .int 0, .int 0, .int 0, .ref (v 19), .ref (v 20), .ref (v 21), .ref (v 22), .ref (v 23), .int 0, .int 0, .int 0, .int 0])), (a, .inl (cy 0, 120, .inl (fun _ => 0)))] [38, 39]) hl.1 rfl rfl ⟨rfl, rfl, ⟨Nat.le_of_ble_eq_true rfl, Nat.le_of_ble_eq_true rfl⟩, ⟨Nat.le_of_ble_eq_true rfl, Nat.le_of_ble_eq_true rfl⟩, Nat.le_of_ble_eq_true rfl⟩ dX12_movesTold_65) (fun r132 u133 H locs hwu133 hP hD hS => ?_)
  have hP : va_P D vwCl (toldW cy v ++ [((v 0), .inr (13, [.int 0, .int 0, .int 0, .int (-1), .int 0, .int 0, .int 0, .int 0, .ref (v 1), .ref (v 2), .ref (v 3), .ref (v 4), .ref (v 5), .ref (v 6), .ref (v 7), .ref (v 8), .ref (v 9), .int 0, .int 0, .int 0, .int 0, .int 0, .int 0, .int 0, .int 0, .int 0, .ref (v 10), .ref (v 11), .ref (v 12), .ref (v 13), .int 87, .ref (v 14), .ref (v 15), .ref (v 16), .ref (v 17), .ref (v 18), .int 0, .int 0, .int 0, .ref (v 19), .ref (v 20), .ref (v 21), .ref (v 22), .ref (v 23), .int 0, .int 0, .int 0, .int 0])), (a, .inl (cy 0, 120, .inl (fun _ => 0)))]) H := hP
  have hD : va_D A (toldW cy v ++ [((v 0), .inr (13, [.int 0, .int 0, .int 0, .int (-1), .int 0, .int 0, .int 0, .int 0, .ref (v 1), .ref (v 2), .ref (v 3), .ref (v 4), .ref (v 5), .ref (v 6), .ref (v 7), .ref (v 8), .ref (v 9), .int 0, .int 0, .int 0, .int 0, .int 0, .int 0, .int 0, .int 0, .int 0, .ref (v 10), .ref (v 11), .ref (v 12), .ref (v 13), .int 87, .ref (v 14), .ref (v 15), .ref (v 16), .ref (v 17), .ref (v 18), .int 0, .int 0, .int 0, .ref (v 19), .ref (v 20), .ref (v 21), .ref (v 22), .ref (v 23), .int 0, .int 0, .int 0, .int 0])), (a, .inl (cy 0, 120, .inl (fun _ => 0)))]) := hD
  obtain rfl : r132 = 0 := hwu133
  refine k_iast0 hx hb hG.1 hP hD hS 22 0 rfl rfl (by unfold vp_in; decide) dX12_movesTold_68 (fun H locs hP hD hS => ?_)
  refine lv_iinc (v := 1) (lv' := [(4, .int 1), (3, .int 21), (0, .ref (v 0)), (1, .ref a), (2, .int b)]) hx hb dX12_movesTold_69 hl (k := 0) rfl (by decide) (by decide) rfl (fun ls hl => ?_)
  refine lv_goto (tgt := 39) hx hb dX12_movesTold_72 (by decide) ?_
  refine lv_iload hx hb dX12_movesTold_39 (lv_at hl 0 rfl) ?_
  refine lv_iconst (v := 2) hx hb dX12_movesTold_41 (by decide) ?_
  refine lv_icmp_ge (tgt := 75) hx hb dX12_movesTold_42 (by decide) (fun h => absurd h (by decide)) (fun _ => ?_)
  refine lv_aload_n hx hb dX12_movesTold_45 rfl (lv_at hl 2 rfl) ?_
  refine va_get (D := D) (ci := 13) (v := .ref (v 10)) (C := RX12) (T := TX12) (N := 48) hx hb hts kin_RX12 hown hG.1 hP 38 rfl rfl 26 (by decide) (hts _ wm_1545) (fun _ h9 => h9) rfl dX12_movesTold_46 ?_
  refine lv_iload_n hx hb dX12_movesTold_49 rfl (lv_at hl 1 rfl) ?_
  refine k_aldA hx hb hG.1 hP 0 rfl (by unfold vp_in; decide) dX12_movesTold_50 ?_
  refine W.eq (g2 := F0 m 51 ls [.ref ((v 10) + 1 + 21)]) rfl ?_
  refine lv_iload hx hb dX12_movesTold_51 (lv_at hl 0 rfl) ?_
  refine lv_aload_n hx hb dX12_movesTold_53 rfl (lv_at hl 2 rfl) ?_
  refine lv_aload_n hx hb dX12_movesTold_54 rfl (lv_at hl 3 rfl) ?_
  refine lv_aload_n hx hb dX12_movesTold_55 rfl (lv_at hl 2 rfl) ?_
  refine va_get (D := D) (ci := 13) (v := .ref (v 10)) (C := RX12) (T := TX12) (N := 48) hx hb hts kin_RX12 hown hG.1 hP 38 rfl rfl 26 (by decide) (hts _ wm_1545) (fun _ h9 => h9) rfl dX12_movesTold_56 ?_
  refine lv_iload_n hx hb dX12_movesTold_59 rfl (lv_at hl 1 rfl) ?_
  refine k_aldA hx hb hG.1 hP 0 rfl (by unfold vp_in; decide) dX12_movesTold_60 ?_
  refine W.eq (g2 := F0 m 61 ls [.ref ((v 10) + 1 + 21), .ref a, .ref (v 0), .int 1, .ref ((v 10) + 1 + 21)]) rfl ?_
  refine lv_iload hx hb dX12_movesTold_61 (lv_at hl 0 rfl) ?_
  refine va_iald hx hb hG.1 hP 22 0 rfl rfl (by unfold vp_in; decide) dX12_movesTold_63 ?_
  refine lv_topi (fun x134 ex134 => ?_)
  obtain rfl : x134 = 0 := ex134.trans (rfl)
  refine lv_iload_n hx hb dX12_movesTold_64 rfl (lv_at hl 4 rfl) ?_
  refine k_cali [0, 1, 2, 3, 4, 5, 6, 7, 8, 9, 10, 11, 12, 13, 14, 15, 16, 17, 18, 19, 20, 21, 22, 23, 24, 25, 26, 27, 28, 29, 30, 31, 32, 33, 34, 35, 36, 37] (⟨hP, hD, hG, hS, hA, rfl, rfl⟩ : kAt D cy sa A s H _ _ [((v 0), .inr (13, [.int 0, .int 0, .int 0, .int (-1), .int 0, .int 0, .int 0, .int 0, .ref (v 1), .ref (v 2), .ref (v 3), .ref (v 4), .ref (v 5), .ref (v 6), .ref (v 7), .ref (v 8), .ref (v 9), .int 0, .int 0, .int 0, .int 0, .int 0, .int 0, .int 0, .int 0, .int 0, .ref (v 10), .ref (v 11), .ref (v 12), .ref (v 13), .int 87, .ref (v 14), .ref (v 15), .ref (v 16), .ref (v 17), .ref (v 18), .int 0, .int 0, .int 0, .ref (v 19), .ref (v 20), .ref (v 21), .ref (v 22), .ref (v 23), .int 0, .int 0, .int 0, .int 0])), (a, .inl (cy 0, 120, .inl (fun _ => 0)))] [38, 39]) (wr := (toldW cy v ++ [])) rfl rfl (by decide) (k_runV 13 38 (As := [.ref a, .int 0, .int b]) (rest := [.int 1, .ref ((v 10) + 1 + 21)]) E lk_VRX12_251 rfl rfl rfl (m_moves l hl0 D cy sa v a 0 87 (by unfold vp_in; decide) b H.size) (⟨hP, hD, hG, hS, hA, rfl, rfl⟩ : kAt D cy sa A s H _ _ [((v 0), .inr (13, [.int 0, .int 0, .int 0, .int (-1), .int 0, .int 0, .int 0, .int 0, .ref (v 1), .ref (v 2), .ref (v 3), .ref (v 4), .ref (v 5), .ref (v 6), .ref (v 7), .ref (v 8), .ref (v 9), .int 0, .int 0, .int 0, .int 0, .int 0, .int 0, .int 0, .int 0, .int 0, .ref (v 10), .ref (v 11), .ref (v 12), .ref (v 13), .int 87, .ref (v 14), .ref (v 15), .ref (v 16), .ref (v 17), .ref (v 18), .int 0, .int 0, .int 0, .ref (v 19), .ref (v 20), .ref (v 21), .ref (v 22), .ref (v 23), .int 0, .int 0, .int 0, .int 0])), (a, .inl (cy 0, 120, .inl (fun _ => 0)))] [38, 39]) hl.1 rfl rfl ⟨rfl, rfl, ⟨Nat.le_of_ble_eq_true rfl, Nat.le_of_ble_eq_true rfl⟩, ⟨Nat.le_of_ble_eq_true rfl, Nat.le_of_ble_eq_true rfl⟩, Nat.le_of_ble_eq_true rfl⟩ dX12_movesTold_65) (fun r135 u136 H locs hwu136 hP hD hS => ?_)
  have hP : va_P D vwCl (toldW cy v ++ [((v 0), .inr (13, [.int 0, .int 0, .int 0, .int (-1), .int 0, .int 0, .int 0, .int 0, .ref (v 1), .ref (v 2), .ref (v 3), .ref (v 4), .ref (v 5), .ref (v 6), .ref (v 7), .ref (v 8), .ref (v 9), .int 0, .int 0, .int 0, .int 0, .int 0, .int 0, .int 0, .int 0, .int 0, .ref (v 10), .ref (v 11), .ref (v 12), .ref (v 13), .int 88, .ref (v 14), .ref (v 15), .ref (v 16), .ref (v 17), .ref (v 18), .int 0, .int 0, .int 0, .ref (v 19), .ref (v 20), .ref (v 21), .ref (v 22), .ref (v 23), .int 0, .int 0, .int 0, .int 0])), (a, .inl (cy 0, 120, .inl (fun _ => 0)))]) H := hP
  have hD : va_D A (toldW cy v ++ [((v 0), .inr (13, [.int 0, .int 0, .int 0, .int (-1), .int 0, .int 0, .int 0, .int 0, .ref (v 1), .ref (v 2), .ref (v 3), .ref (v 4), .ref (v 5), .ref (v 6), .ref (v 7), .ref (v 8), .ref (v 9), .int 0, .int 0, .int 0, .int 0, .int 0, .int 0, .int 0, .int 0, .int 0, .ref (v 10), .ref (v 11), .ref (v 12), .ref (v 13), .int 88, .ref (v 14), .ref (v 15), .ref (v 16), .ref (v 17), .ref (v 18), .int 0, .int 0, .int 0, .ref (v 19), .ref (v 20), .ref (v 21), .ref (v 22), .ref (v 23), .int 0, .int 0, .int 0, .int 0])), (a, .inl (cy 0, 120, .inl (fun _ => 0)))]) := hD
  obtain rfl : r135 = 0 := hwu136
  refine k_iast0 hx hb hG.1 hP hD hS 22 0 rfl rfl (by unfold vp_in; decide) dX12_movesTold_68 (fun H locs hP hD hS => ?_)
  refine lv_iinc (v := 2) (lv' := [(4, .int 2), (3, .int 21), (0, .ref (v 0)), (1, .ref a), (2, .int b)]) hx hb dX12_movesTold_69 hl (k := 0) rfl (by decide) (by decide) rfl (fun ls hl => ?_)
  refine lv_goto (tgt := 39) hx hb dX12_movesTold_72 (by decide) ?_
  refine lv_iload hx hb dX12_movesTold_39 (lv_at hl 0 rfl) ?_
  refine lv_iconst (v := 2) hx hb dX12_movesTold_41 (by decide) ?_
  refine lv_icmp_ge (tgt := 75) hx hb dX12_movesTold_42 (by decide) (fun _ => ?_) (fun h => absurd (by decide) h)
  refine lv_iinc (v := 22) (lv' := [(3, .int 22), (4, .int 2), (0, .ref (v 0)), (1, .ref a), (2, .int b)]) hx hb dX12_movesTold_75 hl (k := 1) rfl (by decide) (by decide) rfl (fun ls hl => ?_)
  refine lv_goto (tgt := 30) hx hb dX12_movesTold_78 (by decide) ?_
  refine lv_iload_n hx hb dX12_movesTold_30 rfl (lv_at hl 0 rfl) ?_
  refine lv_bipush (v := 30) hx hb dX12_movesTold_31 (by decide) ?_
  refine lv_icmp_ge (tgt := 81) hx hb dX12_movesTold_33 (by decide) (fun h => absurd h (by decide)) (fun _ => ?_)
  refine lv_iconst (v := 0) hx hb dX12_movesTold_36 (by decide) ?_
  refine lv_istore (lv' := [(4, .int 0), (3, .int 22), (0, .ref (v 0)), (1, .ref a), (2, .int b)]) hx hb dX12_movesTold_37 hl (by decide) rfl (fun ls hl => ?_)
  refine lv_iload hx hb dX12_movesTold_39 (lv_at hl 0 rfl) ?_
  refine lv_iconst (v := 2) hx hb dX12_movesTold_41 (by decide) ?_
  refine lv_icmp_ge (tgt := 75) hx hb dX12_movesTold_42 (by decide) (fun h => absurd h (by decide)) (fun _ => ?_)
  refine lv_aload_n hx hb dX12_movesTold_45 rfl (lv_at hl 2 rfl) ?_
  refine va_get (D := D) (ci := 13) (v := .ref (v 10)) (C := RX12) (T := TX12) (N := 48) hx hb hts kin_RX12 hown hG.1 hP 38 rfl rfl 26 (by decide) (hts _ wm_1545) (fun _ h9 => h9) rfl dX12_movesTold_46 ?_
  refine lv_iload_n hx hb dX12_movesTold_49 rfl (lv_at hl 1 rfl) ?_
  refine k_aldA hx hb hG.1 hP 0 rfl (by unfold vp_in; decide) dX12_movesTold_50 ?_
  refine W.eq (g2 := F0 m 51 ls [.ref ((v 10) + 1 + 22)]) rfl ?_
  refine lv_iload hx hb dX12_movesTold_51 (lv_at hl 0 rfl) ?_
  refine lv_aload_n hx hb dX12_movesTold_53 rfl (lv_at hl 2 rfl) ?_
  refine lv_aload_n hx hb dX12_movesTold_54 rfl (lv_at hl 3 rfl) ?_
  refine lv_aload_n hx hb dX12_movesTold_55 rfl (lv_at hl 2 rfl) ?_
  refine va_get (D := D) (ci := 13) (v := .ref (v 10)) (C := RX12) (T := TX12) (N := 48) hx hb hts kin_RX12 hown hG.1 hP 38 rfl rfl 26 (by decide) (hts _ wm_1545) (fun _ h9 => h9) rfl dX12_movesTold_56 ?_
  refine lv_iload_n hx hb dX12_movesTold_59 rfl (lv_at hl 1 rfl) ?_
  refine k_aldA hx hb hG.1 hP 0 rfl (by unfold vp_in; decide) dX12_movesTold_60 ?_
  refine W.eq (g2 := F0 m 61 ls [.ref ((v 10) + 1 + 22), .ref a, .ref (v 0), .int 0, .ref ((v 10) + 1 + 22)]) rfl ?_
  refine lv_iload hx hb dX12_movesTold_61 (lv_at hl 0 rfl) ?_
  refine va_iald hx hb hG.1 hP 23 0 rfl rfl (by unfold vp_in; decide) dX12_movesTold_63 ?_
  refine lv_topi (fun x137 ex137 => ?_)
  obtain rfl : x137 = 0 := ex137.trans (rfl)
  refine lv_iload_n hx hb dX12_movesTold_64 rfl (lv_at hl 4 rfl) ?_
  refine k_cali [0, 1, 2, 3, 4, 5, 6, 7, 8, 9, 10, 11, 12, 13, 14, 15, 16, 17, 18, 19, 20, 21, 22, 23, 24, 25, 26, 27, 28, 29, 30, 31, 32, 33, 34, 35, 36, 37] (⟨hP, hD, hG, hS, hA, rfl, rfl⟩ : kAt D cy sa A s H _ _ [((v 0), .inr (13, [.int 0, .int 0, .int 0, .int (-1), .int 0, .int 0, .int 0, .int 0, .ref (v 1), .ref (v 2), .ref (v 3), .ref (v 4), .ref (v 5), .ref (v 6), .ref (v 7), .ref (v 8), .ref (v 9), .int 0, .int 0, .int 0, .int 0, .int 0, .int 0, .int 0, .int 0, .int 0, .ref (v 10), .ref (v 11), .ref (v 12), .ref (v 13), .int 88, .ref (v 14), .ref (v 15), .ref (v 16), .ref (v 17), .ref (v 18), .int 0, .int 0, .int 0, .ref (v 19), .ref (v 20), .ref (v 21), .ref (v 22), .ref (v 23), .int 0, .int 0, .int 0, .int 0])), (a, .inl (cy 0, 120, .inl (fun _ => 0)))] [38, 39]) (wr := (toldW cy v ++ [])) rfl rfl (by decide) (k_runV 13 38 (As := [.ref a, .int 0, .int b]) (rest := [.int 0, .ref ((v 10) + 1 + 22)]) E lk_VRX12_251 rfl rfl rfl (m_moves l hl0 D cy sa v a 0 88 (by unfold vp_in; decide) b H.size) (⟨hP, hD, hG, hS, hA, rfl, rfl⟩ : kAt D cy sa A s H _ _ [((v 0), .inr (13, [.int 0, .int 0, .int 0, .int (-1), .int 0, .int 0, .int 0, .int 0, .ref (v 1), .ref (v 2), .ref (v 3), .ref (v 4), .ref (v 5), .ref (v 6), .ref (v 7), .ref (v 8), .ref (v 9), .int 0, .int 0, .int 0, .int 0, .int 0, .int 0, .int 0, .int 0, .int 0, .ref (v 10), .ref (v 11), .ref (v 12), .ref (v 13), .int 88, .ref (v 14), .ref (v 15), .ref (v 16), .ref (v 17), .ref (v 18), .int 0, .int 0, .int 0, .ref (v 19), .ref (v 20), .ref (v 21), .ref (v 22), .ref (v 23), .int 0, .int 0, .int 0, .int 0])), (a, .inl (cy 0, 120, .inl (fun _ => 0)))] [38, 39]) hl.1 rfl rfl ⟨rfl, rfl, ⟨Nat.le_of_ble_eq_true rfl, Nat.le_of_ble_eq_true rfl⟩, ⟨Nat.le_of_ble_eq_true rfl, Nat.le_of_ble_eq_true rfl⟩, Nat.le_of_ble_eq_true rfl⟩ dX12_movesTold_65) (fun r138 u139 H locs hwu139 hP hD hS => ?_)
  have hP : va_P D vwCl (toldW cy v ++ [((v 0), .inr (13, [.int 0, .int 0, .int 0, .int (-1), .int 0, .int 0, .int 0, .int 0, .ref (v 1), .ref (v 2), .ref (v 3), .ref (v 4), .ref (v 5), .ref (v 6), .ref (v 7), .ref (v 8), .ref (v 9), .int 0, .int 0, .int 0, .int 0, .int 0, .int 0, .int 0, .int 0, .int 0, .ref (v 10), .ref (v 11), .ref (v 12), .ref (v 13), .int 89, .ref (v 14), .ref (v 15), .ref (v 16), .ref (v 17), .ref (v 18), .int 0, .int 0, .int 0, .ref (v 19), .ref (v 20), .ref (v 21), .ref (v 22), .ref (v 23), .int 0, .int 0, .int 0, .int 0])), (a, .inl (cy 0, 120, .inl (fun _ => 0)))]) H := hP
  have hD : va_D A (toldW cy v ++ [((v 0), .inr (13, [.int 0, .int 0, .int 0, .int (-1), .int 0, .int 0, .int 0, .int 0, .ref (v 1), .ref (v 2), .ref (v 3), .ref (v 4), .ref (v 5), .ref (v 6), .ref (v 7), .ref (v 8), .ref (v 9), .int 0, .int 0, .int 0, .int 0, .int 0, .int 0, .int 0, .int 0, .int 0, .ref (v 10), .ref (v 11), .ref (v 12), .ref (v 13), .int 89, .ref (v 14), .ref (v 15), .ref (v 16), .ref (v 17), .ref (v 18), .int 0, .int 0, .int 0, .ref (v 19), .ref (v 20), .ref (v 21), .ref (v 22), .ref (v 23), .int 0, .int 0, .int 0, .int 0])), (a, .inl (cy 0, 120, .inl (fun _ => 0)))]) := hD
  obtain rfl : r138 = 0 := hwu139
  refine k_iast0 hx hb hG.1 hP hD hS 23 0 rfl rfl (by unfold vp_in; decide) dX12_movesTold_68 (fun H locs hP hD hS => ?_)
  refine lv_iinc (v := 1) (lv' := [(4, .int 1), (3, .int 22), (0, .ref (v 0)), (1, .ref a), (2, .int b)]) hx hb dX12_movesTold_69 hl (k := 0) rfl (by decide) (by decide) rfl (fun ls hl => ?_)
  refine lv_goto (tgt := 39) hx hb dX12_movesTold_72 (by decide) ?_
  refine lv_iload hx hb dX12_movesTold_39 (lv_at hl 0 rfl) ?_
  refine lv_iconst (v := 2) hx hb dX12_movesTold_41 (by decide) ?_
  refine lv_icmp_ge (tgt := 75) hx hb dX12_movesTold_42 (by decide) (fun h => absurd h (by decide)) (fun _ => ?_)
  refine lv_aload_n hx hb dX12_movesTold_45 rfl (lv_at hl 2 rfl) ?_
  refine va_get (D := D) (ci := 13) (v := .ref (v 10)) (C := RX12) (T := TX12) (N := 48) hx hb hts kin_RX12 hown hG.1 hP 38 rfl rfl 26 (by decide) (hts _ wm_1545) (fun _ h9 => h9) rfl dX12_movesTold_46 ?_
  refine lv_iload_n hx hb dX12_movesTold_49 rfl (lv_at hl 1 rfl) ?_
  refine k_aldA hx hb hG.1 hP 0 rfl (by unfold vp_in; decide) dX12_movesTold_50 ?_
  refine W.eq (g2 := F0 m 51 ls [.ref ((v 10) + 1 + 22)]) rfl ?_
  refine lv_iload hx hb dX12_movesTold_51 (lv_at hl 0 rfl) ?_
  refine lv_aload_n hx hb dX12_movesTold_53 rfl (lv_at hl 2 rfl) ?_
  refine lv_aload_n hx hb dX12_movesTold_54 rfl (lv_at hl 3 rfl) ?_
  refine lv_aload_n hx hb dX12_movesTold_55 rfl (lv_at hl 2 rfl) ?_
  refine va_get (D := D) (ci := 13) (v := .ref (v 10)) (C := RX12) (T := TX12) (N := 48) hx hb hts kin_RX12 hown hG.1 hP 38 rfl rfl 26 (by decide) (hts _ wm_1545) (fun _ h9 => h9) rfl dX12_movesTold_56 ?_
  refine lv_iload_n hx hb dX12_movesTold_59 rfl (lv_at hl 1 rfl) ?_
  refine k_aldA hx hb hG.1 hP 0 rfl (by unfold vp_in; decide) dX12_movesTold_60 ?_
  refine W.eq (g2 := F0 m 61 ls [.ref ((v 10) + 1 + 22), .ref a, .ref (v 0), .int 1, .ref ((v 10) + 1 + 22)]) rfl ?_
  refine lv_iload hx hb dX12_movesTold_61 (lv_at hl 0 rfl) ?_
  refine va_iald hx hb hG.1 hP 23 0 rfl rfl (by unfold vp_in; decide) dX12_movesTold_63 ?_
  refine lv_topi (fun x140 ex140 => ?_)
  obtain rfl : x140 = 0 := ex140.trans (rfl)
  refine lv_iload_n hx hb dX12_movesTold_64 rfl (lv_at hl 4 rfl) ?_
  refine k_cali [0, 1, 2, 3, 4, 5, 6, 7, 8, 9, 10, 11, 12, 13, 14, 15, 16, 17, 18, 19, 20, 21, 22, 23, 24, 25, 26, 27, 28, 29, 30, 31, 32, 33, 34, 35, 36, 37] (⟨hP, hD, hG, hS, hA, rfl, rfl⟩ : kAt D cy sa A s H _ _ [((v 0), .inr (13, [.int 0, .int 0, .int 0, .int (-1), .int 0, .int 0, .int 0, .int 0, .ref (v 1), .ref (v 2), .ref (v 3), .ref (v 4), .ref (v 5), .ref (v 6), .ref (v 7), .ref (v 8), .ref (v 9), .int 0, .int 0, .int 0, .int 0, .int 0, .int 0, .int 0, .int 0, .int 0, .ref (v 10), .ref (v 11), .ref (v 12), .ref (v 13), .int 89, .ref (v 14), .ref (v 15), .ref (v 16), .ref (v 17), .ref (v 18), .int 0, .int 0, .int 0, .ref (v 19), .ref (v 20), .ref (v 21), .ref (v 22), .ref (v 23), .int 0, .int 0, .int 0, .int 0])), (a, .inl (cy 0, 120, .inl (fun _ => 0)))] [38, 39]) (wr := (toldW cy v ++ [])) rfl rfl (by decide) (k_runV 13 38 (As := [.ref a, .int 0, .int b]) (rest := [.int 1, .ref ((v 10) + 1 + 22)]) E lk_VRX12_251 rfl rfl rfl (m_moves l hl0 D cy sa v a 0 89 (by unfold vp_in; decide) b H.size) (⟨hP, hD, hG, hS, hA, rfl, rfl⟩ : kAt D cy sa A s H _ _ [((v 0), .inr (13, [.int 0, .int 0, .int 0, .int (-1), .int 0, .int 0, .int 0, .int 0, .ref (v 1), .ref (v 2), .ref (v 3), .ref (v 4), .ref (v 5), .ref (v 6), .ref (v 7), .ref (v 8), .ref (v 9), .int 0, .int 0, .int 0, .int 0, .int 0, .int 0, .int 0, .int 0, .int 0, .ref (v 10), .ref (v 11), .ref (v 12), .ref (v 13), .int 89, .ref (v 14), .ref (v 15), .ref (v 16), .ref (v 17), .ref (v 18), .int 0, .int 0, .int 0, .ref (v 19), .ref (v 20), .ref (v 21), .ref (v 22), .ref (v 23), .int 0, .int 0, .int 0, .int 0])), (a, .inl (cy 0, 120, .inl (fun _ => 0)))] [38, 39]) hl.1 rfl rfl ⟨rfl, rfl, ⟨Nat.le_of_ble_eq_true rfl, Nat.le_of_ble_eq_true rfl⟩, ⟨Nat.le_of_ble_eq_true rfl, Nat.le_of_ble_eq_true rfl⟩, Nat.le_of_ble_eq_true rfl⟩ dX12_movesTold_65) (fun r141 u142 H locs hwu142 hP hD hS => ?_)
  have hP : va_P D vwCl (toldW cy v ++ [((v 0), .inr (13, [.int 0, .int 0, .int 0, .int (-1), .int 0, .int 0, .int 0, .int 0, .ref (v 1), .ref (v 2), .ref (v 3), .ref (v 4), .ref (v 5), .ref (v 6), .ref (v 7), .ref (v 8), .ref (v 9), .int 0, .int 0, .int 0, .int 0, .int 0, .int 0, .int 0, .int 0, .int 0, .ref (v 10), .ref (v 11), .ref (v 12), .ref (v 13), .int 90, .ref (v 14), .ref (v 15), .ref (v 16), .ref (v 17), .ref (v 18), .int 0, .int 0, .int 0, .ref (v 19), .ref (v 20), .ref (v 21), .ref (v 22), .ref (v 23), .int 0, .int 0, .int 0, .int 0])), (a, .inl (cy 0, 120, .inl (fun _ => 0)))]) H := hP
  have hD : va_D A (toldW cy v ++ [((v 0), .inr (13, [.int 0, .int 0, .int 0, .int (-1), .int 0, .int 0, .int 0, .int 0, .ref (v 1), .ref (v 2), .ref (v 3), .ref (v 4), .ref (v 5), .ref (v 6), .ref (v 7), .ref (v 8), .ref (v 9), .int 0, .int 0, .int 0, .int 0, .int 0, .int 0, .int 0, .int 0, .int 0, .ref (v 10), .ref (v 11), .ref (v 12), .ref (v 13), .int 90, .ref (v 14), .ref (v 15), .ref (v 16), .ref (v 17), .ref (v 18), .int 0, .int 0, .int 0, .ref (v 19), .ref (v 20), .ref (v 21), .ref (v 22), .ref (v 23), .int 0, .int 0, .int 0, .int 0])), (a, .inl (cy 0, 120, .inl (fun _ => 0)))]) := hD
  obtain rfl : r141 = 0 := hwu142
  refine k_iast0 hx hb hG.1 hP hD hS 23 0 rfl rfl (by unfold vp_in; decide) dX12_movesTold_68 (fun H locs hP hD hS => ?_)
  refine lv_iinc (v := 2) (lv' := [(4, .int 2), (3, .int 22), (0, .ref (v 0)), (1, .ref a), (2, .int b)]) hx hb dX12_movesTold_69 hl (k := 0) rfl (by decide) (by decide) rfl (fun ls hl => ?_)
  refine lv_goto (tgt := 39) hx hb dX12_movesTold_72 (by decide) ?_
  refine lv_iload hx hb dX12_movesTold_39 (lv_at hl 0 rfl) ?_
  refine lv_iconst (v := 2) hx hb dX12_movesTold_41 (by decide) ?_
  refine lv_icmp_ge (tgt := 75) hx hb dX12_movesTold_42 (by decide) (fun _ => ?_) (fun h => absurd (by decide) h)
  refine lv_iinc (v := 23) (lv' := [(3, .int 23), (4, .int 2), (0, .ref (v 0)), (1, .ref a), (2, .int b)]) hx hb dX12_movesTold_75 hl (k := 1) rfl (by decide) (by decide) rfl (fun ls hl => ?_)
  refine lv_goto (tgt := 30) hx hb dX12_movesTold_78 (by decide) ?_
  refine lv_iload_n hx hb dX12_movesTold_30 rfl (lv_at hl 0 rfl) ?_
  refine lv_bipush (v := 30) hx hb dX12_movesTold_31 (by decide) ?_
  refine lv_icmp_ge (tgt := 81) hx hb dX12_movesTold_33 (by decide) (fun h => absurd h (by decide)) (fun _ => ?_)
  refine lv_iconst (v := 0) hx hb dX12_movesTold_36 (by decide) ?_
  refine lv_istore (lv' := [(4, .int 0), (3, .int 23), (0, .ref (v 0)), (1, .ref a), (2, .int b)]) hx hb dX12_movesTold_37 hl (by decide) rfl (fun ls hl => ?_)
  refine lv_iload hx hb dX12_movesTold_39 (lv_at hl 0 rfl) ?_
  refine lv_iconst (v := 2) hx hb dX12_movesTold_41 (by decide) ?_
  refine lv_icmp_ge (tgt := 75) hx hb dX12_movesTold_42 (by decide) (fun h => absurd h (by decide)) (fun _ => ?_)
  refine lv_aload_n hx hb dX12_movesTold_45 rfl (lv_at hl 2 rfl) ?_
  refine va_get (D := D) (ci := 13) (v := .ref (v 10)) (C := RX12) (T := TX12) (N := 48) hx hb hts kin_RX12 hown hG.1 hP 38 rfl rfl 26 (by decide) (hts _ wm_1545) (fun _ h9 => h9) rfl dX12_movesTold_46 ?_
  refine lv_iload_n hx hb dX12_movesTold_49 rfl (lv_at hl 1 rfl) ?_
  refine k_aldA hx hb hG.1 hP 0 rfl (by unfold vp_in; decide) dX12_movesTold_50 ?_
  refine W.eq (g2 := F0 m 51 ls [.ref ((v 10) + 1 + 23)]) rfl ?_
  refine lv_iload hx hb dX12_movesTold_51 (lv_at hl 0 rfl) ?_
  refine lv_aload_n hx hb dX12_movesTold_53 rfl (lv_at hl 2 rfl) ?_
  refine lv_aload_n hx hb dX12_movesTold_54 rfl (lv_at hl 3 rfl) ?_
  refine lv_aload_n hx hb dX12_movesTold_55 rfl (lv_at hl 2 rfl) ?_
  refine va_get (D := D) (ci := 13) (v := .ref (v 10)) (C := RX12) (T := TX12) (N := 48) hx hb hts kin_RX12 hown hG.1 hP 38 rfl rfl 26 (by decide) (hts _ wm_1545) (fun _ h9 => h9) rfl dX12_movesTold_56 ?_
  refine lv_iload_n hx hb dX12_movesTold_59 rfl (lv_at hl 1 rfl) ?_
  refine k_aldA hx hb hG.1 hP 0 rfl (by unfold vp_in; decide) dX12_movesTold_60 ?_
  refine W.eq (g2 := F0 m 61 ls [.ref ((v 10) + 1 + 23), .ref a, .ref (v 0), .int 0, .ref ((v 10) + 1 + 23)]) rfl ?_
  refine lv_iload hx hb dX12_movesTold_61 (lv_at hl 0 rfl) ?_
  refine va_iald hx hb hG.1 hP 24 0 rfl rfl (by unfold vp_in; decide) dX12_movesTold_63 ?_
  refine lv_topi (fun x143 ex143 => ?_)
  obtain rfl : x143 = 0 := ex143.trans (rfl)
  refine lv_iload_n hx hb dX12_movesTold_64 rfl (lv_at hl 4 rfl) ?_
  refine k_cali [0, 1, 2, 3, 4, 5, 6, 7, 8, 9, 10, 11, 12, 13, 14, 15, 16, 17, 18, 19, 20, 21, 22, 23, 24, 25, 26, 27, 28, 29, 30, 31, 32, 33, 34, 35, 36, 37] (⟨hP, hD, hG, hS, hA, rfl, rfl⟩ : kAt D cy sa A s H _ _ [((v 0), .inr (13, [.int 0, .int 0, .int 0, .int (-1), .int 0, .int 0, .int 0, .int 0, .ref (v 1), .ref (v 2), .ref (v 3), .ref (v 4), .ref (v 5), .ref (v 6), .ref (v 7), .ref (v 8), .ref (v 9), .int 0, .int 0, .int 0, .int 0, .int 0, .int 0, .int 0, .int 0, .int 0, .ref (v 10), .ref (v 11), .ref (v 12), .ref (v 13), .int 90, .ref (v 14), .ref (v 15), .ref (v 16), .ref (v 17), .ref (v 18), .int 0, .int 0, .int 0, .ref (v 19), .ref (v 20), .ref (v 21), .ref (v 22), .ref (v 23), .int 0, .int 0, .int 0, .int 0])), (a, .inl (cy 0, 120, .inl (fun _ => 0)))] [38, 39]) (wr := (toldW cy v ++ [])) rfl rfl (by decide) (k_runV 13 38 (As := [.ref a, .int 0, .int b]) (rest := [.int 0, .ref ((v 10) + 1 + 23)]) E lk_VRX12_251 rfl rfl rfl (m_moves l hl0 D cy sa v a 0 90 (by unfold vp_in; decide) b H.size) (⟨hP, hD, hG, hS, hA, rfl, rfl⟩ : kAt D cy sa A s H _ _ [((v 0), .inr (13, [.int 0, .int 0, .int 0, .int (-1), .int 0, .int 0, .int 0, .int 0, .ref (v 1), .ref (v 2), .ref (v 3), .ref (v 4), .ref (v 5), .ref (v 6), .ref (v 7), .ref (v 8), .ref (v 9), .int 0, .int 0, .int 0, .int 0, .int 0, .int 0, .int 0, .int 0, .int 0, .ref (v 10), .ref (v 11), .ref (v 12), .ref (v 13), .int 90, .ref (v 14), .ref (v 15), .ref (v 16), .ref (v 17), .ref (v 18), .int 0, .int 0, .int 0, .ref (v 19), .ref (v 20), .ref (v 21), .ref (v 22), .ref (v 23), .int 0, .int 0, .int 0, .int 0])), (a, .inl (cy 0, 120, .inl (fun _ => 0)))] [38, 39]) hl.1 rfl rfl ⟨rfl, rfl, ⟨Nat.le_of_ble_eq_true rfl, Nat.le_of_ble_eq_true rfl⟩, ⟨Nat.le_of_ble_eq_true rfl, Nat.le_of_ble_eq_true rfl⟩, Nat.le_of_ble_eq_true rfl⟩ dX12_movesTold_65) (fun r144 u145 H locs hwu145 hP hD hS => ?_)
  have hP : va_P D vwCl (toldW cy v ++ [((v 0), .inr (13, [.int 0, .int 0, .int 0, .int (-1), .int 0, .int 0, .int 0, .int 0, .ref (v 1), .ref (v 2), .ref (v 3), .ref (v 4), .ref (v 5), .ref (v 6), .ref (v 7), .ref (v 8), .ref (v 9), .int 0, .int 0, .int 0, .int 0, .int 0, .int 0, .int 0, .int 0, .int 0, .ref (v 10), .ref (v 11), .ref (v 12), .ref (v 13), .int 91, .ref (v 14), .ref (v 15), .ref (v 16), .ref (v 17), .ref (v 18), .int 0, .int 0, .int 0, .ref (v 19), .ref (v 20), .ref (v 21), .ref (v 22), .ref (v 23), .int 0, .int 0, .int 0, .int 0])), (a, .inl (cy 0, 120, .inl (fun _ => 0)))]) H := hP
  have hD : va_D A (toldW cy v ++ [((v 0), .inr (13, [.int 0, .int 0, .int 0, .int (-1), .int 0, .int 0, .int 0, .int 0, .ref (v 1), .ref (v 2), .ref (v 3), .ref (v 4), .ref (v 5), .ref (v 6), .ref (v 7), .ref (v 8), .ref (v 9), .int 0, .int 0, .int 0, .int 0, .int 0, .int 0, .int 0, .int 0, .int 0, .ref (v 10), .ref (v 11), .ref (v 12), .ref (v 13), .int 91, .ref (v 14), .ref (v 15), .ref (v 16), .ref (v 17), .ref (v 18), .int 0, .int 0, .int 0, .ref (v 19), .ref (v 20), .ref (v 21), .ref (v 22), .ref (v 23), .int 0, .int 0, .int 0, .int 0])), (a, .inl (cy 0, 120, .inl (fun _ => 0)))]) := hD
  obtain rfl : r144 = 0 := hwu145
  refine k_iast0 hx hb hG.1 hP hD hS 24 0 rfl rfl (by unfold vp_in; decide) dX12_movesTold_68 (fun H locs hP hD hS => ?_)
  refine lv_iinc (v := 1) (lv' := [(4, .int 1), (3, .int 23), (0, .ref (v 0)), (1, .ref a), (2, .int b)]) hx hb dX12_movesTold_69 hl (k := 0) rfl (by decide) (by decide) rfl (fun ls hl => ?_)
  refine lv_goto (tgt := 39) hx hb dX12_movesTold_72 (by decide) ?_
  refine lv_iload hx hb dX12_movesTold_39 (lv_at hl 0 rfl) ?_
  refine lv_iconst (v := 2) hx hb dX12_movesTold_41 (by decide) ?_
  refine lv_icmp_ge (tgt := 75) hx hb dX12_movesTold_42 (by decide) (fun h => absurd h (by decide)) (fun _ => ?_)
  refine lv_aload_n hx hb dX12_movesTold_45 rfl (lv_at hl 2 rfl) ?_
  refine va_get (D := D) (ci := 13) (v := .ref (v 10)) (C := RX12) (T := TX12) (N := 48) hx hb hts kin_RX12 hown hG.1 hP 38 rfl rfl 26 (by decide) (hts _ wm_1545) (fun _ h9 => h9) rfl dX12_movesTold_46 ?_
  refine lv_iload_n hx hb dX12_movesTold_49 rfl (lv_at hl 1 rfl) ?_
  refine k_aldA hx hb hG.1 hP 0 rfl (by unfold vp_in; decide) dX12_movesTold_50 ?_
  refine W.eq (g2 := F0 m 51 ls [.ref ((v 10) + 1 + 23)]) rfl ?_
  refine lv_iload hx hb dX12_movesTold_51 (lv_at hl 0 rfl) ?_
  refine lv_aload_n hx hb dX12_movesTold_53 rfl (lv_at hl 2 rfl) ?_
  refine lv_aload_n hx hb dX12_movesTold_54 rfl (lv_at hl 3 rfl) ?_
  refine lv_aload_n hx hb dX12_movesTold_55 rfl (lv_at hl 2 rfl) ?_
  refine va_get (D := D) (ci := 13) (v := .ref (v 10)) (C := RX12) (T := TX12) (N := 48) hx hb hts kin_RX12 hown hG.1 hP 38 rfl rfl 26 (by decide) (hts _ wm_1545) (fun _ h9 => h9) rfl dX12_movesTold_56 ?_
  refine lv_iload_n hx hb dX12_movesTold_59 rfl (lv_at hl 1 rfl) ?_
  refine k_aldA hx hb hG.1 hP 0 rfl (by unfold vp_in; decide) dX12_movesTold_60 ?_
  refine W.eq (g2 := F0 m 61 ls [.ref ((v 10) + 1 + 23), .ref a, .ref (v 0), .int 1, .ref ((v 10) + 1 + 23)]) rfl ?_
  refine lv_iload hx hb dX12_movesTold_61 (lv_at hl 0 rfl) ?_
  refine va_iald hx hb hG.1 hP 24 0 rfl rfl (by unfold vp_in; decide) dX12_movesTold_63 ?_
  refine lv_topi (fun x146 ex146 => ?_)
  obtain rfl : x146 = 0 := ex146.trans (rfl)
  refine lv_iload_n hx hb dX12_movesTold_64 rfl (lv_at hl 4 rfl) ?_
  refine k_cali [0, 1, 2, 3, 4, 5, 6, 7, 8, 9, 10, 11, 12, 13, 14, 15, 16, 17, 18, 19, 20, 21, 22, 23, 24, 25, 26, 27, 28, 29, 30, 31, 32, 33, 34, 35, 36, 37] (⟨hP, hD, hG, hS, hA, rfl, rfl⟩ : kAt D cy sa A s H _ _ [((v 0), .inr (13, [.int 0, .int 0, .int 0, .int (-1), .int 0, .int 0, .int 0, .int 0, .ref (v 1), .ref (v 2), .ref (v 3), .ref (v 4), .ref (v 5), .ref (v 6), .ref (v 7), .ref (v 8), .ref (v 9), .int 0, .int 0, .int 0, .int 0, .int 0, .int 0, .int 0, .int 0, .int 0, .ref (v 10), .ref (v 11), .ref (v 12), .ref (v 13), .int 91, .ref (v 14), .ref (v 15), .ref (v 16), .ref (v 17), .ref (v 18), .int 0, .int 0, .int 0, .ref (v 19), .ref (v 20), .ref (v 21), .ref (v 22), .ref (v 23), .int 0, .int 0, .int 0, .int 0])), (a, .inl (cy 0, 120, .inl (fun _ => 0)))] [38, 39]) (wr := (toldW cy v ++ [])) rfl rfl (by decide) (k_runV 13 38 (As := [.ref a, .int 0, .int b]) (rest := [.int 1, .ref ((v 10) + 1 + 23)]) E lk_VRX12_251 rfl rfl rfl (m_moves l hl0 D cy sa v a 0 91 (by unfold vp_in; decide) b H.size) (⟨hP, hD, hG, hS, hA, rfl, rfl⟩ : kAt D cy sa A s H _ _ [((v 0), .inr (13, [.int 0, .int 0, .int 0, .int (-1), .int 0, .int 0, .int 0, .int 0, .ref (v 1), .ref (v 2), .ref (v 3), .ref (v 4), .ref (v 5), .ref (v 6), .ref (v 7), .ref (v 8), .ref (v 9), .int 0, .int 0, .int 0, .int 0, .int 0, .int 0, .int 0, .int 0, .int 0, .ref (v 10), .ref (v 11), .ref (v 12), .ref (v 13), .int 91, .ref (v 14), .ref (v 15), .ref (v 16), .ref (v 17), .ref (v 18), .int 0, .int 0, .int 0, .ref (v 19), .ref (v 20), .ref (v 21), .ref (v 22), .ref (v 23), .int 0, .int 0, .int 0, .int 0])), (a, .inl (cy 0, 120, .inl (fun _ => 0)))] [38, 39]) hl.1 rfl rfl ⟨rfl, rfl, ⟨Nat.le_of_ble_eq_true rfl, Nat.le_of_ble_eq_true rfl⟩, ⟨Nat.le_of_ble_eq_true rfl, Nat.le_of_ble_eq_true rfl⟩, Nat.le_of_ble_eq_true rfl⟩ dX12_movesTold_65) (fun r147 u148 H locs hwu148 hP hD hS => ?_)
  have hP : va_P D vwCl (toldW cy v ++ [((v 0), .inr (13, [.int 0, .int 0, .int 0, .int (-1), .int 0, .int 0, .int 0, .int 0, .ref (v 1), .ref (v 2), .ref (v 3), .ref (v 4), .ref (v 5), .ref (v 6), .ref (v 7), .ref (v 8), .ref (v 9), .int 0, .int 0, .int 0, .int 0, .int 0, .int 0, .int 0, .int 0, .int 0, .ref (v 10), .ref (v 11), .ref (v 12), .ref (v 13), .int 92, .ref (v 14), .ref (v 15), .ref (v 16), .ref (v 17), .ref (v 18), .int 0, .int 0, .int 0, .ref (v 19), .ref (v 20), .ref (v 21), .ref (v 22), .ref (v 23), .int 0, .int 0, .int 0, .int 0])), (a, .inl (cy 0, 120, .inl (fun _ => 0)))]) H := hP
  have hD : va_D A (toldW cy v ++ [((v 0), .inr (13, [.int 0, .int 0, .int 0, .int (-1), .int 0, .int 0, .int 0, .int 0, .ref (v 1), .ref (v 2), .ref (v 3), .ref (v 4), .ref (v 5), .ref (v 6), .ref (v 7), .ref (v 8), .ref (v 9), .int 0, .int 0, .int 0, .int 0, .int 0, .int 0, .int 0, .int 0, .int 0, .ref (v 10), .ref (v 11), .ref (v 12), .ref (v 13), .int 92, .ref (v 14), .ref (v 15), .ref (v 16), .ref (v 17), .ref (v 18), .int 0, .int 0, .int 0, .ref (v 19), .ref (v 20), .ref (v 21), .ref (v 22), .ref (v 23), .int 0, .int 0, .int 0, .int 0])), (a, .inl (cy 0, 120, .inl (fun _ => 0)))]) := hD
  obtain rfl : r147 = 0 := hwu148
  refine k_iast0 hx hb hG.1 hP hD hS 24 0 rfl rfl (by unfold vp_in; decide) dX12_movesTold_68 (fun H locs hP hD hS => ?_)
  refine lv_iinc (v := 2) (lv' := [(4, .int 2), (3, .int 23), (0, .ref (v 0)), (1, .ref a), (2, .int b)]) hx hb dX12_movesTold_69 hl (k := 0) rfl (by decide) (by decide) rfl (fun ls hl => ?_)
  refine lv_goto (tgt := 39) hx hb dX12_movesTold_72 (by decide) ?_
  refine lv_iload hx hb dX12_movesTold_39 (lv_at hl 0 rfl) ?_
  refine lv_iconst (v := 2) hx hb dX12_movesTold_41 (by decide) ?_
  refine lv_icmp_ge (tgt := 75) hx hb dX12_movesTold_42 (by decide) (fun _ => ?_) (fun h => absurd (by decide) h)
  refine lv_iinc (v := 24) (lv' := [(3, .int 24), (4, .int 2), (0, .ref (v 0)), (1, .ref a), (2, .int b)]) hx hb dX12_movesTold_75 hl (k := 1) rfl (by decide) (by decide) rfl (fun ls hl => ?_)
  refine lv_goto (tgt := 30) hx hb dX12_movesTold_78 (by decide) ?_
  refine lv_iload_n hx hb dX12_movesTold_30 rfl (lv_at hl 0 rfl) ?_
  refine lv_bipush (v := 30) hx hb dX12_movesTold_31 (by decide) ?_
  refine lv_icmp_ge (tgt := 81) hx hb dX12_movesTold_33 (by decide) (fun h => absurd h (by decide)) (fun _ => ?_)
  refine lv_iconst (v := 0) hx hb dX12_movesTold_36 (by decide) ?_
  refine lv_istore (lv' := [(4, .int 0), (3, .int 24), (0, .ref (v 0)), (1, .ref a), (2, .int b)]) hx hb dX12_movesTold_37 hl (by decide) rfl (fun ls hl => ?_)
  refine lv_iload hx hb dX12_movesTold_39 (lv_at hl 0 rfl) ?_
  refine lv_iconst (v := 2) hx hb dX12_movesTold_41 (by decide) ?_
  refine lv_icmp_ge (tgt := 75) hx hb dX12_movesTold_42 (by decide) (fun h => absurd h (by decide)) (fun _ => ?_)
  refine lv_aload_n hx hb dX12_movesTold_45 rfl (lv_at hl 2 rfl) ?_
  refine va_get (D := D) (ci := 13) (v := .ref (v 10)) (C := RX12) (T := TX12) (N := 48) hx hb hts kin_RX12 hown hG.1 hP 38 rfl rfl 26 (by decide) (hts _ wm_1545) (fun _ h9 => h9) rfl dX12_movesTold_46 ?_
  refine lv_iload_n hx hb dX12_movesTold_49 rfl (lv_at hl 1 rfl) ?_
  refine k_aldA hx hb hG.1 hP 0 rfl (by unfold vp_in; decide) dX12_movesTold_50 ?_
  refine W.eq (g2 := F0 m 51 ls [.ref ((v 10) + 1 + 24)]) rfl ?_
  refine lv_iload hx hb dX12_movesTold_51 (lv_at hl 0 rfl) ?_
  refine lv_aload_n hx hb dX12_movesTold_53 rfl (lv_at hl 2 rfl) ?_
  refine lv_aload_n hx hb dX12_movesTold_54 rfl (lv_at hl 3 rfl) ?_
  refine lv_aload_n hx hb dX12_movesTold_55 rfl (lv_at hl 2 rfl) ?_
  refine va_get (D := D) (ci := 13) (v := .ref (v 10)) (C := RX12) (T := TX12) (N := 48) hx hb hts kin_RX12 hown hG.1 hP 38 rfl rfl 26 (by decide) (hts _ wm_1545) (fun _ h9 => h9) rfl dX12_movesTold_56 ?_
  refine lv_iload_n hx hb dX12_movesTold_59 rfl (lv_at hl 1 rfl) ?_
  refine k_aldA hx hb hG.1 hP 0 rfl (by unfold vp_in; decide) dX12_movesTold_60 ?_
  refine W.eq (g2 := F0 m 61 ls [.ref ((v 10) + 1 + 24), .ref a, .ref (v 0), .int 0, .ref ((v 10) + 1 + 24)]) rfl ?_
  refine lv_iload hx hb dX12_movesTold_61 (lv_at hl 0 rfl) ?_
  refine va_iald hx hb hG.1 hP 25 0 rfl rfl (by unfold vp_in; decide) dX12_movesTold_63 ?_
  refine lv_topi (fun x149 ex149 => ?_)
  obtain rfl : x149 = 0 := ex149.trans (rfl)
  refine lv_iload_n hx hb dX12_movesTold_64 rfl (lv_at hl 4 rfl) ?_
  refine k_cali [0, 1, 2, 3, 4, 5, 6, 7, 8, 9, 10, 11, 12, 13, 14, 15, 16, 17, 18, 19, 20, 21, 22, 23, 24, 25, 26, 27, 28, 29, 30, 31, 32, 33, 34, 35, 36, 37] (⟨hP, hD, hG, hS, hA, rfl, rfl⟩ : kAt D cy sa A s H _ _ [((v 0), .inr (13, [.int 0, .int 0, .int 0, .int (-1), .int 0, .int 0, .int 0, .int 0, .ref (v 1), .ref (v 2), .ref (v 3), .ref (v 4), .ref (v 5), .ref (v 6), .ref (v 7), .ref (v 8), .ref (v 9), .int 0, .int 0, .int 0, .int 0, .int 0, .int 0, .int 0, .int 0, .int 0, .ref (v 10), .ref (v 11), .ref (v 12), .ref (v 13), .int 92, .ref (v 14), .ref (v 15), .ref (v 16), .ref (v 17), .ref (v 18), .int 0, .int 0, .int 0, .ref (v 19), .ref (v 20), .ref (v 21), .ref (v 22), .ref (v 23), .int 0, .int 0, .int 0, .int 0])), (a, .inl (cy 0, 120, .inl (fun _ => 0)))] [38, 39]) (wr := (toldW cy v ++ [])) rfl rfl (by decide) (k_runV 13 38 (As := [.ref a, .int 0, .int b]) (rest := [.int 0, .ref ((v 10) + 1 + 24)]) E lk_VRX12_251 rfl rfl rfl (m_moves l hl0 D cy sa v a 0 92 (by unfold vp_in; decide) b H.size) (⟨hP, hD, hG, hS, hA, rfl, rfl⟩ : kAt D cy sa A s H _ _ [((v 0), .inr (13, [.int 0, .int 0, .int 0, .int (-1), .int 0, .int 0, .int 0, .int 0, .ref (v 1), .ref (v 2), .ref (v 3), .ref (v 4), .ref (v 5), .ref (v 6), .ref (v 7), .ref (v 8), .ref (v 9), .int 0, .int 0, .int 0, .int 0, .int 0, .int 0, .int 0, .int 0, .int 0, .ref (v 10), .ref (v 11), .ref (v 12), .ref (v 13), .int 92, .ref (v 14), .ref (v 15), .ref (v 16), .ref (v 17), .ref (v 18), .int 0, .int 0, .int 0, .ref (v 19), .ref (v 20), .ref (v 21), .ref (v 22), .ref (v 23), .int 0, .int 0, .int 0, .int 0])), (a, .inl (cy 0, 120, .inl (fun _ => 0)))] [38, 39]) hl.1 rfl rfl ⟨rfl, rfl, ⟨Nat.le_of_ble_eq_true rfl, Nat.le_of_ble_eq_true rfl⟩, ⟨Nat.le_of_ble_eq_true rfl, Nat.le_of_ble_eq_true rfl⟩, Nat.le_of_ble_eq_true rfl⟩ dX12_movesTold_65) (fun r150 u151 H locs hwu151 hP hD hS => ?_)
  have hP : va_P D vwCl (toldW cy v ++ [((v 0), .inr (13, [.int 0, .int 0, .int 0, .int (-1), .int 0, .int 0, .int 0, .int 0, .ref (v 1), .ref (v 2), .ref (v 3), .ref (v 4), .ref (v 5), .ref (v 6), .ref (v 7), .ref (v 8), .ref (v 9), .int 0, .int 0, .int 0, .int 0, .int 0, .int 0, .int 0, .int 0, .int 0, .ref (v 10), .ref (v 11), .ref (v 12), .ref (v 13), .int 93, .ref (v 14), .ref (v 15), .ref (v 16), .ref (v 17), .ref (v 18), .int 0, .int 0, .int 0, .ref (v 19), .ref (v 20), .ref (v 21), .ref (v 22), .ref (v 23), .int 0, .int 0, .int 0, .int 0])), (a, .inl (cy 0, 120, .inl (fun _ => 0)))]) H := hP
  have hD : va_D A (toldW cy v ++ [((v 0), .inr (13, [.int 0, .int 0, .int 0, .int (-1), .int 0, .int 0, .int 0, .int 0, .ref (v 1), .ref (v 2), .ref (v 3), .ref (v 4), .ref (v 5), .ref (v 6), .ref (v 7), .ref (v 8), .ref (v 9), .int 0, .int 0, .int 0, .int 0, .int 0, .int 0, .int 0, .int 0, .int 0, .ref (v 10), .ref (v 11), .ref (v 12), .ref (v 13), .int 93, .ref (v 14), .ref (v 15), .ref (v 16), .ref (v 17), .ref (v 18), .int 0, .int 0, .int 0, .ref (v 19), .ref (v 20), .ref (v 21), .ref (v 22), .ref (v 23), .int 0, .int 0, .int 0, .int 0])), (a, .inl (cy 0, 120, .inl (fun _ => 0)))]) := hD
  obtain rfl : r150 = 0 := hwu151
  refine k_iast0 hx hb hG.1 hP hD hS 25 0 rfl rfl (by unfold vp_in; decide) dX12_movesTold_68 (fun H locs hP hD hS => ?_)
  refine lv_iinc (v := 1) (lv' := [(4, .int 1), (3, .int 24), (0, .ref (v 0)), (1, .ref a), (2, .int b)]) hx hb dX12_movesTold_69 hl (k := 0) rfl (by decide) (by decide) rfl (fun ls hl => ?_)
  refine lv_goto (tgt := 39) hx hb dX12_movesTold_72 (by decide) ?_
  refine lv_iload hx hb dX12_movesTold_39 (lv_at hl 0 rfl) ?_
  refine lv_iconst (v := 2) hx hb dX12_movesTold_41 (by decide) ?_
  refine lv_icmp_ge (tgt := 75) hx hb dX12_movesTold_42 (by decide) (fun h => absurd h (by decide)) (fun _ => ?_)
  refine lv_aload_n hx hb dX12_movesTold_45 rfl (lv_at hl 2 rfl) ?_
  refine va_get (D := D) (ci := 13) (v := .ref (v 10)) (C := RX12) (T := TX12) (N := 48) hx hb hts kin_RX12 hown hG.1 hP 38 rfl rfl 26 (by decide) (hts _ wm_1545) (fun _ h9 => h9) rfl dX12_movesTold_46 ?_
  refine lv_iload_n hx hb dX12_movesTold_49 rfl (lv_at hl 1 rfl) ?_
  refine k_aldA hx hb hG.1 hP 0 rfl (by unfold vp_in; decide) dX12_movesTold_50 ?_
  refine W.eq (g2 := F0 m 51 ls [.ref ((v 10) + 1 + 24)]) rfl ?_
  refine lv_iload hx hb dX12_movesTold_51 (lv_at hl 0 rfl) ?_
  refine lv_aload_n hx hb dX12_movesTold_53 rfl (lv_at hl 2 rfl) ?_
  refine lv_aload_n hx hb dX12_movesTold_54 rfl (lv_at hl 3 rfl) ?_
  refine lv_aload_n hx hb dX12_movesTold_55 rfl (lv_at hl 2 rfl) ?_
  refine va_get (D := D) (ci := 13) (v := .ref (v 10)) (C := RX12) (T := TX12) (N := 48) hx hb hts kin_RX12 hown hG.1 hP 38 rfl rfl 26 (by decide) (hts _ wm_1545) (fun _ h9 => h9) rfl dX12_movesTold_56 ?_
  refine lv_iload_n hx hb dX12_movesTold_59 rfl (lv_at hl 1 rfl) ?_
  refine k_aldA hx hb hG.1 hP 0 rfl (by unfold vp_in; decide) dX12_movesTold_60 ?_
  refine W.eq (g2 := F0 m 61 ls [.ref ((v 10) + 1 + 24), .ref a, .ref (v 0), .int 1, .ref ((v 10) + 1 + 24)]) rfl ?_
  refine lv_iload hx hb dX12_movesTold_61 (lv_at hl 0 rfl) ?_
  refine va_iald hx hb hG.1 hP 25 0 rfl rfl (by unfold vp_in; decide) dX12_movesTold_63 ?_
  refine lv_topi (fun x152 ex152 => ?_)
  obtain rfl : x152 = 0 := ex152.trans (rfl)
  refine lv_iload_n hx hb dX12_movesTold_64 rfl (lv_at hl 4 rfl) ?_
  refine k_cali [0, 1, 2, 3, 4, 5, 6, 7, 8, 9, 10, 11, 12, 13, 14, 15, 16, 17, 18, 19, 20, 21, 22, 23, 24, 25, 26, 27, 28, 29, 30, 31, 32, 33, 34, 35, 36, 37] (⟨hP, hD, hG, hS, hA, rfl, rfl⟩ : kAt D cy sa A s H _ _ [((v 0), .inr (13, [.int 0, .int 0, .int 0, .int (-1), .int 0, .int 0, .int 0, .int 0, .ref (v 1), .ref (v 2), .ref (v 3), .ref (v 4), .ref (v 5), .ref (v 6), .ref (v 7), .ref (v 8), .ref (v 9), .int 0, .int 0, .int 0, .int 0, .int 0, .int 0, .int 0, .int 0, .int 0, .ref (v 10), .ref (v 11), .ref (v 12), .ref (v 13), .int 93, .ref (v 14), .ref (v 15), .ref (v 16), .ref (v 17), .ref (v 18), .int 0, .int 0, .int 0, .ref (v 19), .ref (v 20), .ref (v 21), .ref (v 22), .ref (v 23), .int 0, .int 0, .int 0, .int 0])), (a, .inl (cy 0, 120, .inl (fun _ => 0)))] [38, 39]) (wr := (toldW cy v ++ [])) rfl rfl (by decide) (k_runV 13 38 (As := [.ref a, .int 0, .int b]) (rest := [.int 1, .ref ((v 10) + 1 + 24)]) E lk_VRX12_251 rfl rfl rfl (m_moves l hl0 D cy sa v a 0 93 (by unfold vp_in; decide) b H.size) (⟨hP, hD, hG, hS, hA, rfl, rfl⟩ : kAt D cy sa A s H _ _ [((v 0), .inr (13, [.int 0, .int 0, .int 0, .int (-1), .int 0, .int 0, .int 0, .int 0, .ref (v 1), .ref (v 2), .ref (v 3), .ref (v 4), .ref (v 5), .ref (v 6), .ref (v 7), .ref (v 8), .ref (v 9), .int 0, .int 0, .int 0, .int 0, .int 0, .int 0, .int 0, .int 0, .int 0, .ref (v 10), .ref (v 11), .ref (v 12), .ref (v 13), .int 93, .ref (v 14), .ref (v 15), .ref (v 16), .ref (v 17), .ref (v 18), .int 0, .int 0, .int 0, .ref (v 19), .ref (v 20), .ref (v 21), .ref (v 22), .ref (v 23), .int 0, .int 0, .int 0, .int 0])), (a, .inl (cy 0, 120, .inl (fun _ => 0)))] [38, 39]) hl.1 rfl rfl ⟨rfl, rfl, ⟨Nat.le_of_ble_eq_true rfl, Nat.le_of_ble_eq_true rfl⟩, ⟨Nat.le_of_ble_eq_true rfl, Nat.le_of_ble_eq_true rfl⟩, Nat.le_of_ble_eq_true rfl⟩ dX12_movesTold_65) (fun r153 u154 H locs hwu154 hP hD hS => ?_)
  have hP : va_P D vwCl (toldW cy v ++ [((v 0), .inr (13, [.int 0, .int 0, .int 0, .int (-1), .int 0, .int 0, .int 0, .int 0, .ref (v 1), .ref (v 2), .ref (v 3), .ref (v 4), .ref (v 5), .ref (v 6), .ref (v 7), .ref (v 8), .ref (v 9), .int 0, .int 0, .int 0, .int 0, .int 0, .int 0, .int 0, .int 0, .int 0, .ref (v 10), .ref (v 11), .ref (v 12), .ref (v 13), .int 94, .ref (v 14), .ref (v 15), .ref (v 16), .ref (v 17), .ref (v 18), .int 0, .int 0, .int 0, .ref (v 19), .ref (v 20), .ref (v 21), .ref (v 22), .ref (v 23), .int 0, .int 0, .int 0, .int 0])), (a, .inl (cy 0, 120, .inl (fun _ => 0)))]) H := hP
  have hD : va_D A (toldW cy v ++ [((v 0), .inr (13, [.int 0, .int 0, .int 0, .int (-1), .int 0, .int 0, .int 0, .int 0, .ref (v 1), .ref (v 2), .ref (v 3), .ref (v 4), .ref (v 5), .ref (v 6), .ref (v 7), .ref (v 8), .ref (v 9), .int 0, .int 0, .int 0, .int 0, .int 0, .int 0, .int 0, .int 0, .int 0, .ref (v 10), .ref (v 11), .ref (v 12), .ref (v 13), .int 94, .ref (v 14), .ref (v 15), .ref (v 16), .ref (v 17), .ref (v 18), .int 0, .int 0, .int 0, .ref (v 19), .ref (v 20), .ref (v 21), .ref (v 22), .ref (v 23), .int 0, .int 0, .int 0, .int 0])), (a, .inl (cy 0, 120, .inl (fun _ => 0)))]) := hD
  obtain rfl : r153 = 0 := hwu154
  refine k_iast0 hx hb hG.1 hP hD hS 25 0 rfl rfl (by unfold vp_in; decide) dX12_movesTold_68 (fun H locs hP hD hS => ?_)
  refine lv_iinc (v := 2) (lv' := [(4, .int 2), (3, .int 24), (0, .ref (v 0)), (1, .ref a), (2, .int b)]) hx hb dX12_movesTold_69 hl (k := 0) rfl (by decide) (by decide) rfl (fun ls hl => ?_)
  refine lv_goto (tgt := 39) hx hb dX12_movesTold_72 (by decide) ?_
  refine lv_iload hx hb dX12_movesTold_39 (lv_at hl 0 rfl) ?_
  refine lv_iconst (v := 2) hx hb dX12_movesTold_41 (by decide) ?_
  refine lv_icmp_ge (tgt := 75) hx hb dX12_movesTold_42 (by decide) (fun _ => ?_) (fun h => absurd (by decide) h)
  refine lv_iinc (v := 25) (lv' := [(3, .int 25), (4, .int 2), (0, .ref (v 0)), (1, .ref a), (2, .int b)]) hx hb dX12_movesTold_75 hl (k := 1) rfl (by decide) (by decide) rfl (fun ls hl => ?_)
  refine lv_goto (tgt := 30) hx hb dX12_movesTold_78 (by decide) ?_
  refine lv_iload_n hx hb dX12_movesTold_30 rfl (lv_at hl 0 rfl) ?_
  refine lv_bipush (v := 30) hx hb dX12_movesTold_31 (by decide) ?_
  refine lv_icmp_ge (tgt := 81) hx hb dX12_movesTold_33 (by decide) (fun h => absurd h (by decide)) (fun _ => ?_)
  refine lv_iconst (v := 0) hx hb dX12_movesTold_36 (by decide) ?_
  refine lv_istore (lv' := [(4, .int 0), (3, .int 25), (0, .ref (v 0)), (1, .ref a), (2, .int b)]) hx hb dX12_movesTold_37 hl (by decide) rfl (fun ls hl => ?_)
  refine lv_iload hx hb dX12_movesTold_39 (lv_at hl 0 rfl) ?_
  refine lv_iconst (v := 2) hx hb dX12_movesTold_41 (by decide) ?_
  refine lv_icmp_ge (tgt := 75) hx hb dX12_movesTold_42 (by decide) (fun h => absurd h (by decide)) (fun _ => ?_)
  refine lv_aload_n hx hb dX12_movesTold_45 rfl (lv_at hl 2 rfl) ?_
  refine va_get (D := D) (ci := 13) (v := .ref (v 10)) (C := RX12) (T := TX12) (N := 48) hx hb hts kin_RX12 hown hG.1 hP 38 rfl rfl 26 (by decide) (hts _ wm_1545) (fun _ h9 => h9) rfl dX12_movesTold_46 ?_
  refine lv_iload_n hx hb dX12_movesTold_49 rfl (lv_at hl 1 rfl) ?_
  refine k_aldA hx hb hG.1 hP 0 rfl (by unfold vp_in; decide) dX12_movesTold_50 ?_
  refine W.eq (g2 := F0 m 51 ls [.ref ((v 10) + 1 + 25)]) rfl ?_
  refine lv_iload hx hb dX12_movesTold_51 (lv_at hl 0 rfl) ?_
  refine lv_aload_n hx hb dX12_movesTold_53 rfl (lv_at hl 2 rfl) ?_
  refine lv_aload_n hx hb dX12_movesTold_54 rfl (lv_at hl 3 rfl) ?_
  refine lv_aload_n hx hb dX12_movesTold_55 rfl (lv_at hl 2 rfl) ?_
  refine va_get (D := D) (ci := 13) (v := .ref (v 10)) (C := RX12) (T := TX12) (N := 48) hx hb hts kin_RX12 hown hG.1 hP 38 rfl rfl 26 (by decide) (hts _ wm_1545) (fun _ h9 => h9) rfl dX12_movesTold_56 ?_
  refine lv_iload_n hx hb dX12_movesTold_59 rfl (lv_at hl 1 rfl) ?_
  refine k_aldA hx hb hG.1 hP 0 rfl (by unfold vp_in; decide) dX12_movesTold_60 ?_
  refine W.eq (g2 := F0 m 61 ls [.ref ((v 10) + 1 + 25), .ref a, .ref (v 0), .int 0, .ref ((v 10) + 1 + 25)]) rfl ?_
  refine lv_iload hx hb dX12_movesTold_61 (lv_at hl 0 rfl) ?_
  refine va_iald hx hb hG.1 hP 26 0 rfl rfl (by unfold vp_in; decide) dX12_movesTold_63 ?_
  refine lv_topi (fun x155 ex155 => ?_)
  obtain rfl : x155 = 0 := ex155.trans (rfl)
  refine lv_iload_n hx hb dX12_movesTold_64 rfl (lv_at hl 4 rfl) ?_
  refine k_cali [0, 1, 2, 3, 4, 5, 6, 7, 8, 9, 10, 11, 12, 13, 14, 15, 16, 17, 18, 19, 20, 21, 22, 23, 24, 25, 26, 27, 28, 29, 30, 31, 32, 33, 34, 35, 36, 37] (⟨hP, hD, hG, hS, hA, rfl, rfl⟩ : kAt D cy sa A s H _ _ [((v 0), .inr (13, [.int 0, .int 0, .int 0, .int (-1), .int 0, .int 0, .int 0, .int 0, .ref (v 1), .ref (v 2), .ref (v 3), .ref (v 4), .ref (v 5), .ref (v 6), .ref (v 7), .ref (v 8), .ref (v 9), .int 0, .int 0, .int 0, .int 0, .int 0, .int 0, .int 0, .int 0, .int 0, .ref (v 10), .ref (v 11), .ref (v 12), .ref (v 13), .int 94, .ref (v 14), .ref (v 15), .ref (v 16), .ref (v 17), .ref (v 18), .int 0, .int 0, .int 0, .ref (v 19), .ref (v 20), .ref (v 21), .ref (v 22), .ref (v 23), .int 0, .int 0, .int 0, .int 0])), (a, .inl (cy 0, 120, .inl (fun _ => 0)))] [38, 39]) (wr := (toldW cy v ++ [])) rfl rfl (by decide) (k_runV 13 38 (As := [.ref a, .int 0, .int b]) (rest := [.int 0, .ref ((v 10) + 1 + 25)]) E lk_VRX12_251 rfl rfl rfl (m_moves l hl0 D cy sa v a 0 94 (by unfold vp_in; decide) b H.size) (⟨hP, hD, hG, hS, hA, rfl, rfl⟩ : kAt D cy sa A s H _ _ [((v 0), .inr (13, [.int 0, .int 0, .int 0, .int (-1), .int 0, .int 0, .int 0, .int 0, .ref (v 1), .ref (v 2), .ref (v 3), .ref (v 4), .ref (v 5), .ref (v 6), .ref (v 7), .ref (v 8), .ref (v 9), .int 0, .int 0, .int 0, .int 0, .int 0, .int 0, .int 0, .int 0, .int 0, .ref (v 10), .ref (v 11), .ref (v 12), .ref (v 13), .int 94, .ref (v 14), .ref (v 15), .ref (v 16), .ref (v 17), .ref (v 18), .int 0, .int 0, .int 0, .ref (v 19), .ref (v 20), .ref (v 21), .ref (v 22), .ref (v 23), .int 0, .int 0, .int 0, .int 0])), (a, .inl (cy 0, 120, .inl (fun _ => 0)))] [38, 39]) hl.1 rfl rfl ⟨rfl, rfl, ⟨Nat.le_of_ble_eq_true rfl, Nat.le_of_ble_eq_true rfl⟩, ⟨Nat.le_of_ble_eq_true rfl, Nat.le_of_ble_eq_true rfl⟩, Nat.le_of_ble_eq_true rfl⟩ dX12_movesTold_65) (fun r156 u157 H locs hwu157 hP hD hS => ?_)
  have hP : va_P D vwCl (toldW cy v ++ [((v 0), .inr (13, [.int 0, .int 0, .int 0, .int (-1), .int 0, .int 0, .int 0, .int 0, .ref (v 1), .ref (v 2), .ref (v 3), .ref (v 4), .ref (v 5), .ref (v 6), .ref (v 7), .ref (v 8), .ref (v 9), .int 0, .int 0, .int 0, .int 0, .int 0, .int 0, .int 0, .int 0, .int 0, .ref (v 10), .ref (v 11), .ref (v 12), .ref (v 13), .int 95, .ref (v 14), .ref (v 15), .ref (v 16), .ref (v 17), .ref (v 18), .int 0, .int 0, .int 0, .ref (v 19), .ref (v 20), .ref (v 21), .ref (v 22), .ref (v 23), .int 0, .int 0, .int 0, .int 0])), (a, .inl (cy 0, 120, .inl (fun _ => 0)))]) H := hP
  have hD : va_D A (toldW cy v ++ [((v 0), .inr (13, [.int 0, .int 0, .int 0, .int (-1), .int 0, .int 0, .int 0, .int 0, .ref (v 1), .ref (v 2), .ref (v 3), .ref (v 4), .ref (v 5), .ref (v 6), .ref (v 7), .ref (v 8), .ref (v 9), .int 0, .int 0, .int 0, .int 0, .int 0, .int 0, .int 0, .int 0, .int 0, .ref (v 10), .ref (v 11), .ref (v 12), .ref (v 13), .int 95, .ref (v 14), .ref (v 15), .ref (v 16), .ref (v 17), .ref (v 18), .int 0, .int 0, .int 0, .ref (v 19), .ref (v 20), .ref (v 21), .ref (v 22), .ref (v 23), .int 0, .int 0, .int 0, .int 0])), (a, .inl (cy 0, 120, .inl (fun _ => 0)))]) := hD
  obtain rfl : r156 = 0 := hwu157
  refine k_iast0 hx hb hG.1 hP hD hS 26 0 rfl rfl (by unfold vp_in; decide) dX12_movesTold_68 (fun H locs hP hD hS => ?_)
  refine lv_iinc (v := 1) (lv' := [(4, .int 1), (3, .int 25), (0, .ref (v 0)), (1, .ref a), (2, .int b)]) hx hb dX12_movesTold_69 hl (k := 0) rfl (by decide) (by decide) rfl (fun ls hl => ?_)
  refine lv_goto (tgt := 39) hx hb dX12_movesTold_72 (by decide) ?_
  refine lv_iload hx hb dX12_movesTold_39 (lv_at hl 0 rfl) ?_
  refine lv_iconst (v := 2) hx hb dX12_movesTold_41 (by decide) ?_
  refine lv_icmp_ge (tgt := 75) hx hb dX12_movesTold_42 (by decide) (fun h => absurd h (by decide)) (fun _ => ?_)
  refine lv_aload_n hx hb dX12_movesTold_45 rfl (lv_at hl 2 rfl) ?_
  refine va_get (D := D) (ci := 13) (v := .ref (v 10)) (C := RX12) (T := TX12) (N := 48) hx hb hts kin_RX12 hown hG.1 hP 38 rfl rfl 26 (by decide) (hts _ wm_1545) (fun _ h9 => h9) rfl dX12_movesTold_46 ?_
  refine lv_iload_n hx hb dX12_movesTold_49 rfl (lv_at hl 1 rfl) ?_
  refine k_aldA hx hb hG.1 hP 0 rfl (by unfold vp_in; decide) dX12_movesTold_50 ?_
  refine W.eq (g2 := F0 m 51 ls [.ref ((v 10) + 1 + 25)]) rfl ?_
  refine lv_iload hx hb dX12_movesTold_51 (lv_at hl 0 rfl) ?_
  refine lv_aload_n hx hb dX12_movesTold_53 rfl (lv_at hl 2 rfl) ?_
  refine lv_aload_n hx hb dX12_movesTold_54 rfl (lv_at hl 3 rfl) ?_
  refine lv_aload_n hx hb dX12_movesTold_55 rfl (lv_at hl 2 rfl) ?_
  refine va_get (D := D) (ci := 13) (v := .ref (v 10)) (C := RX12) (T := TX12) (N := 48) hx hb hts kin_RX12 hown hG.1 hP 38 rfl rfl 26 (by decide) (hts _ wm_1545) (fun _ h9 => h9) rfl dX12_movesTold_56 ?_
  refine lv_iload_n hx hb dX12_movesTold_59 rfl (lv_at hl 1 rfl) ?_
  refine k_aldA hx hb hG.1 hP 0 rfl (by unfold vp_in; decide) dX12_movesTold_60 ?_
  refine W.eq (g2 := F0 m 61 ls [.ref ((v 10) + 1 + 25), .ref a, .ref (v 0), .int 1, .ref ((v 10) + 1 + 25)]) rfl ?_
  refine lv_iload hx hb dX12_movesTold_61 (lv_at hl 0 rfl) ?_
  refine va_iald hx hb hG.1 hP 26 0 rfl rfl (by unfold vp_in; decide) dX12_movesTold_63 ?_
  refine lv_topi (fun x158 ex158 => ?_)
  obtain rfl : x158 = 0 := ex158.trans (rfl)
  refine lv_iload_n hx hb dX12_movesTold_64 rfl (lv_at hl 4 rfl) ?_
  refine k_cali [0, 1, 2, 3, 4, 5, 6, 7, 8, 9, 10, 11, 12, 13, 14, 15, 16, 17, 18, 19, 20, 21, 22, 23, 24, 25, 26, 27, 28, 29, 30, 31, 32, 33, 34, 35, 36, 37] (⟨hP, hD, hG, hS, hA, rfl, rfl⟩ : kAt D cy sa A s H _ _ [((v 0), .inr (13, [.int 0, .int 0, .int 0, .int (-1), .int 0, .int 0, .int 0, .int 0, .ref (v 1), .ref (v 2), .ref (v 3), .ref (v 4), .ref (v 5), .ref (v 6), .ref (v 7), .ref (v 8), .ref (v 9), .int 0, .int 0, .int 0, .int 0, .int 0, .int 0, .int 0, .int 0, .int 0, .ref (v 10), .ref (v 11), .ref (v 12), .ref (v 13), .int 95, .ref (v 14), .ref (v 15), .ref (v 16), .ref (v 17), .ref (v 18), .int 0, .int 0, .int 0, .ref (v 19), .ref (v 20), .ref (v 21), .ref (v 22), .ref (v 23), .int 0, .int 0, .int 0, .int 0])), (a, .inl (cy 0, 120, .inl (fun _ => 0)))] [38, 39]) (wr := (toldW cy v ++ [])) rfl rfl (by decide) (k_runV 13 38 (As := [.ref a, .int 0, .int b]) (rest := [.int 1, .ref ((v 10) + 1 + 25)]) E lk_VRX12_251 rfl rfl rfl (m_moves l hl0 D cy sa v a 0 95 (by unfold vp_in; decide) b H.size) (⟨hP, hD, hG, hS, hA, rfl, rfl⟩ : kAt D cy sa A s H _ _ [((v 0), .inr (13, [.int 0, .int 0, .int 0, .int (-1), .int 0, .int 0, .int 0, .int 0, .ref (v 1), .ref (v 2), .ref (v 3), .ref (v 4), .ref (v 5), .ref (v 6), .ref (v 7), .ref (v 8), .ref (v 9), .int 0, .int 0, .int 0, .int 0, .int 0, .int 0, .int 0, .int 0, .int 0, .ref (v 10), .ref (v 11), .ref (v 12), .ref (v 13), .int 95, .ref (v 14), .ref (v 15), .ref (v 16), .ref (v 17), .ref (v 18), .int 0, .int 0, .int 0, .ref (v 19), .ref (v 20), .ref (v 21), .ref (v 22), .ref (v 23), .int 0, .int 0, .int 0, .int 0])), (a, .inl (cy 0, 120, .inl (fun _ => 0)))] [38, 39]) hl.1 rfl rfl ⟨rfl, rfl, ⟨Nat.le_of_ble_eq_true rfl, Nat.le_of_ble_eq_true rfl⟩, ⟨Nat.le_of_ble_eq_true rfl, Nat.le_of_ble_eq_true rfl⟩, Nat.le_of_ble_eq_true rfl⟩ dX12_movesTold_65) (fun r159 u160 H locs hwu160 hP hD hS => ?_)
  have hP : va_P D vwCl (toldW cy v ++ [((v 0), .inr (13, [.int 0, .int 0, .int 0, .int (-1), .int 0, .int 0, .int 0, .int 0, .ref (v 1), .ref (v 2), .ref (v 3), .ref (v 4), .ref (v 5), .ref (v 6), .ref (v 7), .ref (v 8), .ref (v 9), .int 0, .int 0, .int 0, .int 0, .int 0, .int 0, .int 0, .int 0, .int 0, .ref (v 10), .ref (v 11), .ref (v 12), .ref (v 13), .int 96, .ref (v 14), .ref (v 15), .ref (v 16), .ref (v 17), .ref (v 18), .int 0, .int 0, .int 0, .ref (v 19), .ref (v 20), .ref (v 21), .ref (v 22), .ref (v 23), .int 0, .int 0, .int 0, .int 0])), (a, .inl (cy 0, 120, .inl (fun _ => 0)))]) H := hP
  have hD : va_D A (toldW cy v ++ [((v 0), .inr (13, [.int 0, .int 0, .int 0, .int (-1), .int 0, .int 0, .int 0, .int 0, .ref (v 1), .ref (v 2), .ref (v 3), .ref (v 4), .ref (v 5), .ref (v 6), .ref (v 7), .ref (v 8), .ref (v 9), .int 0, .int 0, .int 0, .int 0, .int 0, .int 0, .int 0, .int 0, .int 0, .ref (v 10), .ref (v 11), .ref (v 12), .ref (v 13), .int 96, .ref (v 14), .ref (v 15), .ref (v 16), .ref (v 17), .ref (v 18), .int 0, .int 0, .int 0, .ref (v 19), .ref (v 20), .ref (v 21), .ref (v 22), .ref (v 23), .int 0, .int 0, .int 0, .int 0])), (a, .inl (cy 0, 120, .inl (fun _ => 0)))]) := hD
  obtain rfl : r159 = 0 := hwu160
  refine k_iast0 hx hb hG.1 hP hD hS 26 0 rfl rfl (by unfold vp_in; decide) dX12_movesTold_68 (fun H locs hP hD hS => ?_)
  refine lv_iinc (v := 2) (lv' := [(4, .int 2), (3, .int 25), (0, .ref (v 0)), (1, .ref a), (2, .int b)]) hx hb dX12_movesTold_69 hl (k := 0) rfl (by decide) (by decide) rfl (fun ls hl => ?_)
  refine lv_goto (tgt := 39) hx hb dX12_movesTold_72 (by decide) ?_
  refine lv_iload hx hb dX12_movesTold_39 (lv_at hl 0 rfl) ?_
  refine lv_iconst (v := 2) hx hb dX12_movesTold_41 (by decide) ?_
  refine lv_icmp_ge (tgt := 75) hx hb dX12_movesTold_42 (by decide) (fun _ => ?_) (fun h => absurd (by decide) h)
  refine lv_iinc (v := 26) (lv' := [(3, .int 26), (4, .int 2), (0, .ref (v 0)), (1, .ref a), (2, .int b)]) hx hb dX12_movesTold_75 hl (k := 1) rfl (by decide) (by decide) rfl (fun ls hl => ?_)
  refine lv_goto (tgt := 30) hx hb dX12_movesTold_78 (by decide) ?_
  refine lv_iload_n hx hb dX12_movesTold_30 rfl (lv_at hl 0 rfl) ?_
  refine lv_bipush (v := 30) hx hb dX12_movesTold_31 (by decide) ?_
  refine lv_icmp_ge (tgt := 81) hx hb dX12_movesTold_33 (by decide) (fun h => absurd h (by decide)) (fun _ => ?_)
  refine lv_iconst (v := 0) hx hb dX12_movesTold_36 (by decide) ?_
  refine lv_istore (lv' := [(4, .int 0), (3, .int 26), (0, .ref (v 0)), (1, .ref a), (2, .int b)]) hx hb dX12_movesTold_37 hl (by decide) rfl (fun ls hl => ?_)
  refine lv_iload hx hb dX12_movesTold_39 (lv_at hl 0 rfl) ?_
  refine lv_iconst (v := 2) hx hb dX12_movesTold_41 (by decide) ?_
  refine lv_icmp_ge (tgt := 75) hx hb dX12_movesTold_42 (by decide) (fun h => absurd h (by decide)) (fun _ => ?_)
  refine lv_aload_n hx hb dX12_movesTold_45 rfl (lv_at hl 2 rfl) ?_
  refine va_get (D := D) (ci := 13) (v := .ref (v 10)) (C := RX12) (T := TX12) (N := 48) hx hb hts kin_RX12 hown hG.1 hP 38 rfl rfl 26 (by decide) (hts _ wm_1545) (fun _ h9 => h9) rfl dX12_movesTold_46 ?_
  refine lv_iload_n hx hb dX12_movesTold_49 rfl (lv_at hl 1 rfl) ?_
  refine k_aldA hx hb hG.1 hP 0 rfl (by unfold vp_in; decide) dX12_movesTold_50 ?_
  refine W.eq (g2 := F0 m 51 ls [.ref ((v 10) + 1 + 26)]) rfl ?_
  refine lv_iload hx hb dX12_movesTold_51 (lv_at hl 0 rfl) ?_
  refine lv_aload_n hx hb dX12_movesTold_53 rfl (lv_at hl 2 rfl) ?_
  refine lv_aload_n hx hb dX12_movesTold_54 rfl (lv_at hl 3 rfl) ?_
  refine lv_aload_n hx hb dX12_movesTold_55 rfl (lv_at hl 2 rfl) ?_
  refine va_get (D := D) (ci := 13) (v := .ref (v 10)) (C := RX12) (T := TX12) (N := 48) hx hb hts kin_RX12 hown hG.1 hP 38 rfl rfl 26 (by decide) (hts _ wm_1545) (fun _ h9 => h9) rfl dX12_movesTold_56 ?_
  refine lv_iload_n hx hb dX12_movesTold_59 rfl (lv_at hl 1 rfl) ?_
  refine k_aldA hx hb hG.1 hP 0 rfl (by unfold vp_in; decide) dX12_movesTold_60 ?_
  refine W.eq (g2 := F0 m 61 ls [.ref ((v 10) + 1 + 26), .ref a, .ref (v 0), .int 0, .ref ((v 10) + 1 + 26)]) rfl ?_
  refine lv_iload hx hb dX12_movesTold_61 (lv_at hl 0 rfl) ?_
  refine va_iald hx hb hG.1 hP 27 0 rfl rfl (by unfold vp_in; decide) dX12_movesTold_63 ?_
  refine lv_topi (fun x161 ex161 => ?_)
  obtain rfl : x161 = 0 := ex161.trans (rfl)
  refine lv_iload_n hx hb dX12_movesTold_64 rfl (lv_at hl 4 rfl) ?_
  refine k_cali [0, 1, 2, 3, 4, 5, 6, 7, 8, 9, 10, 11, 12, 13, 14, 15, 16, 17, 18, 19, 20, 21, 22, 23, 24, 25, 26, 27, 28, 29, 30, 31, 32, 33, 34, 35, 36, 37] (⟨hP, hD, hG, hS, hA, rfl, rfl⟩ : kAt D cy sa A s H _ _ [((v 0), .inr (13, [.int 0, .int 0, .int 0, .int (-1), .int 0, .int 0, .int 0, .int 0, .ref (v 1), .ref (v 2), .ref (v 3), .ref (v 4), .ref (v 5), .ref (v 6), .ref (v 7), .ref (v 8), .ref (v 9), .int 0, .int 0, .int 0, .int 0, .int 0, .int 0, .int 0, .int 0, .int 0, .ref (v 10), .ref (v 11), .ref (v 12), .ref (v 13), .int 96, .ref (v 14), .ref (v 15), .ref (v 16), .ref (v 17), .ref (v 18), .int 0, .int 0, .int 0, .ref (v 19), .ref (v 20), .ref (v 21), .ref (v 22), .ref (v 23), .int 0, .int 0, .int 0, .int 0])), (a, .inl (cy 0, 120, .inl (fun _ => 0)))] [38, 39]) (wr := (toldW cy v ++ [])) rfl rfl (by decide) (k_runV 13 38 (As := [.ref a, .int 0, .int b]) (rest := [.int 0, .ref ((v 10) + 1 + 26)]) E lk_VRX12_251 rfl rfl rfl (m_moves l hl0 D cy sa v a 0 96 (by unfold vp_in; decide) b H.size) (⟨hP, hD, hG, hS, hA, rfl, rfl⟩ : kAt D cy sa A s H _ _ [((v 0), .inr (13, [.int 0, .int 0, .int 0, .int (-1), .int 0, .int 0, .int 0, .int 0, .ref (v 1), .ref (v 2), .ref (v 3), .ref (v 4), .ref (v 5), .ref (v 6), .ref (v 7), .ref (v 8), .ref (v 9), .int 0, .int 0, .int 0, .int 0, .int 0, .int 0, .int 0, .int 0, .int 0, .ref (v 10), .ref (v 11), .ref (v 12), .ref (v 13), .int 96, .ref (v 14), .ref (v 15), .ref (v 16), .ref (v 17), .ref (v 18), .int 0, .int 0, .int 0, .ref (v 19), .ref (v 20), .ref (v 21), .ref (v 22), .ref (v 23), .int 0, .int 0, .int 0, .int 0])), (a, .inl (cy 0, 120, .inl (fun _ => 0)))] [38, 39]) hl.1 rfl rfl ⟨rfl, rfl, ⟨Nat.le_of_ble_eq_true rfl, Nat.le_of_ble_eq_true rfl⟩, ⟨Nat.le_of_ble_eq_true rfl, Nat.le_of_ble_eq_true rfl⟩, Nat.le_of_ble_eq_true rfl⟩ dX12_movesTold_65) (fun r162 u163 H locs hwu163 hP hD hS => ?_)
  have hP : va_P D vwCl (toldW cy v ++ [((v 0), .inr (13, [.int 0, .int 0, .int 0, .int (-1), .int 0, .int 0, .int 0, .int 0, .ref (v 1), .ref (v 2), .ref (v 3), .ref (v 4), .ref (v 5), .ref (v 6), .ref (v 7), .ref (v 8), .ref (v 9), .int 0, .int 0, .int 0, .int 0, .int 0, .int 0, .int 0, .int 0, .int 0, .ref (v 10), .ref (v 11), .ref (v 12), .ref (v 13), .int 97, .ref (v 14), .ref (v 15), .ref (v 16), .ref (v 17), .ref (v 18), .int 0, .int 0, .int 0, .ref (v 19), .ref (v 20), .ref (v 21), .ref (v 22), .ref (v 23), .int 0, .int 0, .int 0, .int 0])), (a, .inl (cy 0, 120, .inl (fun _ => 0)))]) H := hP
  have hD : va_D A (toldW cy v ++ [((v 0), .inr (13, [.int 0, .int 0, .int 0, .int (-1), .int 0, .int 0, .int 0, .int 0, .ref (v 1), .ref (v 2), .ref (v 3), .ref (v 4), .ref (v 5), .ref (v 6), .ref (v 7), .ref (v 8), .ref (v 9), .int 0, .int 0, .int 0, .int 0, .int 0, .int 0, .int 0, .int 0, .int 0, .ref (v 10), .ref (v 11), .ref (v 12), .ref (v 13), .int 97, .ref (v 14), .ref (v 15), .ref (v 16), .ref (v 17), .ref (v 18), .int 0, .int 0, .int 0, .ref (v 19), .ref (v 20), .ref (v 21), .ref (v 22), .ref (v 23), .int 0, .int 0, .int 0, .int 0])), (a, .inl (cy 0, 120, .inl (fun _ => 0)))]) := hD
  obtain rfl : r162 = 0 := hwu163
  refine k_iast0 hx hb hG.1 hP hD hS 27 0 rfl rfl (by unfold vp_in; decide) dX12_movesTold_68 (fun H locs hP hD hS => ?_)
  refine lv_iinc (v := 1) (lv' := [(4, .int 1), (3, .int 26), (0, .ref (v 0)), (1, .ref a), (2, .int b)]) hx hb dX12_movesTold_69 hl (k := 0) rfl (by decide) (by decide) rfl (fun ls hl => ?_)
  refine lv_goto (tgt := 39) hx hb dX12_movesTold_72 (by decide) ?_
  refine lv_iload hx hb dX12_movesTold_39 (lv_at hl 0 rfl) ?_
  refine lv_iconst (v := 2) hx hb dX12_movesTold_41 (by decide) ?_
  refine lv_icmp_ge (tgt := 75) hx hb dX12_movesTold_42 (by decide) (fun h => absurd h (by decide)) (fun _ => ?_)
  refine lv_aload_n hx hb dX12_movesTold_45 rfl (lv_at hl 2 rfl) ?_
  refine va_get (D := D) (ci := 13) (v := .ref (v 10)) (C := RX12) (T := TX12) (N := 48) hx hb hts kin_RX12 hown hG.1 hP 38 rfl rfl 26 (by decide) (hts _ wm_1545) (fun _ h9 => h9) rfl dX12_movesTold_46 ?_
  refine lv_iload_n hx hb dX12_movesTold_49 rfl (lv_at hl 1 rfl) ?_
  refine k_aldA hx hb hG.1 hP 0 rfl (by unfold vp_in; decide) dX12_movesTold_50 ?_
  refine W.eq (g2 := F0 m 51 ls [.ref ((v 10) + 1 + 26)]) rfl ?_
  refine lv_iload hx hb dX12_movesTold_51 (lv_at hl 0 rfl) ?_
  refine lv_aload_n hx hb dX12_movesTold_53 rfl (lv_at hl 2 rfl) ?_
  refine lv_aload_n hx hb dX12_movesTold_54 rfl (lv_at hl 3 rfl) ?_
  refine lv_aload_n hx hb dX12_movesTold_55 rfl (lv_at hl 2 rfl) ?_
  refine va_get (D := D) (ci := 13) (v := .ref (v 10)) (C := RX12) (T := TX12) (N := 48) hx hb hts kin_RX12 hown hG.1 hP 38 rfl rfl 26 (by decide) (hts _ wm_1545) (fun _ h9 => h9) rfl dX12_movesTold_56 ?_
  refine lv_iload_n hx hb dX12_movesTold_59 rfl (lv_at hl 1 rfl) ?_
  refine k_aldA hx hb hG.1 hP 0 rfl (by unfold vp_in; decide) dX12_movesTold_60 ?_
  refine W.eq (g2 := F0 m 61 ls [.ref ((v 10) + 1 + 26), .ref a, .ref (v 0), .int 1, .ref ((v 10) + 1 + 26)]) rfl ?_
  refine lv_iload hx hb dX12_movesTold_61 (lv_at hl 0 rfl) ?_
  refine va_iald hx hb hG.1 hP 27 0 rfl rfl (by unfold vp_in; decide) dX12_movesTold_63 ?_
  refine lv_topi (fun x164 ex164 => ?_)
  obtain rfl : x164 = 0 := ex164.trans (rfl)
  refine lv_iload_n hx hb dX12_movesTold_64 rfl (lv_at hl 4 rfl) ?_
  refine k_cali [0, 1, 2, 3, 4, 5, 6, 7, 8, 9, 10, 11, 12, 13, 14, 15, 16, 17, 18, 19, 20, 21, 22, 23, 24, 25, 26, 27, 28, 29, 30, 31, 32, 33, 34, 35, 36, 37] (⟨hP, hD, hG, hS, hA, rfl, rfl⟩ : kAt D cy sa A s H _ _ [((v 0), .inr (13, [.int 0, .int 0, .int 0, .int (-1), .int 0, .int 0, .int 0, .int 0, .ref (v 1), .ref (v 2), .ref (v 3), .ref (v 4), .ref (v 5), .ref (v 6), .ref (v 7), .ref (v 8), .ref (v 9), .int 0, .int 0, .int 0, .int 0, .int 0, .int 0, .int 0, .int 0, .int 0, .ref (v 10), .ref (v 11), .ref (v 12), .ref (v 13), .int 97, .ref (v 14), .ref (v 15), .ref (v 16), .ref (v 17), .ref (v 18), .int 0, .int 0, .int 0, .ref (v 19), .ref (v 20), .ref (v 21), .ref (v 22), .ref (v 23), .int 0, .int 0, .int 0, .int 0])), (a, .inl (cy 0, 120, .inl (fun _ => 0)))] [38, 39]) (wr := (toldW cy v ++ [])) rfl rfl (by decide) (k_runV 13 38 (As := [.ref a, .int 0, .int b]) (rest := [.int 1, .ref ((v 10) + 1 + 26)]) E lk_VRX12_251 rfl rfl rfl (m_moves l hl0 D cy sa v a 0 97 (by unfold vp_in; decide) b H.size) (⟨hP, hD, hG, hS, hA, rfl, rfl⟩ : kAt D cy sa A s H _ _ [((v 0), .inr (13, [.int 0, .int 0, .int 0, .int (-1), .int 0, .int 0, .int 0, .int 0, .ref (v 1), .ref (v 2), .ref (v 3), .ref (v 4), .ref (v 5), .ref (v 6), .ref (v 7), .ref (v 8), .ref (v 9), .int 0, .int 0, .int 0, .int 0, .int 0, .int 0, .int 0, .int 0, .int 0, .ref (v 10), .ref (v 11), .ref (v 12), .ref (v 13), .int 97, .ref (v 14), .ref (v 15), .ref (v 16), .ref (v 17), .ref (v 18), .int 0, .int 0, .int 0, .ref (v 19), .ref (v 20), .ref (v 21), .ref (v 22), .ref (v 23), .int 0, .int 0, .int 0, .int 0])), (a, .inl (cy 0, 120, .inl (fun _ => 0)))] [38, 39]) hl.1 rfl rfl ⟨rfl, rfl, ⟨Nat.le_of_ble_eq_true rfl, Nat.le_of_ble_eq_true rfl⟩, ⟨Nat.le_of_ble_eq_true rfl, Nat.le_of_ble_eq_true rfl⟩, Nat.le_of_ble_eq_true rfl⟩ dX12_movesTold_65) (fun r165 u166 H locs hwu166 hP hD hS => ?_)
  have hP : va_P D vwCl (toldW cy v ++ [((v 0), .inr (13, [.int 0, .int 0, .int 0, .int (-1), .int 0, .int 0, .int 0, .int 0, .ref (v 1), .ref (v 2), .ref (v 3), .ref (v 4), .ref (v 5), .ref (v 6), .ref (v 7), .ref (v 8), .ref (v 9), .int 0, .int 0, .int 0, .int 0, .int 0, .int 0, .int 0, .int 0, .int 0, .ref (v 10), .ref (v 11), .ref (v 12), .ref (v 13), .int 98, .ref (v 14), .ref (v 15), .ref (v 16), .ref (v 17), .ref (v 18), .int 0, .int 0, .int 0, .ref (v 19), .ref (v 20), .ref (v 21), .ref (v 22), .ref (v 23), .int 0, .int 0, .int 0, .int 0])), (a, .inl (cy 0, 120, .inl (fun _ => 0)))]) H := hP
  have hD : va_D A (toldW cy v ++ [((v 0), .inr (13, [.int 0, .int 0, .int 0, .int (-1), .int 0, .int 0, .int 0, .int 0, .ref (v 1), .ref (v 2), .ref (v 3), .ref (v 4), .ref (v 5), .ref (v 6), .ref (v 7), .ref (v 8), .ref (v 9), .int 0, .int 0, .int 0, .int 0, .int 0, .int 0, .int 0, .int 0, .int 0, .ref (v 10), .ref (v 11), .ref (v 12), .ref (v 13), .int 98, .ref (v 14), .ref (v 15), .ref (v 16), .ref (v 17), .ref (v 18), .int 0, .int 0, .int 0, .ref (v 19), .ref (v 20), .ref (v 21), .ref (v 22), .ref (v 23), .int 0, .int 0, .int 0, .int 0])), (a, .inl (cy 0, 120, .inl (fun _ => 0)))]) := hD
  obtain rfl : r165 = 0 := hwu166
  refine k_iast0 hx hb hG.1 hP hD hS 27 0 rfl rfl (by unfold vp_in; decide) dX12_movesTold_68 (fun H locs hP hD hS => ?_)
  refine lv_iinc (v := 2) (lv' := [(4, .int 2), (3, .int 26), (0, .ref (v 0)), (1, .ref a), (2, .int b)]) hx hb dX12_movesTold_69 hl (k := 0) rfl (by decide) (by decide) rfl (fun ls hl => ?_)
  refine lv_goto (tgt := 39) hx hb dX12_movesTold_72 (by decide) ?_
  refine lv_iload hx hb dX12_movesTold_39 (lv_at hl 0 rfl) ?_
  refine lv_iconst (v := 2) hx hb dX12_movesTold_41 (by decide) ?_
  refine lv_icmp_ge (tgt := 75) hx hb dX12_movesTold_42 (by decide) (fun _ => ?_) (fun h => absurd (by decide) h)
  refine lv_iinc (v := 27) (lv' := [(3, .int 27), (4, .int 2), (0, .ref (v 0)), (1, .ref a), (2, .int b)]) hx hb dX12_movesTold_75 hl (k := 1) rfl (by decide) (by decide) rfl (fun ls hl => ?_)
  refine lv_goto (tgt := 30) hx hb dX12_movesTold_78 (by decide) ?_
  refine lv_iload_n hx hb dX12_movesTold_30 rfl (lv_at hl 0 rfl) ?_
  refine lv_bipush (v := 30) hx hb dX12_movesTold_31 (by decide) ?_
  refine lv_icmp_ge (tgt := 81) hx hb dX12_movesTold_33 (by decide) (fun h => absurd h (by decide)) (fun _ => ?_)
  refine lv_iconst (v := 0) hx hb dX12_movesTold_36 (by decide) ?_
  refine lv_istore (lv' := [(4, .int 0), (3, .int 27), (0, .ref (v 0)), (1, .ref a), (2, .int b)]) hx hb dX12_movesTold_37 hl (by decide) rfl (fun ls hl => ?_)
  refine lv_iload hx hb dX12_movesTold_39 (lv_at hl 0 rfl) ?_
  refine lv_iconst (v := 2) hx hb dX12_movesTold_41 (by decide) ?_
  refine lv_icmp_ge (tgt := 75) hx hb dX12_movesTold_42 (by decide) (fun h => absurd h (by decide)) (fun _ => ?_)
  refine lv_aload_n hx hb dX12_movesTold_45 rfl (lv_at hl 2 rfl) ?_
  refine va_get (D := D) (ci := 13) (v := .ref (v 10)) (C := RX12) (T := TX12) (N := 48) hx hb hts kin_RX12 hown hG.1 hP 38 rfl rfl 26 (by decide) (hts _ wm_1545) (fun _ h9 => h9) rfl dX12_movesTold_46 ?_
  refine lv_iload_n hx hb dX12_movesTold_49 rfl (lv_at hl 1 rfl) ?_
  refine k_aldA hx hb hG.1 hP 0 rfl (by unfold vp_in; decide) dX12_movesTold_50 ?_
  refine W.eq (g2 := F0 m 51 ls [.ref ((v 10) + 1 + 27)]) rfl ?_
  refine lv_iload hx hb dX12_movesTold_51 (lv_at hl 0 rfl) ?_
  refine lv_aload_n hx hb dX12_movesTold_53 rfl (lv_at hl 2 rfl) ?_
  refine lv_aload_n hx hb dX12_movesTold_54 rfl (lv_at hl 3 rfl) ?_
  refine lv_aload_n hx hb dX12_movesTold_55 rfl (lv_at hl 2 rfl) ?_
  refine va_get (D := D) (ci := 13) (v := .ref (v 10)) (C := RX12) (T := TX12) (N := 48) hx hb hts kin_RX12 hown hG.1 hP 38 rfl rfl 26 (by decide) (hts _ wm_1545) (fun _ h9 => h9) rfl dX12_movesTold_56 ?_
  refine lv_iload_n hx hb dX12_movesTold_59 rfl (lv_at hl 1 rfl) ?_
  refine k_aldA hx hb hG.1 hP 0 rfl (by unfold vp_in; decide) dX12_movesTold_60 ?_
  refine W.eq (g2 := F0 m 61 ls [.ref ((v 10) + 1 + 27), .ref a, .ref (v 0), .int 0, .ref ((v 10) + 1 + 27)]) rfl ?_
  refine lv_iload hx hb dX12_movesTold_61 (lv_at hl 0 rfl) ?_
  refine va_iald hx hb hG.1 hP 28 0 rfl rfl (by unfold vp_in; decide) dX12_movesTold_63 ?_
  refine lv_topi (fun x167 ex167 => ?_)
  obtain rfl : x167 = 0 := ex167.trans (rfl)
  refine lv_iload_n hx hb dX12_movesTold_64 rfl (lv_at hl 4 rfl) ?_
  refine k_cali [0, 1, 2, 3, 4, 5, 6, 7, 8, 9, 10, 11, 12, 13, 14, 15, 16, 17, 18, 19, 20, 21, 22, 23, 24, 25, 26, 27, 28, 29, 30, 31, 32, 33, 34, 35, 36, 37] (⟨hP, hD, hG, hS, hA, rfl, rfl⟩ : kAt D cy sa A s H _ _ [((v 0), .inr (13, [.int 0, .int 0, .int 0, .int (-1), .int 0, .int 0, .int 0, .int 0, .ref (v 1), .ref (v 2), .ref (v 3), .ref (v 4), .ref (v 5), .ref (v 6), .ref (v 7), .ref (v 8), .ref (v 9), .int 0, .int 0, .int 0, .int 0, .int 0, .int 0, .int 0, .int 0, .int 0, .ref (v 10), .ref (v 11), .ref (v 12), .ref (v 13), .int 98, .ref (v 14), .ref (v 15), .ref (v 16), .ref (v 17), .ref (v 18), .int 0, .int 0, .int 0, .ref (v 19), .ref (v 20), .ref (v 21), .ref (v 22), .ref (v 23), .int 0, .int 0, .int 0, .int 0])), (a, .inl (cy 0, 120, .inl (fun _ => 0)))] [38, 39]) (wr := (toldW cy v ++ [])) rfl rfl (by decide) (k_runV 13 38 (As := [.ref a, .int 0, .int b]) (rest := [.int 0, .ref ((v 10) + 1 + 27)]) E lk_VRX12_251 rfl rfl rfl (m_moves l hl0 D cy sa v a 0 98 (by unfold vp_in; decide) b H.size) (⟨hP, hD, hG, hS, hA, rfl, rfl⟩ : kAt D cy sa A s H _ _ [((v 0), .inr (13, [.int 0, .int 0, .int 0, .int (-1), .int 0, .int 0, .int 0, .int 0, .ref (v 1), .ref (v 2), .ref (v 3), .ref (v 4), .ref (v 5), .ref (v 6), .ref (v 7), .ref (v 8), .ref (v 9), .int 0, .int 0, .int 0, .int 0, .int 0, .int 0, .int 0, .int 0, .int 0, .ref (v 10), .ref (v 11), .ref (v 12), .ref (v 13), .int 98, .ref (v 14), .ref (v 15), .ref (v 16), .ref (v 17), .ref (v 18), .int 0, .int 0, .int 0, .ref (v 19), .ref (v 20), .ref (v 21), .ref (v 22), .ref (v 23), .int 0, .int 0, .int 0, .int 0])), (a, .inl (cy 0, 120, .inl (fun _ => 0)))] [38, 39]) hl.1 rfl rfl ⟨rfl, rfl, ⟨Nat.le_of_ble_eq_true rfl, Nat.le_of_ble_eq_true rfl⟩, ⟨Nat.le_of_ble_eq_true rfl, Nat.le_of_ble_eq_true rfl⟩, Nat.le_of_ble_eq_true rfl⟩ dX12_movesTold_65) (fun r168 u169 H locs hwu169 hP hD hS => ?_)
  have hP : va_P D vwCl (toldW cy v ++ [((v 0), .inr (13, [.int 0, .int 0, .int 0, .int (-1), .int 0, .int 0, .int 0, .int 0, .ref (v 1), .ref (v 2), .ref (v 3), .ref (v 4), .ref (v 5), .ref (v 6), .ref (v 7), .ref (v 8), .ref (v 9), .int 0, .int 0, .int 0, .int 0, .int 0, .int 0, .int 0, .int 0, .int 0, .ref (v 10), .ref (v 11), .ref (v 12), .ref (v 13), .int 99, .ref (v 14), .ref (v 15), .ref (v 16), .ref (v 17), .ref (v 18), .int 0, .int 0, .int 0, .ref (v 19), .ref (v 20), .ref (v 21), .ref (v 22), .ref (v 23), .int 0, .int 0, .int 0, .int 0])), (a, .inl (cy 0, 120, .inl (fun _ => 0)))]) H := hP
  have hD : va_D A (toldW cy v ++ [((v 0), .inr (13, [.int 0, .int 0, .int 0, .int (-1), .int 0, .int 0, .int 0, .int 0, .ref (v 1), .ref (v 2), .ref (v 3), .ref (v 4), .ref (v 5), .ref (v 6), .ref (v 7), .ref (v 8), .ref (v 9), .int 0, .int 0, .int 0, .int 0, .int 0, .int 0, .int 0, .int 0, .int 0, .ref (v 10), .ref (v 11), .ref (v 12), .ref (v 13), .int 99, .ref (v 14), .ref (v 15), .ref (v 16), .ref (v 17), .ref (v 18), .int 0, .int 0, .int 0, .ref (v 19), .ref (v 20), .ref (v 21), .ref (v 22), .ref (v 23), .int 0, .int 0, .int 0, .int 0])), (a, .inl (cy 0, 120, .inl (fun _ => 0)))]) := hD
  obtain rfl : r168 = 0 := hwu169
  refine k_iast0 hx hb hG.1 hP hD hS 28 0 rfl rfl (by unfold vp_in; decide) dX12_movesTold_68 (fun H locs hP hD hS => ?_)
  refine lv_iinc (v := 1) (lv' := [(4, .int 1), (3, .int 27), (0, .ref (v 0)), (1, .ref a), (2, .int b)]) hx hb dX12_movesTold_69 hl (k := 0) rfl (by decide) (by decide) rfl (fun ls hl => ?_)
  refine lv_goto (tgt := 39) hx hb dX12_movesTold_72 (by decide) ?_
  refine lv_iload hx hb dX12_movesTold_39 (lv_at hl 0 rfl) ?_
  refine lv_iconst (v := 2) hx hb dX12_movesTold_41 (by decide) ?_
  refine lv_icmp_ge (tgt := 75) hx hb dX12_movesTold_42 (by decide) (fun h => absurd h (by decide)) (fun _ => ?_)
  refine lv_aload_n hx hb dX12_movesTold_45 rfl (lv_at hl 2 rfl) ?_
  refine va_get (D := D) (ci := 13) (v := .ref (v 10)) (C := RX12) (T := TX12) (N := 48) hx hb hts kin_RX12 hown hG.1 hP 38 rfl rfl 26 (by decide) (hts _ wm_1545) (fun _ h9 => h9) rfl dX12_movesTold_46 ?_
  refine lv_iload_n hx hb dX12_movesTold_49 rfl (lv_at hl 1 rfl) ?_
  refine k_aldA hx hb hG.1 hP 0 rfl (by unfold vp_in; decide) dX12_movesTold_50 ?_
  refine W.eq (g2 := F0 m 51 ls [.ref ((v 10) + 1 + 27)]) rfl ?_
  refine lv_iload hx hb dX12_movesTold_51 (lv_at hl 0 rfl) ?_
  refine lv_aload_n hx hb dX12_movesTold_53 rfl (lv_at hl 2 rfl) ?_
  refine lv_aload_n hx hb dX12_movesTold_54 rfl (lv_at hl 3 rfl) ?_
  refine lv_aload_n hx hb dX12_movesTold_55 rfl (lv_at hl 2 rfl) ?_
  refine va_get (D := D) (ci := 13) (v := .ref (v 10)) (C := RX12) (T := TX12) (N := 48) hx hb hts kin_RX12 hown hG.1 hP 38 rfl rfl 26 (by decide) (hts _ wm_1545) (fun _ h9 => h9) rfl dX12_movesTold_56 ?_
  refine lv_iload_n hx hb dX12_movesTold_59 rfl (lv_at hl 1 rfl) ?_
  refine k_aldA hx hb hG.1 hP 0 rfl (by unfold vp_in; decide) dX12_movesTold_60 ?_
  refine W.eq (g2 := F0 m 61 ls [.ref ((v 10) + 1 + 27), .ref a, .ref (v 0), .int 1, .ref ((v 10) + 1 + 27)]) rfl ?_
  refine lv_iload hx hb dX12_movesTold_61 (lv_at hl 0 rfl) ?_
  refine va_iald hx hb hG.1 hP 28 0 rfl rfl (by unfold vp_in; decide) dX12_movesTold_63 ?_
  refine lv_topi (fun x170 ex170 => ?_)
  obtain rfl : x170 = 0 := ex170.trans (rfl)
  refine lv_iload_n hx hb dX12_movesTold_64 rfl (lv_at hl 4 rfl) ?_
  refine k_cali [0, 1, 2, 3, 4, 5, 6, 7, 8, 9, 10, 11, 12, 13, 14, 15, 16, 17, 18, 19, 20, 21, 22, 23, 24, 25, 26, 27, 28, 29, 30, 31, 32, 33, 34, 35, 36, 37] (⟨hP, hD, hG, hS, hA, rfl, rfl⟩ : kAt D cy sa A s H _ _ [((v 0), .inr (13, [.int 0, .int 0, .int 0, .int (-1), .int 0, .int 0, .int 0, .int 0, .ref (v 1), .ref (v 2), .ref (v 3), .ref (v 4), .ref (v 5), .ref (v 6), .ref (v 7), .ref (v 8), .ref (v 9), .int 0, .int 0, .int 0, .int 0, .int 0, .int 0, .int 0, .int 0, .int 0, .ref (v 10), .ref (v 11), .ref (v 12), .ref (v 13), .int 99, .ref (v 14), .ref (v 15), .ref (v 16), .ref (v 17), .ref (v 18), .int 0, .int 0, .int 0, .ref (v 19), .ref (v 20), .ref (v 21), .ref (v 22), .ref (v 23), .int 0, .int 0, .int 0, .int 0])), (a, .inl (cy 0, 120, .inl (fun _ => 0)))] [38, 39]) (wr := (toldW cy v ++ [])) rfl rfl (by decide) (k_runV 13 38 (As := [.ref a, .int 0, .int b]) (rest := [.int 1, .ref ((v 10) + 1 + 27)]) E lk_VRX12_251 rfl rfl rfl (m_moves l hl0 D cy sa v a 0 99 (by unfold vp_in; decide) b H.size) (⟨hP, hD, hG, hS, hA, rfl, rfl⟩ : kAt D cy sa A s H _ _ [((v 0), .inr (13, [.int 0, .int 0, .int 0, .int (-1), .int 0, .int 0, .int 0, .int 0, .ref (v 1), .ref (v 2), .ref (v 3), .ref (v 4), .ref (v 5), .ref (v 6), .ref (v 7), .ref (v 8), .ref (v 9), .int 0, .int 0, .int 0, .int 0, .int 0, .int 0, .int 0, .int 0, .int 0, .ref (v 10), .ref (v 11), .ref (v 12), .ref (v 13), .int 99, .ref (v 14), .ref (v 15), .ref (v 16), .ref (v 17), .ref (v 18), .int 0, .int 0, .int 0, .ref (v 19), .ref (v 20), .ref (v 21), .ref (v 22), .ref (v 23), .int 0, .int 0, .int 0, .int 0])), (a, .inl (cy 0, 120, .inl (fun _ => 0)))] [38, 39]) hl.1 rfl rfl ⟨rfl, rfl, ⟨Nat.le_of_ble_eq_true rfl, Nat.le_of_ble_eq_true rfl⟩, ⟨Nat.le_of_ble_eq_true rfl, Nat.le_of_ble_eq_true rfl⟩, Nat.le_of_ble_eq_true rfl⟩ dX12_movesTold_65) (fun r171 u172 H locs hwu172 hP hD hS => ?_)
  have hP : va_P D vwCl (toldW cy v ++ [((v 0), .inr (13, [.int 0, .int 0, .int 0, .int (-1), .int 0, .int 0, .int 0, .int 0, .ref (v 1), .ref (v 2), .ref (v 3), .ref (v 4), .ref (v 5), .ref (v 6), .ref (v 7), .ref (v 8), .ref (v 9), .int 0, .int 0, .int 0, .int 0, .int 0, .int 0, .int 0, .int 0, .int 0, .ref (v 10), .ref (v 11), .ref (v 12), .ref (v 13), .int 100, .ref (v 14), .ref (v 15), .ref (v 16), .ref (v 17), .ref (v 18), .int 0, .int 0, .int 0, .ref (v 19), .ref (v 20), .ref (v 21), .ref (v 22), .ref (v 23), .int 0, .int 0, .int 0, .int 0])), (a, .inl (cy 0, 120, .inl (fun _ => 0)))]) H := hP
  have hD : va_D A (toldW cy v ++ [((v 0), .inr (13, [.int 0, .int 0, .int 0, .int (-1), .int 0, .int 0, .int 0, .int 0, .ref (v 1), .ref (v 2), .ref (v 3), .ref (v 4), .ref (v 5), .ref (v 6), .ref (v 7), .ref (v 8), .ref (v 9), .int 0, .int 0, .int 0, .int 0, .int 0, .int 0, .int 0, .int 0, .int 0, .ref (v 10), .ref (v 11), .ref (v 12), .ref (v 13), .int 100, .ref (v 14), .ref (v 15), .ref (v 16), .ref (v 17), .ref (v 18), .int 0, .int 0, .int 0, .ref (v 19), .ref (v 20), .ref (v 21), .ref (v 22), .ref (v 23), .int 0, .int 0, .int 0, .int 0])), (a, .inl (cy 0, 120, .inl (fun _ => 0)))]) := hD
  obtain rfl : r171 = 0 := hwu172
  refine k_iast0 hx hb hG.1 hP hD hS 28 0 rfl rfl (by unfold vp_in; decide) dX12_movesTold_68 (fun H locs hP hD hS => ?_)
  refine lv_iinc (v := 2) (lv' := [(4, .int 2), (3, .int 27), (0, .ref (v 0)), (1, .ref a), (2, .int b)]) hx hb dX12_movesTold_69 hl (k := 0) rfl (by decide) (by decide) rfl (fun ls hl => ?_)
  refine lv_goto (tgt := 39) hx hb dX12_movesTold_72 (by decide) ?_
  refine lv_iload hx hb dX12_movesTold_39 (lv_at hl 0 rfl) ?_
  refine lv_iconst (v := 2) hx hb dX12_movesTold_41 (by decide) ?_
  refine lv_icmp_ge (tgt := 75) hx hb dX12_movesTold_42 (by decide) (fun _ => ?_) (fun h => absurd (by decide) h)
  refine lv_iinc (v := 28) (lv' := [(3, .int 28), (4, .int 2), (0, .ref (v 0)), (1, .ref a), (2, .int b)]) hx hb dX12_movesTold_75 hl (k := 1) rfl (by decide) (by decide) rfl (fun ls hl => ?_)
  refine lv_goto (tgt := 30) hx hb dX12_movesTold_78 (by decide) ?_
  refine lv_iload_n hx hb dX12_movesTold_30 rfl (lv_at hl 0 rfl) ?_
  refine lv_bipush (v := 30) hx hb dX12_movesTold_31 (by decide) ?_
  refine lv_icmp_ge (tgt := 81) hx hb dX12_movesTold_33 (by decide) (fun h => absurd h (by decide)) (fun _ => ?_)
  refine lv_iconst (v := 0) hx hb dX12_movesTold_36 (by decide) ?_
  refine lv_istore (lv' := [(4, .int 0), (3, .int 28), (0, .ref (v 0)), (1, .ref a), (2, .int b)]) hx hb dX12_movesTold_37 hl (by decide) rfl (fun ls hl => ?_)
  refine lv_iload hx hb dX12_movesTold_39 (lv_at hl 0 rfl) ?_
  refine lv_iconst (v := 2) hx hb dX12_movesTold_41 (by decide) ?_
  refine lv_icmp_ge (tgt := 75) hx hb dX12_movesTold_42 (by decide) (fun h => absurd h (by decide)) (fun _ => ?_)
  refine lv_aload_n hx hb dX12_movesTold_45 rfl (lv_at hl 2 rfl) ?_
  refine va_get (D := D) (ci := 13) (v := .ref (v 10)) (C := RX12) (T := TX12) (N := 48) hx hb hts kin_RX12 hown hG.1 hP 38 rfl rfl 26 (by decide) (hts _ wm_1545) (fun _ h9 => h9) rfl dX12_movesTold_46 ?_
  refine lv_iload_n hx hb dX12_movesTold_49 rfl (lv_at hl 1 rfl) ?_
  refine k_aldA hx hb hG.1 hP 0 rfl (by unfold vp_in; decide) dX12_movesTold_50 ?_
  refine W.eq (g2 := F0 m 51 ls [.ref ((v 10) + 1 + 28)]) rfl ?_
  refine lv_iload hx hb dX12_movesTold_51 (lv_at hl 0 rfl) ?_
  refine lv_aload_n hx hb dX12_movesTold_53 rfl (lv_at hl 2 rfl) ?_
  refine lv_aload_n hx hb dX12_movesTold_54 rfl (lv_at hl 3 rfl) ?_
  refine lv_aload_n hx hb dX12_movesTold_55 rfl (lv_at hl 2 rfl) ?_
  refine va_get (D := D) (ci := 13) (v := .ref (v 10)) (C := RX12) (T := TX12) (N := 48) hx hb hts kin_RX12 hown hG.1 hP 38 rfl rfl 26 (by decide) (hts _ wm_1545) (fun _ h9 => h9) rfl dX12_movesTold_56 ?_
  refine lv_iload_n hx hb dX12_movesTold_59 rfl (lv_at hl 1 rfl) ?_
  refine k_aldA hx hb hG.1 hP 0 rfl (by unfold vp_in; decide) dX12_movesTold_60 ?_
  refine W.eq (g2 := F0 m 61 ls [.ref ((v 10) + 1 + 28), .ref a, .ref (v 0), .int 0, .ref ((v 10) + 1 + 28)]) rfl ?_
  refine lv_iload hx hb dX12_movesTold_61 (lv_at hl 0 rfl) ?_
  refine va_iald hx hb hG.1 hP 29 0 rfl rfl (by unfold vp_in; decide) dX12_movesTold_63 ?_
  refine lv_topi (fun x173 ex173 => ?_)
  obtain rfl : x173 = 0 := ex173.trans (rfl)
  refine lv_iload_n hx hb dX12_movesTold_64 rfl (lv_at hl 4 rfl) ?_
  refine k_cali [0, 1, 2, 3, 4, 5, 6, 7, 8, 9, 10, 11, 12, 13, 14, 15, 16, 17, 18, 19, 20, 21, 22, 23, 24, 25, 26, 27, 28, 29, 30, 31, 32, 33, 34, 35, 36, 37] (⟨hP, hD, hG, hS, hA, rfl, rfl⟩ : kAt D cy sa A s H _ _ [((v 0), .inr (13, [.int 0, .int 0, .int 0, .int (-1), .int 0, .int 0, .int 0, .int 0, .ref (v 1), .ref (v 2), .ref (v 3), .ref (v 4), .ref (v 5), .ref (v 6), .ref (v 7), .ref (v 8), .ref (v 9), .int 0, .int 0, .int 0, .int 0, .int 0, .int 0, .int 0, .int 0, .int 0, .ref (v 10), .ref (v 11), .ref (v 12), .ref (v 13), .int 100, .ref (v 14), .ref (v 15), .ref (v 16), .ref (v 17), .ref (v 18), .int 0, .int 0, .int 0, .ref (v 19), .ref (v 20), .ref (v 21), .ref (v 22), .ref (v 23), .int 0, .int 0, .int 0, .int 0])), (a, .inl (cy 0, 120, .inl (fun _ => 0)))] [38, 39]) (wr := (toldW cy v ++ [])) rfl rfl (by decide) (k_runV 13 38 (As := [.ref a, .int 0, .int b]) (rest := [.int 0, .ref ((v 10) + 1 + 28)]) E lk_VRX12_251 rfl rfl rfl (m_moves l hl0 D cy sa v a 0 100 (by unfold vp_in; decide) b H.size) (⟨hP, hD, hG, hS, hA, rfl, rfl⟩ : kAt D cy sa A s H _ _ [((v 0), .inr (13, [.int 0, .int 0, .int 0, .int (-1), .int 0, .int 0, .int 0, .int 0, .ref (v 1), .ref (v 2), .ref (v 3), .ref (v 4), .ref (v 5), .ref (v 6), .ref (v 7), .ref (v 8), .ref (v 9), .int 0, .int 0, .int 0, .int 0, .int 0, .int 0, .int 0, .int 0, .int 0, .ref (v 10), .ref (v 11), .ref (v 12), .ref (v 13), .int 100, .ref (v 14), .ref (v 15), .ref (v 16), .ref (v 17), .ref (v 18), .int 0, .int 0, .int 0, .ref (v 19), .ref (v 20), .ref (v 21), .ref (v 22), .ref (v 23), .int 0, .int 0, .int 0, .int 0])), (a, .inl (cy 0, 120, .inl (fun _ => 0)))] [38, 39]) hl.1 rfl rfl ⟨rfl, rfl, ⟨Nat.le_of_ble_eq_true rfl, Nat.le_of_ble_eq_true rfl⟩, ⟨Nat.le_of_ble_eq_true rfl, Nat.le_of_ble_eq_true rfl⟩, Nat.le_of_ble_eq_true rfl⟩ dX12_movesTold_65) (fun r174 u175 H locs hwu175 hP hD hS => ?_)
  have hP : va_P D vwCl (toldW cy v ++ [((v 0), .inr (13, [.int 0, .int 0, .int 0, .int (-1), .int 0, .int 0, .int 0, .int 0, .ref (v 1), .ref (v 2), .ref (v 3), .ref (v 4), .ref (v 5), .ref (v 6), .ref (v 7), .ref (v 8), .ref (v 9), .int 0, .int 0, .int 0, .int 0, .int 0, .int 0, .int 0, .int 0, .int 0, .ref (v 10), .ref (v 11), .ref (v 12), .ref (v 13), .int 101, .ref (v 14), .ref (v 15), .ref (v 16), .ref (v 17), .ref (v 18), .int 0, .int 0, .int 0, .ref (v 19), .ref (v 20), .ref (v 21), .ref (v 22), .ref (v 23), .int 0, .int 0, .int 0, .int 0])), (a, .inl (cy 0, 120, .inl (fun _ => 0)))]) H := hP
  have hD : va_D A (toldW cy v ++ [((v 0), .inr (13, [.int 0, .int 0, .int 0, .int (-1), .int 0, .int 0, .int 0, .int 0, .ref (v 1), .ref (v 2), .ref (v 3), .ref (v 4), .ref (v 5), .ref (v 6), .ref (v 7), .ref (v 8), .ref (v 9), .int 0, .int 0, .int 0, .int 0, .int 0, .int 0, .int 0, .int 0, .int 0, .ref (v 10), .ref (v 11), .ref (v 12), .ref (v 13), .int 101, .ref (v 14), .ref (v 15), .ref (v 16), .ref (v 17), .ref (v 18), .int 0, .int 0, .int 0, .ref (v 19), .ref (v 20), .ref (v 21), .ref (v 22), .ref (v 23), .int 0, .int 0, .int 0, .int 0])), (a, .inl (cy 0, 120, .inl (fun _ => 0)))]) := hD
  obtain rfl : r174 = 0 := hwu175
  refine k_iast0 hx hb hG.1 hP hD hS 29 0 rfl rfl (by unfold vp_in; decide) dX12_movesTold_68 (fun H locs hP hD hS => ?_)
  refine lv_iinc (v := 1) (lv' := [(4, .int 1), (3, .int 28), (0, .ref (v 0)), (1, .ref a), (2, .int b)]) hx hb dX12_movesTold_69 hl (k := 0) rfl (by decide) (by decide) rfl (fun ls hl => ?_)
  refine lv_goto (tgt := 39) hx hb dX12_movesTold_72 (by decide) ?_
  refine lv_iload hx hb dX12_movesTold_39 (lv_at hl 0 rfl) ?_
  refine lv_iconst (v := 2) hx hb dX12_movesTold_41 (by decide) ?_
  refine lv_icmp_ge (tgt := 75) hx hb dX12_movesTold_42 (by decide) (fun h => absurd h (by decide)) (fun _ => ?_)
  refine lv_aload_n hx hb dX12_movesTold_45 rfl (lv_at hl 2 rfl) ?_
  refine va_get (D := D) (ci := 13) (v := .ref (v 10)) (C := RX12) (T := TX12) (N := 48) hx hb hts kin_RX12 hown hG.1 hP 38 rfl rfl 26 (by decide) (hts _ wm_1545) (fun _ h9 => h9) rfl dX12_movesTold_46 ?_
  refine lv_iload_n hx hb dX12_movesTold_49 rfl (lv_at hl 1 rfl) ?_
  refine k_aldA hx hb hG.1 hP 0 rfl (by unfold vp_in; decide) dX12_movesTold_50 ?_
  refine W.eq (g2 := F0 m 51 ls [.ref ((v 10) + 1 + 28)]) rfl ?_
  refine lv_iload hx hb dX12_movesTold_51 (lv_at hl 0 rfl) ?_
  refine lv_aload_n hx hb dX12_movesTold_53 rfl (lv_at hl 2 rfl) ?_
  refine lv_aload_n hx hb dX12_movesTold_54 rfl (lv_at hl 3 rfl) ?_
  refine lv_aload_n hx hb dX12_movesTold_55 rfl (lv_at hl 2 rfl) ?_
  refine va_get (D := D) (ci := 13) (v := .ref (v 10)) (C := RX12) (T := TX12) (N := 48) hx hb hts kin_RX12 hown hG.1 hP 38 rfl rfl 26 (by decide) (hts _ wm_1545) (fun _ h9 => h9) rfl dX12_movesTold_56 ?_
  refine lv_iload_n hx hb dX12_movesTold_59 rfl (lv_at hl 1 rfl) ?_
  refine k_aldA hx hb hG.1 hP 0 rfl (by unfold vp_in; decide) dX12_movesTold_60 ?_
  refine W.eq (g2 := F0 m 61 ls [.ref ((v 10) + 1 + 28), .ref a, .ref (v 0), .int 1, .ref ((v 10) + 1 + 28)]) rfl ?_
  refine lv_iload hx hb dX12_movesTold_61 (lv_at hl 0 rfl) ?_
  refine va_iald hx hb hG.1 hP 29 0 rfl rfl (by unfold vp_in; decide) dX12_movesTold_63 ?_
  refine lv_topi (fun x176 ex176 => ?_)
  obtain rfl : x176 = 0 := ex176.trans (rfl)
  refine lv_iload_n hx hb dX12_movesTold_64 rfl (lv_at hl 4 rfl) ?_
  refine k_cali [0, 1, 2, 3, 4, 5, 6, 7, 8, 9, 10, 11, 12, 13, 14, 15, 16, 17, 18, 19, 20, 21, 22, 23, 24, 25, 26, 27, 28, 29, 30, 31, 32, 33, 34, 35, 36, 37] (⟨hP, hD, hG, hS, hA, rfl, rfl⟩ : kAt D cy sa A s H _ _ [((v 0), .inr (13, [.int 0, .int 0, .int 0, .int (-1), .int 0, .int 0, .int 0, .int 0, .ref (v 1), .ref (v 2), .ref (v 3), .ref (v 4), .ref (v 5), .ref (v 6), .ref (v 7), .ref (v 8), .ref (v 9), .int 0, .int 0, .int 0, .int 0, .int 0, .int 0, .int 0, .int 0, .int 0, .ref (v 10), .ref (v 11), .ref (v 12), .ref (v 13), .int 101, .ref (v 14), .ref (v 15), .ref (v 16), .ref (v 17), .ref (v 18), .int 0, .int 0, .int 0, .ref (v 19), .ref (v 20), .ref (v 21), .ref (v 22), .ref (v 23), .int 0, .int 0, .int 0, .int 0])), (a, .inl (cy 0, 120, .inl (fun _ => 0)))] [38, 39]) (wr := (toldW cy v ++ [])) rfl rfl (by decide) (k_runV 13 38 (As := [.ref a, .int 0, .int b]) (rest := [.int 1, .ref ((v 10) + 1 + 28)]) E lk_VRX12_251 rfl rfl rfl (m_moves l hl0 D cy sa v a 0 101 (by unfold vp_in; decide) b H.size) (⟨hP, hD, hG, hS, hA, rfl, rfl⟩ : kAt D cy sa A s H _ _ [((v 0), .inr (13, [.int 0, .int 0, .int 0, .int (-1), .int 0, .int 0, .int 0, .int 0, .ref (v 1), .ref (v 2), .ref (v 3), .ref (v 4), .ref (v 5), .ref (v 6), .ref (v 7), .ref (v 8), .ref (v 9), .int 0, .int 0, .int 0, .int 0, .int 0, .int 0, .int 0, .int 0, .int 0, .ref (v 10), .ref (v 11), .ref (v 12), .ref (v 13), .int 101, .ref (v 14), .ref (v 15), .ref (v 16), .ref (v 17), .ref (v 18), .int 0, .int 0, .int 0, .ref (v 19), .ref (v 20), .ref (v 21), .ref (v 22), .ref (v 23), .int 0, .int 0, .int 0, .int 0])), (a, .inl (cy 0, 120, .inl (fun _ => 0)))] [38, 39]) hl.1 rfl rfl ⟨rfl, rfl, ⟨Nat.le_of_ble_eq_true rfl, Nat.le_of_ble_eq_true rfl⟩, ⟨Nat.le_of_ble_eq_true rfl, Nat.le_of_ble_eq_true rfl⟩, Nat.le_of_ble_eq_true rfl⟩ dX12_movesTold_65) (fun r177 u178 H locs hwu178 hP hD hS => ?_)
  have hP : va_P D vwCl (toldW cy v ++ [((v 0), .inr (13, [.int 0, .int 0, .int 0, .int (-1), .int 0, .int 0, .int 0, .int 0, .ref (v 1), .ref (v 2), .ref (v 3), .ref (v 4), .ref (v 5), .ref (v 6), .ref (v 7), .ref (v 8), .ref (v 9), .int 0, .int 0, .int 0, .int 0, .int 0, .int 0, .int 0, .int 0, .int 0, .ref (v 10), .ref (v 11), .ref (v 12), .ref (v 13), .int 102, .ref (v 14), .ref (v 15), .ref (v 16), .ref (v 17), .ref (v 18), .int 0, .int 0, .int 0, .ref (v 19), .ref (v 20), .ref (v 21), .ref (v 22), .ref (v 23), .int 0, .int 0, .int 0, .int 0])), (a, .inl (cy 0, 120, .inl (fun _ => 0)))]) H := hP
  have hD : va_D A (toldW cy v ++ [((v 0), .inr (13, [.int 0, .int 0, .int 0, .int (-1), .int 0, .int 0, .int 0, .int 0, .ref (v 1), .ref (v 2), .ref (v 3), .ref (v 4), .ref (v 5), .ref (v 6), .ref (v 7), .ref (v 8), .ref (v 9), .int 0, .int 0, .int 0, .int 0, .int 0, .int 0, .int 0, .int 0, .int 0, .ref (v 10), .ref (v 11), .ref (v 12), .ref (v 13), .int 102, .ref (v 14), .ref (v 15), .ref (v 16), .ref (v 17), .ref (v 18), .int 0, .int 0, .int 0, .ref (v 19), .ref (v 20), .ref (v 21), .ref (v 22), .ref (v 23), .int 0, .int 0, .int 0, .int 0])), (a, .inl (cy 0, 120, .inl (fun _ => 0)))]) := hD
  obtain rfl : r177 = 0 := hwu178
  refine k_iast0 hx hb hG.1 hP hD hS 29 0 rfl rfl (by unfold vp_in; decide) dX12_movesTold_68 (fun H locs hP hD hS => ?_)
  refine lv_iinc (v := 2) (lv' := [(4, .int 2), (3, .int 28), (0, .ref (v 0)), (1, .ref a), (2, .int b)]) hx hb dX12_movesTold_69 hl (k := 0) rfl (by decide) (by decide) rfl (fun ls hl => ?_)
  refine lv_goto (tgt := 39) hx hb dX12_movesTold_72 (by decide) ?_
  refine lv_iload hx hb dX12_movesTold_39 (lv_at hl 0 rfl) ?_
  refine lv_iconst (v := 2) hx hb dX12_movesTold_41 (by decide) ?_
  refine lv_icmp_ge (tgt := 75) hx hb dX12_movesTold_42 (by decide) (fun _ => ?_) (fun h => absurd (by decide) h)
  refine lv_iinc (v := 29) (lv' := [(3, .int 29), (4, .int 2), (0, .ref (v 0)), (1, .ref a), (2, .int b)]) hx hb dX12_movesTold_75 hl (k := 1) rfl (by decide) (by decide) rfl (fun ls hl => ?_)
  refine lv_goto (tgt := 30) hx hb dX12_movesTold_78 (by decide) ?_
  refine lv_iload_n hx hb dX12_movesTold_30 rfl (lv_at hl 0 rfl) ?_
  refine lv_bipush (v := 30) hx hb dX12_movesTold_31 (by decide) ?_
  refine lv_icmp_ge (tgt := 81) hx hb dX12_movesTold_33 (by decide) (fun h => absurd h (by decide)) (fun _ => ?_)
  refine lv_iconst (v := 0) hx hb dX12_movesTold_36 (by decide) ?_
  refine lv_istore (lv' := [(4, .int 0), (3, .int 29), (0, .ref (v 0)), (1, .ref a), (2, .int b)]) hx hb dX12_movesTold_37 hl (by decide) rfl (fun ls hl => ?_)
  refine lv_iload hx hb dX12_movesTold_39 (lv_at hl 0 rfl) ?_
  refine lv_iconst (v := 2) hx hb dX12_movesTold_41 (by decide) ?_
  refine lv_icmp_ge (tgt := 75) hx hb dX12_movesTold_42 (by decide) (fun h => absurd h (by decide)) (fun _ => ?_)
  refine lv_aload_n hx hb dX12_movesTold_45 rfl (lv_at hl 2 rfl) ?_
  refine va_get (D := D) (ci := 13) (v := .ref (v 10)) (C := RX12) (T := TX12) (N := 48) hx hb hts kin_RX12 hown hG.1 hP 38 rfl rfl 26 (by decide) (hts _ wm_1545) (fun _ h9 => h9) rfl dX12_movesTold_46 ?_
  refine lv_iload_n hx hb dX12_movesTold_49 rfl (lv_at hl 1 rfl) ?_
  refine k_aldA hx hb hG.1 hP 0 rfl (by unfold vp_in; decide) dX12_movesTold_50 ?_
  refine W.eq (g2 := F0 m 51 ls [.ref ((v 10) + 1 + 29)]) rfl ?_
  refine lv_iload hx hb dX12_movesTold_51 (lv_at hl 0 rfl) ?_
  refine lv_aload_n hx hb dX12_movesTold_53 rfl (lv_at hl 2 rfl) ?_
  refine lv_aload_n hx hb dX12_movesTold_54 rfl (lv_at hl 3 rfl) ?_
  refine lv_aload_n hx hb dX12_movesTold_55 rfl (lv_at hl 2 rfl) ?_
  refine va_get (D := D) (ci := 13) (v := .ref (v 10)) (C := RX12) (T := TX12) (N := 48) hx hb hts kin_RX12 hown hG.1 hP 38 rfl rfl 26 (by decide) (hts _ wm_1545) (fun _ h9 => h9) rfl dX12_movesTold_56 ?_
  refine lv_iload_n hx hb dX12_movesTold_59 rfl (lv_at hl 1 rfl) ?_
  refine k_aldA hx hb hG.1 hP 0 rfl (by unfold vp_in; decide) dX12_movesTold_60 ?_
  refine W.eq (g2 := F0 m 61 ls [.ref ((v 10) + 1 + 29), .ref a, .ref (v 0), .int 0, .ref ((v 10) + 1 + 29)]) rfl ?_
  refine lv_iload hx hb dX12_movesTold_61 (lv_at hl 0 rfl) ?_
  refine va_iald hx hb hG.1 hP 30 0 rfl rfl (by unfold vp_in; decide) dX12_movesTold_63 ?_
  refine lv_topi (fun x179 ex179 => ?_)
  obtain rfl : x179 = 0 := ex179.trans (rfl)
  refine lv_iload_n hx hb dX12_movesTold_64 rfl (lv_at hl 4 rfl) ?_
  refine k_cali [0, 1, 2, 3, 4, 5, 6, 7, 8, 9, 10, 11, 12, 13, 14, 15, 16, 17, 18, 19, 20, 21, 22, 23, 24, 25, 26, 27, 28, 29, 30, 31, 32, 33, 34, 35, 36, 37] (⟨hP, hD, hG, hS, hA, rfl, rfl⟩ : kAt D cy sa A s H _ _ [((v 0), .inr (13, [.int 0, .int 0, .int 0, .int (-1), .int 0, .int 0, .int 0, .int 0, .ref (v 1), .ref (v 2), .ref (v 3), .ref (v 4), .ref (v 5), .ref (v 6), .ref (v 7), .ref (v 8), .ref (v 9), .int 0, .int 0, .int 0, .int 0, .int 0, .int 0, .int 0, .int 0, .int 0, .ref (v 10), .ref (v 11), .ref (v 12), .ref (v 13), .int 102, .ref (v 14), .ref (v 15), .ref (v 16), .ref (v 17), .ref (v 18), .int 0, .int 0, .int 0, .ref (v 19), .ref (v 20), .ref (v 21), .ref (v 22), .ref (v 23), .int 0, .int 0, .int 0, .int 0])), (a, .inl (cy 0, 120, .inl (fun _ => 0)))] [38, 39]) (wr := (toldW cy v ++ [])) rfl rfl (by decide) (k_runV 13 38 (As := [.ref a, .int 0, .int b]) (rest := [.int 0, .ref ((v 10) + 1 + 29)]) E lk_VRX12_251 rfl rfl rfl (m_moves l hl0 D cy sa v a 0 102 (by unfold vp_in; decide) b H.size) (⟨hP, hD, hG, hS, hA, rfl, rfl⟩ : kAt D cy sa A s H _ _ [((v 0), .inr (13, [.int 0, .int 0, .int 0, .int (-1), .int 0, .int 0, .int 0, .int 0, .ref (v 1), .ref (v 2), .ref (v 3), .ref (v 4), .ref (v 5), .ref (v 6), .ref (v 7), .ref (v 8), .ref (v 9), .int 0, .int 0, .int 0, .int 0, .int 0, .int 0, .int 0, .int 0, .int 0, .ref (v 10), .ref (v 11), .ref (v 12), .ref (v 13), .int 102, .ref (v 14), .ref (v 15), .ref (v 16), .ref (v 17), .ref (v 18), .int 0, .int 0, .int 0, .ref (v 19), .ref (v 20), .ref (v 21), .ref (v 22), .ref (v 23), .int 0, .int 0, .int 0, .int 0])), (a, .inl (cy 0, 120, .inl (fun _ => 0)))] [38, 39]) hl.1 rfl rfl ⟨rfl, rfl, ⟨Nat.le_of_ble_eq_true rfl, Nat.le_of_ble_eq_true rfl⟩, ⟨Nat.le_of_ble_eq_true rfl, Nat.le_of_ble_eq_true rfl⟩, Nat.le_of_ble_eq_true rfl⟩ dX12_movesTold_65) (fun r180 u181 H locs hwu181 hP hD hS => ?_)
  have hP : va_P D vwCl (toldW cy v ++ [((v 0), .inr (13, [.int 0, .int 0, .int 0, .int (-1), .int 0, .int 0, .int 0, .int 0, .ref (v 1), .ref (v 2), .ref (v 3), .ref (v 4), .ref (v 5), .ref (v 6), .ref (v 7), .ref (v 8), .ref (v 9), .int 0, .int 0, .int 0, .int 0, .int 0, .int 0, .int 0, .int 0, .int 0, .ref (v 10), .ref (v 11), .ref (v 12), .ref (v 13), .int 103, .ref (v 14), .ref (v 15), .ref (v 16), .ref (v 17), .ref (v 18), .int 0, .int 0, .int 0, .ref (v 19), .ref (v 20), .ref (v 21), .ref (v 22), .ref (v 23), .int 0, .int 0, .int 0, .int 0])), (a, .inl (cy 0, 120, .inl (fun _ => 0)))]) H := hP
  have hD : va_D A (toldW cy v ++ [((v 0), .inr (13, [.int 0, .int 0, .int 0, .int (-1), .int 0, .int 0, .int 0, .int 0, .ref (v 1), .ref (v 2), .ref (v 3), .ref (v 4), .ref (v 5), .ref (v 6), .ref (v 7), .ref (v 8), .ref (v 9), .int 0, .int 0, .int 0, .int 0, .int 0, .int 0, .int 0, .int 0, .int 0, .ref (v 10), .ref (v 11), .ref (v 12), .ref (v 13), .int 103, .ref (v 14), .ref (v 15), .ref (v 16), .ref (v 17), .ref (v 18), .int 0, .int 0, .int 0, .ref (v 19), .ref (v 20), .ref (v 21), .ref (v 22), .ref (v 23), .int 0, .int 0, .int 0, .int 0])), (a, .inl (cy 0, 120, .inl (fun _ => 0)))]) := hD
  obtain rfl : r180 = 0 := hwu181
  refine k_iast0 hx hb hG.1 hP hD hS 30 0 rfl rfl (by unfold vp_in; decide) dX12_movesTold_68 (fun H locs hP hD hS => ?_)
  refine lv_iinc (v := 1) (lv' := [(4, .int 1), (3, .int 29), (0, .ref (v 0)), (1, .ref a), (2, .int b)]) hx hb dX12_movesTold_69 hl (k := 0) rfl (by decide) (by decide) rfl (fun ls hl => ?_)
  refine lv_goto (tgt := 39) hx hb dX12_movesTold_72 (by decide) ?_
  refine lv_iload hx hb dX12_movesTold_39 (lv_at hl 0 rfl) ?_
  refine lv_iconst (v := 2) hx hb dX12_movesTold_41 (by decide) ?_
  refine lv_icmp_ge (tgt := 75) hx hb dX12_movesTold_42 (by decide) (fun h => absurd h (by decide)) (fun _ => ?_)
  refine lv_aload_n hx hb dX12_movesTold_45 rfl (lv_at hl 2 rfl) ?_
  refine va_get (D := D) (ci := 13) (v := .ref (v 10)) (C := RX12) (T := TX12) (N := 48) hx hb hts kin_RX12 hown hG.1 hP 38 rfl rfl 26 (by decide) (hts _ wm_1545) (fun _ h9 => h9) rfl dX12_movesTold_46 ?_
  refine lv_iload_n hx hb dX12_movesTold_49 rfl (lv_at hl 1 rfl) ?_
  refine k_aldA hx hb hG.1 hP 0 rfl (by unfold vp_in; decide) dX12_movesTold_50 ?_
  refine W.eq (g2 := F0 m 51 ls [.ref ((v 10) + 1 + 29)]) rfl ?_
  refine lv_iload hx hb dX12_movesTold_51 (lv_at hl 0 rfl) ?_
  refine lv_aload_n hx hb dX12_movesTold_53 rfl (lv_at hl 2 rfl) ?_
  refine lv_aload_n hx hb dX12_movesTold_54 rfl (lv_at hl 3 rfl) ?_
  refine lv_aload_n hx hb dX12_movesTold_55 rfl (lv_at hl 2 rfl) ?_
  refine va_get (D := D) (ci := 13) (v := .ref (v 10)) (C := RX12) (T := TX12) (N := 48) hx hb hts kin_RX12 hown hG.1 hP 38 rfl rfl 26 (by decide) (hts _ wm_1545) (fun _ h9 => h9) rfl dX12_movesTold_56 ?_
  refine lv_iload_n hx hb dX12_movesTold_59 rfl (lv_at hl 1 rfl) ?_
  refine k_aldA hx hb hG.1 hP 0 rfl (by unfold vp_in; decide) dX12_movesTold_60 ?_
  refine W.eq (g2 := F0 m 61 ls [.ref ((v 10) + 1 + 29), .ref a, .ref (v 0), .int 1, .ref ((v 10) + 1 + 29)]) rfl ?_
  refine lv_iload hx hb dX12_movesTold_61 (lv_at hl 0 rfl) ?_
  refine va_iald hx hb hG.1 hP 30 0 rfl rfl (by unfold vp_in; decide) dX12_movesTold_63 ?_
  refine lv_topi (fun x182 ex182 => ?_)
  obtain rfl : x182 = 0 := ex182.trans (rfl)
  refine lv_iload_n hx hb dX12_movesTold_64 rfl (lv_at hl 4 rfl) ?_
  refine k_cali [0, 1, 2, 3, 4, 5, 6, 7, 8, 9, 10, 11, 12, 13, 14, 15, 16, 17, 18, 19, 20, 21, 22, 23, 24, 25, 26, 27, 28, 29, 30, 31, 32, 33, 34, 35, 36, 37] (⟨hP, hD, hG, hS, hA, rfl, rfl⟩ : kAt D cy sa A s H _ _ [((v 0), .inr (13, [.int 0, .int 0, .int 0, .int (-1), .int 0, .int 0, .int 0, .int 0, .ref (v 1), .ref (v 2), .ref (v 3), .ref (v 4), .ref (v 5), .ref (v 6), .ref (v 7), .ref (v 8), .ref (v 9), .int 0, .int 0, .int 0, .int 0, .int 0, .int 0, .int 0, .int 0, .int 0, .ref (v 10), .ref (v 11), .ref (v 12), .ref (v 13), .int 103, .ref (v 14), .ref (v 15), .ref (v 16), .ref (v 17), .ref (v 18), .int 0, .int 0, .int 0, .ref (v 19), .ref (v 20), .ref (v 21), .ref (v 22), .ref (v 23), .int 0, .int 0, .int 0, .int 0])), (a, .inl (cy 0, 120, .inl (fun _ => 0)))] [38, 39]) (wr := (toldW cy v ++ [])) rfl rfl (by decide) (k_runV 13 38 (As := [.ref a, .int 0, .int b]) (rest := [.int 1, .ref ((v 10) + 1 + 29)]) E lk_VRX12_251 rfl rfl rfl (m_moves l hl0 D cy sa v a 0 103 (by unfold vp_in; decide) b H.size) (⟨hP, hD, hG, hS, hA, rfl, rfl⟩ : kAt D cy sa A s H _ _ [((v 0), .inr (13, [.int 0, .int 0, .int 0, .int (-1), .int 0, .int 0, .int 0, .int 0, .ref (v 1), .ref (v 2), .ref (v 3), .ref (v 4), .ref (v 5), .ref (v 6), .ref (v 7), .ref (v 8), .ref (v 9), .int 0, .int 0, .int 0, .int 0, .int 0, .int 0, .int 0, .int 0, .int 0, .ref (v 10), .ref (v 11), .ref (v 12), .ref (v 13), .int 103, .ref (v 14), .ref (v 15), .ref (v 16), .ref (v 17), .ref (v 18), .int 0, .int 0, .int 0, .ref (v 19), .ref (v 20), .ref (v 21), .ref (v 22), .ref (v 23), .int 0, .int 0, .int 0, .int 0])), (a, .inl (cy 0, 120, .inl (fun _ => 0)))] [38, 39]) hl.1 rfl rfl ⟨rfl, rfl, ⟨Nat.le_of_ble_eq_true rfl, Nat.le_of_ble_eq_true rfl⟩, ⟨Nat.le_of_ble_eq_true rfl, Nat.le_of_ble_eq_true rfl⟩, Nat.le_of_ble_eq_true rfl⟩ dX12_movesTold_65) (fun r183 u184 H locs hwu184 hP hD hS => ?_)
  have hP : va_P D vwCl (toldW cy v ++ [((v 0), .inr (13, [.int 0, .int 0, .int 0, .int (-1), .int 0, .int 0, .int 0, .int 0, .ref (v 1), .ref (v 2), .ref (v 3), .ref (v 4), .ref (v 5), .ref (v 6), .ref (v 7), .ref (v 8), .ref (v 9), .int 0, .int 0, .int 0, .int 0, .int 0, .int 0, .int 0, .int 0, .int 0, .ref (v 10), .ref (v 11), .ref (v 12), .ref (v 13), .int 104, .ref (v 14), .ref (v 15), .ref (v 16), .ref (v 17), .ref (v 18), .int 0, .int 0, .int 0, .ref (v 19), .ref (v 20), .ref (v 21), .ref (v 22), .ref (v 23), .int 0, .int 0, .int 0, .int 0])), (a, .inl (cy 0, 120, .inl (fun _ => 0)))]) H := hP
  have hD : va_D A (toldW cy v ++ [((v 0), .inr (13, [.int 0, .int 0, .int 0, .int (-1), .int 0, .int 0, .int 0, .int 0, .ref (v 1), .ref (v 2), .ref (v 3), .ref (v 4), .ref (v 5), .ref (v 6), .ref (v 7), .ref (v 8), .ref (v 9), .int 0, .int 0, .int 0, .int 0, .int 0, .int 0, .int 0, .int 0, .int 0, .ref (v 10), .ref (v 11), .ref (v 12), .ref (v 13), .int 104, .ref (v 14), .ref (v 15), .ref (v 16), .ref (v 17), .ref (v 18), .int 0, .int 0, .int 0, .ref (v 19), .ref (v 20), .ref (v 21), .ref (v 22), .ref (v 23), .int 0, .int 0, .int 0, .int 0])), (a, .inl (cy 0, 120, .inl (fun _ => 0)))]) := hD
  obtain rfl : r183 = 0 := hwu184
  refine k_iast0 hx hb hG.1 hP hD hS 30 0 rfl rfl (by unfold vp_in; decide) dX12_movesTold_68 (fun H locs hP hD hS => ?_)
  refine lv_iinc (v := 2) (lv' := [(4, .int 2), (3, .int 29), (0, .ref (v 0)), (1, .ref a), (2, .int b)]) hx hb dX12_movesTold_69 hl (k := 0) rfl (by decide) (by decide) rfl (fun ls hl => ?_)
  refine lv_goto (tgt := 39) hx hb dX12_movesTold_72 (by decide) ?_
  refine lv_iload hx hb dX12_movesTold_39 (lv_at hl 0 rfl) ?_
  refine lv_iconst (v := 2) hx hb dX12_movesTold_41 (by decide) ?_
  refine lv_icmp_ge (tgt := 75) hx hb dX12_movesTold_42 (by decide) (fun _ => ?_) (fun h => absurd (by decide) h)
  refine lv_iinc (v := 30) (lv' := [(3, .int 30), (4, .int 2), (0, .ref (v 0)), (1, .ref a), (2, .int b)]) hx hb dX12_movesTold_75 hl (k := 1) rfl (by decide) (by decide) rfl (fun ls hl => ?_)
  refine lv_goto (tgt := 30) hx hb dX12_movesTold_78 (by decide) ?_
  refine lv_iload_n hx hb dX12_movesTold_30 rfl (lv_at hl 0 rfl) ?_
  refine lv_bipush (v := 30) hx hb dX12_movesTold_31 (by decide) ?_
  refine lv_icmp_ge (tgt := 81) hx hb dX12_movesTold_33 (by decide) (fun _ => ?_) (fun h => absurd (by decide) h)
  refine lv_iconst (v := 0) hx hb dX12_movesTold_81 (by decide) ?_
  refine lv_istore_n (lv' := [(3, .int 0), (4, .int 2), (0, .ref (v 0)), (1, .ref a), (2, .int b)]) hx hb dX12_movesTold_82 rfl hl (by decide) rfl (fun ls hl => ?_)
  refine lv_iload_n hx hb dX12_movesTold_83 rfl (lv_at hl 0 rfl) ?_
  refine lv_bipush (v := 6) hx hb dX12_movesTold_84 (by decide) ?_
  refine lv_icmp_ge (tgt := 134) hx hb dX12_movesTold_86 (by decide) (fun h => absurd h (by decide)) (fun _ => ?_)
  refine lv_iconst (v := 0) hx hb dX12_movesTold_89 (by decide) ?_
  refine lv_istore (lv' := [(4, .int 0), (3, .int 0), (0, .ref (v 0)), (1, .ref a), (2, .int b)]) hx hb dX12_movesTold_90 hl (by decide) rfl (fun ls hl => ?_)
  refine lv_iload hx hb dX12_movesTold_92 (lv_at hl 0 rfl) ?_
  refine lv_iconst (v := 2) hx hb dX12_movesTold_94 (by decide) ?_
  refine lv_icmp_ge (tgt := 128) hx hb dX12_movesTold_95 (by decide) (fun h => absurd h (by decide)) (fun _ => ?_)
  refine lv_aload_n hx hb dX12_movesTold_98 rfl (lv_at hl 2 rfl) ?_
  refine va_get (D := D) (ci := 13) (v := .ref (v 11)) (C := RX12) (T := TX12) (N := 48) hx hb hts kin_RX12 hown hG.1 hP 38 rfl rfl 27 (by decide) (hts _ wm_1546) (fun _ h9 => h9) rfl dX12_movesTold_99 ?_
  refine lv_iload_n hx hb dX12_movesTold_102 rfl (lv_at hl 1 rfl) ?_
  refine k_aldA hx hb hG.1 hP 31 rfl (by unfold vp_in; decide) dX12_movesTold_103 ?_
  refine W.eq (g2 := F0 m 104 ls [.ref ((v 11) + 1 + 0)]) rfl ?_
  refine lv_iload hx hb dX12_movesTold_104 (lv_at hl 0 rfl) ?_
  refine lv_aload_n hx hb dX12_movesTold_106 rfl (lv_at hl 2 rfl) ?_
  refine lv_aload_n hx hb dX12_movesTold_107 rfl (lv_at hl 3 rfl) ?_
  refine lv_aload_n hx hb dX12_movesTold_108 rfl (lv_at hl 2 rfl) ?_
  refine va_get (D := D) (ci := 13) (v := .ref (v 11)) (C := RX12) (T := TX12) (N := 48) hx hb hts kin_RX12 hown hG.1 hP 38 rfl rfl 27 (by decide) (hts _ wm_1546) (fun _ h9 => h9) rfl dX12_movesTold_109 ?_
  refine lv_iload_n hx hb dX12_movesTold_112 rfl (lv_at hl 1 rfl) ?_
  refine k_aldA hx hb hG.1 hP 31 rfl (by unfold vp_in; decide) dX12_movesTold_113 ?_
  refine W.eq (g2 := F0 m 114 ls [.ref ((v 11) + 1 + 0), .ref a, .ref (v 0), .int 0, .ref ((v 11) + 1 + 0)]) rfl ?_
  refine lv_iload hx hb dX12_movesTold_114 (lv_at hl 0 rfl) ?_
  refine va_iald hx hb hG.1 hP 32 0 rfl rfl (by unfold vp_in; decide) dX12_movesTold_116 ?_
  refine lv_topi (fun x185 ex185 => ?_)
  obtain rfl : x185 = 0 := ex185.trans (rfl)
  refine lv_iload_n hx hb dX12_movesTold_117 rfl (lv_at hl 4 rfl) ?_
  refine k_cali [0, 1, 2, 3, 4, 5, 6, 7, 8, 9, 10, 11, 12, 13, 14, 15, 16, 17, 18, 19, 20, 21, 22, 23, 24, 25, 26, 27, 28, 29, 30, 31, 32, 33, 34, 35, 36, 37] (⟨hP, hD, hG, hS, hA, rfl, rfl⟩ : kAt D cy sa A s H _ _ [((v 0), .inr (13, [.int 0, .int 0, .int 0, .int (-1), .int 0, .int 0, .int 0, .int 0, .ref (v 1), .ref (v 2), .ref (v 3), .ref (v 4), .ref (v 5), .ref (v 6), .ref (v 7), .ref (v 8), .ref (v 9), .int 0, .int 0, .int 0, .int 0, .int 0, .int 0, .int 0, .int 0, .int 0, .ref (v 10), .ref (v 11), .ref (v 12), .ref (v 13), .int 104, .ref (v 14), .ref (v 15), .ref (v 16), .ref (v 17), .ref (v 18), .int 0, .int 0, .int 0, .ref (v 19), .ref (v 20), .ref (v 21), .ref (v 22), .ref (v 23), .int 0, .int 0, .int 0, .int 0])), (a, .inl (cy 0, 120, .inl (fun _ => 0)))] [38, 39]) (wr := (toldW cy v ++ [])) rfl rfl (by decide) (k_runV 13 38 (As := [.ref a, .int 0, .int b]) (rest := [.int 0, .ref ((v 11) + 1 + 0)]) E lk_VRX12_251 rfl rfl rfl (m_moves l hl0 D cy sa v a 0 104 (by unfold vp_in; decide) b H.size) (⟨hP, hD, hG, hS, hA, rfl, rfl⟩ : kAt D cy sa A s H _ _ [((v 0), .inr (13, [.int 0, .int 0, .int 0, .int (-1), .int 0, .int 0, .int 0, .int 0, .ref (v 1), .ref (v 2), .ref (v 3), .ref (v 4), .ref (v 5), .ref (v 6), .ref (v 7), .ref (v 8), .ref (v 9), .int 0, .int 0, .int 0, .int 0, .int 0, .int 0, .int 0, .int 0, .int 0, .ref (v 10), .ref (v 11), .ref (v 12), .ref (v 13), .int 104, .ref (v 14), .ref (v 15), .ref (v 16), .ref (v 17), .ref (v 18), .int 0, .int 0, .int 0, .ref (v 19), .ref (v 20), .ref (v 21), .ref (v 22), .ref (v 23), .int 0, .int 0, .int 0, .int 0])), (a, .inl (cy 0, 120, .inl (fun _ => 0)))] [38, 39]) hl.1 rfl rfl ⟨rfl, rfl, ⟨Nat.le_of_ble_eq_true rfl, Nat.le_of_ble_eq_true rfl⟩, ⟨Nat.le_of_ble_eq_true rfl, Nat.le_of_ble_eq_true rfl⟩, Nat.le_of_ble_eq_true rfl⟩ dX12_movesTold_118) (fun r186 u187 H locs hwu187 hP hD hS => ?_)
  have hP : va_P D vwCl (toldW cy v ++ [((v 0), .inr (13, [.int 0, .int 0, .int 0, .int (-1), .int 0, .int 0, .int 0, .int 0, .ref (v 1), .ref (v 2), .ref (v 3), .ref (v 4), .ref (v 5), .ref (v 6), .ref (v 7), .ref (v 8), .ref (v 9), .int 0, .int 0, .int 0, .int 0, .int 0, .int 0, .int 0, .int 0, .int 0, .ref (v 10), .ref (v 11), .ref (v 12), .ref (v 13), .int 105, .ref (v 14), .ref (v 15), .ref (v 16), .ref (v 17), .ref (v 18), .int 0, .int 0, .int 0, .ref (v 19), .ref (v 20), .ref (v 21), .ref (v 22), .ref (v 23), .int 0, .int 0, .int 0, .int 0])), (a, .inl (cy 0, 120, .inl (fun _ => 0)))]) H := hP
  have hD : va_D A (toldW cy v ++ [((v 0), .inr (13, [.int 0, .int 0, .int 0, .int (-1), .int 0, .int 0, .int 0, .int 0, .ref (v 1), .ref (v 2), .ref (v 3), .ref (v 4), .ref (v 5), .ref (v 6), .ref (v 7), .ref (v 8), .ref (v 9), .int 0, .int 0, .int 0, .int 0, .int 0, .int 0, .int 0, .int 0, .int 0, .ref (v 10), .ref (v 11), .ref (v 12), .ref (v 13), .int 105, .ref (v 14), .ref (v 15), .ref (v 16), .ref (v 17), .ref (v 18), .int 0, .int 0, .int 0, .ref (v 19), .ref (v 20), .ref (v 21), .ref (v 22), .ref (v 23), .int 0, .int 0, .int 0, .int 0])), (a, .inl (cy 0, 120, .inl (fun _ => 0)))]) := hD
  obtain rfl : r186 = 0 := hwu187
  refine k_iast0 hx hb hG.1 hP hD hS 32 0 rfl rfl (by unfold vp_in; decide) dX12_movesTold_121 (fun H locs hP hD hS => ?_)
  refine lv_iinc (v := 1) (lv' := [(4, .int 1), (3, .int 0), (0, .ref (v 0)), (1, .ref a), (2, .int b)]) hx hb dX12_movesTold_122 hl (k := 0) rfl (by decide) (by decide) rfl (fun ls hl => ?_)
  refine lv_goto (tgt := 92) hx hb dX12_movesTold_125 (by decide) ?_
  refine lv_iload hx hb dX12_movesTold_92 (lv_at hl 0 rfl) ?_
  refine lv_iconst (v := 2) hx hb dX12_movesTold_94 (by decide) ?_
  refine lv_icmp_ge (tgt := 128) hx hb dX12_movesTold_95 (by decide) (fun h => absurd h (by decide)) (fun _ => ?_)
  refine lv_aload_n hx hb dX12_movesTold_98 rfl (lv_at hl 2 rfl) ?_
  refine va_get (D := D) (ci := 13) (v := .ref (v 11)) (C := RX12) (T := TX12) (N := 48) hx hb hts kin_RX12 hown hG.1 hP 38 rfl rfl 27 (by decide) (hts _ wm_1546) (fun _ h9 => h9) rfl dX12_movesTold_99 ?_
  refine lv_iload_n hx hb dX12_movesTold_102 rfl (lv_at hl 1 rfl) ?_
  refine k_aldA hx hb hG.1 hP 31 rfl (by unfold vp_in; decide) dX12_movesTold_103 ?_
  refine W.eq (g2 := F0 m 104 ls [.ref ((v 11) + 1 + 0)]) rfl ?_
  refine lv_iload hx hb dX12_movesTold_104 (lv_at hl 0 rfl) ?_
  refine lv_aload_n hx hb dX12_movesTold_106 rfl (lv_at hl 2 rfl) ?_
  refine lv_aload_n hx hb dX12_movesTold_107 rfl (lv_at hl 3 rfl) ?_
  refine lv_aload_n hx hb dX12_movesTold_108 rfl (lv_at hl 2 rfl) ?_
  refine va_get (D := D) (ci := 13) (v := .ref (v 11)) (C := RX12) (T := TX12) (N := 48) hx hb hts kin_RX12 hown hG.1 hP 38 rfl rfl 27 (by decide) (hts _ wm_1546) (fun _ h9 => h9) rfl dX12_movesTold_109 ?_
  refine lv_iload_n hx hb dX12_movesTold_112 rfl (lv_at hl 1 rfl) ?_
  refine k_aldA hx hb hG.1 hP 31 rfl (by unfold vp_in; decide) dX12_movesTold_113 ?_
  refine W.eq (g2 := F0 m 114 ls [.ref ((v 11) + 1 + 0), .ref a, .ref (v 0), .int 1, .ref ((v 11) + 1 + 0)]) rfl ?_
  refine lv_iload hx hb dX12_movesTold_114 (lv_at hl 0 rfl) ?_
  refine va_iald hx hb hG.1 hP 32 0 rfl rfl (by unfold vp_in; decide) dX12_movesTold_116 ?_
  refine lv_topi (fun x188 ex188 => ?_)
  obtain rfl : x188 = 0 := ex188.trans (rfl)
  refine lv_iload_n hx hb dX12_movesTold_117 rfl (lv_at hl 4 rfl) ?_
  refine k_cali [0, 1, 2, 3, 4, 5, 6, 7, 8, 9, 10, 11, 12, 13, 14, 15, 16, 17, 18, 19, 20, 21, 22, 23, 24, 25, 26, 27, 28, 29, 30, 31, 32, 33, 34, 35, 36, 37] (⟨hP, hD, hG, hS, hA, rfl, rfl⟩ : kAt D cy sa A s H _ _ [((v 0), .inr (13, [.int 0, .int 0, .int 0, .int (-1), .int 0, .int 0, .int 0, .int 0, .ref (v 1), .ref (v 2), .ref (v 3), .ref (v 4), .ref (v 5), .ref (v 6), .ref (v 7), .ref (v 8), .ref (v 9), .int 0, .int 0, .int 0, .int 0, .int 0, .int 0, .int 0, .int 0, .int 0, .ref (v 10), .ref (v 11), .ref (v 12), .ref (v 13), .int 105, .ref (v 14), .ref (v 15), .ref (v 16), .ref (v 17), .ref (v 18), .int 0, .int 0, .int 0, .ref (v 19), .ref (v 20), .ref (v 21), .ref (v 22), .ref (v 23), .int 0, .int 0, .int 0, .int 0])), (a, .inl (cy 0, 120, .inl (fun _ => 0)))] [38, 39]) (wr := (toldW cy v ++ [])) rfl rfl (by decide) (k_runV 13 38 (As := [.ref a, .int 0, .int b]) (rest := [.int 1, .ref ((v 11) + 1 + 0)]) E lk_VRX12_251 rfl rfl rfl (m_moves l hl0 D cy sa v a 0 105 (by unfold vp_in; decide) b H.size) (⟨hP, hD, hG, hS, hA, rfl, rfl⟩ : kAt D cy sa A s H _ _ [((v 0), .inr (13, [.int 0, .int 0, .int 0, .int (-1), .int 0, .int 0, .int 0, .int 0, .ref (v 1), .ref (v 2), .ref (v 3), .ref (v 4), .ref (v 5), .ref (v 6), .ref (v 7), .ref (v 8), .ref (v 9), .int 0, .int 0, .int 0, .int 0, .int 0, .int 0, .int 0, .int 0, .int 0, .ref (v 10), .ref (v 11), .ref (v 12), .ref (v 13), .int 105, .ref (v 14), .ref (v 15), .ref (v 16), .ref (v 17), .ref (v 18), .int 0, .int 0, .int 0, .ref (v 19), .ref (v 20), .ref (v 21), .ref (v 22), .ref (v 23), .int 0, .int 0, .int 0, .int 0])), (a, .inl (cy 0, 120, .inl (fun _ => 0)))] [38, 39]) hl.1 rfl rfl ⟨rfl, rfl, ⟨Nat.le_of_ble_eq_true rfl, Nat.le_of_ble_eq_true rfl⟩, ⟨Nat.le_of_ble_eq_true rfl, Nat.le_of_ble_eq_true rfl⟩, Nat.le_of_ble_eq_true rfl⟩ dX12_movesTold_118) (fun r189 u190 H locs hwu190 hP hD hS => ?_)
  have hP : va_P D vwCl (toldW cy v ++ [((v 0), .inr (13, [.int 0, .int 0, .int 0, .int (-1), .int 0, .int 0, .int 0, .int 0, .ref (v 1), .ref (v 2), .ref (v 3), .ref (v 4), .ref (v 5), .ref (v 6), .ref (v 7), .ref (v 8), .ref (v 9), .int 0, .int 0, .int 0, .int 0, .int 0, .int 0, .int 0, .int 0, .int 0, .ref (v 10), .ref (v 11), .ref (v 12), .ref (v 13), .int 106, .ref (v 14), .ref (v 15), .ref (v 16), .ref (v 17), .ref (v 18), .int 0, .int 0, .int 0, .ref (v 19), .ref (v 20), .ref (v 21), .ref (v 22), .ref (v 23), .int 0, .int 0, .int 0, .int 0])), (a, .inl (cy 0, 120, .inl (fun _ => 0)))]) H := hP
  have hD : va_D A (toldW cy v ++ [((v 0), .inr (13, [.int 0, .int 0, .int 0, .int (-1), .int 0, .int 0, .int 0, .int 0, .ref (v 1), .ref (v 2), .ref (v 3), .ref (v 4), .ref (v 5), .ref (v 6), .ref (v 7), .ref (v 8), .ref (v 9), .int 0, .int 0, .int 0, .int 0, .int 0, .int 0, .int 0, .int 0, .int 0, .ref (v 10), .ref (v 11), .ref (v 12), .ref (v 13), .int 106, .ref (v 14), .ref (v 15), .ref (v 16), .ref (v 17), .ref (v 18), .int 0, .int 0, .int 0, .ref (v 19), .ref (v 20), .ref (v 21), .ref (v 22), .ref (v 23), .int 0, .int 0, .int 0, .int 0])), (a, .inl (cy 0, 120, .inl (fun _ => 0)))]) := hD
  obtain rfl : r189 = 0 := hwu190
  refine k_iast0 hx hb hG.1 hP hD hS 32 0 rfl rfl (by unfold vp_in; decide) dX12_movesTold_121 (fun H locs hP hD hS => ?_)
  refine lv_iinc (v := 2) (lv' := [(4, .int 2), (3, .int 0), (0, .ref (v 0)), (1, .ref a), (2, .int b)]) hx hb dX12_movesTold_122 hl (k := 0) rfl (by decide) (by decide) rfl (fun ls hl => ?_)
  refine lv_goto (tgt := 92) hx hb dX12_movesTold_125 (by decide) ?_
  refine lv_iload hx hb dX12_movesTold_92 (lv_at hl 0 rfl) ?_
  refine lv_iconst (v := 2) hx hb dX12_movesTold_94 (by decide) ?_
  refine lv_icmp_ge (tgt := 128) hx hb dX12_movesTold_95 (by decide) (fun _ => ?_) (fun h => absurd (by decide) h)
  refine lv_iinc (v := 1) (lv' := [(3, .int 1), (4, .int 2), (0, .ref (v 0)), (1, .ref a), (2, .int b)]) hx hb dX12_movesTold_128 hl (k := 1) rfl (by decide) (by decide) rfl (fun ls hl => ?_)
  refine lv_goto (tgt := 83) hx hb dX12_movesTold_131 (by decide) ?_
  refine lv_iload_n hx hb dX12_movesTold_83 rfl (lv_at hl 0 rfl) ?_
  refine lv_bipush (v := 6) hx hb dX12_movesTold_84 (by decide) ?_
  refine lv_icmp_ge (tgt := 134) hx hb dX12_movesTold_86 (by decide) (fun h => absurd h (by decide)) (fun _ => ?_)
  refine lv_iconst (v := 0) hx hb dX12_movesTold_89 (by decide) ?_
  refine lv_istore (lv' := [(4, .int 0), (3, .int 1), (0, .ref (v 0)), (1, .ref a), (2, .int b)]) hx hb dX12_movesTold_90 hl (by decide) rfl (fun ls hl => ?_)
  refine lv_iload hx hb dX12_movesTold_92 (lv_at hl 0 rfl) ?_
  refine lv_iconst (v := 2) hx hb dX12_movesTold_94 (by decide) ?_
  refine lv_icmp_ge (tgt := 128) hx hb dX12_movesTold_95 (by decide) (fun h => absurd h (by decide)) (fun _ => ?_)
  refine lv_aload_n hx hb dX12_movesTold_98 rfl (lv_at hl 2 rfl) ?_
  refine va_get (D := D) (ci := 13) (v := .ref (v 11)) (C := RX12) (T := TX12) (N := 48) hx hb hts kin_RX12 hown hG.1 hP 38 rfl rfl 27 (by decide) (hts _ wm_1546) (fun _ h9 => h9) rfl dX12_movesTold_99 ?_
  refine lv_iload_n hx hb dX12_movesTold_102 rfl (lv_at hl 1 rfl) ?_
  refine k_aldA hx hb hG.1 hP 31 rfl (by unfold vp_in; decide) dX12_movesTold_103 ?_
  refine W.eq (g2 := F0 m 104 ls [.ref ((v 11) + 1 + 1)]) rfl ?_
  refine lv_iload hx hb dX12_movesTold_104 (lv_at hl 0 rfl) ?_
  refine lv_aload_n hx hb dX12_movesTold_106 rfl (lv_at hl 2 rfl) ?_
  refine lv_aload_n hx hb dX12_movesTold_107 rfl (lv_at hl 3 rfl) ?_
  refine lv_aload_n hx hb dX12_movesTold_108 rfl (lv_at hl 2 rfl) ?_
  refine va_get (D := D) (ci := 13) (v := .ref (v 11)) (C := RX12) (T := TX12) (N := 48) hx hb hts kin_RX12 hown hG.1 hP 38 rfl rfl 27 (by decide) (hts _ wm_1546) (fun _ h9 => h9) rfl dX12_movesTold_109 ?_
  refine lv_iload_n hx hb dX12_movesTold_112 rfl (lv_at hl 1 rfl) ?_
  refine k_aldA hx hb hG.1 hP 31 rfl (by unfold vp_in; decide) dX12_movesTold_113 ?_
  refine W.eq (g2 := F0 m 114 ls [.ref ((v 11) + 1 + 1), .ref a, .ref (v 0), .int 0, .ref ((v 11) + 1 + 1)]) rfl ?_
  refine lv_iload hx hb dX12_movesTold_114 (lv_at hl 0 rfl) ?_
  refine va_iald hx hb hG.1 hP 33 0 rfl rfl (by unfold vp_in; decide) dX12_movesTold_116 ?_
  refine lv_topi (fun x191 ex191 => ?_)
  obtain rfl : x191 = 0 := ex191.trans (rfl)
  refine lv_iload_n hx hb dX12_movesTold_117 rfl (lv_at hl 4 rfl) ?_
  refine k_cali [0, 1, 2, 3, 4, 5, 6, 7, 8, 9, 10, 11, 12, 13, 14, 15, 16, 17, 18, 19, 20, 21, 22, 23, 24, 25, 26, 27, 28, 29, 30, 31, 32, 33, 34, 35, 36, 37] (⟨hP, hD, hG, hS, hA, rfl, rfl⟩ : kAt D cy sa A s H _ _ [((v 0), .inr (13, [.int 0, .int 0, .int 0, .int (-1), .int 0, .int 0, .int 0, .int 0, .ref (v 1), .ref (v 2), .ref (v 3), .ref (v 4), .ref (v 5), .ref (v 6), .ref (v 7), .ref (v 8), .ref (v 9), .int 0, .int 0, .int 0, .int 0, .int 0, .int 0, .int 0, .int 0, .int 0, .ref (v 10), .ref (v 11), .ref (v 12), .ref (v 13), .int 106, .ref (v 14), .ref (v 15), .ref (v 16), .ref (v 17), .ref (v 18), .int 0, .int 0, .int 0, .ref (v 19), .ref (v 20), .ref (v 21), .ref (v 22), .ref (v 23), .int 0, .int 0, .int 0, .int 0])), (a, .inl (cy 0, 120, .inl (fun _ => 0)))] [38, 39]) (wr := (toldW cy v ++ [])) rfl rfl (by decide) (k_runV 13 38 (As := [.ref a, .int 0, .int b]) (rest := [.int 0, .ref ((v 11) + 1 + 1)]) E lk_VRX12_251 rfl rfl rfl (m_moves l hl0 D cy sa v a 0 106 (by unfold vp_in; decide) b H.size) (⟨hP, hD, hG, hS, hA, rfl, rfl⟩ : kAt D cy sa A s H _ _ [((v 0), .inr (13, [.int 0, .int 0, .int 0, .int (-1), .int 0, .int 0, .int 0, .int 0, .ref (v 1), .ref (v 2), .ref (v 3), .ref (v 4), .ref (v 5), .ref (v 6), .ref (v 7), .ref (v 8), .ref (v 9), .int 0, .int 0, .int 0, .int 0, .int 0, .int 0, .int 0, .int 0, .int 0, .ref (v 10), .ref (v 11), .ref (v 12), .ref (v 13), .int 106, .ref (v 14), .ref (v 15), .ref (v 16), .ref (v 17), .ref (v 18), .int 0, .int 0, .int 0, .ref (v 19), .ref (v 20), .ref (v 21), .ref (v 22), .ref (v 23), .int 0, .int 0, .int 0, .int 0])), (a, .inl (cy 0, 120, .inl (fun _ => 0)))] [38, 39]) hl.1 rfl rfl ⟨rfl, rfl, ⟨Nat.le_of_ble_eq_true rfl, Nat.le_of_ble_eq_true rfl⟩, ⟨Nat.le_of_ble_eq_true rfl, Nat.le_of_ble_eq_true rfl⟩, Nat.le_of_ble_eq_true rfl⟩ dX12_movesTold_118) (fun r192 u193 H locs hwu193 hP hD hS => ?_)
  have hP : va_P D vwCl (toldW cy v ++ [((v 0), .inr (13, [.int 0, .int 0, .int 0, .int (-1), .int 0, .int 0, .int 0, .int 0, .ref (v 1), .ref (v 2), .ref (v 3), .ref (v 4), .ref (v 5), .ref (v 6), .ref (v 7), .ref (v 8), .ref (v 9), .int 0, .int 0, .int 0, .int 0, .int 0, .int 0, .int 0, .int 0, .int 0, .ref (v 10), .ref (v 11), .ref (v 12), .ref (v 13), .int 107, .ref (v 14), .ref (v 15), .ref (v 16), .ref (v 17), .ref (v 18), .int 0, .int 0, .int 0, .ref (v 19), .ref (v 20), .ref (v 21), .ref (v 22), .ref (v 23), .int 0, .int 0, .int 0, .int 0])), (a, .inl (cy 0, 120, .inl (fun _ => 0)))]) H := hP
  have hD : va_D A (toldW cy v ++ [((v 0), .inr (13, [.int 0, .int 0, .int 0, .int (-1), .int 0, .int 0, .int 0, .int 0, .ref (v 1), .ref (v 2), .ref (v 3), .ref (v 4), .ref (v 5), .ref (v 6), .ref (v 7), .ref (v 8), .ref (v 9), .int 0, .int 0, .int 0, .int 0, .int 0, .int 0, .int 0, .int 0, .int 0, .ref (v 10), .ref (v 11), .ref (v 12), .ref (v 13), .int 107, .ref (v 14), .ref (v 15), .ref (v 16), .ref (v 17), .ref (v 18), .int 0, .int 0, .int 0, .ref (v 19), .ref (v 20), .ref (v 21), .ref (v 22), .ref (v 23), .int 0, .int 0, .int 0, .int 0])), (a, .inl (cy 0, 120, .inl (fun _ => 0)))]) := hD
  obtain rfl : r192 = 0 := hwu193
  refine k_iast0 hx hb hG.1 hP hD hS 33 0 rfl rfl (by unfold vp_in; decide) dX12_movesTold_121 (fun H locs hP hD hS => ?_)
  refine lv_iinc (v := 1) (lv' := [(4, .int 1), (3, .int 1), (0, .ref (v 0)), (1, .ref a), (2, .int b)]) hx hb dX12_movesTold_122 hl (k := 0) rfl (by decide) (by decide) rfl (fun ls hl => ?_)
  refine lv_goto (tgt := 92) hx hb dX12_movesTold_125 (by decide) ?_
  refine lv_iload hx hb dX12_movesTold_92 (lv_at hl 0 rfl) ?_
  refine lv_iconst (v := 2) hx hb dX12_movesTold_94 (by decide) ?_
  refine lv_icmp_ge (tgt := 128) hx hb dX12_movesTold_95 (by decide) (fun h => absurd h (by decide)) (fun _ => ?_)
  refine lv_aload_n hx hb dX12_movesTold_98 rfl (lv_at hl 2 rfl) ?_
  refine va_get (D := D) (ci := 13) (v := .ref (v 11)) (C := RX12) (T := TX12) (N := 48) hx hb hts kin_RX12 hown hG.1 hP 38 rfl rfl 27 (by decide) (hts _ wm_1546) (fun _ h9 => h9) rfl dX12_movesTold_99 ?_
  refine lv_iload_n hx hb dX12_movesTold_102 rfl (lv_at hl 1 rfl) ?_
  refine k_aldA hx hb hG.1 hP 31 rfl (by unfold vp_in; decide) dX12_movesTold_103 ?_
  refine W.eq (g2 := F0 m 104 ls [.ref ((v 11) + 1 + 1)]) rfl ?_
  refine lv_iload hx hb dX12_movesTold_104 (lv_at hl 0 rfl) ?_
  refine lv_aload_n hx hb dX12_movesTold_106 rfl (lv_at hl 2 rfl) ?_
  refine lv_aload_n hx hb dX12_movesTold_107 rfl (lv_at hl 3 rfl) ?_
  refine lv_aload_n hx hb dX12_movesTold_108 rfl (lv_at hl 2 rfl) ?_
  refine va_get (D := D) (ci := 13) (v := .ref (v 11)) (C := RX12) (T := TX12) (N := 48) hx hb hts kin_RX12 hown hG.1 hP 38 rfl rfl 27 (by decide) (hts _ wm_1546) (fun _ h9 => h9) rfl dX12_movesTold_109 ?_
  refine lv_iload_n hx hb dX12_movesTold_112 rfl (lv_at hl 1 rfl) ?_
  refine k_aldA hx hb hG.1 hP 31 rfl (by unfold vp_in; decide) dX12_movesTold_113 ?_
  refine W.eq (g2 := F0 m 114 ls [.ref ((v 11) + 1 + 1), .ref a, .ref (v 0), .int 1, .ref ((v 11) + 1 + 1)]) rfl ?_
  refine lv_iload hx hb dX12_movesTold_114 (lv_at hl 0 rfl) ?_
  refine va_iald hx hb hG.1 hP 33 0 rfl rfl (by unfold vp_in; decide) dX12_movesTold_116 ?_
  refine lv_topi (fun x194 ex194 => ?_)
  obtain rfl : x194 = 0 := ex194.trans (rfl)
  refine lv_iload_n hx hb dX12_movesTold_117 rfl (lv_at hl 4 rfl) ?_
  refine k_cali [0, 1, 2, 3, 4, 5, 6, 7, 8, 9, 10, 11, 12, 13, 14, 15, 16, 17, 18, 19, 20, 21, 22, 23, 24, 25, 26, 27, 28, 29, 30, 31, 32, 33, 34, 35, 36, 37] (⟨hP, hD, hG, hS, hA, rfl, rfl⟩ : kAt D cy sa A s H _ _ [((v 0), .inr (13, [.int 0, .int 0, .int 0, .int (-1), .int 0, .int 0, .int 0, .int 0, .ref (v 1), .ref (v 2), .ref (v 3), .ref (v 4), .ref (v 5), .ref (v 6), .ref (v 7), .ref (v 8), .ref (v 9), .int 0, .int 0, .int 0, .int 0, .int 0, .int 0, .int 0, .int 0, .int 0, .ref (v 10), .ref (v 11), .ref (v 12), .ref (v 13), .int 107, .ref (v 14), .ref (v 15), .ref (v 16), .ref (v 17), .ref (v 18), .int 0, .int 0, .int 0, .ref (v 19), .ref (v 20), .ref (v 21), .ref (v 22), .ref (v 23), .int 0, .int 0, .int 0, .int 0])), (a, .inl (cy 0, 120, .inl (fun _ => 0)))] [38, 39]) (wr := (toldW cy v ++ [])) rfl rfl (by decide) (k_runV 13 38 (As := [.ref a, .int 0, .int b]) (rest := [.int 1, .ref ((v 11) + 1 + 1)]) E lk_VRX12_251 rfl rfl rfl (m_moves l hl0 D cy sa v a 0 107 (by unfold vp_in; decide) b H.size) (⟨hP, hD, hG, hS, hA, rfl, rfl⟩ : kAt D cy sa A s H _ _ [((v 0), .inr (13, [.int 0, .int 0, .int 0, .int (-1), .int 0, .int 0, .int 0, .int 0, .ref (v 1), .ref (v 2), .ref (v 3), .ref (v 4), .ref (v 5), .ref (v 6), .ref (v 7), .ref (v 8), .ref (v 9), .int 0, .int 0, .int 0, .int 0, .int 0, .int 0, .int 0, .int 0, .int 0, .ref (v 10), .ref (v 11), .ref (v 12), .ref (v 13), .int 107, .ref (v 14), .ref (v 15), .ref (v 16), .ref (v 17), .ref (v 18), .int 0, .int 0, .int 0, .ref (v 19), .ref (v 20), .ref (v 21), .ref (v 22), .ref (v 23), .int 0, .int 0, .int 0, .int 0])), (a, .inl (cy 0, 120, .inl (fun _ => 0)))] [38, 39]) hl.1 rfl rfl ⟨rfl, rfl, ⟨Nat.le_of_ble_eq_true rfl, Nat.le_of_ble_eq_true rfl⟩, ⟨Nat.le_of_ble_eq_true rfl, Nat.le_of_ble_eq_true rfl⟩, Nat.le_of_ble_eq_true rfl⟩ dX12_movesTold_118) (fun r195 u196 H locs hwu196 hP hD hS => ?_)
  have hP : va_P D vwCl (toldW cy v ++ [((v 0), .inr (13, [.int 0, .int 0, .int 0, .int (-1), .int 0, .int 0, .int 0, .int 0, .ref (v 1), .ref (v 2), .ref (v 3), .ref (v 4), .ref (v 5), .ref (v 6), .ref (v 7), .ref (v 8), .ref (v 9), .int 0, .int 0, .int 0, .int 0, .int 0, .int 0, .int 0, .int 0, .int 0, .ref (v 10), .ref (v 11), .ref (v 12), .ref (v 13), .int 108, .ref (v 14), .ref (v 15), .ref (v 16), .ref (v 17), .ref (v 18), .int 0, .int 0, .int 0, .ref (v 19), .ref (v 20), .ref (v 21), .ref (v 22), .ref (v 23), .int 0, .int 0, .int 0, .int 0])), (a, .inl (cy 0, 120, .inl (fun _ => 0)))]) H := hP
  have hD : va_D A (toldW cy v ++ [((v 0), .inr (13, [.int 0, .int 0, .int 0, .int (-1), .int 0, .int 0, .int 0, .int 0, .ref (v 1), .ref (v 2), .ref (v 3), .ref (v 4), .ref (v 5), .ref (v 6), .ref (v 7), .ref (v 8), .ref (v 9), .int 0, .int 0, .int 0, .int 0, .int 0, .int 0, .int 0, .int 0, .int 0, .ref (v 10), .ref (v 11), .ref (v 12), .ref (v 13), .int 108, .ref (v 14), .ref (v 15), .ref (v 16), .ref (v 17), .ref (v 18), .int 0, .int 0, .int 0, .ref (v 19), .ref (v 20), .ref (v 21), .ref (v 22), .ref (v 23), .int 0, .int 0, .int 0, .int 0])), (a, .inl (cy 0, 120, .inl (fun _ => 0)))]) := hD
  obtain rfl : r195 = 0 := hwu196
  refine k_iast0 hx hb hG.1 hP hD hS 33 0 rfl rfl (by unfold vp_in; decide) dX12_movesTold_121 (fun H locs hP hD hS => ?_)
  refine lv_iinc (v := 2) (lv' := [(4, .int 2), (3, .int 1), (0, .ref (v 0)), (1, .ref a), (2, .int b)]) hx hb dX12_movesTold_122 hl (k := 0) rfl (by decide) (by decide) rfl (fun ls hl => ?_)
  refine lv_goto (tgt := 92) hx hb dX12_movesTold_125 (by decide) ?_
  refine lv_iload hx hb dX12_movesTold_92 (lv_at hl 0 rfl) ?_
  refine lv_iconst (v := 2) hx hb dX12_movesTold_94 (by decide) ?_
  refine lv_icmp_ge (tgt := 128) hx hb dX12_movesTold_95 (by decide) (fun _ => ?_) (fun h => absurd (by decide) h)
  refine lv_iinc (v := 2) (lv' := [(3, .int 2), (4, .int 2), (0, .ref (v 0)), (1, .ref a), (2, .int b)]) hx hb dX12_movesTold_128 hl (k := 1) rfl (by decide) (by decide) rfl (fun ls hl => ?_)
  refine lv_goto (tgt := 83) hx hb dX12_movesTold_131 (by decide) ?_
  refine lv_iload_n hx hb dX12_movesTold_83 rfl (lv_at hl 0 rfl) ?_
  refine lv_bipush (v := 6) hx hb dX12_movesTold_84 (by decide) ?_
  refine lv_icmp_ge (tgt := 134) hx hb dX12_movesTold_86 (by decide) (fun h => absurd h (by decide)) (fun _ => ?_)
  refine lv_iconst (v := 0) hx hb dX12_movesTold_89 (by decide) ?_
  refine lv_istore (lv' := [(4, .int 0), (3, .int 2), (0, .ref (v 0)), (1, .ref a), (2, .int b)]) hx hb dX12_movesTold_90 hl (by decide) rfl (fun ls hl => ?_)
  refine lv_iload hx hb dX12_movesTold_92 (lv_at hl 0 rfl) ?_
  refine lv_iconst (v := 2) hx hb dX12_movesTold_94 (by decide) ?_
  refine lv_icmp_ge (tgt := 128) hx hb dX12_movesTold_95 (by decide) (fun h => absurd h (by decide)) (fun _ => ?_)
  refine lv_aload_n hx hb dX12_movesTold_98 rfl (lv_at hl 2 rfl) ?_
  refine va_get (D := D) (ci := 13) (v := .ref (v 11)) (C := RX12) (T := TX12) (N := 48) hx hb hts kin_RX12 hown hG.1 hP 38 rfl rfl 27 (by decide) (hts _ wm_1546) (fun _ h9 => h9) rfl dX12_movesTold_99 ?_
  refine lv_iload_n hx hb dX12_movesTold_102 rfl (lv_at hl 1 rfl) ?_
  refine k_aldA hx hb hG.1 hP 31 rfl (by unfold vp_in; decide) dX12_movesTold_103 ?_
  refine W.eq (g2 := F0 m 104 ls [.ref ((v 11) + 1 + 2)]) rfl ?_
  refine lv_iload hx hb dX12_movesTold_104 (lv_at hl 0 rfl) ?_
  refine lv_aload_n hx hb dX12_movesTold_106 rfl (lv_at hl 2 rfl) ?_
  refine lv_aload_n hx hb dX12_movesTold_107 rfl (lv_at hl 3 rfl) ?_
  refine lv_aload_n hx hb dX12_movesTold_108 rfl (lv_at hl 2 rfl) ?_
  refine va_get (D := D) (ci := 13) (v := .ref (v 11)) (C := RX12) (T := TX12) (N := 48) hx hb hts kin_RX12 hown hG.1 hP 38 rfl rfl 27 (by decide) (hts _ wm_1546) (fun _ h9 => h9) rfl dX12_movesTold_109 ?_
  refine lv_iload_n hx hb dX12_movesTold_112 rfl (lv_at hl 1 rfl) ?_
  refine k_aldA hx hb hG.1 hP 31 rfl (by unfold vp_in; decide) dX12_movesTold_113 ?_
  refine W.eq (g2 := F0 m 114 ls [.ref ((v 11) + 1 + 2), .ref a, .ref (v 0), .int 0, .ref ((v 11) + 1 + 2)]) rfl ?_
  refine lv_iload hx hb dX12_movesTold_114 (lv_at hl 0 rfl) ?_
  refine va_iald hx hb hG.1 hP 34 0 rfl rfl (by unfold vp_in; decide) dX12_movesTold_116 ?_
  refine lv_topi (fun x197 ex197 => ?_)
  obtain rfl : x197 = 0 := ex197.trans (rfl)
  refine lv_iload_n hx hb dX12_movesTold_117 rfl (lv_at hl 4 rfl) ?_
  refine k_cali [0, 1, 2, 3, 4, 5, 6, 7, 8, 9, 10, 11, 12, 13, 14, 15, 16, 17, 18, 19, 20, 21, 22, 23, 24, 25, 26, 27, 28, 29, 30, 31, 32, 33, 34, 35, 36, 37] (⟨hP, hD, hG, hS, hA, rfl, rfl⟩ : kAt D cy sa A s H _ _ [((v 0), .inr (13, [.int 0, .int 0, .int 0, .int (-1), .int 0, .int 0, .int 0, .int 0, .ref (v 1), .ref (v 2), .ref (v 3), .ref (v 4), .ref (v 5), .ref (v 6), .ref (v 7), .ref (v 8), .ref (v 9), .int 0, .int 0, .int 0, .int 0, .int 0, .int 0, .int 0, .int 0, .int 0, .ref (v 10), .ref (v 11), .ref (v 12), .ref (v 13), .int 108, .ref (v 14), .ref (v 15), .ref (v 16), .ref (v 17), .ref (v 18), .int 0, .int 0, .int 0, .ref (v 19), .ref (v 20), .ref (v 21), .ref (v 22), .ref (v 23), .int 0, .int 0, .int 0, .int 0])), (a, .inl (cy 0, 120, .inl (fun _ => 0)))] [38, 39]) (wr := (toldW cy v ++ [])) rfl rfl (by decide) (k_runV 13 38 (As := [.ref a, .int 0, .int b]) (rest := [.int 0, .ref ((v 11) + 1 + 2)]) E lk_VRX12_251 rfl rfl rfl (m_moves l hl0 D cy sa v a 0 108 (by unfold vp_in; decide) b H.size) (⟨hP, hD, hG, hS, hA, rfl, rfl⟩ : kAt D cy sa A s H _ _ [((v 0), .inr (13, [.int 0, .int 0, .int 0, .int (-1), .int 0, .int 0, .int 0, .int 0, .ref (v 1), .ref (v 2), .ref (v 3), .ref (v 4), .ref (v 5), .ref (v 6), .ref (v 7), .ref (v 8), .ref (v 9), .int 0, .int 0, .int 0, .int 0, .int 0, .int 0, .int 0, .int 0, .int 0, .ref (v 10), .ref (v 11), .ref (v 12), .ref (v 13), .int 108, .ref (v 14), .ref (v 15), .ref (v 16), .ref (v 17), .ref (v 18), .int 0, .int 0, .int 0, .ref (v 19), .ref (v 20), .ref (v 21), .ref (v 22), .ref (v 23), .int 0, .int 0, .int 0, .int 0])), (a, .inl (cy 0, 120, .inl (fun _ => 0)))] [38, 39]) hl.1 rfl rfl ⟨rfl, rfl, ⟨Nat.le_of_ble_eq_true rfl, Nat.le_of_ble_eq_true rfl⟩, ⟨Nat.le_of_ble_eq_true rfl, Nat.le_of_ble_eq_true rfl⟩, Nat.le_of_ble_eq_true rfl⟩ dX12_movesTold_118) (fun r198 u199 H locs hwu199 hP hD hS => ?_)
  have hP : va_P D vwCl (toldW cy v ++ [((v 0), .inr (13, [.int 0, .int 0, .int 0, .int (-1), .int 0, .int 0, .int 0, .int 0, .ref (v 1), .ref (v 2), .ref (v 3), .ref (v 4), .ref (v 5), .ref (v 6), .ref (v 7), .ref (v 8), .ref (v 9), .int 0, .int 0, .int 0, .int 0, .int 0, .int 0, .int 0, .int 0, .int 0, .ref (v 10), .ref (v 11), .ref (v 12), .ref (v 13), .int 109, .ref (v 14), .ref (v 15), .ref (v 16), .ref (v 17), .ref (v 18), .int 0, .int 0, .int 0, .ref (v 19), .ref (v 20), .ref (v 21), .ref (v 22), .ref (v 23), .int 0, .int 0, .int 0, .int 0])), (a, .inl (cy 0, 120, .inl (fun _ => 0)))]) H := hP
  have hD : va_D A (toldW cy v ++ [((v 0), .inr (13, [.int 0, .int 0, .int 0, .int (-1), .int 0, .int 0, .int 0, .int 0, .ref (v 1), .ref (v 2), .ref (v 3), .ref (v 4), .ref (v 5), .ref (v 6), .ref (v 7), .ref (v 8), .ref (v 9), .int 0, .int 0, .int 0, .int 0, .int 0, .int 0, .int 0, .int 0, .int 0, .ref (v 10), .ref (v 11), .ref (v 12), .ref (v 13), .int 109, .ref (v 14), .ref (v 15), .ref (v 16), .ref (v 17), .ref (v 18), .int 0, .int 0, .int 0, .ref (v 19), .ref (v 20), .ref (v 21), .ref (v 22), .ref (v 23), .int 0, .int 0, .int 0, .int 0])), (a, .inl (cy 0, 120, .inl (fun _ => 0)))]) := hD
  obtain rfl : r198 = 0 := hwu199
  refine k_iast0 hx hb hG.1 hP hD hS 34 0 rfl rfl (by unfold vp_in; decide) dX12_movesTold_121 (fun H locs hP hD hS => ?_)
  refine lv_iinc (v := 1) (lv' := [(4, .int 1), (3, .int 2), (0, .ref (v 0)), (1, .ref a), (2, .int b)]) hx hb dX12_movesTold_122 hl (k := 0) rfl (by decide) (by decide) rfl (fun ls hl => ?_)
  refine lv_goto (tgt := 92) hx hb dX12_movesTold_125 (by decide) ?_
  refine lv_iload hx hb dX12_movesTold_92 (lv_at hl 0 rfl) ?_
  refine lv_iconst (v := 2) hx hb dX12_movesTold_94 (by decide) ?_
  refine lv_icmp_ge (tgt := 128) hx hb dX12_movesTold_95 (by decide) (fun h => absurd h (by decide)) (fun _ => ?_)
  refine lv_aload_n hx hb dX12_movesTold_98 rfl (lv_at hl 2 rfl) ?_
  refine va_get (D := D) (ci := 13) (v := .ref (v 11)) (C := RX12) (T := TX12) (N := 48) hx hb hts kin_RX12 hown hG.1 hP 38 rfl rfl 27 (by decide) (hts _ wm_1546) (fun _ h9 => h9) rfl dX12_movesTold_99 ?_
  refine lv_iload_n hx hb dX12_movesTold_102 rfl (lv_at hl 1 rfl) ?_
  refine k_aldA hx hb hG.1 hP 31 rfl (by unfold vp_in; decide) dX12_movesTold_103 ?_
  refine W.eq (g2 := F0 m 104 ls [.ref ((v 11) + 1 + 2)]) rfl ?_
  refine lv_iload hx hb dX12_movesTold_104 (lv_at hl 0 rfl) ?_
  refine lv_aload_n hx hb dX12_movesTold_106 rfl (lv_at hl 2 rfl) ?_
  refine lv_aload_n hx hb dX12_movesTold_107 rfl (lv_at hl 3 rfl) ?_
  refine lv_aload_n hx hb dX12_movesTold_108 rfl (lv_at hl 2 rfl) ?_
  refine va_get (D := D) (ci := 13) (v := .ref (v 11)) (C := RX12) (T := TX12) (N := 48) hx hb hts kin_RX12 hown hG.1 hP 38 rfl rfl 27 (by decide) (hts _ wm_1546) (fun _ h9 => h9) rfl dX12_movesTold_109 ?_
  refine lv_iload_n hx hb dX12_movesTold_112 rfl (lv_at hl 1 rfl) ?_
  refine k_aldA hx hb hG.1 hP 31 rfl (by unfold vp_in; decide) dX12_movesTold_113 ?_
  refine W.eq (g2 := F0 m 114 ls [.ref ((v 11) + 1 + 2), .ref a, .ref (v 0), .int 1, .ref ((v 11) + 1 + 2)]) rfl ?_
  refine lv_iload hx hb dX12_movesTold_114 (lv_at hl 0 rfl) ?_
  refine va_iald hx hb hG.1 hP 34 0 rfl rfl (by unfold vp_in; decide) dX12_movesTold_116 ?_
  refine lv_topi (fun x200 ex200 => ?_)
  obtain rfl : x200 = 0 := ex200.trans (rfl)
  refine lv_iload_n hx hb dX12_movesTold_117 rfl (lv_at hl 4 rfl) ?_
  refine k_cali [0, 1, 2, 3, 4, 5, 6, 7, 8, 9, 10, 11, 12, 13, 14, 15, 16, 17, 18, 19, 20, 21, 22, 23, 24, 25, 26, 27, 28, 29, 30, 31, 32, 33, 34, 35, 36, 37] (⟨hP, hD, hG, hS, hA, rfl, rfl⟩ : kAt D cy sa A s H _ _ [((v 0), .inr (13, [.int 0, .int 0, .int 0, .int (-1), .int 0, .int 0, .int 0, .int 0, .ref (v 1), .ref (v 2), .ref (v 3), .ref (v 4), .ref (v 5), .ref (v 6), .ref (v 7), .ref (v 8), .ref (v 9), .int 0, .int 0, .int 0, .int 0, .int 0, .int 0, .int 0, .int 0, .int 0, .ref (v 10), .ref (v 11), .ref (v 12), .ref (v 13), .int 109, .ref (v 14), .ref (v 15), .ref (v 16), .ref (v 17), .ref (v 18), .int 0, .int 0, .int 0, .ref (v 19), .ref (v 20), .ref (v 21), .ref (v 22), .ref (v 23), .int 0, .int 0, .int 0, .int 0])), (a, .inl (cy 0, 120, .inl (fun _ => 0)))] [38, 39]) (wr := (toldW cy v ++ [])) rfl rfl (by decide) (k_runV 13 38 (As := [.ref a, .int 0, .int b]) (rest := [.int 1, .ref ((v 11) + 1 + 2)]) E lk_VRX12_251 rfl rfl rfl (m_moves l hl0 D cy sa v a 0 109 (by unfold vp_in; decide) b H.size) (⟨hP, hD, hG, hS, hA, rfl, rfl⟩ : kAt D cy sa A s H _ _ [((v 0), .inr (13, [.int 0, .int 0, .int 0, .int (-1), .int 0, .int 0, .int 0, .int 0, .ref (v 1), .ref (v 2), .ref (v 3), .ref (v 4), .ref (v 5), .ref (v 6), .ref (v 7), .ref (v 8), .ref (v 9), .int 0, .int 0, .int 0, .int 0, .int 0, .int 0, .int 0, .int 0, .int 0, .ref (v 10), .ref (v 11), .ref (v 12), .ref (v 13), .int 109, .ref (v 14), .ref (v 15), .ref (v 16), .ref (v 17), .ref (v 18), .int 0, .int 0, .int 0, .ref (v 19), .ref (v 20), .ref (v 21), .ref (v 22), .ref (v 23), .int 0, .int 0, .int 0, .int 0])), (a, .inl (cy 0, 120, .inl (fun _ => 0)))] [38, 39]) hl.1 rfl rfl ⟨rfl, rfl, ⟨Nat.le_of_ble_eq_true rfl, Nat.le_of_ble_eq_true rfl⟩, ⟨Nat.le_of_ble_eq_true rfl, Nat.le_of_ble_eq_true rfl⟩, Nat.le_of_ble_eq_true rfl⟩ dX12_movesTold_118) (fun r201 u202 H locs hwu202 hP hD hS => ?_)
  have hP : va_P D vwCl (toldW cy v ++ [((v 0), .inr (13, [.int 0, .int 0, .int 0, .int (-1), .int 0, .int 0, .int 0, .int 0, .ref (v 1), .ref (v 2), .ref (v 3), .ref (v 4), .ref (v 5), .ref (v 6), .ref (v 7), .ref (v 8), .ref (v 9), .int 0, .int 0, .int 0, .int 0, .int 0, .int 0, .int 0, .int 0, .int 0, .ref (v 10), .ref (v 11), .ref (v 12), .ref (v 13), .int 110, .ref (v 14), .ref (v 15), .ref (v 16), .ref (v 17), .ref (v 18), .int 0, .int 0, .int 0, .ref (v 19), .ref (v 20), .ref (v 21), .ref (v 22), .ref (v 23), .int 0, .int 0, .int 0, .int 0])), (a, .inl (cy 0, 120, .inl (fun _ => 0)))]) H := hP
  have hD : va_D A (toldW cy v ++ [((v 0), .inr (13, [.int 0, .int 0, .int 0, .int (-1), .int 0, .int 0, .int 0, .int 0, .ref (v 1), .ref (v 2), .ref (v 3), .ref (v 4), .ref (v 5), .ref (v 6), .ref (v 7), .ref (v 8), .ref (v 9), .int 0, .int 0, .int 0, .int 0, .int 0, .int 0, .int 0, .int 0, .int 0, .ref (v 10), .ref (v 11), .ref (v 12), .ref (v 13), .int 110, .ref (v 14), .ref (v 15), .ref (v 16), .ref (v 17), .ref (v 18), .int 0, .int 0, .int 0, .ref (v 19), .ref (v 20), .ref (v 21), .ref (v 22), .ref (v 23), .int 0, .int 0, .int 0, .int 0])), (a, .inl (cy 0, 120, .inl (fun _ => 0)))]) := hD
  obtain rfl : r201 = 0 := hwu202
  refine k_iast0 hx hb hG.1 hP hD hS 34 0 rfl rfl (by unfold vp_in; decide) dX12_movesTold_121 (fun H locs hP hD hS => ?_)
  refine lv_iinc (v := 2) (lv' := [(4, .int 2), (3, .int 2), (0, .ref (v 0)), (1, .ref a), (2, .int b)]) hx hb dX12_movesTold_122 hl (k := 0) rfl (by decide) (by decide) rfl (fun ls hl => ?_)
  refine lv_goto (tgt := 92) hx hb dX12_movesTold_125 (by decide) ?_
  refine lv_iload hx hb dX12_movesTold_92 (lv_at hl 0 rfl) ?_
  refine lv_iconst (v := 2) hx hb dX12_movesTold_94 (by decide) ?_
  refine lv_icmp_ge (tgt := 128) hx hb dX12_movesTold_95 (by decide) (fun _ => ?_) (fun h => absurd (by decide) h)
  refine lv_iinc (v := 3) (lv' := [(3, .int 3), (4, .int 2), (0, .ref (v 0)), (1, .ref a), (2, .int b)]) hx hb dX12_movesTold_128 hl (k := 1) rfl (by decide) (by decide) rfl (fun ls hl => ?_)
  refine lv_goto (tgt := 83) hx hb dX12_movesTold_131 (by decide) ?_
  refine lv_iload_n hx hb dX12_movesTold_83 rfl (lv_at hl 0 rfl) ?_
  refine lv_bipush (v := 6) hx hb dX12_movesTold_84 (by decide) ?_
  refine lv_icmp_ge (tgt := 134) hx hb dX12_movesTold_86 (by decide) (fun h => absurd h (by decide)) (fun _ => ?_)
  refine lv_iconst (v := 0) hx hb dX12_movesTold_89 (by decide) ?_
  refine lv_istore (lv' := [(4, .int 0), (3, .int 3), (0, .ref (v 0)), (1, .ref a), (2, .int b)]) hx hb dX12_movesTold_90 hl (by decide) rfl (fun ls hl => ?_)
  refine lv_iload hx hb dX12_movesTold_92 (lv_at hl 0 rfl) ?_
  refine lv_iconst (v := 2) hx hb dX12_movesTold_94 (by decide) ?_
  refine lv_icmp_ge (tgt := 128) hx hb dX12_movesTold_95 (by decide) (fun h => absurd h (by decide)) (fun _ => ?_)
  refine lv_aload_n hx hb dX12_movesTold_98 rfl (lv_at hl 2 rfl) ?_
  refine va_get (D := D) (ci := 13) (v := .ref (v 11)) (C := RX12) (T := TX12) (N := 48) hx hb hts kin_RX12 hown hG.1 hP 38 rfl rfl 27 (by decide) (hts _ wm_1546) (fun _ h9 => h9) rfl dX12_movesTold_99 ?_
  refine lv_iload_n hx hb dX12_movesTold_102 rfl (lv_at hl 1 rfl) ?_
  refine k_aldA hx hb hG.1 hP 31 rfl (by unfold vp_in; decide) dX12_movesTold_103 ?_
  refine W.eq (g2 := F0 m 104 ls [.ref ((v 11) + 1 + 3)]) rfl ?_
  refine lv_iload hx hb dX12_movesTold_104 (lv_at hl 0 rfl) ?_
  refine lv_aload_n hx hb dX12_movesTold_106 rfl (lv_at hl 2 rfl) ?_
  refine lv_aload_n hx hb dX12_movesTold_107 rfl (lv_at hl 3 rfl) ?_
  refine lv_aload_n hx hb dX12_movesTold_108 rfl (lv_at hl 2 rfl) ?_
  refine va_get (D := D) (ci := 13) (v := .ref (v 11)) (C := RX12) (T := TX12) (N := 48) hx hb hts kin_RX12 hown hG.1 hP 38 rfl rfl 27 (by decide) (hts _ wm_1546) (fun _ h9 => h9) rfl dX12_movesTold_109 ?_
  refine lv_iload_n hx hb dX12_movesTold_112 rfl (lv_at hl 1 rfl) ?_
  refine k_aldA hx hb hG.1 hP 31 rfl (by unfold vp_in; decide) dX12_movesTold_113 ?_
  refine W.eq (g2 := F0 m 114 ls [.ref ((v 11) + 1 + 3), .ref a, .ref (v 0), .int 0, .ref ((v 11) + 1 + 3)]) rfl ?_
  refine lv_iload hx hb dX12_movesTold_114 (lv_at hl 0 rfl) ?_
  refine va_iald hx hb hG.1 hP 35 0 rfl rfl (by unfold vp_in; decide) dX12_movesTold_116 ?_
  refine lv_topi (fun x203 ex203 => ?_)
  obtain rfl : x203 = 0 := ex203.trans (rfl)
  refine lv_iload_n hx hb dX12_movesTold_117 rfl (lv_at hl 4 rfl) ?_
  refine k_cali [0, 1, 2, 3, 4, 5, 6, 7, 8, 9, 10, 11, 12, 13, 14, 15, 16, 17, 18, 19, 20, 21, 22, 23, 24, 25, 26, 27, 28, 29, 30, 31, 32, 33, 34, 35, 36, 37] (⟨hP, hD, hG, hS, hA, rfl, rfl⟩ : kAt D cy sa A s H _ _ [((v 0), .inr (13, [.int 0, .int 0, .int 0, .int (-1), .int 0, .int 0, .int 0, .int 0, .ref (v 1), .ref (v 2), .ref (v 3), .ref (v 4), .ref (v 5), .ref (v 6), .ref (v 7), .ref (v 8), .ref (v 9), .int 0, .int 0, .int 0, .int 0, .int 0, .int 0, .int 0, .int 0, .int 0, .ref (v 10), .ref (v 11), .ref (v 12), .ref (v 13), .int 110, .ref (v 14), .ref (v 15), .ref (v 16), .ref (v 17), .ref (v 18), .int 0, .int 0, .int 0, .ref (v 19), .ref (v 20), .ref (v 21), .ref (v 22), .ref (v 23), .int 0, .int 0, .int 0, .int 0])), (a, .inl (cy 0, 120, .inl (fun _ => 0)))] [38, 39]) (wr := (toldW cy v ++ [])) rfl rfl (by decide) (k_runV 13 38 (As := [.ref a, .int 0, .int b]) (rest := [.int 0, .ref ((v 11) + 1 + 3)]) E lk_VRX12_251 rfl rfl rfl (m_moves l hl0 D cy sa v a 0 110 (by unfold vp_in; decide) b H.size) (⟨hP, hD, hG, hS, hA, rfl, rfl⟩ : kAt D cy sa A s H _ _ [((v 0), .inr (13, [.int 0, .int 0, .int 0, .int (-1), .int 0, .int 0, .int 0, .int 0, .ref (v 1), .ref (v 2), .ref (v 3), .ref (v 4), .ref (v 5), .ref (v 6), .ref (v 7), .ref (v 8), .ref (v 9), .int 0, .int 0, .int 0, .int 0, .int 0, .int 0, .int 0, .int 0, .int 0, .ref (v 10), .ref (v 11), .ref (v 12), .ref (v 13), .int 110, .ref (v 14), .ref (v 15), .ref (v 16), .ref (v 17), .ref (v 18), .int 0, .int 0, .int 0, .ref (v 19), .ref (v 20), .ref (v 21), .ref (v 22), .ref (v 23), .int 0, .int 0, .int 0, .int 0])), (a, .inl (cy 0, 120, .inl (fun _ => 0)))] [38, 39]) hl.1 rfl rfl ⟨rfl, rfl, ⟨Nat.le_of_ble_eq_true rfl, Nat.le_of_ble_eq_true rfl⟩, ⟨Nat.le_of_ble_eq_true rfl, Nat.le_of_ble_eq_true rfl⟩, Nat.le_of_ble_eq_true rfl⟩ dX12_movesTold_118) (fun r204 u205 H locs hwu205 hP hD hS => ?_)
  have hP : va_P D vwCl (toldW cy v ++ [((v 0), .inr (13, [.int 0, .int 0, .int 0, .int (-1), .int 0, .int 0, .int 0, .int 0, .ref (v 1), .ref (v 2), .ref (v 3), .ref (v 4), .ref (v 5), .ref (v 6), .ref (v 7), .ref (v 8), .ref (v 9), .int 0, .int 0, .int 0, .int 0, .int 0, .int 0, .int 0, .int 0, .int 0, .ref (v 10), .ref (v 11), .ref (v 12), .ref (v 13), .int 111, .ref (v 14), .ref (v 15), .ref (v 16), .ref (v 17), .ref (v 18), .int 0, .int 0, .int 0, .ref (v 19), .ref (v 20), .ref (v 21), .ref (v 22), .ref (v 23), .int 0, .int 0, .int 0, .int 0])), (a, .inl (cy 0, 120, .inl (fun _ => 0)))]) H := hP
  have hD : va_D A (toldW cy v ++ [((v 0), .inr (13, [.int 0, .int 0, .int 0, .int (-1), .int 0, .int 0, .int 0, .int 0, .ref (v 1), .ref (v 2), .ref (v 3), .ref (v 4), .ref (v 5), .ref (v 6), .ref (v 7), .ref (v 8), .ref (v 9), .int 0, .int 0, .int 0, .int 0, .int 0, .int 0, .int 0, .int 0, .int 0, .ref (v 10), .ref (v 11), .ref (v 12), .ref (v 13), .int 111, .ref (v 14), .ref (v 15), .ref (v 16), .ref (v 17), .ref (v 18), .int 0, .int 0, .int 0, .ref (v 19), .ref (v 20), .ref (v 21), .ref (v 22), .ref (v 23), .int 0, .int 0, .int 0, .int 0])), (a, .inl (cy 0, 120, .inl (fun _ => 0)))]) := hD
  obtain rfl : r204 = 0 := hwu205
  refine k_iast0 hx hb hG.1 hP hD hS 35 0 rfl rfl (by unfold vp_in; decide) dX12_movesTold_121 (fun H locs hP hD hS => ?_)
  refine lv_iinc (v := 1) (lv' := [(4, .int 1), (3, .int 3), (0, .ref (v 0)), (1, .ref a), (2, .int b)]) hx hb dX12_movesTold_122 hl (k := 0) rfl (by decide) (by decide) rfl (fun ls hl => ?_)
  refine lv_goto (tgt := 92) hx hb dX12_movesTold_125 (by decide) ?_
  refine lv_iload hx hb dX12_movesTold_92 (lv_at hl 0 rfl) ?_
  refine lv_iconst (v := 2) hx hb dX12_movesTold_94 (by decide) ?_
  refine lv_icmp_ge (tgt := 128) hx hb dX12_movesTold_95 (by decide) (fun h => absurd h (by decide)) (fun _ => ?_)
  refine lv_aload_n hx hb dX12_movesTold_98 rfl (lv_at hl 2 rfl) ?_
  refine va_get (D := D) (ci := 13) (v := .ref (v 11)) (C := RX12) (T := TX12) (N := 48) hx hb hts kin_RX12 hown hG.1 hP 38 rfl rfl 27 (by decide) (hts _ wm_1546) (fun _ h9 => h9) rfl dX12_movesTold_99 ?_
  refine lv_iload_n hx hb dX12_movesTold_102 rfl (lv_at hl 1 rfl) ?_
  refine k_aldA hx hb hG.1 hP 31 rfl (by unfold vp_in; decide) dX12_movesTold_103 ?_
  refine W.eq (g2 := F0 m 104 ls [.ref ((v 11) + 1 + 3)]) rfl ?_
  refine lv_iload hx hb dX12_movesTold_104 (lv_at hl 0 rfl) ?_
  refine lv_aload_n hx hb dX12_movesTold_106 rfl (lv_at hl 2 rfl) ?_
  refine lv_aload_n hx hb dX12_movesTold_107 rfl (lv_at hl 3 rfl) ?_
  refine lv_aload_n hx hb dX12_movesTold_108 rfl (lv_at hl 2 rfl) ?_
  refine va_get (D := D) (ci := 13) (v := .ref (v 11)) (C := RX12) (T := TX12) (N := 48) hx hb hts kin_RX12 hown hG.1 hP 38 rfl rfl 27 (by decide) (hts _ wm_1546) (fun _ h9 => h9) rfl dX12_movesTold_109 ?_
  refine lv_iload_n hx hb dX12_movesTold_112 rfl (lv_at hl 1 rfl) ?_
  refine k_aldA hx hb hG.1 hP 31 rfl (by unfold vp_in; decide) dX12_movesTold_113 ?_
  refine W.eq (g2 := F0 m 114 ls [.ref ((v 11) + 1 + 3), .ref a, .ref (v 0), .int 1, .ref ((v 11) + 1 + 3)]) rfl ?_
  refine lv_iload hx hb dX12_movesTold_114 (lv_at hl 0 rfl) ?_
  refine va_iald hx hb hG.1 hP 35 0 rfl rfl (by unfold vp_in; decide) dX12_movesTold_116 ?_
  refine lv_topi (fun x206 ex206 => ?_)
  obtain rfl : x206 = 0 := ex206.trans (rfl)
  refine lv_iload_n hx hb dX12_movesTold_117 rfl (lv_at hl 4 rfl) ?_
  refine k_cali [0, 1, 2, 3, 4, 5, 6, 7, 8, 9, 10, 11, 12, 13, 14, 15, 16, 17, 18, 19, 20, 21, 22, 23, 24, 25, 26, 27, 28, 29, 30, 31, 32, 33, 34, 35, 36, 37] (⟨hP, hD, hG, hS, hA, rfl, rfl⟩ : kAt D cy sa A s H _ _ [((v 0), .inr (13, [.int 0, .int 0, .int 0, .int (-1), .int 0, .int 0, .int 0, .int 0, .ref (v 1), .ref (v 2), .ref (v 3), .ref (v 4), .ref (v 5), .ref (v 6), .ref (v 7), .ref (v 8), .ref (v 9), .int 0, .int 0, .int 0, .int 0, .int 0, .int 0, .int 0, .int 0, .int 0, .ref (v 10), .ref (v 11), .ref (v 12), .ref (v 13), .int 111, .ref (v 14), .ref (v 15), .ref (v 16), .ref (v 17), .ref (v 18), .int 0, .int 0, .int 0, .ref (v 19), .ref (v 20), .ref (v 21), .ref (v 22), .ref (v 23), .int 0, .int 0, .int 0, .int 0])), (a, .inl (cy 0, 120, .inl (fun _ => 0)))] [38, 39]) (wr := (toldW cy v ++ [])) rfl rfl (by decide) (k_runV 13 38 (As := [.ref a, .int 0, .int b]) (rest := [.int 1, .ref ((v 11) + 1 + 3)]) E lk_VRX12_251 rfl rfl rfl (m_moves l hl0 D cy sa v a 0 111 (by unfold vp_in; decide) b H.size) (⟨hP, hD, hG, hS, hA, rfl, rfl⟩ : kAt D cy sa A s H _ _ [((v 0), .inr (13, [.int 0, .int 0, .int 0, .int (-1), .int 0, .int 0, .int 0, .int 0, .ref (v 1), .ref (v 2), .ref (v 3), .ref (v 4), .ref (v 5), .ref (v 6), .ref (v 7), .ref (v 8), .ref (v 9), .int 0, .int 0, .int 0, .int 0, .int 0, .int 0, .int 0, .int 0, .int 0, .ref (v 10), .ref (v 11), .ref (v 12), .ref (v 13), .int 111, .ref (v 14), .ref (v 15), .ref (v 16), .ref (v 17), .ref (v 18), .int 0, .int 0, .int 0, .ref (v 19), .ref (v 20), .ref (v 21), .ref (v 22), .ref (v 23), .int 0, .int 0, .int 0, .int 0])), (a, .inl (cy 0, 120, .inl (fun _ => 0)))] [38, 39]) hl.1 rfl rfl ⟨rfl, rfl, ⟨Nat.le_of_ble_eq_true rfl, Nat.le_of_ble_eq_true rfl⟩, ⟨Nat.le_of_ble_eq_true rfl, Nat.le_of_ble_eq_true rfl⟩, Nat.le_of_ble_eq_true rfl⟩ dX12_movesTold_118) (fun r207 u208 H locs hwu208 hP hD hS => ?_)
  have hP : va_P D vwCl (toldW cy v ++ [((v 0), .inr (13, [.int 0, .int 0, .int 0, .int (-1), .int 0, .int 0, .int 0, .int 0, .ref (v 1), .ref (v 2), .ref (v 3), .ref (v 4), .ref (v 5), .ref (v 6), .ref (v 7), .ref (v 8), .ref (v 9), .int 0, .int 0, .int 0, .int 0, .int 0, .int 0, .int 0, .int 0, .int 0, .ref (v 10), .ref (v 11), .ref (v 12), .ref (v 13), .int 112, .ref (v 14), .ref (v 15), .ref (v 16), .ref (v 17), .ref (v 18), .int 0, .int 0, .int 0, .ref (v 19), .ref (v 20), .ref (v 21), .ref (v 22), .ref (v 23), .int 0, .int 0, .int 0, .int 0])), (a, .inl (cy 0, 120, .inl (fun _ => 0)))]) H := hP
  have hD : va_D A (toldW cy v ++ [((v 0), .inr (13, [.int 0, .int 0, .int 0, .int (-1), .int 0, .int 0, .int 0, .int 0, .ref (v 1), .ref (v 2), .ref (v 3), .ref (v 4), .ref (v 5), .ref (v 6), .ref (v 7), .ref (v 8), .ref (v 9), .int 0, .int 0, .int 0, .int 0, .int 0, .int 0, .int 0, .int 0, .int 0, .ref (v 10), .ref (v 11), .ref (v 12), .ref (v 13), .int 112, .ref (v 14), .ref (v 15), .ref (v 16), .ref (v 17), .ref (v 18), .int 0, .int 0, .int 0, .ref (v 19), .ref (v 20), .ref (v 21), .ref (v 22), .ref (v 23), .int 0, .int 0, .int 0, .int 0])), (a, .inl (cy 0, 120, .inl (fun _ => 0)))]) := hD
  obtain rfl : r207 = 0 := hwu208
  refine k_iast0 hx hb hG.1 hP hD hS 35 0 rfl rfl (by unfold vp_in; decide) dX12_movesTold_121 (fun H locs hP hD hS => ?_)
  refine lv_iinc (v := 2) (lv' := [(4, .int 2), (3, .int 3), (0, .ref (v 0)), (1, .ref a), (2, .int b)]) hx hb dX12_movesTold_122 hl (k := 0) rfl (by decide) (by decide) rfl (fun ls hl => ?_)
  refine lv_goto (tgt := 92) hx hb dX12_movesTold_125 (by decide) ?_
  refine lv_iload hx hb dX12_movesTold_92 (lv_at hl 0 rfl) ?_
  refine lv_iconst (v := 2) hx hb dX12_movesTold_94 (by decide) ?_
  refine lv_icmp_ge (tgt := 128) hx hb dX12_movesTold_95 (by decide) (fun _ => ?_) (fun h => absurd (by decide) h)
  refine lv_iinc (v := 4) (lv' := [(3, .int 4), (4, .int 2), (0, .ref (v 0)), (1, .ref a), (2, .int b)]) hx hb dX12_movesTold_128 hl (k := 1) rfl (by decide) (by decide) rfl (fun ls hl => ?_)
  refine lv_goto (tgt := 83) hx hb dX12_movesTold_131 (by decide) ?_
  refine lv_iload_n hx hb dX12_movesTold_83 rfl (lv_at hl 0 rfl) ?_
  refine lv_bipush (v := 6) hx hb dX12_movesTold_84 (by decide) ?_
  refine lv_icmp_ge (tgt := 134) hx hb dX12_movesTold_86 (by decide) (fun h => absurd h (by decide)) (fun _ => ?_)
  refine lv_iconst (v := 0) hx hb dX12_movesTold_89 (by decide) ?_
  refine lv_istore (lv' := [(4, .int 0), (3, .int 4), (0, .ref (v 0)), (1, .ref a), (2, .int b)]) hx hb dX12_movesTold_90 hl (by decide) rfl (fun ls hl => ?_)
  refine lv_iload hx hb dX12_movesTold_92 (lv_at hl 0 rfl) ?_
  refine lv_iconst (v := 2) hx hb dX12_movesTold_94 (by decide) ?_
  refine lv_icmp_ge (tgt := 128) hx hb dX12_movesTold_95 (by decide) (fun h => absurd h (by decide)) (fun _ => ?_)
  refine lv_aload_n hx hb dX12_movesTold_98 rfl (lv_at hl 2 rfl) ?_
  refine va_get (D := D) (ci := 13) (v := .ref (v 11)) (C := RX12) (T := TX12) (N := 48) hx hb hts kin_RX12 hown hG.1 hP 38 rfl rfl 27 (by decide) (hts _ wm_1546) (fun _ h9 => h9) rfl dX12_movesTold_99 ?_
  refine lv_iload_n hx hb dX12_movesTold_102 rfl (lv_at hl 1 rfl) ?_
  refine k_aldA hx hb hG.1 hP 31 rfl (by unfold vp_in; decide) dX12_movesTold_103 ?_
  refine W.eq (g2 := F0 m 104 ls [.ref ((v 11) + 1 + 4)]) rfl ?_
  refine lv_iload hx hb dX12_movesTold_104 (lv_at hl 0 rfl) ?_
  refine lv_aload_n hx hb dX12_movesTold_106 rfl (lv_at hl 2 rfl) ?_
  refine lv_aload_n hx hb dX12_movesTold_107 rfl (lv_at hl 3 rfl) ?_
  refine lv_aload_n hx hb dX12_movesTold_108 rfl (lv_at hl 2 rfl) ?_
  refine va_get (D := D) (ci := 13) (v := .ref (v 11)) (C := RX12) (T := TX12) (N := 48) hx hb hts kin_RX12 hown hG.1 hP 38 rfl rfl 27 (by decide) (hts _ wm_1546) (fun _ h9 => h9) rfl dX12_movesTold_109 ?_
  refine lv_iload_n hx hb dX12_movesTold_112 rfl (lv_at hl 1 rfl) ?_
  refine k_aldA hx hb hG.1 hP 31 rfl (by unfold vp_in; decide) dX12_movesTold_113 ?_
  refine W.eq (g2 := F0 m 114 ls [.ref ((v 11) + 1 + 4), .ref a, .ref (v 0), .int 0, .ref ((v 11) + 1 + 4)]) rfl ?_
  refine lv_iload hx hb dX12_movesTold_114 (lv_at hl 0 rfl) ?_
  refine va_iald hx hb hG.1 hP 36 0 rfl rfl (by unfold vp_in; decide) dX12_movesTold_116 ?_
  refine lv_topi (fun x209 ex209 => ?_)
  obtain rfl : x209 = 0 := ex209.trans (rfl)
  refine lv_iload_n hx hb dX12_movesTold_117 rfl (lv_at hl 4 rfl) ?_
  refine k_cali [0, 1, 2, 3, 4, 5, 6, 7, 8, 9, 10, 11, 12, 13, 14, 15, 16, 17, 18, 19, 20, 21, 22, 23, 24, 25, 26, 27, 28, 29, 30, 31, 32, 33, 34, 35, 36, 37] (⟨hP, hD, hG, hS, hA, rfl, rfl⟩ : kAt D cy sa A s H _ _ [((v 0), .inr (13, [.int 0, .int 0, .int 0, .int (-1), .int 0, .int 0, .int 0, .int 0, .ref (v 1), .ref (v 2), .ref (v 3), .ref (v 4), .ref (v 5), .ref (v 6), .ref (v 7), .ref (v 8), .ref (v 9), .int 0, .int 0, .int 0, .int 0, .int 0, .int 0, .int 0, .int 0, .int 0, .ref (v 10), .ref (v 11), .ref (v 12), .ref (v 13), .int 112, .ref (v 14), .ref (v 15), .ref (v 16), .ref (v 17), .ref (v 18), .int 0, .int 0, .int 0, .ref (v 19), .ref (v 20), .ref (v 21), .ref (v 22), .ref (v 23), .int 0, .int 0, .int 0, .int 0])), (a, .inl (cy 0, 120, .inl (fun _ => 0)))] [38, 39]) (wr := (toldW cy v ++ [])) rfl rfl (by decide) (k_runV 13 38 (As := [.ref a, .int 0, .int b]) (rest := [.int 0, .ref ((v 11) + 1 + 4)]) E lk_VRX12_251 rfl rfl rfl (m_moves l hl0 D cy sa v a 0 112 (by unfold vp_in; decide) b H.size) (⟨hP, hD, hG, hS, hA, rfl, rfl⟩ : kAt D cy sa A s H _ _ [((v 0), .inr (13, [.int 0, .int 0, .int 0, .int (-1), .int 0, .int 0, .int 0, .int 0, .ref (v 1), .ref (v 2), .ref (v 3), .ref (v 4), .ref (v 5), .ref (v 6), .ref (v 7), .ref (v 8), .ref (v 9), .int 0, .int 0, .int 0, .int 0, .int 0, .int 0, .int 0, .int 0, .int 0, .ref (v 10), .ref (v 11), .ref (v 12), .ref (v 13), .int 112, .ref (v 14), .ref (v 15), .ref (v 16), .ref (v 17), .ref (v 18), .int 0, .int 0, .int 0, .ref (v 19), .ref (v 20), .ref (v 21), .ref (v 22), .ref (v 23), .int 0, .int 0, .int 0, .int 0])), (a, .inl (cy 0, 120, .inl (fun _ => 0)))] [38, 39]) hl.1 rfl rfl ⟨rfl, rfl, ⟨Nat.le_of_ble_eq_true rfl, Nat.le_of_ble_eq_true rfl⟩, ⟨Nat.le_of_ble_eq_true rfl, Nat.le_of_ble_eq_true rfl⟩, Nat.le_of_ble_eq_true rfl⟩ dX12_movesTold_118) (fun r210 u211 H locs hwu211 hP hD hS => ?_)
  have hP : va_P D vwCl (toldW cy v ++ [((v 0), .inr (13, [.int 0, .int 0, .int 0, .int (-1), .int 0, .int 0, .int 0, .int 0, .ref (v 1), .ref (v 2), .ref (v 3), .ref (v 4), .ref (v 5), .ref (v 6), .ref (v 7), .ref (v 8), .ref (v 9), .int 0, .int 0, .int 0, .int 0, .int 0, .int 0, .int 0, .int 0, .int 0, .ref (v 10), .ref (v 11), .ref (v 12), .ref (v 13), .int 113, .ref (v 14), .ref (v 15), .ref (v 16), .ref (v 17), .ref (v 18), .int 0, .int 0, .int 0, .ref (v 19), .ref (v 20), .ref (v 21), .ref (v 22), .ref (v 23), .int 0, .int 0, .int 0, .int 0])), (a, .inl (cy 0, 120, .inl (fun _ => 0)))]) H := hP
  have hD : va_D A (toldW cy v ++ [((v 0), .inr (13, [.int 0, .int 0, .int 0, .int (-1), .int 0, .int 0, .int 0, .int 0, .ref (v 1), .ref (v 2), .ref (v 3), .ref (v 4), .ref (v 5), .ref (v 6), .ref (v 7), .ref (v 8), .ref (v 9), .int 0, .int 0, .int 0, .int 0, .int 0, .int 0, .int 0, .int 0, .int 0, .ref (v 10), .ref (v 11), .ref (v 12), .ref (v 13), .int 113, .ref (v 14), .ref (v 15), .ref (v 16), .ref (v 17), .ref (v 18), .int 0, .int 0, .int 0, .ref (v 19), .ref (v 20), .ref (v 21), .ref (v 22), .ref (v 23), .int 0, .int 0, .int 0, .int 0])), (a, .inl (cy 0, 120, .inl (fun _ => 0)))]) := hD
  obtain rfl : r210 = 0 := hwu211
  refine k_iast0 hx hb hG.1 hP hD hS 36 0 rfl rfl (by unfold vp_in; decide) dX12_movesTold_121 (fun H locs hP hD hS => ?_)
  refine lv_iinc (v := 1) (lv' := [(4, .int 1), (3, .int 4), (0, .ref (v 0)), (1, .ref a), (2, .int b)]) hx hb dX12_movesTold_122 hl (k := 0) rfl (by decide) (by decide) rfl (fun ls hl => ?_)
  refine lv_goto (tgt := 92) hx hb dX12_movesTold_125 (by decide) ?_
  refine lv_iload hx hb dX12_movesTold_92 (lv_at hl 0 rfl) ?_
  refine lv_iconst (v := 2) hx hb dX12_movesTold_94 (by decide) ?_
  refine lv_icmp_ge (tgt := 128) hx hb dX12_movesTold_95 (by decide) (fun h => absurd h (by decide)) (fun _ => ?_)
  refine lv_aload_n hx hb dX12_movesTold_98 rfl (lv_at hl 2 rfl) ?_
  refine va_get (D := D) (ci := 13) (v := .ref (v 11)) (C := RX12) (T := TX12) (N := 48) hx hb hts kin_RX12 hown hG.1 hP 38 rfl rfl 27 (by decide) (hts _ wm_1546) (fun _ h9 => h9) rfl dX12_movesTold_99 ?_
  refine lv_iload_n hx hb dX12_movesTold_102 rfl (lv_at hl 1 rfl) ?_
  refine k_aldA hx hb hG.1 hP 31 rfl (by unfold vp_in; decide) dX12_movesTold_103 ?_
  refine W.eq (g2 := F0 m 104 ls [.ref ((v 11) + 1 + 4)]) rfl ?_
  refine lv_iload hx hb dX12_movesTold_104 (lv_at hl 0 rfl) ?_
  refine lv_aload_n hx hb dX12_movesTold_106 rfl (lv_at hl 2 rfl) ?_
  refine lv_aload_n hx hb dX12_movesTold_107 rfl (lv_at hl 3 rfl) ?_
  refine lv_aload_n hx hb dX12_movesTold_108 rfl (lv_at hl 2 rfl) ?_
  refine va_get (D := D) (ci := 13) (v := .ref (v 11)) (C := RX12) (T := TX12) (N := 48) hx hb hts kin_RX12 hown hG.1 hP 38 rfl rfl 27 (by decide) (hts _ wm_1546) (fun _ h9 => h9) rfl dX12_movesTold_109 ?_
  refine lv_iload_n hx hb dX12_movesTold_112 rfl (lv_at hl 1 rfl) ?_
  refine k_aldA hx hb hG.1 hP 31 rfl (by unfold vp_in; decide) dX12_movesTold_113 ?_
  refine W.eq (g2 := F0 m 114 ls [.ref ((v 11) + 1 + 4), .ref a, .ref (v 0), .int 1, .ref ((v 11) + 1 + 4)]) rfl ?_
  refine lv_iload hx hb dX12_movesTold_114 (lv_at hl 0 rfl) ?_
  refine va_iald hx hb hG.1 hP 36 0 rfl rfl (by unfold vp_in; decide) dX12_movesTold_116 ?_
  refine lv_topi (fun x212 ex212 => ?_)
  obtain rfl : x212 = 0 := ex212.trans (rfl)
  refine lv_iload_n hx hb dX12_movesTold_117 rfl (lv_at hl 4 rfl) ?_
  refine k_cali [0, 1, 2, 3, 4, 5, 6, 7, 8, 9, 10, 11, 12, 13, 14, 15, 16, 17, 18, 19, 20, 21, 22, 23, 24, 25, 26, 27, 28, 29, 30, 31, 32, 33, 34, 35, 36, 37] (⟨hP, hD, hG, hS, hA, rfl, rfl⟩ : kAt D cy sa A s H _ _ [((v 0), .inr (13, [.int 0, .int 0, .int 0, .int (-1), .int 0, .int 0, .int 0, .int 0, .ref (v 1), .ref (v 2), .ref (v 3), .ref (v 4), .ref (v 5), .ref (v 6), .ref (v 7), .ref (v 8), .ref (v 9), .int 0, .int 0, .int 0, .int 0, .int 0, .int 0, .int 0, .int 0, .int 0, .ref (v 10), .ref (v 11), .ref (v 12), .ref (v 13), .int 113, .ref (v 14), .ref (v 15), .ref (v 16), .ref (v 17), .ref (v 18), .int 0, .int 0, .int 0, .ref (v 19), .ref (v 20), .ref (v 21), .ref (v 22), .ref (v 23), .int 0, .int 0, .int 0, .int 0])), (a, .inl (cy 0, 120, .inl (fun _ => 0)))] [38, 39]) (wr := (toldW cy v ++ [])) rfl rfl (by decide) (k_runV 13 38 (As := [.ref a, .int 0, .int b]) (rest := [.int 1, .ref ((v 11) + 1 + 4)]) E lk_VRX12_251 rfl rfl rfl (m_moves l hl0 D cy sa v a 0 113 (by unfold vp_in; decide) b H.size) (⟨hP, hD, hG, hS, hA, rfl, rfl⟩ : kAt D cy sa A s H _ _ [((v 0), .inr (13, [.int 0, .int 0, .int 0, .int (-1), .int 0, .int 0, .int 0, .int 0, .ref (v 1), .ref (v 2), .ref (v 3), .ref (v 4), .ref (v 5), .ref (v 6), .ref (v 7), .ref (v 8), .ref (v 9), .int 0, .int 0, .int 0, .int 0, .int 0, .int 0, .int 0, .int 0, .int 0, .ref (v 10), .ref (v 11), .ref (v 12), .ref (v 13), .int 113, .ref (v 14), .ref (v 15), .ref (v 16), .ref (v 17), .ref (v 18), .int 0, .int 0, .int 0, .ref (v 19), .ref (v 20), .ref (v 21), .ref (v 22), .ref (v 23), .int 0, .int 0, .int 0, .int 0])), (a, .inl (cy 0, 120, .inl (fun _ => 0)))] [38, 39]) hl.1 rfl rfl ⟨rfl, rfl, ⟨Nat.le_of_ble_eq_true rfl, Nat.le_of_ble_eq_true rfl⟩, ⟨Nat.le_of_ble_eq_true rfl, Nat.le_of_ble_eq_true rfl⟩, Nat.le_of_ble_eq_true rfl⟩ dX12_movesTold_118) (fun r213 u214 H locs hwu214 hP hD hS => ?_)
  have hP : va_P D vwCl (toldW cy v ++ [((v 0), .inr (13, [.int 0, .int 0, .int 0, .int (-1), .int 0, .int 0, .int 0, .int 0, .ref (v 1), .ref (v 2), .ref (v 3), .ref (v 4), .ref (v 5), .ref (v 6), .ref (v 7), .ref (v 8), .ref (v 9), .int 0, .int 0, .int 0, .int 0, .int 0, .int 0, .int 0, .int 0, .int 0, .ref (v 10), .ref (v 11), .ref (v 12), .ref (v 13), .int 114, .ref (v 14), .ref (v 15), .ref (v 16), .ref (v 17), .ref (v 18), .int 0, .int 0, .int 0, .ref (v 19), .ref (v 20), .ref (v 21), .ref (v 22), .ref (v 23), .int 0, .int 0, .int 0, .int 0])), (a, .inl (cy 0, 120, .inl (fun _ => 0)))]) H := hP
  have hD : va_D A (toldW cy v ++ [((v 0), .inr (13, [.int 0, .int 0, .int 0, .int (-1), .int 0, .int 0, .int 0, .int 0, .ref (v 1), .ref (v 2), .ref (v 3), .ref (v 4), .ref (v 5), .ref (v 6), .ref (v 7), .ref (v 8), .ref (v 9), .int 0, .int 0, .int 0, .int 0, .int 0, .int 0, .int 0, .int 0, .int 0, .ref (v 10), .ref (v 11), .ref (v 12), .ref (v 13), .int 114, .ref (v 14), .ref (v 15), .ref (v 16), .ref (v 17), .ref (v 18), .int 0, .int 0, .int 0, .ref (v 19), .ref (v 20), .ref (v 21), .ref (v 22), .ref (v 23), .int 0, .int 0, .int 0, .int 0])), (a, .inl (cy 0, 120, .inl (fun _ => 0)))]) := hD
  obtain rfl : r213 = 0 := hwu214
  refine k_iast0 hx hb hG.1 hP hD hS 36 0 rfl rfl (by unfold vp_in; decide) dX12_movesTold_121 (fun H locs hP hD hS => ?_)
  refine lv_iinc (v := 2) (lv' := [(4, .int 2), (3, .int 4), (0, .ref (v 0)), (1, .ref a), (2, .int b)]) hx hb dX12_movesTold_122 hl (k := 0) rfl (by decide) (by decide) rfl (fun ls hl => ?_)
  refine lv_goto (tgt := 92) hx hb dX12_movesTold_125 (by decide) ?_
  refine lv_iload hx hb dX12_movesTold_92 (lv_at hl 0 rfl) ?_
  refine lv_iconst (v := 2) hx hb dX12_movesTold_94 (by decide) ?_
  refine lv_icmp_ge (tgt := 128) hx hb dX12_movesTold_95 (by decide) (fun _ => ?_) (fun h => absurd (by decide) h)
  refine lv_iinc (v := 5) (lv' := [(3, .int 5), (4, .int 2), (0, .ref (v 0)), (1, .ref a), (2, .int b)]) hx hb dX12_movesTold_128 hl (k := 1) rfl (by decide) (by decide) rfl (fun ls hl => ?_)
  refine lv_goto (tgt := 83) hx hb dX12_movesTold_131 (by decide) ?_
  refine lv_iload_n hx hb dX12_movesTold_83 rfl (lv_at hl 0 rfl) ?_
  refine lv_bipush (v := 6) hx hb dX12_movesTold_84 (by decide) ?_
  refine lv_icmp_ge (tgt := 134) hx hb dX12_movesTold_86 (by decide) (fun h => absurd h (by decide)) (fun _ => ?_)
  refine lv_iconst (v := 0) hx hb dX12_movesTold_89 (by decide) ?_
  refine lv_istore (lv' := [(4, .int 0), (3, .int 5), (0, .ref (v 0)), (1, .ref a), (2, .int b)]) hx hb dX12_movesTold_90 hl (by decide) rfl (fun ls hl => ?_)
  refine lv_iload hx hb dX12_movesTold_92 (lv_at hl 0 rfl) ?_
  refine lv_iconst (v := 2) hx hb dX12_movesTold_94 (by decide) ?_
  refine lv_icmp_ge (tgt := 128) hx hb dX12_movesTold_95 (by decide) (fun h => absurd h (by decide)) (fun _ => ?_)
  refine lv_aload_n hx hb dX12_movesTold_98 rfl (lv_at hl 2 rfl) ?_
  refine va_get (D := D) (ci := 13) (v := .ref (v 11)) (C := RX12) (T := TX12) (N := 48) hx hb hts kin_RX12 hown hG.1 hP 38 rfl rfl 27 (by decide) (hts _ wm_1546) (fun _ h9 => h9) rfl dX12_movesTold_99 ?_
  refine lv_iload_n hx hb dX12_movesTold_102 rfl (lv_at hl 1 rfl) ?_
  refine k_aldA hx hb hG.1 hP 31 rfl (by unfold vp_in; decide) dX12_movesTold_103 ?_
  refine W.eq (g2 := F0 m 104 ls [.ref ((v 11) + 1 + 5)]) rfl ?_
  refine lv_iload hx hb dX12_movesTold_104 (lv_at hl 0 rfl) ?_
  refine lv_aload_n hx hb dX12_movesTold_106 rfl (lv_at hl 2 rfl) ?_
  refine lv_aload_n hx hb dX12_movesTold_107 rfl (lv_at hl 3 rfl) ?_
  refine lv_aload_n hx hb dX12_movesTold_108 rfl (lv_at hl 2 rfl) ?_
  refine va_get (D := D) (ci := 13) (v := .ref (v 11)) (C := RX12) (T := TX12) (N := 48) hx hb hts kin_RX12 hown hG.1 hP 38 rfl rfl 27 (by decide) (hts _ wm_1546) (fun _ h9 => h9) rfl dX12_movesTold_109 ?_
  refine lv_iload_n hx hb dX12_movesTold_112 rfl (lv_at hl 1 rfl) ?_
  refine k_aldA hx hb hG.1 hP 31 rfl (by unfold vp_in; decide) dX12_movesTold_113 ?_
  refine W.eq (g2 := F0 m 114 ls [.ref ((v 11) + 1 + 5), .ref a, .ref (v 0), .int 0, .ref ((v 11) + 1 + 5)]) rfl ?_
  refine lv_iload hx hb dX12_movesTold_114 (lv_at hl 0 rfl) ?_
  refine va_iald hx hb hG.1 hP 37 0 rfl rfl (by unfold vp_in; decide) dX12_movesTold_116 ?_
  refine lv_topi (fun x215 ex215 => ?_)
  obtain rfl : x215 = 0 := ex215.trans (rfl)
  refine lv_iload_n hx hb dX12_movesTold_117 rfl (lv_at hl 4 rfl) ?_
  refine k_cali [0, 1, 2, 3, 4, 5, 6, 7, 8, 9, 10, 11, 12, 13, 14, 15, 16, 17, 18, 19, 20, 21, 22, 23, 24, 25, 26, 27, 28, 29, 30, 31, 32, 33, 34, 35, 36, 37] (⟨hP, hD, hG, hS, hA, rfl, rfl⟩ : kAt D cy sa A s H _ _ [((v 0), .inr (13, [.int 0, .int 0, .int 0, .int (-1), .int 0, .int 0, .int 0, .int 0, .ref (v 1), .ref (v 2), .ref (v 3), .ref (v 4), .ref (v 5), .ref (v 6), .ref (v 7), .ref (v 8), .ref (v 9), .int 0, .int 0, .int 0, .int 0, .int 0, .int 0, .int 0, .int 0, .int 0, .ref (v 10), .ref (v 11), .ref (v 12), .ref (v 13), .int 114, .ref (v 14), .ref (v 15), .ref (v 16), .ref (v 17), .ref (v 18), .int 0, .int 0, .int 0, .ref (v 19), .ref (v 20), .ref (v 21), .ref (v 22), .ref (v 23), .int 0, .int 0, .int 0, .int 0])), (a, .inl (cy 0, 120, .inl (fun _ => 0)))] [38, 39]) (wr := (toldW cy v ++ [])) rfl rfl (by decide) (k_runV 13 38 (As := [.ref a, .int 0, .int b]) (rest := [.int 0, .ref ((v 11) + 1 + 5)]) E lk_VRX12_251 rfl rfl rfl (m_moves l hl0 D cy sa v a 0 114 (by unfold vp_in; decide) b H.size) (⟨hP, hD, hG, hS, hA, rfl, rfl⟩ : kAt D cy sa A s H _ _ [((v 0), .inr (13, [.int 0, .int 0, .int 0, .int (-1), .int 0, .int 0, .int 0, .int 0, .ref (v 1), .ref (v 2), .ref (v 3), .ref (v 4), .ref (v 5), .ref (v 6), .ref (v 7), .ref (v 8), .ref (v 9), .int 0, .int 0, .int 0, .int 0, .int 0, .int 0, .int 0, .int 0, .int 0, .ref (v 10), .ref (v 11), .ref (v 12), .ref (v 13), .int 114, .ref (v 14), .ref (v 15), .ref (v 16), .ref (v 17), .ref (v 18), .int 0, .int 0, .int 0, .ref (v 19), .ref (v 20), .ref (v 21), .ref (v 22), .ref (v 23), .int 0, .int 0, .int 0, .int 0])), (a, .inl (cy 0, 120, .inl (fun _ => 0)))] [38, 39]) hl.1 rfl rfl ⟨rfl, rfl, ⟨Nat.le_of_ble_eq_true rfl, Nat.le_of_ble_eq_true rfl⟩, ⟨Nat.le_of_ble_eq_true rfl, Nat.le_of_ble_eq_true rfl⟩, Nat.le_of_ble_eq_true rfl⟩ dX12_movesTold_118) (fun r216 u217 H locs hwu217 hP hD hS => ?_)
  have hP : va_P D vwCl (toldW cy v ++ [((v 0), .inr (13, [.int 0, .int 0, .int 0, .int (-1), .int 0, .int 0, .int 0, .int 0, .ref (v 1), .ref (v 2), .ref (v 3), .ref (v 4), .ref (v 5), .ref (v 6), .ref (v 7), .ref (v 8), .ref (v 9), .int 0, .int 0, .int 0, .int 0, .int 0, .int 0, .int 0, .int 0, .int 0, .ref (v 10), .ref (v 11), .ref (v 12), .ref (v 13), .int 115, .ref (v 14), .ref (v 15), .ref (v 16), .ref (v 17), .ref (v 18), .int 0, .int 0, .int 0, .ref (v 19), .ref (v 20), .ref (v 21), .ref (v 22), .ref (v 23), .int 0, .int 0, .int 0, .int 0])), (a, .inl (cy 0, 120, .inl (fun _ => 0)))]) H := hP
  have hD : va_D A (toldW cy v ++ [((v 0), .inr (13, [.int 0, .int 0, .int 0, .int (-1), .int 0, .int 0, .int 0, .int 0, .ref (v 1), .ref (v 2), .ref (v 3), .ref (v 4), .ref (v 5), .ref (v 6), .ref (v 7), .ref (v 8), .ref (v 9), .int 0, .int 0, .int 0, .int 0, .int 0, .int 0, .int 0, .int 0, .int 0, .ref (v 10), .ref (v 11), .ref (v 12), .ref (v 13), .int 115, .ref (v 14), .ref (v 15), .ref (v 16), .ref (v 17), .ref (v 18), .int 0, .int 0, .int 0, .ref (v 19), .ref (v 20), .ref (v 21), .ref (v 22), .ref (v 23), .int 0, .int 0, .int 0, .int 0])), (a, .inl (cy 0, 120, .inl (fun _ => 0)))]) := hD
  obtain rfl : r216 = 0 := hwu217
  refine k_iast0 hx hb hG.1 hP hD hS 37 0 rfl rfl (by unfold vp_in; decide) dX12_movesTold_121 (fun H locs hP hD hS => ?_)
  refine lv_iinc (v := 1) (lv' := [(4, .int 1), (3, .int 5), (0, .ref (v 0)), (1, .ref a), (2, .int b)]) hx hb dX12_movesTold_122 hl (k := 0) rfl (by decide) (by decide) rfl (fun ls hl => ?_)
  refine lv_goto (tgt := 92) hx hb dX12_movesTold_125 (by decide) ?_
  refine lv_iload hx hb dX12_movesTold_92 (lv_at hl 0 rfl) ?_
  refine lv_iconst (v := 2) hx hb dX12_movesTold_94 (by decide) ?_
  refine lv_icmp_ge (tgt := 128) hx hb dX12_movesTold_95 (by decide) (fun h => absurd h (by decide)) (fun _ => ?_)
  refine lv_aload_n hx hb dX12_movesTold_98 rfl (lv_at hl 2 rfl) ?_
  refine va_get (D := D) (ci := 13) (v := .ref (v 11)) (C := RX12) (T := TX12) (N := 48) hx hb hts kin_RX12 hown hG.1 hP 38 rfl rfl 27 (by decide) (hts _ wm_1546) (fun _ h9 => h9) rfl dX12_movesTold_99 ?_
  refine lv_iload_n hx hb dX12_movesTold_102 rfl (lv_at hl 1 rfl) ?_
  refine k_aldA hx hb hG.1 hP 31 rfl (by unfold vp_in; decide) dX12_movesTold_103 ?_
  refine W.eq (g2 := F0 m 104 ls [.ref ((v 11) + 1 + 5)]) rfl ?_
  refine lv_iload hx hb dX12_movesTold_104 (lv_at hl 0 rfl) ?_
  refine lv_aload_n hx hb dX12_movesTold_106 rfl (lv_at hl 2 rfl) ?_
  refine lv_aload_n hx hb dX12_movesTold_107 rfl (lv_at hl 3 rfl) ?_
  refine lv_aload_n hx hb dX12_movesTold_108 rfl (lv_at hl 2 rfl) ?_
  refine va_get (D := D) (ci := 13) (v := .ref (v 11)) (C := RX12) (T := TX12) (N := 48) hx hb hts kin_RX12 hown hG.1 hP 38 rfl rfl 27 (by decide) (hts _ wm_1546) (fun _ h9 => h9) rfl dX12_movesTold_109 ?_
  refine lv_iload_n hx hb dX12_movesTold_112 rfl (lv_at hl 1 rfl) ?_
  refine k_aldA hx hb hG.1 hP 31 rfl (by unfold vp_in; decide) dX12_movesTold_113 ?_
  refine W.eq (g2 := F0 m 114 ls [.ref ((v 11) + 1 + 5), .ref a, .ref (v 0), .int 1, .ref ((v 11) + 1 + 5)]) rfl ?_
  refine lv_iload hx hb dX12_movesTold_114 (lv_at hl 0 rfl) ?_
  refine va_iald hx hb hG.1 hP 37 0 rfl rfl (by unfold vp_in; decide) dX12_movesTold_116 ?_
  refine lv_topi (fun x218 ex218 => ?_)
  obtain rfl : x218 = 0 := ex218.trans (rfl)
  refine lv_iload_n hx hb dX12_movesTold_117 rfl (lv_at hl 4 rfl) ?_
  refine k_cali [0, 1, 2, 3, 4, 5, 6, 7, 8, 9, 10, 11, 12, 13, 14, 15, 16, 17, 18, 19, 20, 21, 22, 23, 24, 25, 26, 27, 28, 29, 30, 31, 32, 33, 34, 35, 36, 37] (⟨hP, hD, hG, hS, hA, rfl, rfl⟩ : kAt D cy sa A s H _ _ [((v 0), .inr (13, [.int 0, .int 0, .int 0, .int (-1), .int 0, .int 0, .int 0, .int 0, .ref (v 1), .ref (v 2), .ref (v 3), .ref (v 4), .ref (v 5), .ref (v 6), .ref (v 7), .ref (v 8), .ref (v 9), .int 0, .int 0, .int 0, .int 0, .int 0, .int 0, .int 0, .int 0, .int 0, .ref (v 10), .ref (v 11), .ref (v 12), .ref (v 13), .int 115, .ref (v 14), .ref (v 15), .ref (v 16), .ref (v 17), .ref (v 18), .int 0, .int 0, .int 0, .ref (v 19), .ref (v 20), .ref (v 21), .ref (v 22), .ref (v 23), .int 0, .int 0, .int 0, .int 0])), (a, .inl (cy 0, 120, .inl (fun _ => 0)))] [38, 39]) (wr := (toldW cy v ++ [])) rfl rfl (by decide) (k_runV 13 38 (As := [.ref a, .int 0, .int b]) (rest := [.int 1, .ref ((v 11) + 1 + 5)]) E lk_VRX12_251 rfl rfl rfl (m_moves l hl0 D cy sa v a 0 115 (by unfold vp_in; decide) b H.size) (⟨hP, hD, hG, hS, hA, rfl, rfl⟩ : kAt D cy sa A s H _ _ [((v 0), .inr (13, [.int 0, .int 0, .int 0, .int (-1), .int 0, .int 0, .int 0, .int 0, .ref (v 1), .ref (v 2), .ref (v 3), .ref (v 4), .ref (v 5), .ref (v 6), .ref (v 7), .ref (v 8), .ref (v 9), .int 0, .int 0, .int 0, .int 0, .int 0, .int 0, .int 0, .int 0, .int 0, .ref (v 10), .ref (v 11), .ref (v 12), .ref (v 13), .int 115, .ref (v 14), .ref (v 15), .ref (v 16), .ref (v 17), .ref (v 18), .int 0, .int 0, .int 0, .ref (v 19), .ref (v 20), .ref (v 21), .ref (v 22), .ref (v 23), .int 0, .int 0, .int 0, .int 0])), (a, .inl (cy 0, 120, .inl (fun _ => 0)))] [38, 39]) hl.1 rfl rfl ⟨rfl, rfl, ⟨Nat.le_of_ble_eq_true rfl, Nat.le_of_ble_eq_true rfl⟩, ⟨Nat.le_of_ble_eq_true rfl, Nat.le_of_ble_eq_true rfl⟩, Nat.le_of_ble_eq_true rfl⟩ dX12_movesTold_118) (fun r219 u220 H locs hwu220 hP hD hS => ?_)
  have hP : va_P D vwCl (toldW cy v ++ [((v 0), .inr (13, [.int 0, .int 0, .int 0, .int (-1), .int 0, .int 0, .int 0, .int 0, .ref (v 1), .ref (v 2), .ref (v 3), .ref (v 4), .ref (v 5), .ref (v 6), .ref (v 7), .ref (v 8), .ref (v 9), .int 0, .int 0, .int 0, .int 0, .int 0, .int 0, .int 0, .int 0, .int 0, .ref (v 10), .ref (v 11), .ref (v 12), .ref (v 13), .int 116, .ref (v 14), .ref (v 15), .ref (v 16), .ref (v 17), .ref (v 18), .int 0, .int 0, .int 0, .ref (v 19), .ref (v 20), .ref (v 21), .ref (v 22), .ref (v 23), .int 0, .int 0, .int 0, .int 0])), (a, .inl (cy 0, 120, .inl (fun _ => 0)))]) H := hP
  have hD : va_D A (toldW cy v ++ [((v 0), .inr (13, [.int 0, .int 0, .int 0, .int (-1), .int 0, .int 0, .int 0, .int 0, .ref (v 1), .ref (v 2), .ref (v 3), .ref (v 4), .ref (v 5), .ref (v 6), .ref (v 7), .ref (v 8), .ref (v 9), .int 0, .int 0, .int 0, .int 0, .int 0, .int 0, .int 0, .int 0, .int 0, .ref (v 10), .ref (v 11), .ref (v 12), .ref (v 13), .int 116, .ref (v 14), .ref (v 15), .ref (v 16), .ref (v 17), .ref (v 18), .int 0, .int 0, .int 0, .ref (v 19), .ref (v 20), .ref (v 21), .ref (v 22), .ref (v 23), .int 0, .int 0, .int 0, .int 0])), (a, .inl (cy 0, 120, .inl (fun _ => 0)))]) := hD
  obtain rfl : r219 = 0 := hwu220
  refine k_iast0 hx hb hG.1 hP hD hS 37 0 rfl rfl (by unfold vp_in; decide) dX12_movesTold_121 (fun H locs hP hD hS => ?_)
  refine lv_iinc (v := 2) (lv' := [(4, .int 2), (3, .int 5), (0, .ref (v 0)), (1, .ref a), (2, .int b)]) hx hb dX12_movesTold_122 hl (k := 0) rfl (by decide) (by decide) rfl (fun ls hl => ?_)
  refine lv_goto (tgt := 92) hx hb dX12_movesTold_125 (by decide) ?_
  refine lv_iload hx hb dX12_movesTold_92 (lv_at hl 0 rfl) ?_
  refine lv_iconst (v := 2) hx hb dX12_movesTold_94 (by decide) ?_
  refine lv_icmp_ge (tgt := 128) hx hb dX12_movesTold_95 (by decide) (fun _ => ?_) (fun h => absurd (by decide) h)
  refine lv_iinc (v := 6) (lv' := [(3, .int 6), (4, .int 2), (0, .ref (v 0)), (1, .ref a), (2, .int b)]) hx hb dX12_movesTold_128 hl (k := 1) rfl (by decide) (by decide) rfl (fun ls hl => ?_)
  refine lv_goto (tgt := 83) hx hb dX12_movesTold_131 (by decide) ?_
  refine lv_iload_n hx hb dX12_movesTold_83 rfl (lv_at hl 0 rfl) ?_
  refine lv_bipush (v := 6) hx hb dX12_movesTold_84 (by decide) ?_
  refine lv_icmp_ge (tgt := 134) hx hb dX12_movesTold_86 (by decide) (fun _ => ?_) (fun h => absurd (by decide) h)
  exact k_vret () hx hb hr hlk (trivial) (hP.sub [0, 1, 2, 3, 4, 5, 6, 7, 8, 9, 10, 11, 12, 13, 14, 15, 16, 17, 18, 19, 20, 21, 22, 23, 24, 25, 26, 27, 28, 29, 30, 31, 32, 33, 34, 35, 36, 37, 38, 39] rfl) (hD.sub [0, 1, 2, 3, 4, 5, 6, 7, 8, 9, 10, 11, 12, 13, 14, 15, 16, 17, 18, 19, 20, 21, 22, 23, 24, 25, 26, 27, 28, 29, 30, 31, 32, 33, 34, 35, 36, 37, 38, 39] (by decide) rfl) hS (by decide) (by decide) dX12_movesTold_134
