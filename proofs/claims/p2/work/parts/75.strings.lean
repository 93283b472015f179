theorem wm_708 : Cond.fieldLink RJ0 38 "java/lang/String" "COMPACT_STRINGS" "Z" ∈ kWS := kws_at 708 (by decide +kernel) (by decide +kernel)
theorem wm_846 : Cond.fieldLink RJ0 15 "java/lang/String" "coder" "B" ∈ kWS := kws_at 846 (by decide +kernel) (by decide +kernel)
theorem wm_845 : Cond.fieldLink RJ0 9 "java/lang/String" "value" "[B" ∈ kWS := kws_at 845 (by decide +kernel) (by decide +kernel)
theorem wm_707 : Cond.code yJ0_coder_7d493 cJ0_coder_7d493 1 (some .byte) ∈ kWS := kws_at 707 (by decide +kernel) (by decide +kernel)
theorem wm_704 : Cond.methodLink RJ0 335 yJ0_coder_7d493 ∈ kWS := kws_at 704 (by decide +kernel) (by decide +kernel)
theorem wm_706 : Cond.selects RJ0 yJ0_coder_7d493 yJ0_coder_7d493 ∈ kWS := kws_at 706 (by decide +kernel) (by decide +kernel)
theorem wm_705 : Cond.instanceMethod yJ0_coder_7d493 ∈ kWS := kws_at 705 (by decide +kernel) (by decide +kernel)
theorem wm_18 : Cond.initialized RJ0 ∈ kWS := kws_at 18 (by decide +kernel) (by decide +kernel)
theorem lk_VRJ0_335 : kLV RJ0 335 yJ0_coder_7d493 (Cond.code yJ0_coder_7d493 cJ0_coder_7d493 1 (some .byte)) 0 := ⟨wm_704, wm_705, wm_706, wm_18, wm_707, ⟨by decide +kernel, by decide +kernel, by decide +kernel⟩⟩
theorem wm_686 : Cond.fieldLink RJ0 1053 "jdk/internal/util/Preconditions" "SIOOBE_FORMATTER" "Ljava/util/function/BiFunction;" ∈ kWS := kws_at 686 (by decide +kernel) (by decide +kernel)
theorem wm_968 : Cond.code yJ3_checkIndex_8e157 cJ3_checkIndex_8e157 3 (some .int) ∈ kWS := kws_at 968 (by decide +kernel) (by decide +kernel)
theorem wm_966 : Cond.methodLink RJ0 1059 yJ3_checkIndex_8e157 ∈ kWS := kws_at 966 (by decide +kernel) (by decide +kernel)
theorem wm_967 : Cond.static yJ3_checkIndex_8e157 ∈ kWS := kws_at 967 (by decide +kernel) (by decide +kernel)
theorem wm_20 : Cond.initialized RJ3 ∈ kWS := kws_at 20 (by decide +kernel) (by decide +kernel)
theorem lk_SRJ0_1059 : kLS RJ0 1059 yJ3_checkIndex_8e157 (Cond.code yJ3_checkIndex_8e157 cJ3_checkIndex_8e157 3 (some .int)) 3 := ⟨wm_966, wm_967, wm_20, wm_968, ⟨by decide +kernel, by decide +kernel, by decide +kernel⟩⟩
theorem wm_965 : Cond.code yJ0_checkIndex_df160 cJ0_checkIndex_df160 2 none ∈ kWS := kws_at 965 (by decide +kernel) (by decide +kernel)
theorem wm_963 : Cond.methodLink RJ1 9 yJ0_checkIndex_df160 ∈ kWS := kws_at 963 (by decide +kernel) (by decide +kernel)
theorem wm_964 : Cond.static yJ0_checkIndex_df160 ∈ kWS := kws_at 964 (by decide +kernel) (by decide +kernel)
theorem lk_SRJ1_9 : kLS RJ1 9 yJ0_checkIndex_df160 (Cond.code yJ0_checkIndex_df160 cJ0_checkIndex_df160 2 none) 2 := ⟨wm_963, wm_964, wm_18, wm_965, ⟨by decide +kernel, by decide +kernel, by decide +kernel⟩⟩
theorem wm_959 : Cond.code yJ0_isLatin1_aae02 cJ0_isLatin1_aae02 1 (some .boolean) ∈ kWS := kws_at 959 (by decide +kernel) (by decide +kernel)
theorem wm_956 : Cond.methodLink RJ0 492 yJ0_isLatin1_aae02 ∈ kWS := kws_at 956 (by decide +kernel) (by decide +kernel)
theorem wm_958 : Cond.selects RJ0 yJ0_isLatin1_aae02 yJ0_isLatin1_aae02 ∈ kWS := kws_at 958 (by decide +kernel) (by decide +kernel)
theorem wm_957 : Cond.instanceMethod yJ0_isLatin1_aae02 ∈ kWS := kws_at 957 (by decide +kernel) (by decide +kernel)
theorem lk_VRJ0_492 : kLV RJ0 492 yJ0_isLatin1_aae02 (Cond.code yJ0_isLatin1_aae02 cJ0_isLatin1_aae02 1 (some .boolean)) 0 := ⟨wm_956, wm_957, wm_958, wm_18, wm_959, ⟨by decide +kernel, by decide +kernel, by decide +kernel⟩⟩
theorem wm_962 : Cond.code yJ1_charAt_3b067 cJ1_charAt_3b067 2 (some .char) ∈ kWS := kws_at 962 (by decide +kernel) (by decide +kernel)
theorem wm_960 : Cond.methodLink RJ0 495 yJ1_charAt_3b067 ∈ kWS := kws_at 960 (by decide +kernel) (by decide +kernel)
theorem wm_961 : Cond.static yJ1_charAt_3b067 ∈ kWS := kws_at 961 (by decide +kernel) (by decide +kernel)
theorem wm_19 : Cond.initialized RJ1 ∈ kWS := kws_at 19 (by decide +kernel) (by decide +kernel)
theorem lk_SRJ0_495 : kLS RJ0 495 yJ1_charAt_3b067 (Cond.code yJ1_charAt_3b067 cJ1_charAt_3b067 2 (some .char)) 2 := ⟨wm_960, wm_961, wm_19, wm_962, ⟨by decide +kernel, by decide +kernel, by decide +kernel⟩⟩
theorem dJ0_coder_7d493_0 : decode cJ0_coder_7d493 0 = .ok (.getstatic 38, 3) := by decide +kernel
theorem dJ0_coder_7d493_3 : decode cJ0_coder_7d493 3 = .ok (.ifCond .eq 10, 3) := by decide +kernel
theorem dJ0_coder_7d493_6 : decode cJ0_coder_7d493 6 = .ok (.aload_n 0, 1) := by decide +kernel
theorem dJ0_coder_7d493_7 : decode cJ0_coder_7d493 7 = .ok (.getfield 15, 3) := by decide +kernel
theorem dJ0_coder_7d493_10 : decode cJ0_coder_7d493 10 = .ok (.goto 4, 3) := by decide +kernel
theorem dJ0_coder_7d493_13 : decode cJ0_coder_7d493 13 = .ok (.iconst 1, 1) := by decide +kernel
theorem dJ0_coder_7d493_14 : decode cJ0_coder_7d493 14 = .ok (.ireturn, 1) := by decide +kernel
theorem dJ0_isLatin1_aae02_0 : decode cJ0_isLatin1_aae02 0 = .ok (.getstatic 38, 3) := by decide +kernel
theorem dJ0_isLatin1_aae02_3 : decode cJ0_isLatin1_aae02 3 = .ok (.ifCond .eq 14, 3) := by decide +kernel
theorem dJ0_isLatin1_aae02_6 : decode cJ0_isLatin1_aae02 6 = .ok (.aload_n 0, 1) := by decide +kernel
theorem dJ0_isLatin1_aae02_7 : decode cJ0_isLatin1_aae02 7 = .ok (.getfield 15, 3) := by decide +kernel
theorem dJ0_isLatin1_aae02_10 : decode cJ0_isLatin1_aae02 10 = .ok (.ifCond .ne 7, 3) := by decide +kernel
theorem dJ0_isLatin1_aae02_13 : decode cJ0_isLatin1_aae02 13 = .ok (.iconst 1, 1) := by decide +kernel
theorem dJ0_isLatin1_aae02_14 : decode cJ0_isLatin1_aae02 14 = .ok (.goto 4, 3) := by decide +kernel
theorem dJ0_isLatin1_aae02_17 : decode cJ0_isLatin1_aae02 17 = .ok (.iconst 0, 1) := by decide +kernel
theorem dJ0_isLatin1_aae02_18 : decode cJ0_isLatin1_aae02 18 = .ok (.ireturn, 1) := by decide +kernel
theorem dJ0_length_8abf5_0 : decode cJ0_length_8abf5 0 = .ok (.aload_n 0, 1) := by decide +kernel
theorem dJ0_length_8abf5_1 : decode cJ0_length_8abf5 1 = .ok (.getfield 9, 3) := by decide +kernel
theorem dJ0_length_8abf5_4 : decode cJ0_length_8abf5 4 = .ok (.arraylength, 1) := by decide +kernel
theorem dJ0_length_8abf5_5 : decode cJ0_length_8abf5 5 = .ok (.aload_n 0, 1) := by decide +kernel
theorem dJ0_length_8abf5_6 : decode cJ0_length_8abf5 6 = .ok (.invokevirtual 335, 3) := by decide +kernel
theorem dJ0_length_8abf5_9 : decode cJ0_length_8abf5 9 = .ok (.ishr, 1) := by decide +kernel
theorem dJ0_length_8abf5_10 : decode cJ0_length_8abf5 10 = .ok (.ireturn, 1) := by decide +kernel
theorem dJ3_checkIndex_8e157_0 : decode cJ3_checkIndex_8e157 0 = .ok (.iload_n 0, 1) := by decide +kernel
theorem dJ3_checkIndex_8e157_1 : decode cJ3_checkIndex_8e157 1 = .ok (.ifCond .lt 8, 3) := by decide +kernel
theorem dJ3_checkIndex_8e157_4 : decode cJ3_checkIndex_8e157 4 = .ok (.iload_n 0, 1) := by decide +kernel
theorem dJ3_checkIndex_8e157_5 : decode cJ3_checkIndex_8e157 5 = .ok (.iload_n 1, 1) := by decide +kernel
theorem dJ3_checkIndex_8e157_6 : decode cJ3_checkIndex_8e157 6 = .ok (.if_icmp .lt 10, 3) := by decide +kernel
theorem dJ3_checkIndex_8e157_9 : decode cJ3_checkIndex_8e157 9 = .ok (.aload_n 2, 1) := by decide +kernel
theorem dJ3_checkIndex_8e157_10 : decode cJ3_checkIndex_8e157 10 = .ok (.iload_n 0, 1) := by decide +kernel
theorem dJ3_checkIndex_8e157_11 : decode cJ3_checkIndex_8e157 11 = .ok (.iload_n 1, 1) := by decide +kernel
theorem dJ3_checkIndex_8e157_12 : decode cJ3_checkIndex_8e157 12 = .ok (.invokestatic 95, 3) := by decide +kernel
theorem dJ3_checkIndex_8e157_15 : decode cJ3_checkIndex_8e157 15 = .ok (.athrow, 1) := by decide +kernel
theorem dJ3_checkIndex_8e157_16 : decode cJ3_checkIndex_8e157 16 = .ok (.iload_n 0, 1) := by decide +kernel
theorem dJ3_checkIndex_8e157_17 : decode cJ3_checkIndex_8e157 17 = .ok (.ireturn, 1) := by decide +kernel
theorem dJ0_checkIndex_df160_0 : decode cJ0_checkIndex_df160 0 = .ok (.iload_n 0, 1) := by decide +kernel
theorem dJ0_checkIndex_df160_1 : decode cJ0_checkIndex_df160 1 = .ok (.iload_n 1, 1) := by decide +kernel
theorem dJ0_checkIndex_df160_2 : decode cJ0_checkIndex_df160 2 = .ok (.getstatic 1053, 3) := by decide +kernel
theorem dJ0_checkIndex_df160_5 : decode cJ0_checkIndex_df160 5 = .ok (.invokestatic 1059, 3) := by decide +kernel
theorem dJ0_checkIndex_df160_8 : decode cJ0_checkIndex_df160 8 = .ok (.pop, 1) := by decide +kernel
theorem dJ0_checkIndex_df160_9 : decode cJ0_checkIndex_df160 9 = .ok (.return_, 1) := by decide +kernel
theorem dJ1_charAt_3b067_0 : decode cJ1_charAt_3b067 0 = .ok (.iload_n 1, 1) := by decide +kernel
theorem dJ1_charAt_3b067_1 : decode cJ1_charAt_3b067 1 = .ok (.aload_n 0, 1) := by decide +kernel
theorem dJ1_charAt_3b067_2 : decode cJ1_charAt_3b067 2 = .ok (.arraylength, 1) := by decide +kernel
theorem dJ1_charAt_3b067_3 : decode cJ1_charAt_3b067 3 = .ok (.invokestatic 9, 3) := by decide +kernel
theorem dJ1_charAt_3b067_6 : decode cJ1_charAt_3b067 6 = .ok (.aload_n 0, 1) := by decide +kernel
theorem dJ1_charAt_3b067_7 : decode cJ1_charAt_3b067 7 = .ok (.iload_n 1, 1) := by decide +kernel
theorem dJ1_charAt_3b067_8 : decode cJ1_charAt_3b067 8 = .ok (.baload, 1) := by decide +kernel
theorem dJ1_charAt_3b067_9 : decode cJ1_charAt_3b067 9 = .ok (.sipush 255, 3) := by decide +kernel
theorem dJ1_charAt_3b067_12 : decode cJ1_charAt_3b067 12 = .ok (.iand, 1) := by decide +kernel
theorem dJ1_charAt_3b067_13 : decode cJ1_charAt_3b067 13 = .ok (.i2c, 1) := by decide +kernel
theorem dJ1_charAt_3b067_14 : decode cJ1_charAt_3b067 14 = .ok (.ireturn, 1) := by decide +kernel
theorem dJ0_charAt_5068e_0 : decode cJ0_charAt_5068e 0 = .ok (.aload_n 0, 1) := by decide +kernel
theorem dJ0_charAt_5068e_1 : decode cJ0_charAt_5068e 1 = .ok (.invokevirtual 492, 3) := by decide +kernel
theorem dJ0_charAt_5068e_4 : decode cJ0_charAt_5068e 4 = .ok (.ifCond .eq 12, 3) := by decide +kernel
theorem dJ0_charAt_5068e_7 : decode cJ0_charAt_5068e 7 = .ok (.aload_n 0, 1) := by decide +kernel
theorem dJ0_charAt_5068e_8 : decode cJ0_charAt_5068e 8 = .ok (.getfield 9, 3) := by decide +kernel
theorem dJ0_charAt_5068e_11 : decode cJ0_charAt_5068e 11 = .ok (.iload_n 1, 1) := by decide +kernel
theorem dJ0_charAt_5068e_12 : decode cJ0_charAt_5068e 12 = .ok (.invokestatic 495, 3) := by decide +kernel
theorem dJ0_charAt_5068e_15 : decode cJ0_charAt_5068e 15 = .ok (.ireturn, 1) := by decide +kernel
theorem dJ0_charAt_5068e_16 : decode cJ0_charAt_5068e 16 = .ok (.aload_n 0, 1) := by decide +kernel
theorem dJ0_charAt_5068e_17 : decode cJ0_charAt_5068e 17 = .ok (.getfield 9, 3) := by decide +kernel
theorem dJ0_charAt_5068e_20 : decode cJ0_charAt_5068e 20 = .ok (.iload_n 1, 1) := by decide +kernel
theorem dJ0_charAt_5068e_21 : decode cJ0_charAt_5068e 21 = .ok (.invokestatic 498, 3) := by decide +kernel
theorem dJ0_charAt_5068e_24 : decode cJ0_charAt_5068e 24 = .ok (.ireturn, 1) := by decide +kernel
set_option maxHeartbeats 4000000 in
set_option maxRecDepth 100000 in
/-- String.coder -/
theorem j_coder (l : Launch) (hl0 : l.stackTraces = false) (D : va_G) (cy : Nat → ClassId) (sa : Nat → Nat) (kk : Nat) (hkk : kk < 8) (sz : Nat) : Met l yJ0_coder_7d493 (Cond.code yJ0_coder_7d493 cJ0_coder_7d493 1 (some .byte) :: kWS) ({ frames := 10, cells := 0, slots := 0, locals := 300 }) (kPre D cy sa [.ref (sa (2000 + kk))] [] sz) (va_Qi (fun (r : Int32) (u : Unit) => (r.toInt = 0)) (kB D (va_A [] sz) (fun (u : Unit) => [])) (va_A [] sz)) 0 0 (va_A [] sz) := by
  refine k_ofW (y := yJ0_coder_7d493) (cc := cJ0_coder_7d493) (maxL := 1) (ret := (some .byte)) (av := [.ref (sa (2000 + kk))]) (ws := []) (Qc := fun A => (va_Qi (fun (r : Int32) (u : Unit) => (r.toInt = 0)) (kB D A (fun (u : Unit) => [])) A)) (by decide) (Nat.le_of_ble_eq_true rfl) ?_
  intro p e s m below meth c ls A E hA hP hD hG hS hl
  obtain ⟨Q0, hQ0⟩ : ∃ Q0 : State → Prop, Q0 = MQ below (va_Qi (fun (r : Int32) (u : Unit) => (r.toInt = 0)) (kB D A (fun (u : Unit) => [])) A) ([.ref (sa (2000 + kk))] : List Value).toArray s 0 0 A := ⟨_, rfl⟩
  rw [← hQ0]
  obtain ⟨hx, hb, hml, hown, hts, hr, hlk, hnm⟩ := id E
  have hown : s.vm.findClass RJ0 = some m.cls := hown
  have hl : lv_has ls 1 [(0, .ref (sa (2000 + kk)))] := hl
  obtain ⟨H, hH⟩ : ∃ H, H = s.heap := ⟨_, rfl⟩
  have hP : va_P D vwCl [] H := by rw [hH]; exact hP
  have hS : va_S A s.heap H [] := by rw [hH]; exact va_S.rf
  rw [← hH]
  clear hH
  obtain ⟨locs, hlocs⟩ : ∃ locs : List Loc, locs = [] := ⟨_, rfl⟩
  rw [← hlocs] at hS ⊢
  refine va_gets (C := "java/lang/String") (n := "COMPACT_STRINGS") (d := "Z") (v := .int 1) hx hb hG.2.2.2.2.2.2.2.2.2.2.2.2.2.2.2.2.2.2.2.2.1 hS hown (hts _ wm_708) (fun _ h9 => h9) dJ0_coder_7d493_0 ?_
  refine lv_if_eq (tgt := 13) hx hb dJ0_coder_7d493_3 (by decide) (fun h => absurd h (by decide)) (fun _ => ?_)
  refine lv_aload_n hx hb dJ0_coder_7d493_6 rfl (lv_at hl 0 rfl) ?_
  refine vk_getf hx hb (hG.2.2.2.2.2.2.2.2.2.2.2.2.2.1.1 kk hkk).2.1 hS hown (hts _ wm_846) (fun _ h9 => h9) dJ0_coder_7d493_7 ?_
  refine W.eq (g2 := F0 m 10 ls [.int 0]) rfl ?_
  refine lv_goto (tgt := 14) hx hb dJ0_coder_7d493_10 (by decide) ?_
  rw [hQ0]
  exact k_nret () hx hb hr hlk (by decide) ((by decide)) (hP.sub [] rfl) (hD.sub [] (by decide) rfl) hS (by decide) (by decide) dJ0_coder_7d493_14

set_option maxHeartbeats 4000000 in
set_option maxRecDepth 100000 in
/-- String.isLatin1 -/
theorem j_isLatin1 (l : Launch) (hl0 : l.stackTraces = false) (D : va_G) (cy : Nat → ClassId) (sa : Nat → Nat) (kk : Nat) (hkk : kk < 8) (sz : Nat) : Met l yJ0_isLatin1_aae02 (Cond.code yJ0_isLatin1_aae02 cJ0_isLatin1_aae02 1 (some .boolean) :: kWS) ({ frames := 10, cells := 0, slots := 0, locals := 300 }) (kPre D cy sa [.ref (sa (2000 + kk))] [] sz) (va_Qi (fun (r : Int32) (u : Unit) => (r.toInt = 1)) (kB D (va_A [] sz) (fun (u : Unit) => [])) (va_A [] sz)) 0 0 (va_A [] sz) := by
  refine k_ofW (y := yJ0_isLatin1_aae02) (cc := cJ0_isLatin1_aae02) (maxL := 1) (ret := (some .boolean)) (av := [.ref (sa (2000 + kk))]) (ws := []) (Qc := fun A => (va_Qi (fun (r : Int32) (u : Unit) => (r.toInt = 1)) (kB D A (fun (u : Unit) => [])) A)) (by decide) (Nat.le_of_ble_eq_true rfl) ?_
  intro p e s m below meth c ls A E hA hP hD hG hS hl
  obtain ⟨Q0, hQ0⟩ : ∃ Q0 : State → Prop, Q0 = MQ below (va_Qi (fun (r : Int32) (u : Unit) => (r.toInt = 1)) (kB D A (fun (u : Unit) => [])) A) ([.ref (sa (2000 + kk))] : List Value).toArray s 0 0 A := ⟨_, rfl⟩
  rw [← hQ0]
  obtain ⟨hx, hb, hml, hown, hts, hr, hlk, hnm⟩ := id E
  have hown : s.vm.findClass RJ0 = some m.cls := hown
  have hl : lv_has ls 1 [(0, .ref (sa (2000 + kk)))] := hl
  obtain ⟨H, hH⟩ : ∃ H, H = s.heap := ⟨_, rfl⟩
  have hP : va_P D vwCl [] H := by rw [hH]; exact hP
  have hS : va_S A s.heap H [] := by rw [hH]; exact va_S.rf
  rw [← hH]
  clear hH
  obtain ⟨locs, hlocs⟩ : ∃ locs : List Loc, locs = [] := ⟨_, rfl⟩
  rw [← hlocs] at hS ⊢
  refine va_gets (C := "java/lang/String") (n := "COMPACT_STRINGS") (d := "Z") (v := .int 1) hx hb hG.2.2.2.2.2.2.2.2.2.2.2.2.2.2.2.2.2.2.2.2.1 hS hown (hts _ wm_708) (fun _ h9 => h9) dJ0_isLatin1_aae02_0 ?_
  refine lv_if_eq (tgt := 17) hx hb dJ0_isLatin1_aae02_3 (by decide) (fun h => absurd h (by decide)) (fun _ => ?_)
  refine lv_aload_n hx hb dJ0_isLatin1_aae02_6 rfl (lv_at hl 0 rfl) ?_
  refine vk_getf hx hb (hG.2.2.2.2.2.2.2.2.2.2.2.2.2.1.1 kk hkk).2.1 hS hown (hts _ wm_846) (fun _ h9 => h9) dJ0_isLatin1_aae02_7 ?_
  refine W.eq (g2 := F0 m 10 ls [.int 0]) rfl ?_
  refine lv_if_ne (tgt := 17) hx hb dJ0_isLatin1_aae02_10 (by decide) (fun h => absurd (by decide) h) (fun _ => ?_)
  refine lv_iconst (v := 1) hx hb dJ0_isLatin1_aae02_13 (by decide) ?_
  refine lv_goto (tgt := 18) hx hb dJ0_isLatin1_aae02_14 (by decide) ?_
  rw [hQ0]
  exact k_zret () hx hb hr hlk (k_nz (by decide)) ((by decide)) (hP.sub [] rfl) (hD.sub [] (by decide) rfl) hS (by decide) (by decide) dJ0_isLatin1_aae02_18

set_option maxHeartbeats 4000000 in
set_option maxRecDepth 100000 in
/-- String.length -/
theorem j_length (l : Launch) (hl0 : l.stackTraces = false) (D : va_G) (cy : Nat → ClassId) (sa : Nat → Nat) (kk : Nat) (hkk : kk < 8) (sz : Nat) : Met l yJ0_length_8abf5 (Cond.code yJ0_length_8abf5 cJ0_length_8abf5 1 (some .int) :: kWS) ({ frames := 11, cells := 0, slots := 0, locals := 360 }) (kPre D cy sa [.ref (sa (2000 + kk))] [] sz) (va_Qi (fun (r : Int32) (u : Unit) => (r.toInt = (kSl.getD kk 0 : Int))) (kB D (va_A [] sz) (fun (u : Unit) => [])) (va_A [] sz)) 0 0 (va_A [] sz) := by
  refine k_ofW (y := yJ0_length_8abf5) (cc := cJ0_length_8abf5) (maxL := 1) (ret := (some .int)) (av := [.ref (sa (2000 + kk))]) (ws := []) (Qc := fun A => (va_Qi (fun (r : Int32) (u : Unit) => (r.toInt = (kSl.getD kk 0 : Int))) (kB D A (fun (u : Unit) => [])) A)) (by decide) (Nat.le_of_ble_eq_true rfl) ?_
  intro p e s m below meth c ls A E hA hP hD hG hS hl
  obtain ⟨Q0, hQ0⟩ : ∃ Q0 : State → Prop, Q0 = MQ below (va_Qi (fun (r : Int32) (u : Unit) => (r.toInt = (kSl.getD kk 0 : Int))) (kB D A (fun (u : Unit) => [])) A) ([.ref (sa (2000 + kk))] : List Value).toArray s 0 0 A := ⟨_, rfl⟩
  rw [← hQ0]
  obtain ⟨hx, hb, hml, hown, hts, hr, hlk, hnm⟩ := id E
  have hown : s.vm.findClass RJ0 = some m.cls := hown
  have hl : lv_has ls 1 [(0, .ref (sa (2000 + kk)))] := hl
  obtain ⟨H, hH⟩ : ∃ H, H = s.heap := ⟨_, rfl⟩
  have hP : va_P D vwCl [] H := by rw [hH]; exact hP
  have hS : va_S A s.heap H [] := by rw [hH]; exact va_S.rf
  rw [← hH]
  clear hH
  obtain ⟨locs, hlocs⟩ : ∃ locs : List Loc, locs = [] := ⟨_, rfl⟩
  rw [← hlocs] at hS ⊢
  refine lv_aload_n hx hb dJ0_length_8abf5_0 rfl (lv_at hl 0 rfl) ?_
  refine vk_getf hx hb (hG.2.2.2.2.2.2.2.2.2.2.2.2.2.1.1 kk hkk).2.2.1 hS hown (hts _ wm_845) (fun _ h9 => h9) dJ0_length_8abf5_1 ?_
  refine W.eq (g2 := F0 m 4 ls [.ref (sa (3000 + kk))]) rfl ?_
  refine va_tlen (v := Int32.ofNat (kSl.getD kk 0)) hx hb (hG.2.2.2.2.2.2.2.2.2.2.2.2.2.1.1 kk hkk).2.2.2 hS rfl dJ0_length_8abf5_4 ?_
  refine lv_topi (fun x1q ex1q => ?_)
  have rx1q := kSl_toInt hkk ex1q
  refine lv_aload_n hx hb dJ0_length_8abf5_5 rfl (lv_at hl 0 rfl) ?_
  refine k_cali [] (⟨hP, hD, hG, hS, hA, rfl, rfl⟩ : kAt D cy sa A s H _ _ [] []) (wr := []) rfl rfl (by decide) (k_runK (vk_recv (i := kk) hG.2.2.2.2.2.2.2.2.2.2.2.2.2.1 hkk hS) (As := []) (rest := [.int x1q]) E lk_VRJ0_335 (j_coder l hl0 D cy sa (kk) (by first | exact hkk | decide | omega) H.size) (⟨hP, hD, hG, hS, hA, rfl, rfl⟩ : kAt D cy sa A s H _ _ [] []) hl.1 rfl rfl ⟨rfl, rfl, ⟨Nat.le_of_ble_eq_true rfl, Nat.le_of_ble_eq_true rfl⟩, ⟨Nat.le_of_ble_eq_true rfl, Nat.le_of_ble_eq_true rfl⟩, Nat.le_of_ble_eq_true rfl⟩ dJ0_length_8abf5_6) (fun r2q u3q H locs hwu3q hP hD hS => ?_)
  have hP : va_P D vwCl [] H := hP
  have hD : va_D A [] := hD
  have p4q := hwu3q
  obtain rfl : r2q = 0 := n_z9 (by omega)
  refine lv_ishr hx hb dJ0_length_8abf5_9 ?_
  refine lv_topi (fun x5q ex5q => ?_)
  rw [hQ0]
  exact k_iret () hx hb hr hlk ((show x5q.toInt = (kSl.getD kk 0 : Int) by rw [n_shr0 ex5q]; omega)) (hP.sub [] rfl) (hD.sub [] (by decide) rfl) hS (by decide) (by decide) dJ0_length_8abf5_10

set_option maxHeartbeats 4000000 in
set_option maxRecDepth 100000 in
/-- Preconditions.checkIndex -/
theorem j_pcheck_n (l : Launch) (hl0 : l.stackTraces = false) (D : va_G) (cy : Nat → ClassId) (sa : Nat → Nat) (i0 n0 : Int32) (hi0 : 0 ≤ i0.toInt) (hi1 : i0.toInt < n0.toInt) (sz : Nat) : Met l yJ3_checkIndex_8e157 (Cond.code yJ3_checkIndex_8e157 cJ3_checkIndex_8e157 3 (some .int) :: kWS) ({ frames := 10, cells := 0, slots := 0, locals := 300 }) (kPre D cy sa [.int i0, .int n0, .null] [] sz) (va_Qi (fun (r : Int32) (u : Unit) => True) (kB D (va_A [] sz) (fun (u : Unit) => [])) (va_A [] sz)) 0 0 (va_A [] sz) := by
  refine k_ofW (y := yJ3_checkIndex_8e157) (cc := cJ3_checkIndex_8e157) (maxL := 3) (ret := (some .int)) (av := [.int i0, .int n0, .null]) (ws := []) (Qc := fun A => (va_Qi (fun (r : Int32) (u : Unit) => True) (kB D A (fun (u : Unit) => [])) A)) (by decide) (Nat.le_of_ble_eq_true rfl) ?_
  intro p e s m below meth c ls A E hA hP hD hG hS hl
  obtain ⟨Q0, hQ0⟩ : ∃ Q0 : State → Prop, Q0 = MQ below (va_Qi (fun (r : Int32) (u : Unit) => True) (kB D A (fun (u : Unit) => [])) A) ([.int i0, .int n0, .null] : List Value).toArray s 0 0 A := ⟨_, rfl⟩
  rw [← hQ0]
  obtain ⟨hx, hb, hml, hown, hts, hr, hlk, hnm⟩ := id E
  have hown : s.vm.findClass RJ3 = some m.cls := hown
  have hl : lv_has ls 3 [(0, .int i0), (1, .int n0), (2, .null)] := hl
  have g_i0 := k_rng i0
  have g_n0 := k_rng n0
  obtain ⟨H, hH⟩ : ∃ H, H = s.heap := ⟨_, rfl⟩
  have hP : va_P D vwCl [] H := by rw [hH]; exact hP
  have hS : va_S A s.heap H [] := by rw [hH]; exact va_S.rf
  rw [← hH]
  clear hH
  obtain ⟨locs, hlocs⟩ : ∃ locs : List Loc, locs = [] := ⟨_, rfl⟩
  rw [← hlocs] at hS ⊢
  refine lv_iload_n hx hb dJ3_checkIndex_8e157_0 rfl (lv_at hl 0 rfl) ?_
  refine lv_if_lt (tgt := 9) hx hb dJ3_checkIndex_8e157_1 (by decide) (fun c1q => by exfalso; simp only [k_lt, k_le, k_eq, ne_eq, ge_iff_le, gt_iff_lt, n_L0, n_L0] at c1q; omega) (fun c1q => ?_)
  simp only [k_lt, k_le, k_eq, ne_eq, ge_iff_le, gt_iff_lt, n_L0, n_L0] at c1q
  refine lv_iload_n hx hb dJ3_checkIndex_8e157_4 rfl (lv_at hl 0 rfl) ?_
  refine lv_iload_n hx hb dJ3_checkIndex_8e157_5 rfl (lv_at hl 1 rfl) ?_
  refine lv_icmp_lt (tgt := 16) hx hb dJ3_checkIndex_8e157_6 (by decide) (fun c2q => ?_) (fun c2q => by exfalso; simp only [k_lt, k_le, k_eq, ne_eq, ge_iff_le, gt_iff_lt] at c2q; omega)
  simp only [k_lt, k_le, k_eq, ne_eq, ge_iff_le, gt_iff_lt] at c2q
  refine lv_iload_n hx hb dJ3_checkIndex_8e157_16 rfl (lv_at hl 0 rfl) ?_
  rw [hQ0]
  exact k_iret () hx hb hr hlk (trivial) (hP.sub [] rfl) (hD.sub [] (by decide) rfl) hS (by decide) (by decide) dJ3_checkIndex_8e157_17

set_option maxHeartbeats 4000000 in
set_option maxRecDepth 100000 in
/-- Preconditions.checkIndex -/
theorem j_pcheck_r (l : Launch) (hl0 : l.stackTraces = false) (D : va_G) (cy : Nat → ClassId) (sa : Nat → Nat) (i0 n0 : Int32) (t9 : Nat) (hi0 : 0 ≤ i0.toInt) (hi1 : i0.toInt < n0.toInt) (sz : Nat) : Met l yJ3_checkIndex_8e157 (Cond.code yJ3_checkIndex_8e157 cJ3_checkIndex_8e157 3 (some .int) :: kWS) ({ frames := 10, cells := 0, slots := 0, locals := 300 }) (kPre D cy sa [.int i0, .int n0, .ref t9] [] sz) (va_Qi (fun (r : Int32) (u : Unit) => True) (kB D (va_A [] sz) (fun (u : Unit) => [])) (va_A [] sz)) 0 0 (va_A [] sz) := by
  refine k_ofW (y := yJ3_checkIndex_8e157) (cc := cJ3_checkIndex_8e157) (maxL := 3) (ret := (some .int)) (av := [.int i0, .int n0, .ref t9]) (ws := []) (Qc := fun A => (va_Qi (fun (r : Int32) (u : Unit) => True) (kB D A (fun (u : Unit) => [])) A)) (by decide) (Nat.le_of_ble_eq_true rfl) ?_
  intro p e s m below meth c ls A E hA hP hD hG hS hl
  obtain ⟨Q0, hQ0⟩ : ∃ Q0 : State → Prop, Q0 = MQ below (va_Qi (fun (r : Int32) (u : Unit) => True) (kB D A (fun (u : Unit) => [])) A) ([.int i0, .int n0, .ref t9] : List Value).toArray s 0 0 A := ⟨_, rfl⟩
  rw [← hQ0]
  obtain ⟨hx, hb, hml, hown, hts, hr, hlk, hnm⟩ := id E
  have hown : s.vm.findClass RJ3 = some m.cls := hown
  have hl : lv_has ls 3 [(0, .int i0), (1, .int n0), (2, .ref t9)] := hl
  have g_i0 := k_rng i0
  have g_n0 := k_rng n0
  obtain ⟨H, hH⟩ : ∃ H, H = s.heap := ⟨_, rfl⟩
  have hP : va_P D vwCl [] H := by rw [hH]; exact hP
  have hS : va_S A s.heap H [] := by rw [hH]; exact va_S.rf
  rw [← hH]
  clear hH
  obtain ⟨locs, hlocs⟩ : ∃ locs : List Loc, locs = [] := ⟨_, rfl⟩
  rw [← hlocs] at hS ⊢
  refine lv_iload_n hx hb dJ3_checkIndex_8e157_0 rfl (lv_at hl 0 rfl) ?_
  refine lv_if_lt (tgt := 9) hx hb dJ3_checkIndex_8e157_1 (by decide) (fun c1q => by exfalso; simp only [k_lt, k_le, k_eq, ne_eq, ge_iff_le, gt_iff_lt, n_L0, n_L0] at c1q; omega) (fun c1q => ?_)
  simp only [k_lt, k_le, k_eq, ne_eq, ge_iff_le, gt_iff_lt, n_L0, n_L0] at c1q
  refine lv_iload_n hx hb dJ3_checkIndex_8e157_4 rfl (lv_at hl 0 rfl) ?_
  refine lv_iload_n hx hb dJ3_checkIndex_8e157_5 rfl (lv_at hl 1 rfl) ?_
  refine lv_icmp_lt (tgt := 16) hx hb dJ3_checkIndex_8e157_6 (by decide) (fun c2q => ?_) (fun c2q => by exfalso; simp only [k_lt, k_le, k_eq, ne_eq, ge_iff_le, gt_iff_lt] at c2q; omega)
  simp only [k_lt, k_le, k_eq, ne_eq, ge_iff_le, gt_iff_lt] at c2q
  refine lv_iload_n hx hb dJ3_checkIndex_8e157_16 rfl (lv_at hl 0 rfl) ?_
  rw [hQ0]
  exact k_iret () hx hb hr hlk (trivial) (hP.sub [] rfl) (hD.sub [] (by decide) rfl) hS (by decide) (by decide) dJ3_checkIndex_8e157_17

set_option maxHeartbeats 4000000 in
set_option maxRecDepth 100000 in
/-- String.checkIndex -/
theorem j_checkIndex (l : Launch) (hl0 : l.stackTraces = false) (D : va_G) (cy : Nat → ClassId) (sa : Nat → Nat) (i0 n0 : Int32) (hi0 : 0 ≤ i0.toInt) (hi1 : i0.toInt < n0.toInt) (sz : Nat) : Met l yJ0_checkIndex_df160 (Cond.code yJ0_checkIndex_df160 cJ0_checkIndex_df160 2 none :: kWS) ({ frames := 11, cells := 0, slots := 0, locals := 360 }) (kPre D cy sa [.int i0, .int n0] [] sz) (va_Qv (fun (u : Unit) => True) (kB D (va_A [] sz) (fun (u : Unit) => [])) (va_A [] sz)) 0 0 (va_A [] sz) := by
  refine k_ofW (y := yJ0_checkIndex_df160) (cc := cJ0_checkIndex_df160) (maxL := 2) (ret := none) (av := [.int i0, .int n0]) (ws := []) (Qc := fun A => (va_Qv (fun (u : Unit) => True) (kB D A (fun (u : Unit) => [])) A)) (by decide) (Nat.le_of_ble_eq_true rfl) ?_
  intro p e s m below meth c ls A E hA hP hD hG hS hl
  obtain ⟨Q0, hQ0⟩ : ∃ Q0 : State → Prop, Q0 = MQ below (va_Qv (fun (u : Unit) => True) (kB D A (fun (u : Unit) => [])) A) ([.int i0, .int n0] : List Value).toArray s 0 0 A := ⟨_, rfl⟩
  rw [← hQ0]
  obtain ⟨hx, hb, hml, hown, hts, hr, hlk, hnm⟩ := id E
  have hown : s.vm.findClass RJ0 = some m.cls := hown
  have hl : lv_has ls 2 [(0, .int i0), (1, .int n0)] := hl
  have g_i0 := k_rng i0
  have g_n0 := k_rng n0
  obtain ⟨H, hH⟩ : ∃ H, H = s.heap := ⟨_, rfl⟩
  have hP : va_P D vwCl [] H := by rw [hH]; exact hP
  have hS : va_S A s.heap H [] := by rw [hH]; exact va_S.rf
  rw [← hH]
  clear hH
  obtain ⟨locs, hlocs⟩ : ∃ locs : List Loc, locs = [] := ⟨_, rfl⟩
  rw [← hlocs] at hS ⊢
  refine lv_iload_n hx hb dJ0_checkIndex_df160_0 rfl (lv_at hl 0 rfl) ?_
  refine lv_iload_n hx hb dJ0_checkIndex_df160_1 rfl (lv_at hl 1 rfl) ?_
  rcases hG.2.2.2.2.2.2.2.2.2.2.2.2.2.2.2.2.2.2.2.2.2.1 with hv9 | ⟨t9, hv9⟩
  · refine va_gets (C := "jdk/internal/util/Preconditions") (n := "SIOOBE_FORMATTER") (d := "Ljava/util/function/BiFunction;") (v := .null) hx hb hv9 hS hown (hts _ wm_686) (fun _ h9 => h9) dJ0_checkIndex_df160_2 ?_
    refine k_cali [] (⟨hP, hD, hG, hS, hA, rfl, rfl⟩ : kAt D cy sa A s H _ _ [] []) (wr := []) rfl rfl (by decide) (k_runS (As := [.int i0, .int n0, .null]) (rest := []) E lk_SRJ0_1059 (j_pcheck_n l hl0 D cy sa i0 n0 (by first | exact hkk | decide | omega) (by first | exact hkk | decide | omega) H.size) (⟨hP, hD, hG, hS, hA, rfl, rfl⟩ : kAt D cy sa A s H _ _ [] []) hl.1 rfl rfl ⟨rfl, rfl, ⟨Nat.le_of_ble_eq_true rfl, Nat.le_of_ble_eq_true rfl⟩, ⟨Nat.le_of_ble_eq_true rfl, Nat.le_of_ble_eq_true rfl⟩, Nat.le_of_ble_eq_true rfl⟩ dJ0_checkIndex_df160_5) (fun r1q u2q H locs hwu2q hP hD hS => ?_)
    have hP : va_P D vwCl [] H := hP
    have hD : va_D A [] := hD
    refine lv_pop hx hb dJ0_checkIndex_df160_8 rfl ?_
    rw [hQ0]
    exact k_vret () hx hb hr hlk (trivial) (hP.sub [] rfl) (hD.sub [] (by decide) rfl) hS (by decide) (by decide) dJ0_checkIndex_df160_9
  · refine va_gets (C := "jdk/internal/util/Preconditions") (n := "SIOOBE_FORMATTER") (d := "Ljava/util/function/BiFunction;") (v := .ref t9) hx hb hv9 hS hown (hts _ wm_686) (fun _ h9 => h9) dJ0_checkIndex_df160_2 ?_
    refine k_cali [] (⟨hP, hD, hG, hS, hA, rfl, rfl⟩ : kAt D cy sa A s H _ _ [] []) (wr := []) rfl rfl (by decide) (k_runS (As := [.int i0, .int n0, .ref t9]) (rest := []) E lk_SRJ0_1059 (j_pcheck_r l hl0 D cy sa i0 n0 (t9) (by first | exact hkk | decide | omega) (by first | exact hkk | decide | omega) H.size) (⟨hP, hD, hG, hS, hA, rfl, rfl⟩ : kAt D cy sa A s H _ _ [] []) hl.1 rfl rfl ⟨rfl, rfl, ⟨Nat.le_of_ble_eq_true rfl, Nat.le_of_ble_eq_true rfl⟩, ⟨Nat.le_of_ble_eq_true rfl, Nat.le_of_ble_eq_true rfl⟩, Nat.le_of_ble_eq_true rfl⟩ dJ0_checkIndex_df160_5) (fun r3q u4q H locs hwu4q hP hD hS => ?_)
    have hP : va_P D vwCl [] H := hP
    have hD : va_D A [] := hD
    refine lv_pop hx hb dJ0_checkIndex_df160_8 rfl ?_
    rw [hQ0]
    exact k_vret () hx hb hr hlk (trivial) (hP.sub [] rfl) (hD.sub [] (by decide) rfl) hS (by decide) (by decide) dJ0_checkIndex_df160_9

set_option maxHeartbeats 4000000 in
set_option maxRecDepth 100000 in
/-- StringLatin1.charAt -/
theorem j_latinAt (l : Launch) (hl0 : l.stackTraces = false) (D : va_G) (cy : Nat → ClassId) (sa : Nat → Nat) (i0 : Int32) (kk : Nat) (hkk : kk < 8) (hi0 : 0 ≤ i0.toInt) (hi1 : i0.toInt < (kSl.getD kk 0 : Int)) (sz : Nat) : Met l yJ1_charAt_3b067 (Cond.code yJ1_charAt_3b067 cJ1_charAt_3b067 2 (some .char) :: kWS) ({ frames := 12, cells := 0, slots := 0, locals := 420 }) (kPre D cy sa [.ref (sa (3000 + kk)), .int i0] [] sz) (va_Qi (fun (r : Int32) (u : Unit) => (narrow .char (.int r) = .int r)) (kB D (va_A [] sz) (fun (u : Unit) => [])) (va_A [] sz)) 0 0 (va_A [] sz) := by
  refine k_ofW (y := yJ1_charAt_3b067) (cc := cJ1_charAt_3b067) (maxL := 2) (ret := (some .char)) (av := [.ref (sa (3000 + kk)), .int i0]) (ws := []) (Qc := fun A => (va_Qi (fun (r : Int32) (u : Unit) => (narrow .char (.int r) = .int r)) (kB D A (fun (u : Unit) => [])) A)) (by decide) (Nat.le_of_ble_eq_true rfl) ?_
  intro p e s m below meth c ls A E hA hP hD hG hS hl
  obtain ⟨Q0, hQ0⟩ : ∃ Q0 : State → Prop, Q0 = MQ below (va_Qi (fun (r : Int32) (u : Unit) => (narrow .char (.int r) = .int r)) (kB D A (fun (u : Unit) => [])) A) ([.ref (sa (3000 + kk)), .int i0] : List Value).toArray s 0 0 A := ⟨_, rfl⟩
  rw [← hQ0]
  obtain ⟨hx, hb, hml, hown, hts, hr, hlk, hnm⟩ := id E
  have hown : s.vm.findClass RJ1 = some m.cls := hown
  have hl : lv_has ls 2 [(0, .ref (sa (3000 + kk))), (1, .int i0)] := hl
  have g_i0 := k_rng i0
  obtain ⟨H, hH⟩ : ∃ H, H = s.heap := ⟨_, rfl⟩
  have hP : va_P D vwCl [] H := by rw [hH]; exact hP
  have hS : va_S A s.heap H [] := by rw [hH]; exact va_S.rf
  rw [← hH]
  clear hH
  obtain ⟨locs, hlocs⟩ : ∃ locs : List Loc, locs = [] := ⟨_, rfl⟩
  rw [← hlocs] at hS ⊢
  refine lv_iload_n hx hb dJ1_charAt_3b067_0 rfl (lv_at hl 1 rfl) ?_
  refine lv_aload_n hx hb dJ1_charAt_3b067_1 rfl (lv_at hl 0 rfl) ?_
  refine va_tlen (v := Int32.ofNat (kSl.getD kk 0)) hx hb (hG.2.2.2.2.2.2.2.2.2.2.2.2.2.1.1 kk hkk).2.2.2 hS rfl dJ1_charAt_3b067_2 ?_
  refine lv_topi (fun x1q ex1q => ?_)
  have rx1q := kSl_toInt hkk ex1q
  refine k_calv [] (⟨hP, hD, hG, hS, hA, rfl, rfl⟩ : kAt D cy sa A s H _ _ [] []) (wr := []) rfl rfl (by decide) (k_runS (As := [.int i0, .int x1q]) (rest := []) E lk_SRJ1_9 (j_checkIndex l hl0 D cy sa i0 x1q (by first | exact hkk | decide | omega) (by first | exact hkk | decide | omega) H.size) (⟨hP, hD, hG, hS, hA, rfl, rfl⟩ : kAt D cy sa A s H _ _ [] []) hl.1 rfl rfl ⟨rfl, rfl, ⟨Nat.le_of_ble_eq_true rfl, Nat.le_of_ble_eq_true rfl⟩, ⟨Nat.le_of_ble_eq_true rfl, Nat.le_of_ble_eq_true rfl⟩, Nat.le_of_ble_eq_true rfl⟩ dJ1_charAt_3b067_3) (fun u3q H locs hwu3q hP hD hS => ?_)
  have hP : va_P D vwCl [] H := hP
  have hD : va_D A [] := hD
  refine lv_aload_n hx hb dJ1_charAt_3b067_6 rfl (lv_at hl 0 rfl) ?_
  refine lv_iload_n hx hb dJ1_charAt_3b067_7 rfl (lv_at hl 1 rfl) ?_
  refine va_tb (v := .int ((kSb.getD kk []).getD (i0 : Int32).toNatClampNeg 0)) hx hb (hG.2.2.2.2.2.2.2.2.2.2.2.2.2.1.1 kk hkk).2.2.2 hS (n_in (by omega) (by omega)) rfl dJ1_charAt_3b067_8 ?_
  refine lv_topi (fun x4q ex4q => ?_)
  refine lv_sipush (v := 255) hx hb dJ1_charAt_3b067_9 (by decide) ?_
  refine lv_iand hx hb dJ1_charAt_3b067_12 ?_
  refine lv_topi (fun x5q ex5q => ?_)
  have rx5q := n_and ex5q (b := 255) n_L255 (by omega)
  obtain ⟨x6q, ex6q⟩ : ∃ z : Int32, z = ((x5q : Int32).toUInt32 % 65536).toInt32 := ⟨_, rfl⟩
  refine lv_i2c (v := x6q) hx hb dJ1_charAt_3b067_13 ex6q.symm ?_
  rw [hQ0]
  exact k_nret () hx hb hr hlk (by rw [ex6q]; exact pk_nc _) ((show narrow .char (.int x6q) = .int x6q by rw [ex6q]; exact pk_nc _)) (hP.sub [] rfl) (hD.sub [] (by decide) rfl) hS (by decide) (by decide) dJ1_charAt_3b067_14

set_option maxHeartbeats 4000000 in
set_option maxRecDepth 100000 in
/-- String.charAt -/
theorem j_charAt (l : Launch) (hl0 : l.stackTraces = false) (D : va_G) (cy : Nat → ClassId) (sa : Nat → Nat) (i0 : Int32) (kk : Nat) (hkk : kk < 8) (hi0 : 0 ≤ i0.toInt) (hi1 : i0.toInt < (kSl.getD kk 0 : Int)) (sz : Nat) : Met l yJ0_charAt_5068e (Cond.code yJ0_charAt_5068e cJ0_charAt_5068e 2 (some .char) :: kWS) ({ frames := 13, cells := 0, slots := 0, locals := 480 }) (kPre D cy sa [.ref (sa (2000 + kk)), .int i0] [] sz) (va_Qi (fun (r : Int32) (u : Unit) => True) (kB D (va_A [] sz) (fun (u : Unit) => [])) (va_A [] sz)) 0 0 (va_A [] sz) := by
  refine k_ofW (y := yJ0_charAt_5068e) (cc := cJ0_charAt_5068e) (maxL := 2) (ret := (some .char)) (av := [.ref (sa (2000 + kk)), .int i0]) (ws := []) (Qc := fun A => (va_Qi (fun (r : Int32) (u : Unit) => True) (kB D A (fun (u : Unit) => [])) A)) (by decide) (Nat.le_of_ble_eq_true rfl) ?_
  intro p e s m below meth c ls A E hA hP hD hG hS hl
  obtain ⟨Q0, hQ0⟩ : ∃ Q0 : State → Prop, Q0 = MQ below (va_Qi (fun (r : Int32) (u : Unit) => True) (kB D A (fun (u : Unit) => [])) A) ([.ref (sa (2000 + kk)), .int i0] : List Value).toArray s 0 0 A := ⟨_, rfl⟩
  rw [← hQ0]
  obtain ⟨hx, hb, hml, hown, hts, hr, hlk, hnm⟩ := id E
  have hown : s.vm.findClass RJ0 = some m.cls := hown
  have hl : lv_has ls 2 [(0, .ref (sa (2000 + kk))), (1, .int i0)] := hl
  have g_i0 := k_rng i0
  obtain ⟨H, hH⟩ : ∃ H, H = s.heap := ⟨_, rfl⟩
  have hP : va_P D vwCl [] H := by rw [hH]; exact hP
  have hS : va_S A s.heap H [] := by rw [hH]; exact va_S.rf
  rw [← hH]
  clear hH
  obtain ⟨locs, hlocs⟩ : ∃ locs : List Loc, locs = [] := ⟨_, rfl⟩
  rw [← hlocs] at hS ⊢
  refine lv_aload_n hx hb dJ0_charAt_5068e_0 rfl (lv_at hl 0 rfl) ?_
  refine k_cali [] (⟨hP, hD, hG, hS, hA, rfl, rfl⟩ : kAt D cy sa A s H _ _ [] []) (wr := []) rfl rfl (by decide) (k_runK (vk_recv (i := kk) hG.2.2.2.2.2.2.2.2.2.2.2.2.2.1 hkk hS) (As := []) (rest := []) E lk_VRJ0_492 (j_isLatin1 l hl0 D cy sa (kk) (by first | exact hkk | decide | omega) H.size) (⟨hP, hD, hG, hS, hA, rfl, rfl⟩ : kAt D cy sa A s H _ _ [] []) hl.1 rfl rfl ⟨rfl, rfl, ⟨Nat.le_of_ble_eq_true rfl, Nat.le_of_ble_eq_true rfl⟩, ⟨Nat.le_of_ble_eq_true rfl, Nat.le_of_ble_eq_true rfl⟩, Nat.le_of_ble_eq_true rfl⟩ dJ0_charAt_5068e_1) (fun r1q u2q H locs hwu2q hP hD hS => ?_)
  have hP : va_P D vwCl [] H := hP
  have hD : va_D A [] := hD
  have p3q := hwu2q
  refine lv_if_eq (tgt := 16) hx hb dJ0_charAt_5068e_4 (by decide) (fun c4q => by exfalso; simp only [k_lt, k_le, k_eq, ne_eq, ge_iff_le, gt_iff_lt, n_L0, n_L0] at c4q; omega) (fun c4q => ?_)
  simp only [k_lt, k_le, k_eq, ne_eq, ge_iff_le, gt_iff_lt, n_L0, n_L0] at c4q
  refine lv_aload_n hx hb dJ0_charAt_5068e_7 rfl (lv_at hl 0 rfl) ?_
  refine vk_getf hx hb (hG.2.2.2.2.2.2.2.2.2.2.2.2.2.1.1 kk hkk).2.2.1 hS hown (hts _ wm_845) (fun _ h9 => h9) dJ0_charAt_5068e_8 ?_
  refine W.eq (g2 := F0 m 11 ls [.ref (sa (3000 + kk))]) rfl ?_
  refine lv_iload_n hx hb dJ0_charAt_5068e_11 rfl (lv_at hl 1 rfl) ?_
  refine k_cali [] (⟨hP, hD, hG, hS, hA, rfl, rfl⟩ : kAt D cy sa A s H _ _ [] []) (wr := []) rfl rfl (by decide) (k_runS (As := [.ref (sa (3000 + kk)), .int i0]) (rest := []) E lk_SRJ0_495 (j_latinAt l hl0 D cy sa i0 (kk) (by first | exact hkk | decide | omega) (by first | exact hkk | decide | omega) (by first | exact hkk | decide | omega) H.size) (⟨hP, hD, hG, hS, hA, rfl, rfl⟩ : kAt D cy sa A s H _ _ [] []) hl.1 rfl rfl ⟨rfl, rfl, ⟨Nat.le_of_ble_eq_true rfl, Nat.le_of_ble_eq_true rfl⟩, ⟨Nat.le_of_ble_eq_true rfl, Nat.le_of_ble_eq_true rfl⟩, Nat.le_of_ble_eq_true rfl⟩ dJ0_charAt_5068e_12) (fun r5q u6q H locs hwu6q hP hD hS => ?_)
  have hP : va_P D vwCl [] H := hP
  have hD : va_D A [] := hD
  have p7q := hwu6q
  rw [hQ0]
  exact k_nret () hx hb hr hlk p7q (trivial) (hP.sub [] rfl) (hD.sub [] (by decide) rfl) hS (by decide) (by decide) dJ0_charAt_5068e_15
