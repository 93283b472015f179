theorem wm_703 : Cond.code yJ0_length_8abf5 cJ0_length_8abf5 1 (some .int) ∈ kWS := kws_at 703 (by decide +kernel) (by decide +kernel)
theorem wm_951 : Cond.methodLink RX7 89 yJ0_length_8abf5 ∈ kWS := kws_at 951 (by decide +kernel) (by decide +kernel)
theorem wm_702 : Cond.selects RJ0 yJ0_length_8abf5 yJ0_length_8abf5 ∈ kWS := kws_at 702 (by decide +kernel) (by decide +kernel)
theorem wm_701 : Cond.instanceMethod yJ0_length_8abf5 ∈ kWS := kws_at 701 (by decide +kernel) (by decide +kernel)
theorem lk_VRX7_89 : kLV RX7 89 yJ0_length_8abf5 (Cond.code yJ0_length_8abf5 cJ0_length_8abf5 1 (some .int)) 0 := ⟨wm_951, wm_701, wm_702, wm_18, wm_703, ⟨by decide +kernel, by decide +kernel, by decide +kernel⟩⟩
theorem wm_955 : Cond.code yJ0_charAt_5068e cJ0_charAt_5068e 2 (some .char) ∈ kWS := kws_at 955 (by decide +kernel) (by decide +kernel)
theorem wm_952 : Cond.methodLink RX7 94 yJ0_charAt_5068e ∈ kWS := kws_at 952 (by decide +kernel) (by decide +kernel)
theorem wm_954 : Cond.selects RJ0 yJ0_charAt_5068e yJ0_charAt_5068e ∈ kWS := kws_at 954 (by decide +kernel) (by decide +kernel)
theorem wm_953 : Cond.instanceMethod yJ0_charAt_5068e ∈ kWS := kws_at 953 (by decide +kernel) (by decide +kernel)
theorem lk_VRX7_94 : kLV RX7 94 yJ0_charAt_5068e (Cond.code yJ0_charAt_5068e cJ0_charAt_5068e 2 (some .char)) 1 := ⟨wm_952, wm_953, wm_954, wm_18, wm_955, ⟨by decide +kernel, by decide +kernel, by decide +kernel⟩⟩
theorem wm_2087 : Cond.fieldLink RX7 81 "LentMinds$Word" "spelling" "Ljava/lang/String;" ∈ kWS := kws_at 2087 (by decide +kernel) (by decide +kernel)
theorem wm_950 : Cond.code yX7_isSpelled cX7_isSpelled 4 (some .boolean) ∈ kWS := kws_at 950 (by decide +kernel) (by decide +kernel)
theorem wm_947 : Cond.methodLink RX7 85 yX7_isSpelled ∈ kWS := kws_at 947 (by decide +kernel) (by decide +kernel)
theorem wm_s12 : Cond.selects RX7 yX7_isSpelled yX7_isSpelled ∈ kWS := kws_sel 12 (by decide +kernel) (by decide +kernel)
theorem wm_949 : Cond.instanceMethod yX7_isSpelled ∈ kWS := kws_at 949 (by decide +kernel) (by decide +kernel)
theorem wm_2 : Cond.initialized RX7 ∈ kWS := kws_at 2 (by decide +kernel) (by decide +kernel)
theorem lk_VRX7_85 : kLV RX7 85 yX7_isSpelled (Cond.code yX7_isSpelled cX7_isSpelled 4 (some .boolean)) 2 := ⟨wm_947, wm_949, wm_s12, wm_2, wm_950, ⟨by decide +kernel, by decide +kernel, by decide +kernel⟩⟩
theorem dX7_isSpelled_0 : decode cX7_isSpelled 0 = .ok (.iload_n 2, 1) := by decide +kernel
theorem dX7_isSpelled_1 : decode cX7_isSpelled 1 = .ok (.ifCond .lt 27, 3) := by decide +kernel
theorem dX7_isSpelled_4 : decode cX7_isSpelled 4 = .ok (.aload_n 0, 1) := by decide +kernel
theorem dX7_isSpelled_5 : decode cX7_isSpelled 5 = .ok (.getfield 23, 3) := by decide +kernel
theorem dX7_isSpelled_8 : decode cX7_isSpelled 8 = .ok (.aload_n 0, 1) := by decide +kernel
theorem dX7_isSpelled_9 : decode cX7_isSpelled 9 = .ok (.getfield 19, 3) := by decide +kernel
theorem dX7_isSpelled_12 : decode cX7_isSpelled 12 = .ok (.if_icmp .gt 16, 3) := by decide +kernel
theorem dX7_isSpelled_15 : decode cX7_isSpelled 15 = .ok (.aload_n 0, 1) := by decide +kernel
theorem dX7_isSpelled_16 : decode cX7_isSpelled 16 = .ok (.getfield 23, 3) := by decide +kernel
theorem dX7_isSpelled_19 : decode cX7_isSpelled 19 = .ok (.iload_n 2, 1) := by decide +kernel
theorem dX7_isSpelled_20 : decode cX7_isSpelled 20 = .ok (.isub, 1) := by decide +kernel
theorem dX7_isSpelled_21 : decode cX7_isSpelled 21 = .ok (.aload_n 1, 1) := by decide +kernel
theorem dX7_isSpelled_22 : decode cX7_isSpelled 22 = .ok (.invokevirtual 89, 3) := by decide +kernel
theorem dX7_isSpelled_25 : decode cX7_isSpelled 25 = .ok (.if_icmp .eq 5, 3) := by decide +kernel
theorem dX7_isSpelled_28 : decode cX7_isSpelled 28 = .ok (.iconst 0, 1) := by decide +kernel
theorem dX7_isSpelled_29 : decode cX7_isSpelled 29 = .ok (.ireturn, 1) := by decide +kernel
theorem dX7_isSpelled_30 : decode cX7_isSpelled 30 = .ok (.iconst 0, 1) := by decide +kernel
theorem dX7_isSpelled_31 : decode cX7_isSpelled 31 = .ok (.istore_n 3, 1) := by decide +kernel
theorem dX7_isSpelled_32 : decode cX7_isSpelled 32 = .ok (.iload_n 3, 1) := by decide +kernel
theorem dX7_isSpelled_33 : decode cX7_isSpelled 33 = .ok (.aload_n 1, 1) := by decide +kernel
theorem dX7_isSpelled_34 : decode cX7_isSpelled 34 = .ok (.invokevirtual 89, 3) := by decide +kernel
theorem dX7_isSpelled_37 : decode cX7_isSpelled 37 = .ok (.if_icmp .ge 27, 3) := by decide +kernel
theorem dX7_isSpelled_40 : decode cX7_isSpelled 40 = .ok (.aload_n 0, 1) := by decide +kernel
theorem dX7_isSpelled_41 : decode cX7_isSpelled 41 = .ok (.getfield 15, 3) := by decide +kernel
theorem dX7_isSpelled_44 : decode cX7_isSpelled 44 = .ok (.iload_n 2, 1) := by decide +kernel
theorem dX7_isSpelled_45 : decode cX7_isSpelled 45 = .ok (.iload_n 3, 1) := by decide +kernel
theorem dX7_isSpelled_46 : decode cX7_isSpelled 46 = .ok (.iadd, 1) := by decide +kernel
theorem dX7_isSpelled_47 : decode cX7_isSpelled 47 = .ok (.baload, 1) := by decide +kernel
theorem dX7_isSpelled_48 : decode cX7_isSpelled 48 = .ok (.aload_n 1, 1) := by decide +kernel
theorem dX7_isSpelled_49 : decode cX7_isSpelled 49 = .ok (.iload_n 3, 1) := by decide +kernel
theorem dX7_isSpelled_50 : decode cX7_isSpelled 50 = .ok (.invokevirtual 94, 3) := by decide +kernel
theorem dX7_isSpelled_53 : decode cX7_isSpelled 53 = .ok (.if_icmp .eq 5, 3) := by decide +kernel
theorem dX7_isSpelled_56 : decode cX7_isSpelled 56 = .ok (.iconst 0, 1) := by decide +kernel
theorem dX7_isSpelled_57 : decode cX7_isSpelled 57 = .ok (.ireturn, 1) := by decide +kernel
theorem dX7_isSpelled_58 : decode cX7_isSpelled 58 = .ok (.iinc 3 1, 3) := by decide +kernel
theorem dX7_isSpelled_61 : decode cX7_isSpelled 61 = .ok (.goto (-29), 3) := by decide +kernel
theorem dX7_isSpelled_64 : decode cX7_isSpelled 64 = .ok (.iconst 1, 1) := by decide +kernel
theorem dX7_isSpelled_65 : decode cX7_isSpelled 65 = .ok (.ireturn, 1) := by decide +kernel
theorem dX7_readWord_0 : decode cX7_readWord 0 = .ok (.aload_n 0, 1) := by decide +kernel
theorem dX7_readWord_1 : decode cX7_readWord 1 = .ok (.getfield 23, 3) := by decide +kernel
theorem dX7_readWord_4 : decode cX7_readWord 4 = .ok (.istore_n 1, 1) := by decide +kernel
theorem dX7_readWord_5 : decode cX7_readWord 5 = .ok (.aload_n 0, 1) := by decide +kernel
theorem dX7_readWord_6 : decode cX7_readWord 6 = .ok (.getfield 23, 3) := by decide +kernel
theorem dX7_readWord_9 : decode cX7_readWord 9 = .ok (.aload_n 0, 1) := by decide +kernel
theorem dX7_readWord_10 : decode cX7_readWord 10 = .ok (.getfield 19, 3) := by decide +kernel
theorem dX7_readWord_13 : decode cX7_readWord 13 = .ok (.if_icmp .ge 44, 3) := by decide +kernel
theorem dX7_readWord_16 : decode cX7_readWord 16 = .ok (.aload_n 0, 1) := by decide +kernel
theorem dX7_readWord_17 : decode cX7_readWord 17 = .ok (.getfield 15, 3) := by decide +kernel
theorem dX7_readWord_20 : decode cX7_readWord 20 = .ok (.aload_n 0, 1) := by decide +kernel
theorem dX7_readWord_21 : decode cX7_readWord 21 = .ok (.getfield 23, 3) := by decide +kernel
theorem dX7_readWord_24 : decode cX7_readWord 24 = .ok (.baload, 1) := by decide +kernel
theorem dX7_readWord_25 : decode cX7_readWord 25 = .ok (.bipush 97, 2) := by decide +kernel
theorem dX7_readWord_27 : decode cX7_readWord 27 = .ok (.if_icmp .lt 30, 3) := by decide +kernel
theorem dX7_readWord_30 : decode cX7_readWord 30 = .ok (.aload_n 0, 1) := by decide +kernel
theorem dX7_readWord_31 : decode cX7_readWord 31 = .ok (.getfield 15, 3) := by decide +kernel
theorem dX7_readWord_34 : decode cX7_readWord 34 = .ok (.aload_n 0, 1) := by decide +kernel
theorem dX7_readWord_35 : decode cX7_readWord 35 = .ok (.getfield 23, 3) := by decide +kernel
theorem dX7_readWord_38 : decode cX7_readWord 38 = .ok (.baload, 1) := by decide +kernel
theorem dX7_readWord_39 : decode cX7_readWord 39 = .ok (.bipush 122, 2) := by decide +kernel
theorem dX7_readWord_41 : decode cX7_readWord 41 = .ok (.if_icmp .gt 16, 3) := by decide +kernel
theorem dX7_readWord_44 : decode cX7_readWord 44 = .ok (.aload_n 0, 1) := by decide +kernel
theorem dX7_readWord_45 : decode cX7_readWord 45 = .ok (.dup, 1) := by decide +kernel
theorem dX7_readWord_46 : decode cX7_readWord 46 = .ok (.getfield 23, 3) := by decide +kernel
theorem dX7_readWord_49 : decode cX7_readWord 49 = .ok (.iconst 1, 1) := by decide +kernel
theorem dX7_readWord_50 : decode cX7_readWord 50 = .ok (.iadd, 1) := by decide +kernel
theorem dX7_readWord_51 : decode cX7_readWord 51 = .ok (.putfield 23, 3) := by decide +kernel
theorem dX7_readWord_54 : decode cX7_readWord 54 = .ok (.goto (-49), 3) := by decide +kernel
theorem dX7_readWord_57 : decode cX7_readWord 57 = .ok (.iconst 0, 1) := by decide +kernel
theorem dX7_readWord_58 : decode cX7_readWord 58 = .ok (.istore_n 2, 1) := by decide +kernel
theorem dX7_readWord_59 : decode cX7_readWord 59 = .ok (.iload_n 2, 1) := by decide +kernel
theorem dX7_readWord_60 : decode cX7_readWord 60 = .ok (.getstatic 77, 3) := by decide +kernel
theorem dX7_readWord_63 : decode cX7_readWord 63 = .ok (.arraylength, 1) := by decide +kernel
theorem dX7_readWord_64 : decode cX7_readWord 64 = .ok (.if_icmp .ge 31, 3) := by decide +kernel
theorem dX7_readWord_67 : decode cX7_readWord 67 = .ok (.aload_n 0, 1) := by decide +kernel
theorem dX7_readWord_68 : decode cX7_readWord 68 = .ok (.getstatic 77, 3) := by decide +kernel
theorem dX7_readWord_71 : decode cX7_readWord 71 = .ok (.iload_n 2, 1) := by decide +kernel
theorem dX7_readWord_72 : decode cX7_readWord 72 = .ok (.aaload, 1) := by decide +kernel
theorem dX7_readWord_73 : decode cX7_readWord 73 = .ok (.getfield 81, 3) := by decide +kernel
theorem dX7_readWord_76 : decode cX7_readWord 76 = .ok (.iload_n 1, 1) := by decide +kernel
theorem dX7_readWord_77 : decode cX7_readWord 77 = .ok (.invokevirtual 85, 3) := by decide +kernel
theorem dX7_readWord_80 : decode cX7_readWord 80 = .ok (.ifCond .eq 9, 3) := by decide +kernel
theorem dX7_readWord_83 : decode cX7_readWord 83 = .ok (.getstatic 77, 3) := by decide +kernel
theorem dX7_readWord_86 : decode cX7_readWord 86 = .ok (.iload_n 2, 1) := by decide +kernel
theorem dX7_readWord_87 : decode cX7_readWord 87 = .ok (.aaload, 1) := by decide +kernel
theorem dX7_readWord_88 : decode cX7_readWord 88 = .ok (.areturn, 1) := by decide +kernel
theorem dX7_readWord_89 : decode cX7_readWord 89 = .ok (.iinc 2 1, 3) := by decide +kernel
theorem dX7_readWord_92 : decode cX7_readWord 92 = .ok (.goto (-33), 3) := by decide +kernel
theorem dX7_readWord_95 : decode cX7_readWord 95 = .ok (.aconst_null, 1) := by decide +kernel
theorem dX7_readWord_96 : decode cX7_readWord 96 = .ok (.areturn, 1) := by decide +kernel
set_option maxHeartbeats 4000000 in
set_option maxRecDepth 100000 in
/-- Reader.isSpelled -/
theorem c_isSpelled (l : Launch) (hl0 : l.stackTraces = false) (D : va_G) (cy : Nat → ClassId) (sa : Nat → Nat) (ra ra_numbers ra_text : Nat) (r_length r_at r_fault r_place s0 : Int32) (rf_text : Nat → Int32) (kk : Nat) (h_r_length : 0 ≤ r_length.toInt ∧ r_length.toInt ≤ 500) (h_r_at : 0 ≤ r_at.toInt ∧ r_at.toInt ≤ 500) (h_s0 : 0 ≤ s0.toInt ∧ s0.toInt ≤ 500) (hkk : kk < 8) (sz : Nat) : Met l yX7_isSpelled (Cond.code yX7_isSpelled cX7_isSpelled 4 (some .boolean) :: kWS) ({ frames := 14, cells := 0, slots := 0, locals := 540 }) (kPre D cy sa [.ref ra, .ref (sa (2000 + kk)), .int s0] [(ra, .inr (9, [.ref ra_numbers, .ref ra_text, .int r_length, .int r_at, .int r_fault, .int r_place])), (ra_text, .inl (cy 1, 500, .inl rf_text))] sz) (va_Qi (fun (r : Int32) (u : Unit) => (r.toInt = 0 ∨ r.toInt = 1)) (kB D (va_A [(ra, .inr (9, [.ref ra_numbers, .ref ra_text, .int r_length, .int r_at, .int r_fault, .int r_place])), (ra_text, .inl (cy 1, 500, .inl rf_text))] sz) (fun (u : Unit) => [(ra, .inr (9, [.ref ra_numbers, .ref ra_text, .int r_length, .int r_at, .int r_fault, .int r_place])), (ra_text, .inl (cy 1, 500, .inl rf_text))])) (va_A [(ra, .inr (9, [.ref ra_numbers, .ref ra_text, .int r_length, .int r_at, .int r_fault, .int r_place])), (ra_text, .inl (cy 1, 500, .inl rf_text))] sz)) 0 0 (va_A [(ra, .inr (9, [.ref ra_numbers, .ref ra_text, .int r_length, .int r_at, .int r_fault, .int r_place])), (ra_text, .inl (cy 1, 500, .inl rf_text))] sz) := by
  refine k_ofW (y := yX7_isSpelled) (cc := cX7_isSpelled) (maxL := 4) (ret := (some .boolean)) (av := [.ref ra, .ref (sa (2000 + kk)), .int s0]) (ws := [(ra, .inr (9, [.ref ra_numbers, .ref ra_text, .int r_length, .int r_at, .int r_fault, .int r_place])), (ra_text, .inl (cy 1, 500, .inl rf_text))]) (Qc := fun A => (va_Qi (fun (r : Int32) (u : Unit) => (r.toInt = 0 ∨ r.toInt = 1)) (kB D A (fun (u : Unit) => [(ra, .inr (9, [.ref ra_numbers, .ref ra_text, .int r_length, .int r_at, .int r_fault, .int r_place])), (ra_text, .inl (cy 1, 500, .inl rf_text))])) A)) (by decide) (Nat.le_of_ble_eq_true rfl) ?_
  intro p e s m below meth c ls A E hA hP hD hG hS hl
  obtain ⟨Q0, hQ0⟩ : ∃ Q0 : State → Prop, Q0 = MQ below (va_Qi (fun (r : Int32) (u : Unit) => (r.toInt = 0 ∨ r.toInt = 1)) (kB D A (fun (u : Unit) => [(ra, .inr (9, [.ref ra_numbers, .ref ra_text, .int r_length, .int r_at, .int r_fault, .int r_place])), (ra_text, .inl (cy 1, 500, .inl rf_text))])) A) ([.ref ra, .ref (sa (2000 + kk)), .int s0] : List Value).toArray s 0 0 A := ⟨_, rfl⟩
  rw [← hQ0]
  obtain ⟨hx, hb, hml, hown, hts, hr, hlk, hnm⟩ := id E
  have hown : s.vm.findClass RX7 = some m.cls := hown
  have hl : lv_has ls 4 [(0, .ref ra), (1, .ref (sa (2000 + kk))), (2, .int s0)] := hl
  obtain ⟨H, hH⟩ : ∃ H, H = s.heap := ⟨_, rfl⟩
  have hP : va_P D vwCl [(ra, .inr (9, [.ref ra_numbers, .ref ra_text, .int r_length, .int r_at, .int r_fault, .int r_place])), (ra_text, .inl (cy 1, 500, .inl rf_text))] H := by rw [hH]; exact hP
  have hS : va_S A s.heap H [] := by rw [hH]; exact va_S.rf
  rw [← hH]
  clear hH
  obtain ⟨locs, hlocs⟩ : ∃ locs : List Loc, locs = [] := ⟨_, rfl⟩
  rw [← hlocs] at hS ⊢
  have hkl := kSl_rng hkk
  refine lv_iload_n hx hb dX7_isSpelled_0 rfl (lv_at hl 2 rfl) ?_
  refine lv_if_lt (tgt := 28) hx hb dX7_isSpelled_1 (by decide) (fun c1q => by exfalso; simp only [k_lt, k_le, k_eq, ne_eq, ge_iff_le, gt_iff_lt, n_L0, n_L0] at c1q; omega) (fun c1q => ?_)
  simp only [k_lt, k_le, k_eq, ne_eq, ge_iff_le, gt_iff_lt, n_L0, n_L0] at c1q
  refine lv_aload_n hx hb dX7_isSpelled_4 rfl (lv_at hl 0 rfl) ?_
  refine va_get (D := D) (ci := 9) (v := .int r_at) (C := RX7) (T := TX7) (N := 6) hx hb hts kin_RX7 hown hG.1 hP 0 rfl rfl 3 (by decide) (hts _ wm_50) (fun _ h9 => h9) rfl dX7_isSpelled_5 ?_
  refine lv_aload_n hx hb dX7_isSpelled_8 rfl (lv_at hl 0 rfl) ?_
  refine va_get (D := D) (ci := 9) (v := .int r_length) (C := RX7) (T := TX7) (N := 6) hx hb hts kin_RX7 hown hG.1 hP 0 rfl rfl 2 (by decide) (hts _ wm_49) (fun _ h9 => h9) rfl dX7_isSpelled_9 ?_
  refine lv_icmp_gt (tgt := 28) hx hb dX7_isSpelled_12 (by decide) (fun c2q => ?_) (fun c2q => ?_)
  · simp only [k_lt, k_le, k_eq, ne_eq, ge_iff_le, gt_iff_lt] at c2q
    refine lv_iconst (v := 0) hx hb dX7_isSpelled_28 (by decide) ?_
    rw [hQ0]
    exact k_zret () hx hb hr hlk (k_nz (by decide)) ((by show (0 : Int32).toInt = 0 ∨ (0 : Int32).toInt = 1; rw [n_L0]; omega)) (hP.sub [0, 1] rfl) (hD.sub [0, 1] (by decide) rfl) hS (by decide) (by decide) dX7_isSpelled_29
  · simp only [k_lt, k_le, k_eq, ne_eq, ge_iff_le, gt_iff_lt] at c2q
    refine lv_aload_n hx hb dX7_isSpelled_15 rfl (lv_at hl 0 rfl) ?_
    refine va_get (D := D) (ci := 9) (v := .int r_at) (C := RX7) (T := TX7) (N := 6) hx hb hts kin_RX7 hown hG.1 hP 0 rfl rfl 3 (by decide) (hts _ wm_50) (fun _ h9 => h9) rfl dX7_isSpelled_16 ?_
    refine lv_iload_n hx hb dX7_isSpelled_19 rfl (lv_at hl 2 rfl) ?_
    refine lv_isub hx hb dX7_isSpelled_20 ?_
    refine lv_topi (fun x3q ex3q => ?_)
    have rx3q := n_sub ex3q (a := r_at.toInt) (b := s0.toInt) rfl rfl (by omega) (by omega)
    refine lv_aload_n hx hb dX7_isSpelled_21 rfl (lv_at hl 1 rfl) ?_
    refine k_cali [0, 1] (⟨hP, hD, hG, hS, hA, rfl, rfl⟩ : kAt D cy sa A s H _ _ [] []) (wr := [(ra, .inr (9, [.ref ra_numbers, .ref ra_text, .int r_length, .int r_at, .int r_fault, .int r_place])), (ra_text, .inl (cy 1, 500, .inl rf_text))]) rfl rfl (by decide) (k_runK (vk_recv (i := kk) hG.2.2.2.2.2.2.2.2.2.2.2.2.2.1 hkk hS) (As := []) (rest := [.int x3q]) E lk_VRX7_89 (j_length l hl0 D cy sa (kk) (by first | exact hkk | decide | omega) H.size) (⟨hP, hD, hG, hS, hA, rfl, rfl⟩ : kAt D cy sa A s H _ _ [] []) hl.1 rfl rfl ⟨rfl, rfl, ⟨Nat.le_of_ble_eq_true rfl, Nat.le_of_ble_eq_true rfl⟩, ⟨Nat.le_of_ble_eq_true rfl, Nat.le_of_ble_eq_true rfl⟩, Nat.le_of_ble_eq_true rfl⟩ dX7_isSpelled_22) (fun r4q u5q H locs hwu5q hP hD hS => ?_)
    have hP : va_P D vwCl [(ra, .inr (9, [.ref ra_numbers, .ref ra_text, .int r_length, .int r_at, .int r_fault, .int r_place])), (ra_text, .inl (cy 1, 500, .inl rf_text))] H := hP
    have hD : va_D A [(ra, .inr (9, [.ref ra_numbers, .ref ra_text, .int r_length, .int r_at, .int r_fault, .int r_place])), (ra_text, .inl (cy 1, 500, .inl rf_text))] := hD
    have p6q := hwu5q
    refine lv_icmp_eq (tgt := 30) hx hb dX7_isSpelled_25 (by decide) (fun c7q => ?_) (fun c7q => ?_)
    · simp only [k_lt, k_le, k_eq, ne_eq, ge_iff_le, gt_iff_lt] at c7q
      refine lv_iconst (v := 0) hx hb dX7_isSpelled_30 (by decide) ?_
      refine lv_istore_n (lv' := [(3, .int 0), (0, .ref ra), (1, .ref (sa (2000 + kk))), (2, .int s0)]) hx hb dX7_isSpelled_31 rfl hl (by decide) rfl (fun ls hl => ?_)
      have k8q : ∀ (n : Nat) (k8qy3 : Int32) (H : Heap) (locs : List Loc) (ls : Array Slot), 0 ≤ k8qy3.toInt ∧ k8qy3.toInt ≤ 6 → (6 - k8qy3.toInt).toNat = n → va_P D vwCl [(ra, .inr (9, [.ref ra_numbers, .ref ra_text, .int r_length, .int r_at, .int r_fault, .int r_place])), (ra_text, .inl (cy 1, 500, .inl rf_text))] H → va_D A [(ra, .inr (9, [.ref ra_numbers, .ref ra_text, .int r_length, .int r_at, .int r_fault, .int r_place])), (ra_text, .inl (cy 1, 500, .inl rf_text))] → va_S A s.heap H locs → lv_has ls 4 [(3, .int k8qy3), (0, .ref ra), (1, .ref (sa (2000 + kk))), (2, .int s0)] → W p l e ({ frames := 14, cells := 0, slots := 0, locals := 540 }) s m ([.ref ra, .ref (sa (2000 + kk)), .int s0] : List Value).toArray below meth c H locs 0 0 Q0 (F0 m 32 ls []) := by
        intro n
        induction n using Nat.strongRecOn with
        | ind n k8qih =>
          intro k8qy3 H locs ls hk8qy3 k8qm hP hD hS hl
          refine lv_iload_n hx hb dX7_isSpelled_32 rfl (lv_at hl 0 rfl) ?_
          refine lv_aload_n hx hb dX7_isSpelled_33 rfl (lv_at hl 2 rfl) ?_
          refine k_cali [0, 1] (⟨hP, hD, hG, hS, hA, rfl, rfl⟩ : kAt D cy sa A s H _ _ [] []) (wr := [(ra, .inr (9, [.ref ra_numbers, .ref ra_text, .int r_length, .int r_at, .int r_fault, .int r_place])), (ra_text, .inl (cy 1, 500, .inl rf_text))]) rfl rfl (by decide) (k_runK (vk_recv (i := kk) hG.2.2.2.2.2.2.2.2.2.2.2.2.2.1 hkk hS) (As := []) (rest := [.int k8qy3]) E lk_VRX7_89 (j_length l hl0 D cy sa (kk) (by first | exact hkk | decide | omega) H.size) (⟨hP, hD, hG, hS, hA, rfl, rfl⟩ : kAt D cy sa A s H _ _ [] []) hl.1 rfl rfl ⟨rfl, rfl, ⟨Nat.le_of_ble_eq_true rfl, Nat.le_of_ble_eq_true rfl⟩, ⟨Nat.le_of_ble_eq_true rfl, Nat.le_of_ble_eq_true rfl⟩, Nat.le_of_ble_eq_true rfl⟩ dX7_isSpelled_34) (fun r9q u10q H locs hwu10q hP hD hS => ?_)
          have hP : va_P D vwCl [(ra, .inr (9, [.ref ra_numbers, .ref ra_text, .int r_length, .int r_at, .int r_fault, .int r_place])), (ra_text, .inl (cy 1, 500, .inl rf_text))] H := hP
          have hD : va_D A [(ra, .inr (9, [.ref ra_numbers, .ref ra_text, .int r_length, .int r_at, .int r_fault, .int r_place])), (ra_text, .inl (cy 1, 500, .inl rf_text))] := hD
          have p11q := hwu10q
          refine lv_icmp_ge (tgt := 64) hx hb dX7_isSpelled_37 (by decide) (fun c12q => ?_) (fun c12q => ?_)
          · simp only [k_lt, k_le, k_eq, ne_eq, ge_iff_le, gt_iff_lt] at c12q
            refine lv_iconst (v := 1) hx hb dX7_isSpelled_64 (by decide) ?_
            rw [hQ0]
            exact k_zret () hx hb hr hlk (k_nz (by decide)) ((by show (1 : Int32).toInt = 0 ∨ (1 : Int32).toInt = 1; rw [n_L1]; omega)) (hP.sub [0, 1] rfl) (hD.sub [0, 1] (by decide) rfl) hS (by decide) (by decide) dX7_isSpelled_65
          · simp only [k_lt, k_le, k_eq, ne_eq, ge_iff_le, gt_iff_lt] at c12q
            refine lv_aload_n hx hb dX7_isSpelled_40 rfl (lv_at hl 1 rfl) ?_
            refine va_get (D := D) (ci := 9) (v := .ref ra_text) (C := RX7) (T := TX7) (N := 6) hx hb hts kin_RX7 hown hG.1 hP 0 rfl rfl 1 (by decide) (hts _ wm_48) (fun _ h9 => h9) rfl dX7_isSpelled_41 ?_
            refine lv_iload_n hx hb dX7_isSpelled_44 rfl (lv_at hl 3 rfl) ?_
            refine lv_iload_n hx hb dX7_isSpelled_45 rfl (lv_at hl 0 rfl) ?_
            refine lv_iadd hx hb dX7_isSpelled_46 ?_
            refine lv_topi (fun x13q ex13q => ?_)
            have rx13q := n_add ex13q (a := s0.toInt) (b := k8qy3.toInt) rfl rfl (by omega) (by omega)
            refine va_bald hx hb hG.1 hP 1 1 rfl rfl (n_in (by omega) (by omega)) dX7_isSpelled_47 ?_
            refine lv_topi (fun x14q ex14q => ?_)
            refine lv_aload_n hx hb dX7_isSpelled_48 rfl (lv_at hl 2 rfl) ?_
            refine lv_iload_n hx hb dX7_isSpelled_49 rfl (lv_at hl 0 rfl) ?_
            refine k_cali [0, 1] (⟨hP, hD, hG, hS, hA, rfl, rfl⟩ : kAt D cy sa A s H _ _ [] []) (wr := [(ra, .inr (9, [.ref ra_numbers, .ref ra_text, .int r_length, .int r_at, .int r_fault, .int r_place])), (ra_text, .inl (cy 1, 500, .inl rf_text))]) rfl rfl (by decide) (k_runK (vk_recv (i := kk) hG.2.2.2.2.2.2.2.2.2.2.2.2.2.1 hkk hS) (As := [.int k8qy3]) (rest := [.int x14q]) E lk_VRX7_94 (j_charAt l hl0 D cy sa k8qy3 (kk) (by first | exact hkk | decide | omega) (by first | exact hkk | decide | omega) (by first | exact hkk | decide | omega) H.size) (⟨hP, hD, hG, hS, hA, rfl, rfl⟩ : kAt D cy sa A s H _ _ [] []) hl.1 rfl rfl ⟨rfl, rfl, ⟨Nat.le_of_ble_eq_true rfl, Nat.le_of_ble_eq_true rfl⟩, ⟨Nat.le_of_ble_eq_true rfl, Nat.le_of_ble_eq_true rfl⟩, Nat.le_of_ble_eq_true rfl⟩ dX7_isSpelled_50) (fun r15q u16q H locs hwu16q hP hD hS => ?_)
            have hP : va_P D vwCl [(ra, .inr (9, [.ref ra_numbers, .ref ra_text, .int r_length, .int r_at, .int r_fault, .int r_place])), (ra_text, .inl (cy 1, 500, .inl rf_text))] H := hP
            have hD : va_D A [(ra, .inr (9, [.ref ra_numbers, .ref ra_text, .int r_length, .int r_at, .int r_fault, .int r_place])), (ra_text, .inl (cy 1, 500, .inl rf_text))] := hD
            refine lv_icmp_eq (tgt := 58) hx hb dX7_isSpelled_53 (by decide) (fun c17q => ?_) (fun c17q => ?_)
            · simp only [k_lt, k_le, k_eq, ne_eq, ge_iff_le, gt_iff_lt] at c17q
              obtain ⟨x18q, ex18q⟩ : ∃ z : Int32, z = k8qy3 + 1 := ⟨_, rfl⟩
              refine lv_iinc (v := x18q) (lv' := [(3, .int x18q), (0, .ref ra), (1, .ref (sa (2000 + kk))), (2, .int s0)]) hx hb dX7_isSpelled_58 hl (k := 0) rfl (by rw [ex18q]; rfl) (by decide) rfl (fun ls hl => ?_)
              have rx18q := n_add ex18q (a := k8qy3.toInt) (b := 1) rfl n_L1 (by omega) (by omega)
              refine lv_goto (tgt := 32) hx hb dX7_isSpelled_61 (by decide) ?_
              exact k8qih ((6 - x18q.toInt).toNat) (by omega) x18q H locs ls ⟨by omega, by omega⟩ rfl hP hD hS (lv_sub hl [0, 1, 2, 3] rfl)
            · simp only [k_lt, k_le, k_eq, ne_eq, ge_iff_le, gt_iff_lt] at c17q
              refine lv_iconst (v := 0) hx hb dX7_isSpelled_56 (by decide) ?_
              rw [hQ0]
              exact k_zret () hx hb hr hlk (k_nz (by decide)) ((by show (0 : Int32).toInt = 0 ∨ (0 : Int32).toInt = 1; rw [n_L0]; omega)) (hP.sub [0, 1] rfl) (hD.sub [0, 1] (by decide) rfl) hS (by decide) (by decide) dX7_isSpelled_57
      exact k8q _ 0 H locs ls ⟨by rw [n_L0]; omega, by rw [n_L0]; omega⟩ rfl hP hD hS (lv_sub hl [0, 1, 2, 3] rfl)
    · simp only [k_lt, k_le, k_eq, ne_eq, ge_iff_le, gt_iff_lt] at c7q
      refine lv_iconst (v := 0) hx hb dX7_isSpelled_28 (by decide) ?_
      rw [hQ0]
      exact k_zret () hx hb hr hlk (k_nz (by decide)) ((by show (0 : Int32).toInt = 0 ∨ (0 : Int32).toInt = 1; rw [n_L0]; omega)) (hP.sub [0, 1] rfl) (hD.sub [0, 1] (by decide) rfl) hS (by decide) (by decide) dX7_isSpelled_29

set_option maxHeartbeats 4000000 in
set_option maxRecDepth 100000 in
/-- Reader.readWord -/
theorem c_readWord (l : Launch) (hl0 : l.stackTraces = false) (D : va_G) (cy : Nat → ClassId) (sa : Nat → Nat) (ra ra_numbers ra_text : Nat) (r_length r_at r_fault r_place : Int32) (rf_text : Nat → Int32) (h_r_length : 0 ≤ r_length.toInt ∧ r_length.toInt ≤ 500) (h_r_at : 0 ≤ r_at.toInt ∧ r_at.toInt ≤ 500) (hal : r_at.toInt ≤ r_length.toInt) (sz : Nat) : Met l yX7_readWord (Cond.code yX7_readWord cX7_readWord 3 (some (.object "LentMinds$Word")) :: kWS) ({ frames := 15, cells := 0, slots := 0, locals := 600 }) (kPre D cy sa [.ref ra] [(ra, .inr (9, [.ref ra_numbers, .ref ra_text, .int r_length, .int r_at, .int r_fault, .int r_place])), (ra_text, .inl (cy 1, 500, .inl rf_text))] sz) (va_Qe (fun i => sa (1000 + i)) (fun (r : Option Nat) (u : (Nat → Int32) × (Nat → Nat → Int32)) => (r = none ∨ r = some 0 ∨ r = some 1 ∨ r = some 2 ∨ r = some 3 ∨ r = some 4 ∨ r = some 5 ∨ r = some 6 ∨ r = some 7) ∧ (0 ≤ ((u.1 0)).toInt ∧ ((u.1 0)).toInt ≤ 500) ∧ ((u.1 0).toInt ≤ r_length.toInt)) (kB D (va_A [(ra, .inr (9, [.ref ra_numbers, .ref ra_text, .int r_length, .int r_at, .int r_fault, .int r_place])), (ra_text, .inl (cy 1, 500, .inl rf_text))] sz) (fun (u : (Nat → Int32) × (Nat → Nat → Int32)) => [(ra, .inr (9, [.ref ra_numbers, .ref ra_text, .int r_length, .int ((u.1 0)), .int r_fault, .int r_place])), (ra_text, .inl (cy 1, 500, .inl rf_text))])) (va_A [(ra, .inr (9, [.ref ra_numbers, .ref ra_text, .int r_length, .int r_at, .int r_fault, .int r_place])), (ra_text, .inl (cy 1, 500, .inl rf_text))] sz)) 0 0 (va_A [(ra, .inr (9, [.ref ra_numbers, .ref ra_text, .int r_length, .int r_at, .int r_fault, .int r_place])), (ra_text, .inl (cy 1, 500, .inl rf_text))] sz) := by
  refine k_ofW (y := yX7_readWord) (cc := cX7_readWord) (maxL := 3) (ret := (some (.object "LentMinds$Word"))) (av := [.ref ra]) (ws := [(ra, .inr (9, [.ref ra_numbers, .ref ra_text, .int r_length, .int r_at, .int r_fault, .int r_place])), (ra_text, .inl (cy 1, 500, .inl rf_text))]) (Qc := fun A => (va_Qe (fun i => sa (1000 + i)) (fun (r : Option Nat) (u : (Nat → Int32) × (Nat → Nat → Int32)) => (r = none ∨ r = some 0 ∨ r = some 1 ∨ r = some 2 ∨ r = some 3 ∨ r = some 4 ∨ r = some 5 ∨ r = some 6 ∨ r = some 7) ∧ (0 ≤ ((u.1 0)).toInt ∧ ((u.1 0)).toInt ≤ 500) ∧ ((u.1 0).toInt ≤ r_length.toInt)) (kB D A (fun (u : (Nat → Int32) × (Nat → Nat → Int32)) => [(ra, .inr (9, [.ref ra_numbers, .ref ra_text, .int r_length, .int ((u.1 0)), .int r_fault, .int r_place])), (ra_text, .inl (cy 1, 500, .inl rf_text))])) A)) (by decide) (Nat.le_of_ble_eq_true rfl) ?_
  intro p e s m below meth c ls A E hA hP hD hG hS hl
  obtain ⟨Q0, hQ0⟩ : ∃ Q0 : State → Prop, Q0 = MQ below (va_Qe (fun i => sa (1000 + i)) (fun (r : Option Nat) (u : (Nat → Int32) × (Nat → Nat → Int32)) => (r = none ∨ r = some 0 ∨ r = some 1 ∨ r = some 2 ∨ r = some 3 ∨ r = some 4 ∨ r = some 5 ∨ r = some 6 ∨ r = some 7) ∧ (0 ≤ ((u.1 0)).toInt ∧ ((u.1 0)).toInt ≤ 500) ∧ ((u.1 0).toInt ≤ r_length.toInt)) (kB D A (fun (u : (Nat → Int32) × (Nat → Nat → Int32)) => [(ra, .inr (9, [.ref ra_numbers, .ref ra_text, .int r_length, .int ((u.1 0)), .int r_fault, .int r_place])), (ra_text, .inl (cy 1, 500, .inl rf_text))])) A) ([.ref ra] : List Value).toArray s 0 0 A := ⟨_, rfl⟩
  rw [← hQ0]
  obtain ⟨hx, hb, hml, hown, hts, hr, hlk, hnm⟩ := id E
  have hown : s.vm.findClass RX7 = some m.cls := hown
  have hl : lv_has ls 3 [(0, .ref ra)] := hl
  obtain ⟨H, hH⟩ : ∃ H, H = s.heap := ⟨_, rfl⟩
  have hP : va_P D vwCl [(ra, .inr (9, [.ref ra_numbers, .ref ra_text, .int r_length, .int r_at, .int r_fault, .int r_place])), (ra_text, .inl (cy 1, 500, .inl rf_text))] H := by rw [hH]; exact hP
  have hS : va_S A s.heap H [] := by rw [hH]; exact va_S.rf
  rw [← hH]
  clear hH
  obtain ⟨locs, hlocs⟩ : ∃ locs : List Loc, locs = [] := ⟨_, rfl⟩
  rw [← hlocs] at hS ⊢
  refine lv_aload_n hx hb dX7_readWord_0 rfl (lv_at hl 0 rfl) ?_
  refine va_get (D := D) (ci := 9) (v := .int r_at) (C := RX7) (T := TX7) (N := 6) hx hb hts kin_RX7 hown hG.1 hP 0 rfl rfl 3 (by decide) (hts _ wm_50) (fun _ h9 => h9) rfl dX7_readWord_1 ?_
  refine lv_istore_n (lv' := [(1, .int r_at), (0, .ref ra)]) hx hb dX7_readWord_4 rfl hl (by decide) rfl (fun ls hl => ?_)
  have k1q : ∀ (n : Nat) (k1qr_at : Int32) (H : Heap) (locs : List Loc) (ls : Array Slot), 0 ≤ k1qr_at.toInt ∧ k1qr_at.toInt ≤ 500 → k1qr_at.toInt ≤ r_length.toInt → (500 - k1qr_at.toInt).toNat = n → va_P D vwCl [(ra, .inr (9, [.ref ra_numbers, .ref ra_text, .int r_length, .int k1qr_at, .int r_fault, .int r_place])), (ra_text, .inl (cy 1, 500, .inl rf_text))] H → va_D A [(ra, .inr (9, [.ref ra_numbers, .ref ra_text, .int r_length, .int k1qr_at, .int r_fault, .int r_place])), (ra_text, .inl (cy 1, 500, .inl rf_text))] → va_S A s.heap H locs → lv_has ls 3 [(1, .int r_at), (0, .ref ra)] → W p l e ({ frames := 15, cells := 0, slots := 0, locals := 600 }) s m ([.ref ra] : List Value).toArray below meth c H locs 0 0 Q0 (F0 m 5 ls []) := by
    intro n
    induction n using Nat.strongRecOn with
    | ind n k1qih =>
      intro k1qr_at H locs ls hk1qr_at hk1qi0 k1qm hP hD hS hl
      refine lv_aload_n hx hb dX7_readWord_5 rfl (lv_at hl 1 rfl) ?_
      refine va_get (D := D) (ci := 9) (v := .int k1qr_at) (C := RX7) (T := TX7) (N := 6) hx hb hts kin_RX7 hown hG.1 hP 0 rfl rfl 3 (by decide) (hts _ wm_50) (fun _ h9 => h9) rfl dX7_readWord_6 ?_
      refine lv_aload_n hx hb dX7_readWord_9 rfl (lv_at hl 1 rfl) ?_
      refine va_get (D := D) (ci := 9) (v := .int r_length) (C := RX7) (T := TX7) (N := 6) hx hb hts kin_RX7 hown hG.1 hP 0 rfl rfl 2 (by decide) (hts _ wm_49) (fun _ h9 => h9) rfl dX7_readWord_10 ?_
      refine lv_icmp_ge (tgt := 57) hx hb dX7_readWord_13 (by decide) (fun c2q => ?_) (fun c2q => ?_)
      · simp only [k_lt, k_le, k_eq, ne_eq, ge_iff_le, gt_iff_lt] at c2q
        refine lv_iconst (v := 0) hx hb dX7_readWord_57 (by decide) ?_
        refine lv_istore_n (lv' := [(2, .int 0), (1, .int r_at), (0, .ref ra)]) hx hb dX7_readWord_58 rfl hl (by decide) rfl (fun ls hl => ?_)
        refine lv_iload_n hx hb dX7_readWord_59 rfl (lv_at hl 0 rfl) ?_
        refine va_getsN (C := "LentMinds") (n := "WORDS") (d := "[LLentMinds$Word;") (v := .ref (sa 4000)) hx hb hG.2.2.2.2.2.2.2.2.2.2.2.2.2.2.1 hS hown (va_Nw.use rfl (hG.2.2.2.2.2.2.2.2.2.2.2.2.2.2.2.2.2.2.2.2.2.2 ("LentMinds$Reader", 77, "LentMinds", "WORDS", "[LLentMinds$Word;") (by decide))) (fun _ h9 => h9) dX7_readWord_60 ?_
        refine va_tlen (v := 8) hx hb hG.2.2.2.2.2.2.2.2.2.2.2.2.2.2.2.1 hS rfl dX7_readWord_63 ?_
        refine lv_icmp_ge (tgt := 95) hx hb dX7_readWord_64 (by decide) (fun h => absurd h (by decide)) (fun _ => ?_)
        refine lv_aload_n hx hb dX7_readWord_67 rfl (lv_at hl 2 rfl) ?_
        refine va_getsN (C := "LentMinds") (n := "WORDS") (d := "[LLentMinds$Word;") (v := .ref (sa 4000)) hx hb hG.2.2.2.2.2.2.2.2.2.2.2.2.2.2.1 hS hown (va_Nw.use rfl (hG.2.2.2.2.2.2.2.2.2.2.2.2.2.2.2.2.2.2.2.2.2.2 ("LentMinds$Reader", 77, "LentMinds", "WORDS", "[LLentMinds$Word;") (by decide))) (fun _ h9 => h9) dX7_readWord_68 ?_
        refine lv_iload_n hx hb dX7_readWord_71 rfl (lv_at hl 0 rfl) ?_
        refine vb_tq (v := .ref (sa 1000)) hx hb hG.2.2.2.2.2.2.2.2.2.2.2.2.2.2.2.1 hS (by unfold vp_in; decide) rfl dX7_readWord_72 ?_
        refine va_getX (i := 0) hx hb hG.2.2.2.2.2.2.2.2.2.2.2.2.1 (by decide) hS hown (hts _ wm_2087) (fun _ h9 => h9) dX7_readWord_73 ?_
        refine W.eq (g2 := F0 m 76 ls [.ref (sa 2000), .ref ra]) rfl ?_
        refine lv_iload_n hx hb dX7_readWord_76 rfl (lv_at hl 1 rfl) ?_
        refine k_cali [] (⟨hP, hD, hG, hS, hA, rfl, rfl⟩ : kAt D cy sa A s H _ _ [(ra, .inr (9, [.ref ra_numbers, .ref ra_text, .int r_length, .int k1qr_at, .int r_fault, .int r_place])), (ra_text, .inl (cy 1, 500, .inl rf_text))] [0, 1]) (wr := []) rfl rfl (by decide) (k_runV 9 0 (As := [.ref (sa 2000), .int r_at]) (rest := []) E lk_VRX7_85 rfl rfl rfl (c_isSpelled l hl0 D cy sa ra ra_numbers ra_text r_length k1qr_at r_fault r_place r_at rf_text (0) ⟨by omega, by omega⟩ ⟨by omega, by omega⟩ ⟨by omega, by omega⟩ (by first | exact hkk | decide | omega) H.size) (⟨hP, hD, hG, hS, hA, rfl, rfl⟩ : kAt D cy sa A s H _ _ [(ra, .inr (9, [.ref ra_numbers, .ref ra_text, .int r_length, .int k1qr_at, .int r_fault, .int r_place])), (ra_text, .inl (cy 1, 500, .inl rf_text))] [0, 1]) hl.1 rfl rfl ⟨rfl, rfl, ⟨Nat.le_of_ble_eq_true rfl, Nat.le_of_ble_eq_true rfl⟩, ⟨Nat.le_of_ble_eq_true rfl, Nat.le_of_ble_eq_true rfl⟩, Nat.le_of_ble_eq_true rfl⟩ dX7_readWord_77) (fun r3q u4q H locs hwu4q hP hD hS => ?_)
        have hP : va_P D vwCl [(ra, .inr (9, [.ref ra_numbers, .ref ra_text, .int r_length, .int k1qr_at, .int r_fault, .int r_place])), (ra_text, .inl (cy 1, 500, .inl rf_text))] H := hP
        have hD : va_D A [(ra, .inr (9, [.ref ra_numbers, .ref ra_text, .int r_length, .int k1qr_at, .int r_fault, .int r_place])), (ra_text, .inl (cy 1, 500, .inl rf_text))] := hD
        have p5q := hwu4q
        refine lv_if_eq (tgt := 89) hx hb dX7_readWord_80 (by decide) (fun c6q => ?_) (fun c6q => ?_)
        · simp only [k_lt, k_le, k_eq, ne_eq, ge_iff_le, gt_iff_lt, n_L0, n_L0] at c6q
          refine lv_iinc (v := 1) (lv' := [(2, .int 1), (1, .int r_at), (0, .ref ra)]) hx hb dX7_readWord_89 hl (k := 0) rfl (by decide) (by decide) rfl (fun ls hl => ?_)
          refine lv_goto (tgt := 59) hx hb dX7_readWord_92 (by decide) ?_
          refine lv_iload_n hx hb dX7_readWord_59 rfl (lv_at hl 0 rfl) ?_
          refine va_getsN (C := "LentMinds") (n := "WORDS") (d := "[LLentMinds$Word;") (v := .ref (sa 4000)) hx hb hG.2.2.2.2.2.2.2.2.2.2.2.2.2.2.1 hS hown (va_Nw.use rfl (hG.2.2.2.2.2.2.2.2.2.2.2.2.2.2.2.2.2.2.2.2.2.2 ("LentMinds$Reader", 77, "LentMinds", "WORDS", "[LLentMinds$Word;") (by decide))) (fun _ h9 => h9) dX7_readWord_60 ?_
          refine va_tlen (v := 8) hx hb hG.2.2.2.2.2.2.2.2.2.2.2.2.2.2.2.1 hS rfl dX7_readWord_63 ?_
          refine lv_icmp_ge (tgt := 95) hx hb dX7_readWord_64 (by decide) (fun h => absurd h (by decide)) (fun _ => ?_)
          refine lv_aload_n hx hb dX7_readWord_67 rfl (lv_at hl 2 rfl) ?_
          refine va_getsN (C := "LentMinds") (n := "WORDS") (d := "[LLentMinds$Word;") (v := .ref (sa 4000)) hx hb hG.2.2.2.2.2.2.2.2.2.2.2.2.2.2.1 hS hown (va_Nw.use rfl (hG.2.2.2.2.2.2.2.2.2.2.2.2.2.2.2.2.2.2.2.2.2.2 ("LentMinds$Reader", 77, "LentMinds", "WORDS", "[LLentMinds$Word;") (by decide))) (fun _ h9 => h9) dX7_readWord_68 ?_
          refine lv_iload_n hx hb dX7_readWord_71 rfl (lv_at hl 0 rfl) ?_
          refine vb_tq (v := .ref (sa 1001)) hx hb hG.2.2.2.2.2.2.2.2.2.2.2.2.2.2.2.1 hS (by unfold vp_in; decide) rfl dX7_readWord_72 ?_
          refine va_getX (i := 1) hx hb hG.2.2.2.2.2.2.2.2.2.2.2.2.1 (by decide) hS hown (hts _ wm_2087) (fun _ h9 => h9) dX7_readWord_73 ?_
          refine W.eq (g2 := F0 m 76 ls [.ref (sa 2001), .ref ra]) rfl ?_
          refine lv_iload_n hx hb dX7_readWord_76 rfl (lv_at hl 1 rfl) ?_
          refine k_cali [] (⟨hP, hD, hG, hS, hA, rfl, rfl⟩ : kAt D cy sa A s H _ _ [(ra, .inr (9, [.ref ra_numbers, .ref ra_text, .int r_length, .int k1qr_at, .int r_fault, .int r_place])), (ra_text, .inl (cy 1, 500, .inl rf_text))] [0, 1]) (wr := []) rfl rfl (by decide) (k_runV 9 0 (As := [.ref (sa 2001), .int r_at]) (rest := []) E lk_VRX7_85 rfl rfl rfl (c_isSpelled l hl0 D cy sa ra ra_numbers ra_text r_length k1qr_at r_fault r_place r_at rf_text (1) ⟨by omega, by omega⟩ ⟨by omega, by omega⟩ ⟨by omega, by omega⟩ (by first | exact hkk | decide | omega) H.size) (⟨hP, hD, hG, hS, hA, rfl, rfl⟩ : kAt D cy sa A s H _ _ [(ra, .inr (9, [.ref ra_numbers, .ref ra_text, .int r_length, .int k1qr_at, .int r_fault, .int r_place])), (ra_text, .inl (cy 1, 500, .inl rf_text))] [0, 1]) hl.1 rfl rfl ⟨rfl, rfl, ⟨Nat.le_of_ble_eq_true rfl, Nat.le_of_ble_eq_true rfl⟩, ⟨Nat.le_of_ble_eq_true rfl, Nat.le_of_ble_eq_true rfl⟩, Nat.le_of_ble_eq_true rfl⟩ dX7_readWord_77) (fun r7q u8q H locs hwu8q hP hD hS => ?_)
          have hP : va_P D vwCl [(ra, .inr (9, [.ref ra_numbers, .ref ra_text, .int r_length, .int k1qr_at, .int r_fault, .int r_place])), (ra_text, .inl (cy 1, 500, .inl rf_text))] H := hP
          have hD : va_D A [(ra, .inr (9, [.ref ra_numbers, .ref ra_text, .int r_length, .int k1qr_at, .int r_fault, .int r_place])), (ra_text, .inl (cy 1, 500, .inl rf_text))] := hD
          have p9q := hwu8q
          refine lv_if_eq (tgt := 89) hx hb dX7_readWord_80 (by decide) (fun c10q => ?_) (fun c10q => ?_)
          · simp only [k_lt, k_le, k_eq, ne_eq, ge_iff_le, gt_iff_lt, n_L0, n_L0] at c10q
            refine lv_iinc (v := 2) (lv' := [(2, .int 2), (1, .int r_at), (0, .ref ra)]) hx hb dX7_readWord_89 hl (k := 0) rfl (by decide) (by decide) rfl (fun ls hl => ?_)
            refine lv_goto (tgt := 59) hx hb dX7_readWord_92 (by decide) ?_
            refine lv_iload_n hx hb dX7_readWord_59 rfl (lv_at hl 0 rfl) ?_
            refine va_getsN (C := "LentMinds") (n := "WORDS") (d := "[LLentMinds$Word;") (v := .ref (sa 4000)) hx hb hG.2.2.2.2.2.2.2.2.2.2.2.2.2.2.1 hS hown (va_Nw.use rfl (hG.2.2.2.2.2.2.2.2.2.2.2.2.2.2.2.2.2.2.2.2.2.2 ("LentMinds$Reader", 77, "LentMinds", "WORDS", "[LLentMinds$Word;") (by decide))) (fun _ h9 => h9) dX7_readWord_60 ?_
            refine va_tlen (v := 8) hx hb hG.2.2.2.2.2.2.2.2.2.2.2.2.2.2.2.1 hS rfl dX7_readWord_63 ?_
            refine lv_icmp_ge (tgt := 95) hx hb dX7_readWord_64 (by decide) (fun h => absurd h (by decide)) (fun _ => ?_)
            refine lv_aload_n hx hb dX7_readWord_67 rfl (lv_at hl 2 rfl) ?_
            refine va_getsN (C := "LentMinds") (n := "WORDS") (d := "[LLentMinds$Word;") (v := .ref (sa 4000)) hx hb hG.2.2.2.2.2.2.2.2.2.2.2.2.2.2.1 hS hown (va_Nw.use rfl (hG.2.2.2.2.2.2.2.2.2.2.2.2.2.2.2.2.2.2.2.2.2.2 ("LentMinds$Reader", 77, "LentMinds", "WORDS", "[LLentMinds$Word;") (by decide))) (fun _ h9 => h9) dX7_readWord_68 ?_
            refine lv_iload_n hx hb dX7_readWord_71 rfl (lv_at hl 0 rfl) ?_
            refine vb_tq (v := .ref (sa 1002)) hx hb hG.2.2.2.2.2.2.2.2.2.2.2.2.2.2.2.1 hS (by unfold vp_in; decide) rfl dX7_readWord_72 ?_
            refine va_getX (i := 2) hx hb hG.2.2.2.2.2.2.2.2.2.2.2.2.1 (by decide) hS hown (hts _ wm_2087) (fun _ h9 => h9) dX7_readWord_73 ?_
            refine W.eq (g2 := F0 m 76 ls [.ref (sa 2002), .ref ra]) rfl ?_
            refine lv_iload_n hx hb dX7_readWord_76 rfl (lv_at hl 1 rfl) ?_
            refine k_cali [] (⟨hP, hD, hG, hS, hA, rfl, rfl⟩ : kAt D cy sa A s H _ _ [(ra, .inr (9, [.ref ra_numbers, .ref ra_text, .int r_length, .int k1qr_at, .int r_fault, .int r_place])), (ra_text, .inl (cy 1, 500, .inl rf_text))] [0, 1]) (wr := []) rfl rfl (by decide) (k_runV 9 0 (As := [.ref (sa 2002), .int r_at]) (rest := []) E lk_VRX7_85 rfl rfl rfl (c_isSpelled l hl0 D cy sa ra ra_numbers ra_text r_length k1qr_at r_fault r_place r_at rf_text (2) ⟨by omega, by omega⟩ ⟨by omega, by omega⟩ ⟨by omega, by omega⟩ (by first | exact hkk | decide | omega) H.size) (⟨hP, hD, hG, hS, hA, rfl, rfl⟩ : kAt D cy sa A s H _ _ [(ra, .inr (9, [.ref ra_numbers, .ref ra_text, .int r_length, .int k1qr_at, .int r_fault, .int r_place])), (ra_text, .inl (cy 1, 500, .inl rf_text))] [0, 1]) hl.1 rfl rfl ⟨rfl, rfl, ⟨Nat.le_of_ble_eq_true rfl, Nat.le_of_ble_eq_true rfl⟩, ⟨Nat.le_of_ble_eq_true rfl, Nat.le_of_ble_eq_true rfl⟩, Nat.le_of_ble_eq_true rfl⟩ dX7_readWord_77) (fun r11q u12q H locs hwu12q hP hD hS => ?_)
            have hP : va_P D vwCl [(ra, .inr (9, [.ref ra_numbers, .ref ra_text, .int r_length, .int k1qr_at, .int r_fault, .int r_place])), (ra_text, .inl (cy 1, 500, .inl rf_text))] H := hP
            have hD : va_D A [(ra, .inr (9, [.ref ra_numbers, .ref ra_text, .int r_length, .int k1qr_at, .int r_fault, .int r_place])), (ra_text, .inl (cy 1, 500, .inl rf_text))] := hD
            have p13q := hwu12q
            refine lv_if_eq (tgt := 89) hx hb dX7_readWord_80 (by decide) (fun c14q => ?_) (fun c14q => ?_)
            · simp only [k_lt, k_le, k_eq, ne_eq, ge_iff_le, gt_iff_lt, n_L0, n_L0] at c14q
              refine lv_iinc (v := 3) (lv' := [(2, .int 3), (1, .int r_at), (0, .ref ra)]) hx hb dX7_readWord_89 hl (k := 0) rfl (by decide) (by decide) rfl (fun ls hl => ?_)
              refine lv_goto (tgt := 59) hx hb dX7_readWord_92 (by decide) ?_
              refine lv_iload_n hx hb dX7_readWord_59 rfl (lv_at hl 0 rfl) ?_
              refine va_getsN (C := "LentMinds") (n := "WORDS") (d := "[LLentMinds$Word;") (v := .ref (sa 4000)) hx hb hG.2.2.2.2.2.2.2.2.2.2.2.2.2.2.1 hS hown (va_Nw.use rfl (hG.2.2.2.2.2.2.2.2.2.2.2.2.2.2.2.2.2.2.2.2.2.2 ("LentMinds$Reader", 77, "LentMinds", "WORDS", "[LLentMinds$Word;") (by decide))) (fun _ h9 => h9) dX7_readWord_60 ?_
              refine va_tlen (v := 8) hx hb hG.2.2.2.2.2.2.2.2.2.2.2.2.2.2.2.1 hS rfl dX7_readWord_63 ?_
              refine lv_icmp_ge (tgt := 95) hx hb dX7_readWord_64 (by decide) (fun h => absurd h (by decide)) (fun _ => ?_)
              refine lv_aload_n hx hb dX7_readWord_67 rfl (lv_at hl 2 rfl) ?_
              refine va_getsN (C := "LentMinds") (n := "WORDS") (d := "[LLentMinds$Word;") (v := .ref (sa 4000)) hx hb hG.2.2.2.2.2.2.2.2.2.2.2.2.2.2.1 hS hown (va_Nw.use rfl (hG.2.2.2.2.2.2.2.2.2.2.2.2.2.2.2.2.2.2.2.2.2.2 ("LentMinds$Reader", 77, "LentMinds", "WORDS", "[LLentMinds$Word;") (by decide))) (fun _ h9 => h9) dX7_readWord_68 ?_
              refine lv_iload_n hx hb dX7_readWord_71 rfl (lv_at hl 0 rfl) ?_
              refine vb_tq (v := .ref (sa 1003)) hx hb hG.2.2.2.2.2.2.2.2.2.2.2.2.2.2.2.1 hS (by unfold vp_in; decide) rfl dX7_readWord_72 ?_
              refine va_getX (i := 3) hx hb hG.2.2.2.2.2.2.2.2.2.2.2.2.1 (by decide) hS hown (hts _ wm_2087) (fun _ h9 => h9) dX7_readWord_73 ?_
              refine W.eq (g2 := F0 m 76 ls [.ref (sa 2003), .ref ra]) rfl ?_
              refine lv_iload_n hx hb dX7_readWord_76 rfl (lv_at hl 1 rfl) ?_
              refine k_cali [] (⟨hP, hD, hG, hS, hA, rfl, rfl⟩ : kAt D cy sa A s H _ _ [(ra, .inr (9, [.ref ra_numbers, .ref ra_text, .int r_length, .int k1qr_at, .int r_fault, .int r_place])), (ra_text, .inl (cy 1, 500, .inl rf_text))] [0, 1]) (wr := []) rfl rfl (by decide) (k_runV 9 0 (As := [.ref (sa 2003), .int r_at]) (rest := []) E lk_VRX7_85 rfl rfl rfl (c_isSpelled l hl0 D cy sa ra ra_numbers ra_text r_length k1qr_at r_fault r_place r_at rf_text (3) ⟨by omega, by omega⟩ ⟨by omega, by omega⟩ ⟨by omega, by omega⟩ (by first | exact hkk | decide | omega) H.size) (⟨hP, hD, hG, hS, hA, rfl, rfl⟩ : kAt D cy sa A s H _ _ [(ra, .inr (9, [.ref ra_numbers, .ref ra_text, .int r_length, .int k1qr_at, .int r_fault, .int r_place])), (ra_text, .inl (cy 1, 500, .inl rf_text))] [0, 1]) hl.1 rfl rfl ⟨rfl, rfl, ⟨Nat.le_of_ble_eq_true rfl, Nat.le_of_ble_eq_true rfl⟩, ⟨Nat.le_of_ble_eq_true rfl, Nat.le_of_ble_eq_true rfl⟩, Nat.le_of_ble_eq_true rfl⟩ dX7_readWord_77) (fun r15q u16q H locs hwu16q hP hD hS => ?_)
              have hP : va_P D vwCl [(ra, .inr (9, [.ref ra_numbers, .ref ra_text, .int r_length, .int k1qr_at, .int r_fault, .int r_place])), (ra_text, .inl (cy 1, 500, .inl rf_text))] H := hP
              have hD : va_D A [(ra, .inr (9, [.ref ra_numbers, .ref ra_text, .int r_length, .int k1qr_at, .int r_fault, .int r_place])), (ra_text, .inl (cy 1, 500, .inl rf_text))] := hD
              have p17q := hwu16q
              refine lv_if_eq (tgt := 89) hx hb dX7_readWord_80 (by decide) (fun c18q => ?_) (fun c18q => ?_)
              · simp only [k_lt, k_le, k_eq, ne_eq, ge_iff_le, gt_iff_lt, n_L0, n_L0] at c18q
                refine lv_iinc (v := 4) (lv' := [(2, .int 4), (1, .int r_at), (0, .ref ra)]) hx hb dX7_readWord_89 hl (k := 0) rfl (by decide) (by decide) rfl (fun ls hl => ?_)
                refine lv_goto (tgt := 59) hx hb dX7_readWord_92 (by decide) ?_
                refine lv_iload_n hx hb dX7_readWord_59 rfl (lv_at hl 0 rfl) ?_
                refine va_getsN (C := "LentMinds") (n := "WORDS") (d := "[LLentMinds$Word;") (v := .ref (sa 4000)) hx hb hG.2.2.2.2.2.2.2.2.2.2.2.2.2.2.1 hS hown (va_Nw.use rfl (hG.2.2.2.2.2.2.2.2.2.2.2.2.2.2.2.2.2.2.2.2.2.2 ("LentMinds$Reader", 77, "LentMinds", "WORDS", "[LLentMinds$Word;") (by decide))) (fun _ h9 => h9) dX7_readWord_60 ?_
                refine va_tlen (v := 8) hx hb hG.2.2.2.2.2.2.2.2.2.2.2.2.2.2.2.1 hS rfl dX7_readWord_63 ?_
                refine lv_icmp_ge (tgt := 95) hx hb dX7_readWord_64 (by decide) (fun h => absurd h (by decide)) (fun _ => ?_)
                refine lv_aload_n hx hb dX7_readWord_67 rfl (lv_at hl 2 rfl) ?_
                refine va_getsN (C := "LentMinds") (n := "WORDS") (d := "[LLentMinds$Word;") (v := .ref (sa 4000)) hx hb hG.2.2.2.2.2.2.2.2.2.2.2.2.2.2.1 hS hown (va_Nw.use rfl (hG.2.2.2.2.2.2.2.2.2.2.2.2.2.2.2.2.2.2.2.2.2.2 ("LentMinds$Reader", 77, "LentMinds", "WORDS", "[LLentMinds$Word;") (by decide))) (fun _ h9 => h9) dX7_readWord_68 ?_
                refine lv_iload_n hx hb dX7_readWord_71 rfl (lv_at hl 0 rfl) ?_
                refine vb_tq (v := .ref (sa 1004)) hx hb hG.2.2.2.2.2.2.2.2.2.2.2.2.2.2.2.1 hS (by unfold vp_in; decide) rfl dX7_readWord_72 ?_
                refine va_getX (i := 4) hx hb hG.2.2.2.2.2.2.2.2.2.2.2.2.1 (by decide) hS hown (hts _ wm_2087) (fun _ h9 => h9) dX7_readWord_73 ?_
                refine W.eq (g2 := F0 m 76 ls [.ref (sa 2004), .ref ra]) rfl ?_
                refine lv_iload_n hx hb dX7_readWord_76 rfl (lv_at hl 1 rfl) ?_
                refine k_cali [] (⟨hP, hD, hG, hS, hA, rfl, rfl⟩ : kAt D cy sa A s H _ _ [(ra, .inr (9, [.ref ra_numbers, .ref ra_text, .int r_length, .int k1qr_at, .int r_fault, .int r_place])), (ra_text, .inl (cy 1, 500, .inl rf_text))] [0, 1]) (wr := []) rfl rfl (by decide) (k_runV 9 0 (As := [.ref (sa 2004), .int r_at]) (rest := []) E lk_VRX7_85 rfl rfl rfl (c_isSpelled l hl0 D cy sa ra ra_numbers ra_text r_length k1qr_at r_fault r_place r_at rf_text (4) ⟨by omega, by omega⟩ ⟨by omega, by omega⟩ ⟨by omega, by omega⟩ (by first | exact hkk | decide | omega) H.size) (⟨hP, hD, hG, hS, hA, rfl, rfl⟩ : kAt D cy sa A s H _ _ [(ra, .inr (9, [.ref ra_numbers, .ref ra_text, .int r_length, .int k1qr_at, .int r_fault, .int r_place])), (ra_text, .inl (cy 1, 500, .inl rf_text))] [0, 1]) hl.1 rfl rfl ⟨rfl, rfl, ⟨Nat.le_of_ble_eq_true rfl, Nat.le_of_ble_eq_true rfl⟩, ⟨Nat.le_of_ble_eq_true rfl, Nat.le_of_ble_eq_true rfl⟩, Nat.le_of_ble_eq_true rfl⟩ dX7_readWord_77) (fun r19q u20q H locs hwu20q hP hD hS => ?_)
                have hP : va_P D vwCl [(ra, .inr (9, [.ref ra_numbers, .ref ra_text, .int r_length, .int k1qr_at, .int r_fault, .int r_place])), (ra_text, .inl (cy 1, 500, .inl rf_text))] H := hP
                have hD : va_D A [(ra, .inr (9, [.ref ra_numbers, .ref ra_text, .int r_length, .int k1qr_at, .int r_fault, .int r_place])), (ra_text, .inl (cy 1, 500, .inl rf_text))] := hD
                have p21q := hwu20q
                refine lv_if_eq (tgt := 89) hx hb dX7_readWord_80 (by decide) (fun c22q => ?_) (fun c22q => ?_)
                · simp only [k_lt, k_le, k_eq, ne_eq, ge_iff_le, gt_iff_lt, n_L0, n_L0] at c22q
                  refine lv_iinc (v := 5) (lv' := [(2, .int 5), (1, .int r_at), (0, .ref ra)]) hx hb dX7_readWord_89 hl (k := 0) rfl (by decide) (by decide) rfl (fun ls hl => ?_)
                  refine lv_goto (tgt := 59) hx hb dX7_readWord_92 (by decide) ?_
                  refine lv_iload_n hx hb dX7_readWord_59 rfl (lv_at hl 0 rfl) ?_
                  refine va_getsN (C := "LentMinds") (n := "WORDS") (d := "[LLentMinds$Word;") (v := .ref (sa 4000)) hx hb hG.2.2.2.2.2.2.2.2.2.2.2.2.2.2.1 hS hown (va_Nw.use rfl (hG.2.2.2.2.2.2.2.2.2.2.2.2.2.2.2.2.2.2.2.2.2.2 ("LentMinds$Reader", 77, "LentMinds", "WORDS", "[LLentMinds$Word;") (by decide))) (fun _ h9 => h9) dX7_readWord_60 ?_
                  refine va_tlen (v := 8) hx hb hG.2.2.2.2.2.2.2.2.2.2.2.2.2.2.2.1 hS rfl dX7_readWord_63 ?_
                  refine lv_icmp_ge (tgt := 95) hx hb dX7_readWord_64 (by decide) (fun h => absurd h (by decide)) (fun _ => ?_)
                  refine lv_aload_n hx hb dX7_readWord_67 rfl (lv_at hl 2 rfl) ?_
                  refine va_getsN (C := "LentMinds") (n := "WORDS") (d := "[LLentMinds$Word;") (v := .ref (sa 4000)) hx hb hG.2.2.2.2.2.2.2.2.2.2.2.2.2.2.1 hS hown (va_Nw.use rfl (hG.2.2.2.2.2.2.2.2.2.2.2.2.2.2.2.2.2.2.2.2.2.2 ("LentMinds$Reader", 77, "LentMinds", "WORDS", "[LLentMinds$Word;") (by decide))) (fun _ h9 => h9) dX7_readWord_68 ?_
                  refine lv_iload_n hx hb dX7_readWord_71 rfl (lv_at hl 0 rfl) ?_
                  refine vb_tq (v := .ref (sa 1005)) hx hb hG.2.2.2.2.2.2.2.2.2.2.2.2.2.2.2.1 hS (by unfold vp_in; decide) rfl dX7_readWord_72 ?_
                  refine va_getX (i := 5) hx hb hG.2.2.2.2.2.2.2.2.2.2.2.2.1 (by decide) hS hown (hts _ wm_2087) (fun _ h9 => h9) dX7_readWord_73 ?_
                  refine W.eq (g2 := F0 m 76 ls [.ref (sa 2005), .ref ra]) rfl ?_
                  refine lv_iload_n hx hb dX7_readWord_76 rfl (lv_at hl 1 rfl) ?_
                  refine k_cali [] (⟨hP, hD, hG, hS, hA, rfl, rfl⟩ : kAt D cy sa A s H _ _ [(ra, .inr (9, [.ref ra_numbers, .ref ra_text, .int r_length, .int k1qr_at, .int r_fault, .int r_place])), (ra_text, .inl (cy 1, 500, .inl rf_text))] [0, 1]) (wr := []) rfl rfl (by decide) (k_runV 9 0 (As := [.ref (sa 2005), .int r_at]) (rest := []) E lk_VRX7_85 rfl rfl rfl (c_isSpelled l hl0 D cy sa ra ra_numbers ra_text r_length k1qr_at r_fault r_place r_at rf_text (5) ⟨by omega, by omega⟩ ⟨by omega, by omega⟩ ⟨by omega, by omega⟩ (by first | exact hkk | decide | omega) H.size) (⟨hP, hD, hG, hS, hA, rfl, rfl⟩ : kAt D cy sa A s H _ _ [(ra, .inr (9, [.ref ra_numbers, .ref ra_text, .int r_length, .int k1qr_at, .int r_fault, .int r_place])), (ra_text, .inl (cy 1, 500, .inl rf_text))] [0, 1]) hl.1 rfl rfl ⟨rfl, rfl, ⟨Nat.le_of_ble_eq_true rfl, Nat.le_of_ble_eq_true rfl⟩, ⟨Nat.le_of_ble_eq_true rfl, Nat.le_of_ble_eq_true rfl⟩, Nat.le_of_ble_eq_true rfl⟩ dX7_readWord_77) (fun r23q u24q H locs hwu24q hP hD hS => ?_)
                  have hP : va_P D vwCl [(ra, .inr (9, [.ref ra_numbers, .ref ra_text, .int r_length, .int k1qr_at, .int r_fault, .int r_place])), (ra_text, .inl (cy 1, 500, .inl rf_text))] H := hP
                  have hD : va_D A [(ra, .inr (9, [.ref ra_numbers, .ref ra_text, .int r_length, .int k1qr_at, .int r_fault, .int r_place])), (ra_text, .inl (cy 1, 500, .inl rf_text))] := hD
                  have p25q := hwu24q
                  refine lv_if_eq (tgt := 89) hx hb dX7_readWord_80 (by decide) (fun c26q => ?_) (fun c26q => ?_)
                  · simp only [k_lt, k_le, k_eq, ne_eq, ge_iff_le, gt_iff_lt, n_L0, n_L0] at c26q
                    refine lv_iinc (v := 6) (lv' := [(2, .int 6), (1, .int r_at), (0, .ref ra)]) hx hb dX7_readWord_89 hl (k := 0) rfl (by decide) (by decide) rfl (fun ls hl => ?_)
                    refine lv_goto (tgt := 59) hx hb dX7_readWord_92 (by decide) ?_
                    refine lv_iload_n hx hb dX7_readWord_59 rfl (lv_at hl 0 rfl) ?_
                    refine va_getsN (C := "LentMinds") (n := "WORDS") (d := "[LLentMinds$Word;") (v := .ref (sa 4000)) hx hb hG.2.2.2.2.2.2.2.2.2.2.2.2.2.2.1 hS hown (va_Nw.use rfl (hG.2.2.2.2.2.2.2.2.2.2.2.2.2.2.2.2.2.2.2.2.2.2 ("LentMinds$Reader", 77, "LentMinds", "WORDS", "[LLentMinds$Word;") (by decide))) (fun _ h9 => h9) dX7_readWord_60 ?_
                    refine va_tlen (v := 8) hx hb hG.2.2.2.2.2.2.2.2.2.2.2.2.2.2.2.1 hS rfl dX7_readWord_63 ?_
                    refine lv_icmp_ge (tgt := 95) hx hb dX7_readWord_64 (by decide) (fun h => absurd h (by decide)) (fun _ => ?_)
                    refine lv_aload_n hx hb dX7_readWord_67 rfl (lv_at hl 2 rfl) ?_
                    refine va_getsN (C := "LentMinds") (n := "WORDS") (d := "[LLentMinds$Word;") (v := .ref (sa 4000)) hx hb hG.2.2.2.2.2.2.2.2.2.2.2.2.2.2.1 hS hown (va_Nw.use rfl (hG.2.2.2.2.2.2.2.2.2.2.2.2.2.2.2.2.2.2.2.2.2.2 ("LentMinds$Reader", 77, "LentMinds", "WORDS", "[LLentMinds$Word;") (by decide))) (fun _ h9 => h9) dX7_readWord_68 ?_
                    refine lv_iload_n hx hb dX7_readWord_71 rfl (lv_at hl 0 rfl) ?_
                    refine vb_tq (v := .ref (sa 1006)) hx hb hG.2.2.2.2.2.2.2.2.2.2.2.2.2.2.2.1 hS (by unfold vp_in; decide) rfl dX7_readWord_72 ?_
                    refine va_getX (i := 6) hx hb hG.2.2.2.2.2.2.2.2.2.2.2.2.1 (by decide) hS hown (hts _ wm_2087) (fun _ h9 => h9) dX7_readWord_73 ?_
                    refine W.eq (g2 := F0 m 76 ls [.ref (sa 2006), .ref ra]) rfl ?_
                    refine lv_iload_n hx hb dX7_readWord_76 rfl (lv_at hl 1 rfl) ?_
                    refine k_cali [] (⟨hP, hD, hG, hS, hA, rfl, rfl⟩ : kAt D cy sa A s H _ _ [(ra, .inr (9, [.ref ra_numbers, .ref ra_text, .int r_length, .int k1qr_at, .int r_fault, .int r_place])), (ra_text, .inl (cy 1, 500, .inl rf_text))] [0, 1]) (wr := []) rfl rfl (by decide) (k_runV 9 0 (As := [.ref (sa 2006), .int r_at]) (rest := []) E lk_VRX7_85 rfl rfl rfl (c_isSpelled l hl0 D cy sa ra ra_numbers ra_text r_length k1qr_at r_fault r_place r_at rf_text (6) ⟨by omega, by omega⟩ ⟨by omega, by omega⟩ ⟨by omega, by omega⟩ (by first | exact hkk | decide | omega) H.size) (⟨hP, hD, hG, hS, hA, rfl, rfl⟩ : kAt D cy sa A s H _ _ [(ra, .inr (9, [.ref ra_numbers, .ref ra_text, .int r_length, .int k1qr_at, .int r_fault, .int r_place])), (ra_text, .inl (cy 1, 500, .inl rf_text))] [0, 1]) hl.1 rfl rfl ⟨rfl, rfl, ⟨Nat.le_of_ble_eq_true rfl, Nat.le_of_ble_eq_true rfl⟩, ⟨Nat.le_of_ble_eq_true rfl, Nat.le_of_ble_eq_true rfl⟩, Nat.le_of_ble_eq_true rfl⟩ dX7_readWord_77) (fun r27q u28q H locs hwu28q hP hD hS => ?_)
                    have hP : va_P D vwCl [(ra, .inr (9, [.ref ra_numbers, .ref ra_text, .int r_length, .int k1qr_at, .int r_fault, .int r_place])), (ra_text, .inl (cy 1, 500, .inl rf_text))] H := hP
                    have hD : va_D A [(ra, .inr (9, [.ref ra_numbers, .ref ra_text, .int r_length, .int k1qr_at, .int r_fault, .int r_place])), (ra_text, .inl (cy 1, 500, .inl rf_text))] := hD
                    have p29q := hwu28q
                    refine lv_if_eq (tgt := 89) hx hb dX7_readWord_80 (by decide) (fun c30q => ?_) (fun c30q => ?_)
                    · simp only [k_lt, k_le, k_eq, ne_eq, ge_iff_le, gt_iff_lt, n_L0, n_L0] at c30q
                      refine lv_iinc (v := 7) (lv' := [(2, .int 7), (1, .int r_at), (0, .ref ra)]) hx hb dX7_readWord_89 hl (k := 0) rfl (by decide) (by decide) rfl (fun ls hl => ?_)
                      refine lv_goto (tgt := 59) hx hb dX7_readWord_92 (by decide) ?_
                      refine lv_iload_n hx hb dX7_readWord_59 rfl (lv_at hl 0 rfl) ?_
                      refine va_getsN (C := "LentMinds") (n := "WORDS") (d := "[LLentMinds$Word;") (v := .ref (sa 4000)) hx hb hG.2.2.2.2.2.2.2.2.2.2.2.2.2.2.1 hS hown (va_Nw.use rfl (hG.2.2.2.2.2.2.2.2.2.2.2.2.2.2.2.2.2.2.2.2.2.2 ("LentMinds$Reader", 77, "LentMinds", "WORDS", "[LLentMinds$Word;") (by decide))) (fun _ h9 => h9) dX7_readWord_60 ?_
                      refine va_tlen (v := 8) hx hb hG.2.2.2.2.2.2.2.2.2.2.2.2.2.2.2.1 hS rfl dX7_readWord_63 ?_
                      refine lv_icmp_ge (tgt := 95) hx hb dX7_readWord_64 (by decide) (fun h => absurd h (by decide)) (fun _ => ?_)
                      refine lv_aload_n hx hb dX7_readWord_67 rfl (lv_at hl 2 rfl) ?_
                      refine va_getsN (C := "LentMinds") (n := "WORDS") (d := "[LLentMinds$Word;") (v := .ref (sa 4000)) hx hb hG.2.2.2.2.2.2.2.2.2.2.2.2.2.2.1 hS hown (va_Nw.use rfl (hG.2.2.2.2.2.2.2.2.2.2.2.2.2.2.2.2.2.2.2.2.2.2 ("LentMinds$Reader", 77, "LentMinds", "WORDS", "[LLentMinds$Word;") (by decide))) (fun _ h9 => h9) dX7_readWord_68 ?_
                      refine lv_iload_n hx hb dX7_readWord_71 rfl (lv_at hl 0 rfl) ?_
                      refine vb_tq (v := .ref (sa 1007)) hx hb hG.2.2.2.2.2.2.2.2.2.2.2.2.2.2.2.1 hS (by unfold vp_in; decide) rfl dX7_readWord_72 ?_
                      refine va_getX (i := 7) hx hb hG.2.2.2.2.2.2.2.2.2.2.2.2.1 (by decide) hS hown (hts _ wm_2087) (fun _ h9 => h9) dX7_readWord_73 ?_
                      refine W.eq (g2 := F0 m 76 ls [.ref (sa 2007), .ref ra]) rfl ?_
                      refine lv_iload_n hx hb dX7_readWord_76 rfl (lv_at hl 1 rfl) ?_
                      refine k_cali [] (⟨hP, hD, hG, hS, hA, rfl, rfl⟩ : kAt D cy sa A s H _ _ [(ra, .inr (9, [.ref ra_numbers, .ref ra_text, .int r_length, .int k1qr_at, .int r_fault, .int r_place])), (ra_text, .inl (cy 1, 500, .inl rf_text))] [0, 1]) (wr := []) rfl rfl (by decide) (k_runV 9 0 (As := [.ref (sa 2007), .int r_at]) (rest := []) E lk_VRX7_85 rfl rfl rfl (c_isSpelled l hl0 D cy sa ra ra_numbers ra_text r_length k1qr_at r_fault r_place r_at rf_text (7) ⟨by omega, by omega⟩ ⟨by omega, by omega⟩ ⟨by omega, by omega⟩ (by first | exact hkk | decide | omega) H.size) (⟨hP, hD, hG, hS, hA, rfl, rfl⟩ : kAt D cy sa A s H _ _ [(ra, .inr (9, [.ref ra_numbers, .ref ra_text, .int r_length, .int k1qr_at, .int r_fault, .int r_place])), (ra_text, .inl (cy 1, 500, .inl rf_text))] [0, 1]) hl.1 rfl rfl ⟨rfl, rfl, ⟨Nat.le_of_ble_eq_true rfl, Nat.le_of_ble_eq_true rfl⟩, ⟨Nat.le_of_ble_eq_true rfl, Nat.le_of_ble_eq_true rfl⟩, Nat.le_of_ble_eq_true rfl⟩ dX7_readWord_77) (fun r31q u32q H locs hwu32q hP hD hS => ?_)
                      have hP : va_P D vwCl [(ra, .inr (9, [.ref ra_numbers, .ref ra_text, .int r_length, .int k1qr_at, .int r_fault, .int r_place])), (ra_text, .inl (cy 1, 500, .inl rf_text))] H := hP
                      have hD : va_D A [(ra, .inr (9, [.ref ra_numbers, .ref ra_text, .int r_length, .int k1qr_at, .int r_fault, .int r_place])), (ra_text, .inl (cy 1, 500, .inl rf_text))] := hD
                      have p33q := hwu32q
                      refine lv_if_eq (tgt := 89) hx hb dX7_readWord_80 (by decide) (fun c34q => ?_) (fun c34q => ?_)
                      · simp only [k_lt, k_le, k_eq, ne_eq, ge_iff_le, gt_iff_lt, n_L0, n_L0] at c34q
                        refine lv_iinc (v := 8) (lv' := [(2, .int 8), (1, .int r_at), (0, .ref ra)]) hx hb dX7_readWord_89 hl (k := 0) rfl (by decide) (by decide) rfl (fun ls hl => ?_)
                        refine lv_goto (tgt := 59) hx hb dX7_readWord_92 (by decide) ?_
                        refine lv_iload_n hx hb dX7_readWord_59 rfl (lv_at hl 0 rfl) ?_
                        refine va_getsN (C := "LentMinds") (n := "WORDS") (d := "[LLentMinds$Word;") (v := .ref (sa 4000)) hx hb hG.2.2.2.2.2.2.2.2.2.2.2.2.2.2.1 hS hown (va_Nw.use rfl (hG.2.2.2.2.2.2.2.2.2.2.2.2.2.2.2.2.2.2.2.2.2.2 ("LentMinds$Reader", 77, "LentMinds", "WORDS", "[LLentMinds$Word;") (by decide))) (fun _ h9 => h9) dX7_readWord_60 ?_
                        refine va_tlen (v := 8) hx hb hG.2.2.2.2.2.2.2.2.2.2.2.2.2.2.2.1 hS rfl dX7_readWord_63 ?_
                        refine lv_icmp_ge (tgt := 95) hx hb dX7_readWord_64 (by decide) (fun _ => ?_) (fun h => absurd (by decide) h)
                        refine lv_null hx hb dX7_readWord_95 ?_
                        refine W.eq (g2 := F0 m 96 ls [va_re (fun i => sa (1000 + i)) none]) rfl ?_
                        rw [hQ0]
                        exact k_eret none (fun k => [k1qr_at].getD k 0, fun k => [].getD k (fun _ => 0)) hx hb hr hlk (⟨(show none = none ∨ none = some 0 ∨ none = some 1 ∨ none = some 2 ∨ none = some 3 ∨ none = some 4 ∨ none = some 5 ∨ none = some 6 ∨ none = some 7 by decide), (show 0 ≤ k1qr_at.toInt ∧ k1qr_at.toInt ≤ 500 from ⟨by omega, by omega⟩), (show k1qr_at.toInt ≤ r_length.toInt by omega)⟩) (hP.sub [0, 1] rfl) (hD.sub [0, 1] (by decide) rfl) hS (by decide) (by decide) dX7_readWord_96
                      · simp only [k_lt, k_le, k_eq, ne_eq, ge_iff_le, gt_iff_lt, n_L0, n_L0] at c34q
                        refine va_getsN (C := "LentMinds") (n := "WORDS") (d := "[LLentMinds$Word;") (v := .ref (sa 4000)) hx hb hG.2.2.2.2.2.2.2.2.2.2.2.2.2.2.1 hS hown (va_Nw.use rfl (hG.2.2.2.2.2.2.2.2.2.2.2.2.2.2.2.2.2.2.2.2.2.2 ("LentMinds$Reader", 77, "LentMinds", "WORDS", "[LLentMinds$Word;") (by decide))) (fun _ h9 => h9) dX7_readWord_83 ?_
                        refine lv_iload_n hx hb dX7_readWord_86 rfl (lv_at hl 0 rfl) ?_
                        refine vb_tq (v := .ref (sa 1007)) hx hb hG.2.2.2.2.2.2.2.2.2.2.2.2.2.2.2.1 hS (by unfold vp_in; decide) rfl dX7_readWord_87 ?_
                        refine W.eq (g2 := F0 m 88 ls [va_re (fun i => sa (1000 + i)) (some 7)]) rfl ?_
                        rw [hQ0]
                        exact k_eret (some 7) (fun k => [k1qr_at].getD k 0, fun k => [].getD k (fun _ => 0)) hx hb hr hlk (⟨(show ((some 7)) = none ∨ ((some 7)) = some 0 ∨ ((some 7)) = some 1 ∨ ((some 7)) = some 2 ∨ ((some 7)) = some 3 ∨ ((some 7)) = some 4 ∨ ((some 7)) = some 5 ∨ ((some 7)) = some 6 ∨ ((some 7)) = some 7 by decide), (show 0 ≤ k1qr_at.toInt ∧ k1qr_at.toInt ≤ 500 from ⟨by omega, by omega⟩), (show k1qr_at.toInt ≤ r_length.toInt by omega)⟩) (hP.sub [0, 1] rfl) (hD.sub [0, 1] (by decide) rfl) hS (by decide) (by decide) dX7_readWord_88
                    · simp only [k_lt, k_le, k_eq, ne_eq, ge_iff_le, gt_iff_lt, n_L0, n_L0] at c30q
                      refine va_getsN (C := "LentMinds") (n := "WORDS") (d := "[LLentMinds$Word;") (v := .ref (sa 4000)) hx hb hG.2.2.2.2.2.2.2.2.2.2.2.2.2.2.1 hS hown (va_Nw.use rfl (hG.2.2.2.2.2.2.2.2.2.2.2.2.2.2.2.2.2.2.2.2.2.2 ("LentMinds$Reader", 77, "LentMinds", "WORDS", "[LLentMinds$Word;") (by decide))) (fun _ h9 => h9) dX7_readWord_83 ?_
                      refine lv_iload_n hx hb dX7_readWord_86 rfl (lv_at hl 0 rfl) ?_
                      refine vb_tq (v := .ref (sa 1006)) hx hb hG.2.2.2.2.2.2.2.2.2.2.2.2.2.2.2.1 hS (by unfold vp_in; decide) rfl dX7_readWord_87 ?_
                      refine W.eq (g2 := F0 m 88 ls [va_re (fun i => sa (1000 + i)) (some 6)]) rfl ?_
                      rw [hQ0]
                      exact k_eret (some 6) (fun k => [k1qr_at].getD k 0, fun k => [].getD k (fun _ => 0)) hx hb hr hlk (⟨(show ((some 6)) = none ∨ ((some 6)) = some 0 ∨ ((some 6)) = some 1 ∨ ((some 6)) = some 2 ∨ ((some 6)) = some 3 ∨ ((some 6)) = some 4 ∨ ((some 6)) = some 5 ∨ ((some 6)) = some 6 ∨ ((some 6)) = some 7 by decide), (show 0 ≤ k1qr_at.toInt ∧ k1qr_at.toInt ≤ 500 from ⟨by omega, by omega⟩), (show k1qr_at.toInt ≤ r_length.toInt by omega)⟩) (hP.sub [0, 1] rfl) (hD.sub [0, 1] (by decide) rfl) hS (by decide) (by decide) dX7_readWord_88
                  · simp only [k_lt, k_le, k_eq, ne_eq, ge_iff_le, gt_iff_lt, n_L0, n_L0] at c26q
                    refine va_getsN (C := "LentMinds") (n := "WORDS") (d := "[LLentMinds$Word;") (v := .ref (sa 4000)) hx hb hG.2.2.2.2.2.2.2.2.2.2.2.2.2.2.1 hS hown (va_Nw.use rfl (hG.2.2.2.2.2.2.2.2.2.2.2.2.2.2.2.2.2.2.2.2.2.2 ("LentMinds$Reader", 77, "LentMinds", "WORDS", "[LLentMinds$Word;") (by decide))) (fun _ h9 => h9) dX7_readWord_83 ?_
                    refine lv_iload_n hx hb dX7_readWord_86 rfl (lv_at hl 0 rfl) ?_
                    refine vb_tq (v := .ref (sa 1005)) hx hb hG.2.2.2.2.2.2.2.2.2.2.2.2.2.2.2.1 hS (by unfold vp_in; decide) rfl dX7_readWord_87 ?_
                    refine W.eq (g2 := F0 m 88 ls [va_re (fun i => sa (1000 + i)) (some 5)]) rfl ?_
                    rw [hQ0]
                    exact k_eret (some 5) (fun k => [k1qr_at].getD k 0, fun k => [].getD k (fun _ => 0)) hx hb hr hlk (⟨(show ((some 5)) = none ∨ ((some 5)) = some 0 ∨ ((some 5)) = some 1 ∨ ((some 5)) = some 2 ∨ ((some 5)) = some 3 ∨ ((some 5)) = some 4 ∨ ((some 5)) = some 5 ∨ ((some 5)) = some 6 ∨ ((some 5)) = some 7 by decide), (show 0 ≤ k1qr_at.toInt ∧ k1qr_at.toInt ≤ 500 from ⟨by omega, by omega⟩), (show k1qr_at.toInt ≤ r_length.toInt by omega)⟩) (hP.sub [0, 1] rfl) (hD.sub [0, 1] (by decide) rfl) hS (by decide) (by decide) dX7_readWord_88
                · simp only [k_lt, k_le, k_eq, ne_eq, ge_iff_le, gt_iff_lt, n_L0, n_L0] at c22q
                  refine va_getsN (C := "LentMinds") (n := "WORDS") (d := "[LLentMinds$Word;") (v := .ref (sa 4000)) hx hb hG.2.2.2.2.2.2.2.2.2.2.2.2.2.2.1 hS hown (va_Nw.use rfl (hG.2.2.2.2.2.2.2.2.2.2.2.2.2.2.2.2.2.2.2.2.2.2 ("LentMinds$Reader", 77, "LentMinds", "WORDS", "[LLentMinds$Word;") (by decide))) (fun _ h9 => h9) dX7_readWord_83 ?_
                  refine lv_iload_n hx hb dX7_readWord_86 rfl (lv_at hl 0 rfl) ?_
                  refine vb_tq (v := .ref (sa 1004)) hx hb hG.2.2.2.2.2.2.2.2.2.2.2.2.2.2.2.1 hS (by unfold vp_in; decide) rfl dX7_readWord_87 ?_
                  refine W.eq (g2 := F0 m 88 ls [va_re (fun i => sa (1000 + i)) (some 4)]) rfl ?_
                  rw [hQ0]
                  exact k_eret (some 4) (fun k => [k1qr_at].getD k 0, fun k => [].getD k (fun _ => 0)) hx hb hr hlk (⟨(show ((some 4)) = none ∨ ((some 4)) = some 0 ∨ ((some 4)) = some 1 ∨ ((some 4)) = some 2 ∨ ((some 4)) = some 3 ∨ ((some 4)) = some 4 ∨ ((some 4)) = some 5 ∨ ((some 4)) = some 6 ∨ ((some 4)) = some 7 by decide), (show 0 ≤ k1qr_at.toInt ∧ k1qr_at.toInt ≤ 500 from ⟨by omega, by omega⟩), (show k1qr_at.toInt ≤ r_length.toInt by omega)⟩) (hP.sub [0, 1] rfl) (hD.sub [0, 1] (by decide) rfl) hS (by decide) (by decide) dX7_readWord_88
              · simp only [k_lt, k_le, k_eq, ne_eq, ge_iff_le, gt_iff_lt, n_L0, n_L0] at c18q
                refine va_getsN (C := "LentMinds") (n := "WORDS") (d := "[LLentMinds$Word;") (v := .ref (sa 4000)) hx hb hG.2.2.2.2.2.2.2.2.2.2.2.2.2.2.1 hS hown (va_Nw.use rfl (hG.2.2.2.2.2.2.2.2.2.2.2.2.2.2.2.2.2.2.2.2.2.2 ("LentMinds$Reader", 77, "LentMinds", "WORDS", "[LLentMinds$Word;") (by decide))) (fun _ h9 => h9) dX7_readWord_83 ?_
                refine lv_iload_n hx hb dX7_readWord_86 rfl (lv_at hl 0 rfl) ?_
                refine vb_tq (v := .ref (sa 1003)) hx hb hG.2.2.2.2.2.2.2.2.2.2.2.2.2.2.2.1 hS (by unfold vp_in; decide) rfl dX7_readWord_87 ?_
                refine W.eq (g2 := F0 m 88 ls [va_re (fun i => sa (1000 + i)) (some 3)]) rfl ?_
                rw [hQ0]
                exact k_eret (some 3) (fun k => [k1qr_at].getD k 0, fun k => [].getD k (fun _ => 0)) hx hb hr hlk (⟨(show ((some 3)) = none ∨ ((some 3)) = some 0 ∨ ((some 3)) = some 1 ∨ ((some 3)) = some 2 ∨ ((some 3)) = some 3 ∨ ((some 3)) = some 4 ∨ ((some 3)) = some 5 ∨ ((some 3)) = some 6 ∨ ((some 3)) = some 7 by decide), (show 0 ≤ k1qr_at.toInt ∧ k1qr_at.toInt ≤ 500 from ⟨by omega, by omega⟩), (show k1qr_at.toInt ≤ r_length.toInt by omega)⟩) (hP.sub [0, 1] rfl) (hD.sub [0, 1] (by decide) rfl) hS (by decide) (by decide) dX7_readWord_88
            · simp only [k_lt, k_le, k_eq, ne_eq, ge_iff_le, gt_iff_lt, n_L0, n_L0] at c14q
              refine va_getsN (C := "LentMinds") (n := "WORDS") (d := "[LLentMinds$Word;") (v := .ref (sa 4000)) hx hb hG.2.2.2.2.2.2.2.2.2.2.2.2.2.2.1 hS hown (va_Nw.use rfl (hG.2.2.2.2.2.2.2.2.2.2.2.2.2.2.2.2.2.2.2.2.2.2 ("LentMinds$Reader", 77, "LentMinds", "WORDS", "[LLentMinds$Word;") (by decide))) (fun _ h9 => h9) dX7_readWord_83 ?_
              refine lv_iload_n hx hb dX7_readWord_86 rfl (lv_at hl 0 rfl) ?_
              refine vb_tq (v := .ref (sa 1002)) hx hb hG.2.2.2.2.2.2.2.2.2.2.2.2.2.2.2.1 hS (by unfold vp_in; decide) rfl dX7_readWord_87 ?_
              refine W.eq (g2 := F0 m 88 ls [va_re (fun i => sa (1000 + i)) (some 2)]) rfl ?_
              rw [hQ0]
              exact k_eret (some 2) (fun k => [k1qr_at].getD k 0, fun k => [].getD k (fun _ => 0)) hx hb hr hlk (⟨(show ((some 2)) = none ∨ ((some 2)) = some 0 ∨ ((some 2)) = some 1 ∨ ((some 2)) = some 2 ∨ ((some 2)) = some 3 ∨ ((some 2)) = some 4 ∨ ((some 2)) = some 5 ∨ ((some 2)) = some 6 ∨ ((some 2)) = some 7 by decide), (show 0 ≤ k1qr_at.toInt ∧ k1qr_at.toInt ≤ 500 from ⟨by omega, by omega⟩), (show k1qr_at.toInt ≤ r_length.toInt by omega)⟩) (hP.sub [0, 1] rfl) (hD.sub [0, 1] (by decide) rfl) hS (by decide) (by decide) dX7_readWord_88
          · simp only [k_lt, k_le, k_eq, ne_eq, ge_iff_le, gt_iff_lt, n_L0, n_L0] at c10q
            refine va_getsN (C := "LentMinds") (n := "WORDS") (d := "[LLentMinds$Word;") (v := .ref (sa 4000)) hx hb hG.2.2.2.2.2.2.2.2.2.2.2.2.2.2.1 hS hown (va_Nw.use rfl (hG.2.2.2.2.2.2.2.2.2.2.2.2.2.2.2.2.2.2.2.2.2.2 ("LentMinds$Reader", 77, "LentMinds", "WORDS", "[LLentMinds$Word;") (by decide))) (fun _ h9 => h9) dX7_readWord_83 ?_
            refine lv_iload_n hx hb dX7_readWord_86 rfl (lv_at hl 0 rfl) ?_
            refine vb_tq (v := .ref (sa 1001)) hx hb hG.2.2.2.2.2.2.2.2.2.2.2.2.2.2.2.1 hS (by unfold vp_in; decide) rfl dX7_readWord_87 ?_
            refine W.eq (g2 := F0 m 88 ls [va_re (fun i => sa (1000 + i)) (some 1)]) rfl ?_
            rw [hQ0]
            exact k_eret (some 1) (fun k => [k1qr_at].getD k 0, fun k => [].getD k (fun _ => 0)) hx hb hr hlk (⟨(show ((some 1)) = none ∨ ((some 1)) = some 0 ∨ ((some 1)) = some 1 ∨ ((some 1)) = some 2 ∨ ((some 1)) = some 3 ∨ ((some 1)) = some 4 ∨ ((some 1)) = some 5 ∨ ((some 1)) = some 6 ∨ ((some 1)) = some 7 by decide), (show 0 ≤ k1qr_at.toInt ∧ k1qr_at.toInt ≤ 500 from ⟨by omega, by omega⟩), (show k1qr_at.toInt ≤ r_length.toInt by omega)⟩) (hP.sub [0, 1] rfl) (hD.sub [0, 1] (by decide) rfl) hS (by decide) (by decide) dX7_readWord_88
        · simp only [k_lt, k_le, k_eq, ne_eq, ge_iff_le, gt_iff_lt, n_L0, n_L0] at c6q
          refine va_getsN (C := "LentMinds") (n := "WORDS") (d := "[LLentMinds$Word;") (v := .ref (sa 4000)) hx hb hG.2.2.2.2.2.2.2.2.2.2.2.2.2.2.1 hS hown (va_Nw.use rfl (hG.2.2.2.2.2.2.2.2.2.2.2.2.2.2.2.2.2.2.2.2.2.2 ("LentMinds$Reader", 77, "LentMinds", "WORDS", "[LLentMinds$Word;") (by decide))) (fun _ h9 => h9) dX7_readWord_83 ?_
          refine lv_iload_n hx hb dX7_readWord_86 rfl (lv_at hl 0 rfl) ?_
          refine vb_tq (v := .ref (sa 1000)) hx hb hG.2.2.2.2.2.2.2.2.2.2.2.2.2.2.2.1 hS (by unfold vp_in; decide) rfl dX7_readWord_87 ?_
          refine W.eq (g2 := F0 m 88 ls [va_re (fun i => sa (1000 + i)) (some 0)]) rfl ?_
          rw [hQ0]
          exact k_eret (some 0) (fun k => [k1qr_at].getD k 0, fun k => [].getD k (fun _ => 0)) hx hb hr hlk (⟨(show ((some 0)) = none ∨ ((some 0)) = some 0 ∨ ((some 0)) = some 1 ∨ ((some 0)) = some 2 ∨ ((some 0)) = some 3 ∨ ((some 0)) = some 4 ∨ ((some 0)) = some 5 ∨ ((some 0)) = some 6 ∨ ((some 0)) = some 7 by decide), (show 0 ≤ k1qr_at.toInt ∧ k1qr_at.toInt ≤ 500 from ⟨by omega, by omega⟩), (show k1qr_at.toInt ≤ r_length.toInt by omega)⟩) (hP.sub [0, 1] rfl) (hD.sub [0, 1] (by decide) rfl) hS (by decide) (by decide) dX7_readWord_88
      · simp only [k_lt, k_le, k_eq, ne_eq, ge_iff_le, gt_iff_lt] at c2q
        refine lv_aload_n hx hb dX7_readWord_16 rfl (lv_at hl 1 rfl) ?_
        refine va_get (D := D) (ci := 9) (v := .ref ra_text) (C := RX7) (T := TX7) (N := 6) hx hb hts kin_RX7 hown hG.1 hP 0 rfl rfl 1 (by decide) (hts _ wm_48) (fun _ h9 => h9) rfl dX7_readWord_17 ?_
        refine lv_aload_n hx hb dX7_readWord_20 rfl (lv_at hl 1 rfl) ?_
        refine va_get (D := D) (ci := 9) (v := .int k1qr_at) (C := RX7) (T := TX7) (N := 6) hx hb hts kin_RX7 hown hG.1 hP 0 rfl rfl 3 (by decide) (hts _ wm_50) (fun _ h9 => h9) rfl dX7_readWord_21 ?_
        refine va_bald hx hb hG.1 hP 1 1 rfl rfl (n_in (by omega) (by omega)) dX7_readWord_24 ?_
        refine lv_topi (fun x35q ex35q => ?_)
        refine lv_bipush (v := 97) hx hb dX7_readWord_25 (by decide) ?_
        refine lv_icmp_lt (tgt := 57) hx hb dX7_readWord_27 (by decide) (fun c36q => ?_) (fun c36q => ?_)
        · simp only [k_lt, k_le, k_eq, ne_eq, ge_iff_le, gt_iff_lt, n_L97] at c36q
          refine lv_iconst (v := 0) hx hb dX7_readWord_57 (by decide) ?_
          refine lv_istore_n (lv' := [(2, .int 0), (1, .int r_at), (0, .ref ra)]) hx hb dX7_readWord_58 rfl hl (by decide) rfl (fun ls hl => ?_)
          refine lv_iload_n hx hb dX7_readWord_59 rfl (lv_at hl 0 rfl) ?_
          refine va_getsN (C := "LentMinds") (n := "WORDS") (d := "[LLentMinds$Word;") (v := .ref (sa 4000)) hx hb hG.2.2.2.2.2.2.2.2.2.2.2.2.2.2.1 hS hown (va_Nw.use rfl (hG.2.2.2.2.2.2.2.2.2.2.2.2.2.2.2.2.2.2.2.2.2.2 ("LentMinds$Reader", 77, "LentMinds", "WORDS", "[LLentMinds$Word;") (by decide))) (fun _ h9 => h9) dX7_readWord_60 ?_
          refine va_tlen (v := 8) hx hb hG.2.2.2.2.2.2.2.2.2.2.2.2.2.2.2.1 hS rfl dX7_readWord_63 ?_
          refine lv_icmp_ge (tgt := 95) hx hb dX7_readWord_64 (by decide) (fun h => absurd h (by decide)) (fun _ => ?_)
          refine lv_aload_n hx hb dX7_readWord_67 rfl (lv_at hl 2 rfl) ?_
          refine va_getsN (C := "LentMinds") (n := "WORDS") (d := "[LLentMinds$Word;") (v := .ref (sa 4000)) hx hb hG.2.2.2.2.2.2.2.2.2.2.2.2.2.2.1 hS hown (va_Nw.use rfl (hG.2.2.2.2.2.2.2.2.2.2.2.2.2.2.2.2.2.2.2.2.2.2 ("LentMinds$Reader", 77, "LentMinds", "WORDS", "[LLentMinds$Word;") (by decide))) (fun _ h9 => h9) dX7_readWord_68 ?_
          refine lv_iload_n hx hb dX7_readWord_71 rfl (lv_at hl 0 rfl) ?_
          refine vb_tq (v := .ref (sa 1000)) hx hb hG.2.2.2.2.2.2.2.2.2.2.2.2.2.2.2.1 hS (by unfold vp_in; decide) rfl dX7_readWord_72 ?_
          refine va_getX (i := 0) hx hb hG.2.2.2.2.2.2.2.2.2.2.2.2.1 (by decide) hS hown (hts _ wm_2087) (fun _ h9 => h9) dX7_readWord_73 ?_
          refine W.eq (g2 := F0 m 76 ls [.ref (sa 2000), .ref ra]) rfl ?_
          refine lv_iload_n hx hb dX7_readWord_76 rfl (lv_at hl 1 rfl) ?_
          refine k_cali [] (⟨hP, hD, hG, hS, hA, rfl, rfl⟩ : kAt D cy sa A s H _ _ [(ra, .inr (9, [.ref ra_numbers, .ref ra_text, .int r_length, .int k1qr_at, .int r_fault, .int r_place])), (ra_text, .inl (cy 1, 500, .inl rf_text))] [0, 1]) (wr := []) rfl rfl (by decide) (k_runV 9 0 (As := [.ref (sa 2000), .int r_at]) (rest := []) E lk_VRX7_85 rfl rfl rfl (c_isSpelled l hl0 D cy sa ra ra_numbers ra_text r_length k1qr_at r_fault r_place r_at rf_text (0) ⟨by omega, by omega⟩ ⟨by omega, by omega⟩ ⟨by omega, by omega⟩ (by first | exact hkk | decide | omega) H.size) (⟨hP, hD, hG, hS, hA, rfl, rfl⟩ : kAt D cy sa A s H _ _ [(ra, .inr (9, [.ref ra_numbers, .ref ra_text, .int r_length, .int k1qr_at, .int r_fault, .int r_place])), (ra_text, .inl (cy 1, 500, .inl rf_text))] [0, 1]) hl.1 rfl rfl ⟨rfl, rfl, ⟨Nat.le_of_ble_eq_true rfl, Nat.le_of_ble_eq_true rfl⟩, ⟨Nat.le_of_ble_eq_true rfl, Nat.le_of_ble_eq_true rfl⟩, Nat.le_of_ble_eq_true rfl⟩ dX7_readWord_77) (fun r37q u38q H locs hwu38q hP hD hS => ?_)
          have hP : va_P D vwCl [(ra, .inr (9, [.ref ra_numbers, .ref ra_text, .int r_length, .int k1qr_at, .int r_fault, .int r_place])), (ra_text, .inl (cy 1, 500, .inl rf_text))] H := hP
          have hD : va_D A [(ra, .inr (9, [.ref ra_numbers, .ref ra_text, .int r_length, .int k1qr_at, .int r_fault, .int r_place])), (ra_text, .inl (cy 1, 500, .inl rf_text))] := hD
          have p39q := hwu38q
          refine lv_if_eq (tgt := 89) hx hb dX7_readWord_80 (by decide) (fun c40q => ?_) (fun c40q => ?_)
          · simp only [k_lt, k_le, k_eq, ne_eq, ge_iff_le, gt_iff_lt, n_L0, n_L0] at c40q
            refine lv_iinc (v := 1) (lv' := [(2, .int 1), (1, .int r_at), (0, .ref ra)]) hx hb dX7_readWord_89 hl (k := 0) rfl (by decide) (by decide) rfl (fun ls hl => ?_)
            refine lv_goto (tgt := 59) hx hb dX7_readWord_92 (by decide) ?_
            refine lv_iload_n hx hb dX7_readWord_59 rfl (lv_at hl 0 rfl) ?_
            refine va_getsN (C := "LentMinds") (n := "WORDS") (d := "[LLentMinds$Word;") (v := .ref (sa 4000)) hx hb hG.2.2.2.2.2.2.2.2.2.2.2.2.2.2.1 hS hown (va_Nw.use rfl (hG.2.2.2.2.2.2.2.2.2.2.2.2.2.2.2.2.2.2.2.2.2.2 ("LentMinds$Reader", 77, "LentMinds", "WORDS", "[LLentMinds$Word;") (by decide))) (fun _ h9 => h9) dX7_readWord_60 ?_
            refine va_tlen (v := 8) hx hb hG.2.2.2.2.2.2.2.2.2.2.2.2.2.2.2.1 hS rfl dX7_readWord_63 ?_
            refine lv_icmp_ge (tgt := 95) hx hb dX7_readWord_64 (by decide) (fun h => absurd h (by decide)) (fun _ => ?_)
            refine lv_aload_n hx hb dX7_readWord_67 rfl (lv_at hl 2 rfl) ?_
            refine va_getsN (C := "LentMinds") (n := "WORDS") (d := "[LLentMinds$Word;") (v := .ref (sa 4000)) hx hb hG.2.2.2.2.2.2.2.2.2.2.2.2.2.2.1 hS hown (va_Nw.use rfl (hG.2.2.2.2.2.2.2.2.2.2.2.2.2.2.2.2.2.2.2.2.2.2 ("LentMinds$Reader", 77, "LentMinds", "WORDS", "[LLentMinds$Word;") (by decide))) (fun _ h9 => h9) dX7_readWord_68 ?_
            refine lv_iload_n hx hb dX7_readWord_71 rfl (lv_at hl 0 rfl) ?_
            refine vb_tq (v := .ref (sa 1001)) hx hb hG.2.2.2.2.2.2.2.2.2.2.2.2.2.2.2.1 hS (by unfold vp_in; decide) rfl dX7_readWord_72 ?_
            refine va_getX (i := 1) hx hb hG.2.2.2.2.2.2.2.2.2.2.2.2.1 (by decide) hS hown (hts _ wm_2087) (fun _ h9 => h9) dX7_readWord_73 ?_
            refine W.eq (g2 := F0 m 76 ls [.ref (sa 2001), .ref ra]) rfl ?_
            refine lv_iload_n hx hb dX7_readWord_76 rfl (lv_at hl 1 rfl) ?_
            refine k_cali [] (⟨hP, hD, hG, hS, hA, rfl, rfl⟩ : kAt D cy sa A s H _ _ [(ra, .inr (9, [.ref ra_numbers, .ref ra_text, .int r_length, .int k1qr_at, .int r_fault, .int r_place])), (ra_text, .inl (cy 1, 500, .inl rf_text))] [0, 1]) (wr := []) rfl rfl (by decide) (k_runV 9 0 (As := [.ref (sa 2001), .int r_at]) (rest := []) E lk_VRX7_85 rfl rfl rfl (c_isSpelled l hl0 D cy sa ra ra_numbers ra_text r_length k1qr_at r_fault r_place r_at rf_text (1) ⟨by omega, by omega⟩ ⟨by omega, by omega⟩ ⟨by omega, by omega⟩ (by first | exact hkk | decide | omega) H.size) (⟨hP, hD, hG, hS, hA, rfl, rfl⟩ : kAt D cy sa A s H _ _ [(ra, .inr (9, [.ref ra_numbers, .ref ra_text, .int r_length, .int k1qr_at, .int r_fault, .int r_place])), (ra_text, .inl (cy 1, 500, .inl rf_text))] [0, 1]) hl.1 rfl rfl ⟨rfl, rfl, ⟨Nat.le_of_ble_eq_true rfl, Nat.le_of_ble_eq_true rfl⟩, ⟨Nat.le_of_ble_eq_true rfl, Nat.le_of_ble_eq_true rfl⟩, Nat.le_of_ble_eq_true rfl⟩ dX7_readWord_77) (fun r41q u42q H locs hwu42q hP hD hS => ?_)
            have hP : va_P D vwCl [(ra, .inr (9, [.ref ra_numbers, .ref ra_text, .int r_length, .int k1qr_at, .int r_fault, .int r_place])), (ra_text, .inl (cy 1, 500, .inl rf_text))] H := hP
            have hD : va_D A [(ra, .inr (9, [.ref ra_numbers, .ref ra_text, .int r_length, .int k1qr_at, .int r_fault, .int r_place])), (ra_text, .inl (cy 1, 500, .inl rf_text))] := hD
            have p43q := hwu42q
            refine lv_if_eq (tgt := 89) hx hb dX7_readWord_80 (by decide) (fun c44q => ?_) (fun c44q => ?_)
            · simp only [k_lt, k_le, k_eq, ne_eq, ge_iff_le, gt_iff_lt, n_L0, n_L0] at c44q
              refine lv_iinc (v := 2) (lv' := [(2, .int 2), (1, .int r_at), (0, .ref ra)]) hx hb dX7_readWord_89 hl (k := 0) rfl (by decide) (by decide) rfl (fun ls hl => ?_)
              refine lv_goto (tgt := 59) hx hb dX7_readWord_92 (by decide) ?_
              refine lv_iload_n hx hb dX7_readWord_59 rfl (lv_at hl 0 rfl) ?_
              refine va_getsN (C := "LentMinds") (n := "WORDS") (d := "[LLentMinds$Word;") (v := .ref (sa 4000)) hx hb hG.2.2.2.2.2.2.2.2.2.2.2.2.2.2.1 hS hown (va_Nw.use rfl (hG.2.2.2.2.2.2.2.2.2.2.2.2.2.2.2.2.2.2.2.2.2.2 ("LentMinds$Reader", 77, "LentMinds", "WORDS", "[LLentMinds$Word;") (by decide))) (fun _ h9 => h9) dX7_readWord_60 ?_
              refine va_tlen (v := 8) hx hb hG.2.2.2.2.2.2.2.2.2.2.2.2.2.2.2.1 hS rfl dX7_readWord_63 ?_
              refine lv_icmp_ge (tgt := 95) hx hb dX7_readWord_64 (by decide) (fun h => absurd h (by decide)) (fun _ => ?_)
              refine lv_aload_n hx hb dX7_readWord_67 rfl (lv_at hl 2 rfl) ?_
              refine va_getsN (C := "LentMinds") (n := "WORDS") (d := "[LLentMinds$Word;") (v := .ref (sa 4000)) hx hb hG.2.2.2.2.2.2.2.2.2.2.2.2.2.2.1 hS hown (va_Nw.use rfl (hG.2.2.2.2.2.2.2.2.2.2.2.2.2.2.2.2.2.2.2.2.2.2 ("LentMinds$Reader", 77, "LentMinds", "WORDS", "[LLentMinds$Word;") (by decide))) (fun _ h9 => h9) dX7_readWord_68 ?_
              refine lv_iload_n hx hb dX7_readWord_71 rfl (lv_at hl 0 rfl) ?_
              refine vb_tq (v := .ref (sa 1002)) hx hb hG.2.2.2.2.2.2.2.2.2.2.2.2.2.2.2.1 hS (by unfold vp_in; decide) rfl dX7_readWord_72 ?_
              refine va_getX (i := 2) hx hb hG.2.2.2.2.2.2.2.2.2.2.2.2.1 (by decide) hS hown (hts _ wm_2087) (fun _ h9 => h9) dX7_readWord_73 ?_
              refine W.eq (g2 := F0 m 76 ls [.ref (sa 2002), .ref ra]) rfl ?_
              refine lv_iload_n hx hb dX7_readWord_76 rfl (lv_at hl 1 rfl) ?_
              refine k_cali [] (⟨hP, hD, hG, hS, hA, rfl, rfl⟩ : kAt D cy sa A s H _ _ [(ra, .inr (9, [.ref ra_numbers, .ref ra_text, .int r_length, .int k1qr_at, .int r_fault, .int r_place])), (ra_text, .inl (cy 1, 500, .inl rf_text))] [0, 1]) (wr := []) rfl rfl (by decide) (k_runV 9 0 (As := [.ref (sa 2002), .int r_at]) (rest := []) E lk_VRX7_85 rfl rfl rfl (c_isSpelled l hl0 D cy sa ra ra_numbers ra_text r_length k1qr_at r_fault r_place r_at rf_text (2) ⟨by omega, by omega⟩ ⟨by omega, by omega⟩ ⟨by omega, by omega⟩ (by first | exact hkk | decide | omega) H.size) (⟨hP, hD, hG, hS, hA, rfl, rfl⟩ : kAt D cy sa A s H _ _ [(ra, .inr (9, [.ref ra_numbers, .ref ra_text, .int r_length, .int k1qr_at, .int r_fault, .int r_place])), (ra_text, .inl (cy 1, 500, .inl rf_text))] [0, 1]) hl.1 rfl rfl ⟨rfl, rfl, ⟨Nat.le_of_ble_eq_true rfl, Nat.le_of_ble_eq_true rfl⟩, ⟨Nat.le_of_ble_eq_true rfl, Nat.le_of_ble_eq_true rfl⟩, Nat.le_of_ble_eq_true rfl⟩ dX7_readWord_77) (fun r45q u46q H locs hwu46q hP hD hS => ?_)
              have hP : va_P D vwCl [(ra, .inr (9, [.ref ra_numbers, .ref ra_text, .int r_length, .int k1qr_at, .int r_fault, .int r_place])), (ra_text, .inl (cy 1, 500, .inl rf_text))] H := hP
              have hD : va_D A [(ra, .inr (9, [.ref ra_numbers, .ref ra_text, .int r_length, .int k1qr_at, .int r_fault, .int r_place])), (ra_text, .inl (cy 1, 500, .inl rf_text))] := hD
              have p47q := hwu46q
              refine lv_if_eq (tgt := 89) hx hb dX7_readWord_80 (by decide) (fun c48q => ?_) (fun c48q => ?_)
              · simp only [k_lt, k_le, k_eq, ne_eq, ge_iff_le, gt_iff_lt, n_L0, n_L0] at c48q
                refine lv_iinc (v := 3) (lv' := [(2, .int 3), (1, .int r_at), (0, .ref ra)]) hx hb dX7_readWord_89 hl (k := 0) rfl (by decide) (by decide) rfl (fun ls hl => ?_)
                refine lv_goto (tgt := 59) hx hb dX7_readWord_92 (by decide) ?_
                refine lv_iload_n hx hb dX7_readWord_59 rfl (lv_at hl 0 rfl) ?_
                refine va_getsN (C := "LentMinds") (n := "WORDS") (d := "[LLentMinds$Word;") (v := .ref (sa 4000)) hx hb hG.2.2.2.2.2.2.2.2.2.2.2.2.2.2.1 hS hown (va_Nw.use rfl (hG.2.2.2.2.2.2.2.2.2.2.2.2.2.2.2.2.2.2.2.2.2.2 ("LentMinds$Reader", 77, "LentMinds", "WORDS", "[LLentMinds$Word;") (by decide))) (fun _ h9 => h9) dX7_readWord_60 ?_
                refine va_tlen (v := 8) hx hb hG.2.2.2.2.2.2.2.2.2.2.2.2.2.2.2.1 hS rfl dX7_readWord_63 ?_
                refine lv_icmp_ge (tgt := 95) hx hb dX7_readWord_64 (by decide) (fun h => absurd h (by decide)) (fun _ => ?_)
                refine lv_aload_n hx hb dX7_readWord_67 rfl (lv_at hl 2 rfl) ?_
                refine va_getsN (C := "LentMinds") (n := "WORDS") (d := "[LLentMinds$Word;") (v := .ref (sa 4000)) hx hb hG.2.2.2.2.2.2.2.2.2.2.2.2.2.2.1 hS hown (va_Nw.use rfl (hG.2.2.2.2.2.2.2.2.2.2.2.2.2.2.2.2.2.2.2.2.2.2 ("LentMinds$Reader", 77, "LentMinds", "WORDS", "[LLentMinds$Word;") (by decide))) (fun _ h9 => h9) dX7_readWord_68 ?_
                refine lv_iload_n hx hb dX7_readWord_71 rfl (lv_at hl 0 rfl) ?_
                refine vb_tq (v := .ref (sa 1003)) hx hb hG.2.2.2.2.2.2.2.2.2.2.2.2.2.2.2.1 hS (by unfold vp_in; decide) rfl dX7_readWord_72 ?_
                refine va_getX (i := 3) hx hb hG.2.2.2.2.2.2.2.2.2.2.2.2.1 (by decide) hS hown (hts _ wm_2087) (fun _ h9 => h9) dX7_readWord_73 ?_
                refine W.eq (g2 := F0 m 76 ls [.ref (sa 2003), .ref ra]) rfl ?_
                refine lv_iload_n hx hb dX7_readWord_76 rfl (lv_at hl 1 rfl) ?_
                refine k_cali [] (⟨hP, hD, hG, hS, hA, rfl, rfl⟩ : kAt D cy sa A s H _ _ [(ra, .inr (9, [.ref ra_numbers, .ref ra_text, .int r_length, .int k1qr_at, .int r_fault, .int r_place])), (ra_text, .inl (cy 1, 500, .inl rf_text))] [0, 1]) (wr := []) rfl rfl (by decide) (k_runV 9 0 (As := [.ref (sa 2003), .int r_at]) (rest := []) E lk_VRX7_85 rfl rfl rfl (c_isSpelled l hl0 D cy sa ra ra_numbers ra_text r_length k1qr_at r_fault r_place r_at rf_text (3) ⟨by omega, by omega⟩ ⟨by omega, by omega⟩ ⟨by omega, by omega⟩ (by first | exact hkk | decide | omega) H.size) (⟨hP, hD, hG, hS, hA, rfl, rfl⟩ : kAt D cy sa A s H _ _ [(ra, .inr (9, [.ref ra_numbers, .ref ra_text, .int r_length, .int k1qr_at, .int r_fault, .int r_place])), (ra_text, .inl (cy 1, 500, .inl rf_text))] [0, 1]) hl.1 rfl rfl ⟨rfl, rfl, ⟨Nat.le_of_ble_eq_true rfl, Nat.le_of_ble_eq_true rfl⟩, ⟨Nat.le_of_ble_eq_true rfl, Nat.le_of_ble_eq_true rfl⟩, Nat.le_of_ble_eq_true rfl⟩ dX7_readWord_77) (fun r49q u50q H locs hwu50q hP hD hS => ?_)
                have hP : va_P D vwCl [(ra, .inr (9, [.ref ra_numbers, .ref ra_text, .int r_length, .int k1qr_at, .int r_fault, .int r_place])), (ra_text, .inl (cy 1, 500, .inl rf_text))] H := hP
                have hD : va_D A [(ra, .inr (9, [.ref ra_numbers, .ref ra_text, .int r_length, .int k1qr_at, .int r_fault, .int r_place])), (ra_text, .inl (cy 1, 500, .inl rf_text))] := hD
                have p51q := hwu50q
                refine lv_if_eq (tgt := 89) hx hb dX7_readWord_80 (by decide) (fun c52q => ?_) (fun c52q => ?_)
                · simp only [k_lt, k_le, k_eq, ne_eq, ge_iff_le, gt_iff_lt, n_L0, n_L0] at c52q
                  refine lv_iinc (v := 4) (lv' := [(2, .int 4), (1, .int r_at), (0, .ref ra)]) hx hb dX7_readWord_89 hl (k := 0) rfl (by decide) (by decide) rfl (fun ls hl => ?_)
                  refine lv_goto (tgt := 59) hx hb dX7_readWord_92 (by decide) ?_
                  refine lv_iload_n hx hb dX7_readWord_59 rfl (lv_at hl 0 rfl) ?_
                  refine va_getsN (C := "LentMinds") (n := "WORDS") (d := "[LLentMinds$Word;") (v := .ref (sa 4000)) hx hb hG.2.2.2.2.2.2.2.2.2.2.2.2.2.2.1 hS hown (va_Nw.use rfl (hG.2.2.2.2.2.2.2.2.2.2.2.2.2.2.2.2.2.2.2.2.2.2 ("LentMinds$Reader", 77, "LentMinds", "WORDS", "[LLentMinds$Word;") (by decide))) (fun _ h9 => h9) dX7_readWord_60 ?_
                  refine va_tlen (v := 8) hx hb hG.2.2.2.2.2.2.2.2.2.2.2.2.2.2.2.1 hS rfl dX7_readWord_63 ?_
                  refine lv_icmp_ge (tgt := 95) hx hb dX7_readWord_64 (by decide) (fun h => absurd h (by decide)) (fun _ => ?_)
                  refine lv_aload_n hx hb dX7_readWord_67 rfl (lv_at hl 2 rfl) ?_
                  refine va_getsN (C := "LentMinds") (n := "WORDS") (d := "[LLentMinds$Word;") (v := .ref (sa 4000)) hx hb hG.2.2.2.2.2.2.2.2.2.2.2.2.2.2.1 hS hown (va_Nw.use rfl (hG.2.2.2.2.2.2.2.2.2.2.2.2.2.2.2.2.2.2.2.2.2.2 ("LentMinds$Reader", 77, "LentMinds", "WORDS", "[LLentMinds$Word;") (by decide))) (fun _ h9 => h9) dX7_readWord_68 ?_
                  refine lv_iload_n hx hb dX7_readWord_71 rfl (lv_at hl 0 rfl) ?_
                  refine vb_tq (v := .ref (sa 1004)) hx hb hG.2.2.2.2.2.2.2.2.2.2.2.2.2.2.2.1 hS (by unfold vp_in; decide) rfl dX7_readWord_72 ?_
                  refine va_getX (i := 4) hx hb hG.2.2.2.2.2.2.2.2.2.2.2.2.1 (by decide) hS hown (hts _ wm_2087) (fun _ h9 => h9) dX7_readWord_73 ?_
                  refine W.eq (g2 := F0 m 76 ls [.ref (sa 2004), .ref ra]) rfl ?_
                  refine lv_iload_n hx hb dX7_readWord_76 rfl (lv_at hl 1 rfl) ?_
                  refine k_cali [] (⟨hP, hD, hG, hS, hA, rfl, rfl⟩ : kAt D cy sa A s H _ _ [(ra, .inr (9, [.ref ra_numbers, .ref ra_text, .int r_length, .int k1qr_at, .int r_fault, .int r_place])), (ra_text, .inl (cy 1, 500, .inl rf_text))] [0, 1]) (wr := []) rfl rfl (by decide) (k_runV 9 0 (As := [.ref (sa 2004), .int r_at]) (rest := []) E lk_VRX7_85 rfl rfl rfl (c_isSpelled l hl0 D cy sa ra ra_numbers ra_text r_length k1qr_at r_fault r_place r_at rf_text (4) ⟨by omega, by omega⟩ ⟨by omega, by omega⟩ ⟨by omega, by omega⟩ (by first | exact hkk | decide | omega) H.size) (⟨hP, hD, hG, hS, hA, rfl, rfl⟩ : kAt D cy sa A s H _ _ [(ra, .inr (9, [.ref ra_numbers, .ref ra_text, .int r_length, .int k1qr_at, .int r_fault, .int r_place])), (ra_text, .inl (cy 1, 500, .inl rf_text))] [0, 1]) hl.1 rfl rfl ⟨rfl, rfl, ⟨Nat.le_of_ble_eq_true rfl, Nat.le_of_ble_eq_true rfl⟩, ⟨Nat.le_of_ble_eq_true rfl, Nat.le_of_ble_eq_true rfl⟩, Nat.le_of_ble_eq_true rfl⟩ dX7_readWord_77) (fun r53q u54q H locs hwu54q hP hD hS => ?_)
                  have hP : va_P D vwCl [(ra, .inr (9, [.ref ra_numbers, .ref ra_text, .int r_length, .int k1qr_at, .int r_fault, .int r_place])), (ra_text, .inl (cy 1, 500, .inl rf_text))] H := hP
                  have hD : va_D A [(ra, .inr (9, [.ref ra_numbers, .ref ra_text, .int r_length, .int k1qr_at, .int r_fault, .int r_place])), (ra_text, .inl (cy 1, 500, .inl rf_text))] := hD
                  have p55q := hwu54q
                  refine lv_if_eq (tgt := 89) hx hb dX7_readWord_80 (by decide) (fun c56q => ?_) (fun c56q => ?_)
                  · simp only [k_lt, k_le, k_eq, ne_eq, ge_iff_le, gt_iff_lt, n_L0, n_L0] at c56q
                    refine lv_iinc (v := 5) (lv' := [(2, .int 5), (1, .int r_at), (0, .ref ra)]) hx hb dX7_readWord_89 hl (k := 0) rfl (by decide) (by decide) rfl (fun ls hl => ?_)
                    refine lv_goto (tgt := 59) hx hb dX7_readWord_92 (by decide) ?_
                    refine lv_iload_n hx hb dX7_readWord_59 rfl (lv_at hl 0 rfl) ?_
                    refine va_getsN (C := "LentMinds") (n := "WORDS") (d := "[LLentMinds$Word;") (v := .ref (sa 4000)) hx hb hG.2.2.2.2.2.2.2.2.2.2.2.2.2.2.1 hS hown (va_Nw.use rfl (hG.2.2.2.2.2.2.2.2.2.2.2.2.2.2.2.2.2.2.2.2.2.2 ("LentMinds$Reader", 77, "LentMinds", "WORDS", "[LLentMinds$Word;") (by decide))) (fun _ h9 => h9) dX7_readWord_60 ?_
                    refine va_tlen (v := 8) hx hb hG.2.2.2.2.2.2.2.2.2.2.2.2.2.2.2.1 hS rfl dX7_readWord_63 ?_
                    refine lv_icmp_ge (tgt := 95) hx hb dX7_readWord_64 (by decide) (fun h => absurd h (by decide)) (fun _ => ?_)
                    refine lv_aload_n hx hb dX7_readWord_67 rfl (lv_at hl 2 rfl) ?_
                    refine va_getsN (C := "LentMinds") (n := "WORDS") (d := "[LLentMinds$Word;") (v := .ref (sa 4000)) hx hb hG.2.2.2.2.2.2.2.2.2.2.2.2.2.2.1 hS hown (va_Nw.use rfl (hG.2.2.2.2.2.2.2.2.2.2.2.2.2.2.2.2.2.2.2.2.2.2 ("LentMinds$Reader", 77, "LentMinds", "WORDS", "[LLentMinds$Word;") (by decide))) (fun _ h9 => h9) dX7_readWord_68 ?_
                    refine lv_iload_n hx hb dX7_readWord_71 rfl (lv_at hl 0 rfl) ?_
                    refine vb_tq (v := .ref (sa 1005)) hx hb hG.2.2.2.2.2.2.2.2.2.2.2.2.2.2.2.1 hS (by unfold vp_in; decide) rfl dX7_readWord_72 ?_
                    refine va_getX (i := 5) hx hb hG.2.2.2.2.2.2.2.2.2.2.2.2.1 (by decide) hS hown (hts _ wm_2087) (fun _ h9 => h9) dX7_readWord_73 ?_
                    refine W.eq (g2 := F0 m 76 ls [.ref (sa 2005), .ref ra]) rfl ?_
                    refine lv_iload_n hx hb dX7_readWord_76 rfl (lv_at hl 1 rfl) ?_
                    refine k_cali [] (⟨hP, hD, hG, hS, hA, rfl, rfl⟩ : kAt D cy sa A s H _ _ [(ra, .inr (9, [.ref ra_numbers, .ref ra_text, .int r_length, .int k1qr_at, .int r_fault, .int r_place])), (ra_text, .inl (cy 1, 500, .inl rf_text))] [0, 1]) (wr := []) rfl rfl (by decide) (k_runV 9 0 (As := [.ref (sa 2005), .int r_at]) (rest := []) E lk_VRX7_85 rfl rfl rfl (c_isSpelled l hl0 D cy sa ra ra_numbers ra_text r_length k1qr_at r_fault r_place r_at rf_text (5) ⟨by omega, by omega⟩ ⟨by omega, by omega⟩ ⟨by omega, by omega⟩ (by first | exact hkk | decide | omega) H.size) (⟨hP, hD, hG, hS, hA, rfl, rfl⟩ : kAt D cy sa A s H _ _ [(ra, .inr (9, [.ref ra_numbers, .ref ra_text, .int r_length, .int k1qr_at, .int r_fault, .int r_place])), (ra_text, .inl (cy 1, 500, .inl rf_text))] [0, 1]) hl.1 rfl rfl ⟨rfl, rfl, ⟨Nat.le_of_ble_eq_true rfl, Nat.le_of_ble_eq_true rfl⟩, ⟨Nat.le_of_ble_eq_true rfl, Nat.le_of_ble_eq_true rfl⟩, Nat.le_of_ble_eq_true rfl⟩ dX7_readWord_77) (fun r57q u58q H locs hwu58q hP hD hS => ?_)
                    have hP : va_P D vwCl [(ra, .inr (9, [.ref ra_numbers, .ref ra_text, .int r_length, .int k1qr_at, .int r_fault, .int r_place])), (ra_text, .inl (cy 1, 500, .inl rf_text))] H := hP
                    have hD : va_D A [(ra, .inr (9, [.ref ra_numbers, .ref ra_text, .int r_length, .int k1qr_at, .int r_fault, .int r_place])), (ra_text, .inl (cy 1, 500, .inl rf_text))] := hD
                    have p59q := hwu58q
                    refine lv_if_eq (tgt := 89) hx hb dX7_readWord_80 (by decide) (fun c60q => ?_) (fun c60q => ?_)
                    · simp only [k_lt, k_le, k_eq, ne_eq, ge_iff_le, gt_iff_lt, n_L0, n_L0] at c60q
                      refine lv_iinc (v := 6) (lv' := [(2, .int 6), (1, .int r_at), (0, .ref ra)]) hx hb dX7_readWord_89 hl (k := 0) rfl (by decide) (by decide) rfl (fun ls hl => ?_)
                      refine lv_goto (tgt := 59) hx hb dX7_readWord_92 (by decide) ?_
                      refine lv_iload_n hx hb dX7_readWord_59 rfl (lv_at hl 0 rfl) ?_
                      refine va_getsN (C := "LentMinds") (n := "WORDS") (d := "[LLentMinds$Word;") (v := .ref (sa 4000)) hx hb hG.2.2.2.2.2.2.2.2.2.2.2.2.2.2.1 hS hown (va_Nw.use rfl (hG.2.2.2.2.2.2.2.2.2.2.2.2.2.2.2.2.2.2.2.2.2.2 ("LentMinds$Reader", 77, "LentMinds", "WORDS", "[LLentMinds$Word;") (by decide))) (fun _ h9 => h9) dX7_readWord_60 ?_
                      refine va_tlen (v := 8) hx hb hG.2.2.2.2.2.2.2.2.2.2.2.2.2.2.2.1 hS rfl dX7_readWord_63 ?_
                      refine lv_icmp_ge (tgt := 95) hx hb dX7_readWord_64 (by decide) (fun h => absurd h (by decide)) (fun _ => ?_)
                      refine lv_aload_n hx hb dX7_readWord_67 rfl (lv_at hl 2 rfl) ?_
                      refine va_getsN (C := "LentMinds") (n := "WORDS") (d := "[LLentMinds$Word;") (v := .ref (sa 4000)) hx hb hG.2.2.2.2.2.2.2.2.2.2.2.2.2.2.1 hS hown (va_Nw.use rfl (hG.2.2.2.2.2.2.2.2.2.2.2.2.2.2.2.2.2.2.2.2.2.2 ("LentMinds$Reader", 77, "LentMinds", "WORDS", "[LLentMinds$Word;") (by decide))) (fun _ h9 => h9) dX7_readWord_68 ?_
                      refine lv_iload_n hx hb dX7_readWord_71 rfl (lv_at hl 0 rfl) ?_
                      refine vb_tq (v := .ref (sa 1006)) hx hb hG.2.2.2.2.2.2.2.2.2.2.2.2.2.2.2.1 hS (by unfold vp_in; decide) rfl dX7_readWord_72 ?_
                      refine va_getX (i := 6) hx hb hG.2.2.2.2.2.2.2.2.2.2.2.2.1 (by decide) hS hown (hts _ wm_2087) (fun _ h9 => h9) dX7_readWord_73 ?_
                      refine W.eq (g2 := F0 m 76 ls [.ref (sa 2006), .ref ra]) rfl ?_
                      refine lv_iload_n hx hb dX7_readWord_76 rfl (lv_at hl 1 rfl) ?_
                      refine k_cali [] (⟨hP, hD, hG, hS, hA, rfl, rfl⟩ : kAt D cy sa A s H _ _ [(ra, .inr (9, [.ref ra_numbers, .ref ra_text, .int r_length, .int k1qr_at, .int r_fault, .int r_place])), (ra_text, .inl (cy 1, 500, .inl rf_text))] [0, 1]) (wr := []) rfl rfl (by decide) (k_runV 9 0 (As := [.ref (sa 2006), .int r_at]) (rest := []) E lk_VRX7_85 rfl rfl rfl (c_isSpelled l hl0 D cy sa ra ra_numbers ra_text r_length k1qr_at r_fault r_place r_at rf_text (6) ⟨by omega, by omega⟩ ⟨by omega, by omega⟩ ⟨by omega, by omega⟩ (by first | exact hkk | decide | omega) H.size) (⟨hP, hD, hG, hS, hA, rfl, rfl⟩ : kAt D cy sa A s H _ _ [(ra, .inr (9, [.ref ra_numbers, .ref ra_text, .int r_length, .int k1qr_at, .int r_fault, .int r_place])), (ra_text, .inl (cy 1, 500, .inl rf_text))] [0, 1]) hl.1 rfl rfl ⟨rfl, rfl, ⟨Nat.le_of_ble_eq_true rfl, Nat.le_of_ble_eq_true rfl⟩, ⟨Nat.le_of_ble_eq_true rfl, Nat.le_of_ble_eq_true rfl⟩, Nat.le_of_ble_eq_true rfl⟩ dX7_readWord_77) (fun r61q u62q H locs hwu62q hP hD hS => ?_)
                      have hP : va_P D vwCl [(ra, .inr (9, [.ref ra_numbers, .ref ra_text, .int r_length, .int k1qr_at, .int r_fault, .int r_place])), (ra_text, .inl (cy 1, 500, .inl rf_text))] H := hP
                      have hD : va_D A [(ra, .inr (9, [.ref ra_numbers, .ref ra_text, .int r_length, .int k1qr_at, .int r_fault, .int r_place])), (ra_text, .inl (cy 1, 500, .inl rf_text))] := hD
                      have p63q := hwu62q
                      refine lv_if_eq (tgt := 89) hx hb dX7_readWord_80 (by decide) (fun c64q => ?_) (fun c64q => ?_)
                      · simp only [k_lt, k_le, k_eq, ne_eq, ge_iff_le, gt_iff_lt, n_L0, n_L0] at c64q
                        refine lv_iinc (v := 7) (lv' := [(2, .int 7), (1, .int r_at), (0, .ref ra)]) hx hb dX7_readWord_89 hl (k := 0) rfl (by decide) (by decide) rfl (fun ls hl => ?_)
                        refine lv_goto (tgt := 59) hx hb dX7_readWord_92 (by decide) ?_
                        refine lv_iload_n hx hb dX7_readWord_59 rfl (lv_at hl 0 rfl) ?_
                        refine va_getsN (C := "LentMinds") (n := "WORDS") (d := "[LLentMinds$Word;") (v := .ref (sa 4000)) hx hb hG.2.2.2.2.2.2.2.2.2.2.2.2.2.2.1 hS hown (va_Nw.use rfl (hG.2.2.2.2.2.2.2.2.2.2.2.2.2.2.2.2.2.2.2.2.2.2 ("LentMinds$Reader", 77, "LentMinds", "WORDS", "[LLentMinds$Word;") (by decide))) (fun _ h9 => h9) dX7_readWord_60 ?_
                        refine va_tlen (v := 8) hx hb hG.2.2.2.2.2.2.2.2.2.2.2.2.2.2.2.1 hS rfl dX7_readWord_63 ?_
                        refine lv_icmp_ge (tgt := 95) hx hb dX7_readWord_64 (by decide) (fun h => absurd h (by decide)) (fun _ => ?_)
                        refine lv_aload_n hx hb dX7_readWord_67 rfl (lv_at hl 2 rfl) ?_
                        refine va_getsN (C := "LentMinds") (n := "WORDS") (d := "[LLentMinds$Word;") (v := .ref (sa 4000)) hx hb hG.2.2.2.2.2.2.2.2.2.2.2.2.2.2.1 hS hown (va_Nw.use rfl (hG.2.2.2.2.2.2.2.2.2.2.2.2.2.2.2.2.2.2.2.2.2.2 ("LentMinds$Reader", 77, "LentMinds", "WORDS", "[LLentMinds$Word;") (by decide))) (fun _ h9 => h9) dX7_readWord_68 ?_
                        refine lv_iload_n hx hb dX7_readWord_71 rfl (lv_at hl 0 rfl) ?_
                        refine vb_tq (v := .ref (sa 1007)) hx hb hG.2.2.2.2.2.2.2.2.2.2.2.2.2.2.2.1 hS (by unfold vp_in; decide) rfl dX7_readWord_72 ?_
                        refine va_getX (i := 7) hx hb hG.2.2.2.2.2.2.2.2.2.2.2.2.1 (by decide) hS hown (hts _ wm_2087) (fun _ h9 => h9) dX7_readWord_73 ?_
                        refine W.eq (g2 := F0 m 76 ls [.ref (sa 2007), .ref ra]) rfl ?_
                        refine lv_iload_n hx hb dX7_readWord_76 rfl (lv_at hl 1 rfl) ?_
                        refine k_cali [] (⟨hP, hD, hG, hS, hA, rfl, rfl⟩ : kAt D cy sa A s H _ _ [(ra, .inr (9, [.ref ra_numbers, .ref ra_text, .int r_length, .int k1qr_at, .int r_fault, .int r_place])), (ra_text, .inl (cy 1, 500, .inl rf_text))] [0, 1]) (wr := []) rfl rfl (by decide) (k_runV 9 0 (As := [.ref (sa 2007), .int r_at]) (rest := []) E lk_VRX7_85 rfl rfl rfl (c_isSpelled l hl0 D cy sa ra ra_numbers ra_text r_length k1qr_at r_fault r_place r_at rf_text (7) ⟨by omega, by omega⟩ ⟨by omega, by omega⟩ ⟨by omega, by omega⟩ (by first | exact hkk | decide | omega) H.size) (⟨hP, hD, hG, hS, hA, rfl, rfl⟩ : kAt D cy sa A s H _ _ [(ra, .inr (9, [.ref ra_numbers, .ref ra_text, .int r_length, .int k1qr_at, .int r_fault, .int r_place])), (ra_text, .inl (cy 1, 500, .inl rf_text))] [0, 1]) hl.1 rfl rfl ⟨rfl, rfl, ⟨Nat.le_of_ble_eq_true rfl, Nat.le_of_ble_eq_true rfl⟩, ⟨Nat.le_of_ble_eq_true rfl, Nat.le_of_ble_eq_true rfl⟩, Nat.le_of_ble_eq_true rfl⟩ dX7_readWord_77) (fun r65q u66q H locs hwu66q hP hD hS => ?_)
                        have hP : va_P D vwCl [(ra, .inr (9, [.ref ra_numbers, .ref ra_text, .int r_length, .int k1qr_at, .int r_fault, .int r_place])), (ra_text, .inl (cy 1, 500, .inl rf_text))] H := hP
                        have hD : va_D A [(ra, .inr (9, [.ref ra_numbers, .ref ra_text, .int r_length, .int k1qr_at, .int r_fault, .int r_place])), (ra_text, .inl (cy 1, 500, .inl rf_text))] := hD
                        have p67q := hwu66q
                        refine lv_if_eq (tgt := 89) hx hb dX7_readWord_80 (by decide) (fun c68q => ?_) (fun c68q => ?_)
                        · simp only [k_lt, k_le, k_eq, ne_eq, ge_iff_le, gt_iff_lt, n_L0, n_L0] at c68q
                          refine lv_iinc (v := 8) (lv' := [(2, .int 8), (1, .int r_at), (0, .ref ra)]) hx hb dX7_readWord_89 hl (k := 0) rfl (by decide) (by decide) rfl (fun ls hl => ?_)
                          refine lv_goto (tgt := 59) hx hb dX7_readWord_92 (by decide) ?_
                          refine lv_iload_n hx hb dX7_readWord_59 rfl (lv_at hl 0 rfl) ?_
                          refine va_getsN (C := "LentMinds") (n := "WORDS") (d := "[LLentMinds$Word;") (v := .ref (sa 4000)) hx hb hG.2.2.2.2.2.2.2.2.2.2.2.2.2.2.1 hS hown (va_Nw.use rfl (hG.2.2.2.2.2.2.2.2.2.2.2.2.2.2.2.2.2.2.2.2.2.2 ("LentMinds$Reader", 77, "LentMinds", "WORDS", "[LLentMinds$Word;") (by decide))) (fun _ h9 => h9) dX7_readWord_60 ?_
                          refine va_tlen (v := 8) hx hb hG.2.2.2.2.2.2.2.2.2.2.2.2.2.2.2.1 hS rfl dX7_readWord_63 ?_
                          refine lv_icmp_ge (tgt := 95) hx hb dX7_readWord_64 (by decide) (fun _ => ?_) (fun h => absurd (by decide) h)
                          refine lv_null hx hb dX7_readWord_95 ?_
                          refine W.eq (g2 := F0 m 96 ls [va_re (fun i => sa (1000 + i)) none]) rfl ?_
                          rw [hQ0]
                          exact k_eret none (fun k => [k1qr_at].getD k 0, fun k => [].getD k (fun _ => 0)) hx hb hr hlk (⟨(show none = none ∨ none = some 0 ∨ none = some 1 ∨ none = some 2 ∨ none = some 3 ∨ none = some 4 ∨ none = some 5 ∨ none = some 6 ∨ none = some 7 by decide), (show 0 ≤ k1qr_at.toInt ∧ k1qr_at.toInt ≤ 500 from ⟨by omega, by omega⟩), (show k1qr_at.toInt ≤ r_length.toInt by omega)⟩) (hP.sub [0, 1] rfl) (hD.sub [0, 1] (by decide) rfl) hS (by decide) (by decide) dX7_readWord_96
                        · simp only [k_lt, k_le, k_eq, ne_eq, ge_iff_le, gt_iff_lt, n_L0, n_L0] at c68q
                          refine va_getsN (C := "LentMinds") (n := "WORDS") (d := "[LLentMinds$Word;") (v := .ref (sa 4000)) hx hb hG.2.2.2.2.2.2.2.2.2.2.2.2.2.2.1 hS hown (va_Nw.use rfl (hG.2.2.2.2.2.2.2.2.2.2.2.2.2.2.2.2.2.2.2.2.2.2 ("LentMinds$Reader", 77, "LentMinds", "WORDS", "[LLentMinds$Word;") (by decide))) (fun _ h9 => h9) dX7_readWord_83 ?_
                          refine lv_iload_n hx hb dX7_readWord_86 rfl (lv_at hl 0 rfl) ?_
                          refine vb_tq (v := .ref (sa 1007)) hx hb hG.2.2.2.2.2.2.2.2.2.2.2.2.2.2.2.1 hS (by unfold vp_in; decide) rfl dX7_readWord_87 ?_
                          refine W.eq (g2 := F0 m 88 ls [va_re (fun i => sa (1000 + i)) (some 7)]) rfl ?_
                          rw [hQ0]
                          exact k_eret (some 7) (fun k => [k1qr_at].getD k 0, fun k => [].getD k (fun _ => 0)) hx hb hr hlk (⟨(show ((some 7)) = none ∨ ((some 7)) = some 0 ∨ ((some 7)) = some 1 ∨ ((some 7)) = some 2 ∨ ((some 7)) = some 3 ∨ ((some 7)) = some 4 ∨ ((some 7)) = some 5 ∨ ((some 7)) = some 6 ∨ ((some 7)) = some 7 by decide), (show 0 ≤ k1qr_at.toInt ∧ k1qr_at.toInt ≤ 500 from ⟨by omega, by omega⟩), (show k1qr_at.toInt ≤ r_length.toInt by omega)⟩) (hP.sub [0, 1] rfl) (hD.sub [0, 1] (by decide) rfl) hS (by decide) (by decide) dX7_readWord_88
                      · simp only [k_lt, k_le, k_eq, ne_eq, ge_iff_le, gt_iff_lt, n_L0, n_L0] at c64q
                        refine va_getsN (C := "LentMinds") (n := "WORDS") (d := "[LLentMinds$Word;") (v := .ref (sa 4000)) hx hb hG.2.2.2.2.2.2.2.2.2.2.2.2.2.2.1 hS hown (va_Nw.use rfl (hG.2.2.2.2.2.2.2.2.2.2.2.2.2.2.2.2.2.2.2.2.2.2 ("LentMinds$Reader", 77, "LentMinds", "WORDS", "[LLentMinds$Word;") (by decide))) (fun _ h9 => h9) dX7_readWord_83 ?_
                        refine lv_iload_n hx hb dX7_readWord_86 rfl (lv_at hl 0 rfl) ?_
                        refine vb_tq (v := .ref (sa 1006)) hx hb hG.2.2.2.2.2.2.2.2.2.2.2.2.2.2.2.1 hS (by unfold vp_in; decide) rfl dX7_readWord_87 ?_
                        refine W.eq (g2 := F0 m 88 ls [va_re (fun i => sa (1000 + i)) (some 6)]) rfl ?_
                        rw [hQ0]
                        exact k_eret (some 6) (fun k => [k1qr_at].getD k 0, fun k => [].getD k (fun _ => 0)) hx hb hr hlk (⟨(show ((some 6)) = none ∨ ((some 6)) = some 0 ∨ ((some 6)) = some 1 ∨ ((some 6)) = some 2 ∨ ((some 6)) = some 3 ∨ ((some 6)) = some 4 ∨ ((some 6)) = some 5 ∨ ((some 6)) = some 6 ∨ ((some 6)) = some 7 by decide), (show 0 ≤ k1qr_at.toInt ∧ k1qr_at.toInt ≤ 500 from ⟨by omega, by omega⟩), (show k1qr_at.toInt ≤ r_length.toInt by omega)⟩) (hP.sub [0, 1] rfl) (hD.sub [0, 1] (by decide) rfl) hS (by decide) (by decide) dX7_readWord_88
                    · simp only [k_lt, k_le, k_eq, ne_eq, ge_iff_le, gt_iff_lt, n_L0, n_L0] at c60q
                      refine va_getsN (C := "LentMinds") (n := "WORDS") (d := "[LLentMinds$Word;") (v := .ref (sa 4000)) hx hb hG.2.2.2.2.2.2.2.2.2.2.2.2.2.2.1 hS hown (va_Nw.use rfl (hG.2.2.2.2.2.2.2.2.2.2.2.2.2.2.2.2.2.2.2.2.2.2 ("LentMinds$Reader", 77, "LentMinds", "WORDS", "[LLentMinds$Word;") (by decide))) (fun _ h9 => h9) dX7_readWord_83 ?_
                      refine lv_iload_n hx hb dX7_readWord_86 rfl (lv_at hl 0 rfl) ?_
                      refine vb_tq (v := .ref (sa 1005)) hx hb hG.2.2.2.2.2.2.2.2.2.2.2.2.2.2.2.1 hS (by unfold vp_in; decide) rfl dX7_readWord_87 ?_
                      refine W.eq (g2 := F0 m 88 ls [va_re (fun i => sa (1000 + i)) (some 5)]) rfl ?_
                      rw [hQ0]
                      exact k_eret (some 5) (fun k => [k1qr_at].getD k 0, fun k => [].getD k (fun _ => 0)) hx hb hr hlk (⟨(show ((some 5)) = none ∨ ((some 5)) = some 0 ∨ ((some 5)) = some 1 ∨ ((some 5)) = some 2 ∨ ((some 5)) = some 3 ∨ ((some 5)) = some 4 ∨ ((some 5)) = some 5 ∨ ((some 5)) = some 6 ∨ ((some 5)) = some 7 by decide), (show 0 ≤ k1qr_at.toInt ∧ k1qr_at.toInt ≤ 500 from ⟨by omega, by omega⟩), (show k1qr_at.toInt ≤ r_length.toInt by omega)⟩) (hP.sub [0, 1] rfl) (hD.sub [0, 1] (by decide) rfl) hS (by decide) (by decide) dX7_readWord_88
                  · simp only [k_lt, k_le, k_eq, ne_eq, ge_iff_le, gt_iff_lt, n_L0, n_L0] at c56q
                    refine va_getsN (C := "LentMinds") (n := "WORDS") (d := "[LLentMinds$Word;") (v := .ref (sa 4000)) hx hb hG.2.2.2.2.2.2.2.2.2.2.2.2.2.2.1 hS hown (va_Nw.use rfl (hG.2.2.2.2.2.2.2.2.2.2.2.2.2.2.2.2.2.2.2.2.2.2 ("LentMinds$Reader", 77, "LentMinds", "WORDS", "[LLentMinds$Word;") (by decide))) (fun _ h9 => h9) dX7_readWord_83 ?_
                    refine lv_iload_n hx hb dX7_readWord_86 rfl (lv_at hl 0 rfl) ?_
                    refine vb_tq (v := .ref (sa 1004)) hx hb hG.2.2.2.2.2.2.2.2.2.2.2.2.2.2.2.1 hS (by unfold vp_in; decide) rfl dX7_readWord_87 ?_
                    refine W.eq (g2 := F0 m 88 ls [va_re (fun i => sa (1000 + i)) (some 4)]) rfl ?_
                    rw [hQ0]
                    exact k_eret (some 4) (fun k => [k1qr_at].getD k 0, fun k => [].getD k (fun _ => 0)) hx hb hr hlk (⟨(show ((some 4)) = none ∨ ((some 4)) = some 0 ∨ ((some 4)) = some 1 ∨ ((some 4)) = some 2 ∨ ((some 4)) = some 3 ∨ ((some 4)) = some 4 ∨ ((some 4)) = some 5 ∨ ((some 4)) = some 6 ∨ ((some 4)) = some 7 by decide), (show 0 ≤ k1qr_at.toInt ∧ k1qr_at.toInt ≤ 500 from ⟨by omega, by omega⟩), (show k1qr_at.toInt ≤ r_length.toInt by omega)⟩) (hP.sub [0, 1] rfl) (hD.sub [0, 1] (by decide) rfl) hS (by decide) (by decide) dX7_readWord_88
                · simp only [k_lt, k_le, k_eq, ne_eq, ge_iff_le, gt_iff_lt, n_L0, n_L0] at c52q
                  refine va_getsN (C := "LentMinds") (n := "WORDS") (d := "[LLentMinds$Word;") (v := .ref (sa 4000)) hx hb hG.2.2.2.2.2.2.2.2.2.2.2.2.2.2.1 hS hown (va_Nw.use rfl (hG.2.2.2.2.2.2.2.2.2.2.2.2.2.2.2.2.2.2.2.2.2.2 ("LentMinds$Reader", 77, "LentMinds", "WORDS", "[LLentMinds$Word;") (by decide))) (fun _ h9 => h9) dX7_readWord_83 ?_
                  refine lv_iload_n hx hb dX7_readWord_86 rfl (lv_at hl 0 rfl) ?_
                  refine vb_tq (v := .ref (sa 1003)) hx hb hG.2.2.2.2.2.2.2.2.2.2.2.2.2.2.2.1 hS (by unfold vp_in; decide) rfl dX7_readWord_87 ?_
                  refine W.eq (g2 := F0 m 88 ls [va_re (fun i => sa (1000 + i)) (some 3)]) rfl ?_
                  rw [hQ0]
                  exact k_eret (some 3) (fun k => [k1qr_at].getD k 0, fun k => [].getD k (fun _ => 0)) hx hb hr hlk (⟨(show ((some 3)) = none ∨ ((some 3)) = some 0 ∨ ((some 3)) = some 1 ∨ ((some 3)) = some 2 ∨ ((some 3)) = some 3 ∨ ((some 3)) = some 4 ∨ ((some 3)) = some 5 ∨ ((some 3)) = some 6 ∨ ((some 3)) = some 7 by decide), (show 0 ≤ k1qr_at.toInt ∧ k1qr_at.toInt ≤ 500 from ⟨by omega, by omega⟩), (show k1qr_at.toInt ≤ r_length.toInt by omega)⟩) (hP.sub [0, 1] rfl) (hD.sub [0, 1] (by decide) rfl) hS (by decide) (by decide) dX7_readWord_88
              · simp only [k_lt, k_le, k_eq, ne_eq, ge_iff_le, gt_iff_lt, n_L0, n_L0] at c48q
                refine va_getsN (C := "LentMinds") (n := "WORDS") (d := "[LLentMinds$Word;") (v := .ref (sa 4000)) hx hb hG.2.2.2.2.2.2.2.2.2.2.2.2.2.2.1 hS hown (va_Nw.use rfl (hG.2.2.2.2.2.2.2.2.2.2.2.2.2.2.2.2.2.2.2.2.2.2 ("LentMinds$Reader", 77, "LentMinds", "WORDS", "[LLentMinds$Word;") (by decide))) (fun _ h9 => h9) dX7_readWord_83 ?_
                refine lv_iload_n hx hb dX7_readWord_86 rfl (lv_at hl 0 rfl) ?_
                refine vb_tq (v := .ref (sa 1002)) hx hb hG.2.2.2.2.2.2.2.2.2.2.2.2.2.2.2.1 hS (by unfold vp_in; decide) rfl dX7_readWord_87 ?_
                refine W.eq (g2 := F0 m 88 ls [va_re (fun i => sa (1000 + i)) (some 2)]) rfl ?_
                rw [hQ0]
                exact k_eret (some 2) (fun k => [k1qr_at].getD k 0, fun k => [].getD k (fun _ => 0)) hx hb hr hlk (⟨(show ((some 2)) = none ∨ ((some 2)) = some 0 ∨ ((some 2)) = some 1 ∨ ((some 2)) = some 2 ∨ ((some 2)) = some 3 ∨ ((some 2)) = some 4 ∨ ((some 2)) = some 5 ∨ ((some 2)) = some 6 ∨ ((some 2)) = some 7 by decide), (show 0 ≤ k1qr_at.toInt ∧ k1qr_at.toInt ≤ 500 from ⟨by omega, by omega⟩), (show k1qr_at.toInt ≤ r_length.toInt by omega)⟩) (hP.sub [0, 1] rfl) (hD.sub [0, 1] (by decide) rfl) hS (by decide) (by decide) dX7_readWord_88
            · simp only [k_lt, k_le, k_eq, ne_eq, ge_iff_le, gt_iff_lt, n_L0, n_L0] at c44q
              refine va_getsN (C := "LentMinds") (n := "WORDS") (d := "[LLentMinds$Word;") (v := .ref (sa 4000)) hx hb hG.2.2.2.2.2.2.2.2.2.2.2.2.2.2.1 hS hown (va_Nw.use rfl (hG.2.2.2.2.2.2.2.2.2.2.2.2.2.2.2.2.2.2.2.2.2.2 ("LentMinds$Reader", 77, "LentMinds", "WORDS", "[LLentMinds$Word;") (by decide))) (fun _ h9 => h9) dX7_readWord_83 ?_
              refine lv_iload_n hx hb dX7_readWord_86 rfl (lv_at hl 0 rfl) ?_
              refine vb_tq (v := .ref (sa 1001)) hx hb hG.2.2.2.2.2.2.2.2.2.2.2.2.2.2.2.1 hS (by unfold vp_in; decide) rfl dX7_readWord_87 ?_
              refine W.eq (g2 := F0 m 88 ls [va_re (fun i => sa (1000 + i)) (some 1)]) rfl ?_
              rw [hQ0]
              exact k_eret (some 1) (fun k => [k1qr_at].getD k 0, fun k => [].getD k (fun _ => 0)) hx hb hr hlk (⟨(show ((some 1)) = none ∨ ((some 1)) = some 0 ∨ ((some 1)) = some 1 ∨ ((some 1)) = some 2 ∨ ((some 1)) = some 3 ∨ ((some 1)) = some 4 ∨ ((some 1)) = some 5 ∨ ((some 1)) = some 6 ∨ ((some 1)) = some 7 by decide), (show 0 ≤ k1qr_at.toInt ∧ k1qr_at.toInt ≤ 500 from ⟨by omega, by omega⟩), (show k1qr_at.toInt ≤ r_length.toInt by omega)⟩) (hP.sub [0, 1] rfl) (hD.sub [0, 1] (by decide) rfl) hS (by decide) (by decide) dX7_readWord_88
          · simp only [k_lt, k_le, k_eq, ne_eq, ge_iff_le, gt_iff_lt, n_L0, n_L0] at c40q
            refine va_getsN (C := "LentMinds") (n := "WORDS") (d := "[LLentMinds$Word;") (v := .ref (sa 4000)) hx hb hG.2.2.2.2.2.2.2.2.2.2.2.2.2.2.1 hS hown (va_Nw.use rfl (hG.2.2.2.2.2.2.2.2.2.2.2.2.2.2.2.2.2.2.2.2.2.2 ("LentMinds$Reader", 77, "LentMinds", "WORDS", "[LLentMinds$Word;") (by decide))) (fun _ h9 => h9) dX7_readWord_83 ?_
            refine lv_iload_n hx hb dX7_readWord_86 rfl (lv_at hl 0 rfl) ?_
            refine vb_tq (v := .ref (sa 1000)) hx hb hG.2.2.2.2.2.2.2.2.2.2.2.2.2.2.2.1 hS (by unfold vp_in; decide) rfl dX7_readWord_87 ?_
            refine W.eq (g2 := F0 m 88 ls [va_re (fun i => sa (1000 + i)) (some 0)]) rfl ?_
            rw [hQ0]
            exact k_eret (some 0) (fun k => [k1qr_at].getD k 0, fun k => [].getD k (fun _ => 0)) hx hb hr hlk (⟨(show ((some 0)) = none ∨ ((some 0)) = some 0 ∨ ((some 0)) = some 1 ∨ ((some 0)) = some 2 ∨ ((some 0)) = some 3 ∨ ((some 0)) = some 4 ∨ ((some 0)) = some 5 ∨ ((some 0)) = some 6 ∨ ((some 0)) = some 7 by decide), (show 0 ≤ k1qr_at.toInt ∧ k1qr_at.toInt ≤ 500 from ⟨by omega, by omega⟩), (show k1qr_at.toInt ≤ r_length.toInt by omega)⟩) (hP.sub [0, 1] rfl) (hD.sub [0, 1] (by decide) rfl) hS (by decide) (by decide) dX7_readWord_88
        · simp only [k_lt, k_le, k_eq, ne_eq, ge_iff_le, gt_iff_lt, n_L97] at c36q
          refine lv_aload_n hx hb dX7_readWord_30 rfl (lv_at hl 1 rfl) ?_
          refine va_get (D := D) (ci := 9) (v := .ref ra_text) (C := RX7) (T := TX7) (N := 6) hx hb hts kin_RX7 hown hG.1 hP 0 rfl rfl 1 (by decide) (hts _ wm_48) (fun _ h9 => h9) rfl dX7_readWord_31 ?_
          refine lv_aload_n hx hb dX7_readWord_34 rfl (lv_at hl 1 rfl) ?_
          refine va_get (D := D) (ci := 9) (v := .int k1qr_at) (C := RX7) (T := TX7) (N := 6) hx hb hts kin_RX7 hown hG.1 hP 0 rfl rfl 3 (by decide) (hts _ wm_50) (fun _ h9 => h9) rfl dX7_readWord_35 ?_
          refine va_bald hx hb hG.1 hP 1 1 rfl rfl (n_in (by omega) (by omega)) dX7_readWord_38 ?_
          refine lv_topi (fun x69q ex69q => ?_)
          have qx69q : x35q = x69q := ex35q.trans ex69q.symm
          subst qx69q
          refine lv_bipush (v := 122) hx hb dX7_readWord_39 (by decide) ?_
          refine lv_icmp_gt (tgt := 57) hx hb dX7_readWord_41 (by decide) (fun c70q => ?_) (fun c70q => ?_)
          · simp only [k_lt, k_le, k_eq, ne_eq, ge_iff_le, gt_iff_lt, n_L122] at c70q
            refine lv_iconst (v := 0) hx hb dX7_readWord_57 (by decide) ?_
            refine lv_istore_n (lv' := [(2, .int 0), (1, .int r_at), (0, .ref ra)]) hx hb dX7_readWord_58 rfl hl (by decide) rfl (fun ls hl => ?_)
            refine lv_iload_n hx hb dX7_readWord_59 rfl (lv_at hl 0 rfl) ?_
            refine va_getsN (C := "LentMinds") (n := "WORDS") (d := "[LLentMinds$Word;") (v := .ref (sa 4000)) hx hb hG.2.2.2.2.2.2.2.2.2.2.2.2.2.2.1 hS hown (va_Nw.use rfl (hG.2.2.2.2.2.2.2.2.2.2.2.2.2.2.2.2.2.2.2.2.2.2 ("LentMinds$Reader", 77, "LentMinds", "WORDS", "[LLentMinds$Word;") (by decide))) (fun _ h9 => h9) dX7_readWord_60 ?_
            refine va_tlen (v := 8) hx hb hG.2.2.2.2.2.2.2.2.2.2.2.2.2.2.2.1 hS rfl dX7_readWord_63 ?_
            refine lv_icmp_ge (tgt := 95) hx hb dX7_readWord_64 (by decide) (fun h => absurd h (by decide)) (fun _ => ?_)
            refine lv_aload_n hx hb dX7_readWord_67 rfl (lv_at hl 2 rfl) ?_
            refine va_getsN (C := "LentMinds") (n := "WORDS") (d := "[LLentMinds$Word;") (v := .ref (sa 4000)) hx hb hG.2.2.2.2.2.2.2.2.2.2.2.2.2.2.1 hS hown (va_Nw.use rfl (hG.2.2.2.2.2.2.2.2.2.2.2.2.2.2.2.2.2.2.2.2.2.2 ("LentMinds$Reader", 77, "LentMinds", "WORDS", "[LLentMinds$Word;") (by decide))) (fun _ h9 => h9) dX7_readWord_68 ?_
            refine lv_iload_n hx hb dX7_readWord_71 rfl (lv_at hl 0 rfl) ?_
            refine vb_tq (v := .ref (sa 1000)) hx hb hG.2.2.2.2.2.2.2.2.2.2.2.2.2.2.2.1 hS (by unfold vp_in; decide) rfl dX7_readWord_72 ?_
            refine va_getX (i := 0) hx hb hG.2.2.2.2.2.2.2.2.2.2.2.2.1 (by decide) hS hown (hts _ wm_2087) (fun _ h9 => h9) dX7_readWord_73 ?_
            refine W.eq (g2 := F0 m 76 ls [.ref (sa 2000), .ref ra]) rfl ?_
            refine lv_iload_n hx hb dX7_readWord_76 rfl (lv_at hl 1 rfl) ?_
            refine k_cali [] (⟨hP, hD, hG, hS, hA, rfl, rfl⟩ : kAt D cy sa A s H _ _ [(ra, .inr (9, [.ref ra_numbers, .ref ra_text, .int r_length, .int k1qr_at, .int r_fault, .int r_place])), (ra_text, .inl (cy 1, 500, .inl rf_text))] [0, 1]) (wr := []) rfl rfl (by decide) (k_runV 9 0 (As := [.ref (sa 2000), .int r_at]) (rest := []) E lk_VRX7_85 rfl rfl rfl (c_isSpelled l hl0 D cy sa ra ra_numbers ra_text r_length k1qr_at r_fault r_place r_at rf_text (0) ⟨by omega, by omega⟩ ⟨by omega, by omega⟩ ⟨by omega, by omega⟩ (by first | exact hkk | decide | omega) H.size) (⟨hP, hD, hG, hS, hA, rfl, rfl⟩ : kAt D cy sa A s H _ _ [(ra, .inr (9, [.ref ra_numbers, .ref ra_text, .int r_length, .int k1qr_at, .int r_fault, .int r_place])), (ra_text, .inl (cy 1, 500, .inl rf_text))] [0, 1]) hl.1 rfl rfl ⟨rfl, rfl, ⟨Nat.le_of_ble_eq_true rfl, Nat.le_of_ble_eq_true rfl⟩, ⟨Nat.le_of_ble_eq_true rfl, Nat.le_of_ble_eq_true rfl⟩, Nat.le_of_ble_eq_true rfl⟩ dX7_readWord_77) (fun r71q u72q H locs hwu72q hP hD hS => ?_)
            have hP : va_P D vwCl [(ra, .inr (9, [.ref ra_numbers, .ref ra_text, .int r_length, .int k1qr_at, .int r_fault, .int r_place])), (ra_text, .inl (cy 1, 500, .inl rf_text))] H := hP
            have hD : va_D A [(ra, .inr (9, [.ref ra_numbers, .ref ra_text, .int r_length, .int k1qr_at, .int r_fault, .int r_place])), (ra_text, .inl (cy 1, 500, .inl rf_text))] := hD
            have p73q := hwu72q
            refine lv_if_eq (tgt := 89) hx hb dX7_readWord_80 (by decide) (fun c74q => ?_) (fun c74q => ?_)
            · simp only [k_lt, k_le, k_eq, ne_eq, ge_iff_le, gt_iff_lt, n_L0, n_L0] at c74q
              refine lv_iinc (v := 1) (lv' := [(2, .int 1), (1, .int r_at), (0, .ref ra)]) hx hb dX7_readWord_89 hl (k := 0) rfl (by decide) (by decide) rfl (fun ls hl => ?_)
              refine lv_goto (tgt := 59) hx hb dX7_readWord_92 (by decide) ?_
              refine lv_iload_n hx hb dX7_readWord_59 rfl (lv_at hl 0 rfl) ?_
              refine va_getsN (C := "LentMinds") (n := "WORDS") (d := "[LLentMinds$Word;") (v := .ref (sa 4000)) hx hb hG.2.2.2.2.2.2.2.2.2.2.2.2.2.2.1 hS hown (va_Nw.use rfl (hG.2.2.2.2.2.2.2.2.2.2.2.2.2.2.2.2.2.2.2.2.2.2 ("LentMinds$Reader", 77, "LentMinds", "WORDS", "[LLentMinds$Word;") (by decide))) (fun _ h9 => h9) dX7_readWord_60 ?_
              refine va_tlen (v := 8) hx hb hG.2.2.2.2.2.2.2.2.2.2.2.2.2.2.2.1 hS rfl dX7_readWord_63 ?_
              refine lv_icmp_ge (tgt := 95) hx hb dX7_readWord_64 (by decide) (fun h => absurd h (by decide)) (fun _ => ?_)
              refine lv_aload_n hx hb dX7_readWord_67 rfl (lv_at hl 2 rfl) ?_
              refine va_getsN (C := "LentMinds") (n := "WORDS") (d := "[LLentMinds$Word;") (v := .ref (sa 4000)) hx hb hG.2.2.2.2.2.2.2.2.2.2.2.2.2.2.1 hS hown (va_Nw.use rfl (hG.2.2.2.2.2.2.2.2.2.2.2.2.2.2.2.2.2.2.2.2.2.2 ("LentMinds$Reader", 77, "LentMinds", "WORDS", "[LLentMinds$Word;") (by decide))) (fun _ h9 => h9) dX7_readWord_68 ?_
              refine lv_iload_n hx hb dX7_readWord_71 rfl (lv_at hl 0 rfl) ?_
              refine vb_tq (v := .ref (sa 1001)) hx hb hG.2.2.2.2.2.2.2.2.2.2.2.2.2.2.2.1 hS (by unfold vp_in; decide) rfl dX7_readWord_72 ?_
              refine va_getX (i := 1) hx hb hG.2.2.2.2.2.2.2.2.2.2.2.2.1 (by decide) hS hown (hts _ wm_2087) (fun _ h9 => h9) dX7_readWord_73 ?_
              refine W.eq (g2 := F0 m 76 ls [.ref (sa 2001), .ref ra]) rfl ?_
              refine lv_iload_n hx hb dX7_readWord_76 rfl (lv_at hl 1 rfl) ?_
              refine k_cali [] (⟨hP, hD, hG, hS, hA, rfl, rfl⟩ : kAt D cy sa A s H _ _ [(ra, .inr (9, [.ref ra_numbers, .ref ra_text, .int r_length, .int k1qr_at, .int r_fault, .int r_place])), (ra_text, .inl (cy 1, 500, .inl rf_text))] [0, 1]) (wr := []) rfl rfl (by decide) (k_runV 9 0 (As := [.ref (sa 2001), .int r_at]) (rest := []) E lk_VRX7_85 rfl rfl rfl (c_isSpelled l hl0 D cy sa ra ra_numbers ra_text r_length k1qr_at r_fault r_place r_at rf_text (1) ⟨by omega, by omega⟩ ⟨by omega, by omega⟩ ⟨by omega, by omega⟩ (by first | exact hkk | decide | omega) H.size) (⟨hP, hD, hG, hS, hA, rfl, rfl⟩ : kAt D cy sa A s H _ _ [(ra, .inr (9, [.ref ra_numbers, .ref ra_text, .int r_length, .int k1qr_at, .int r_fault, .int r_place])), (ra_text, .inl (cy 1, 500, .inl rf_text))] [0, 1]) hl.1 rfl rfl ⟨rfl, rfl, ⟨Nat.le_of_ble_eq_true rfl, Nat.le_of_ble_eq_true rfl⟩, ⟨Nat.le_of_ble_eq_true rfl, Nat.le_of_ble_eq_true rfl⟩, Nat.le_of_ble_eq_true rfl⟩ dX7_readWord_77) (fun r75q u76q H locs hwu76q hP hD hS => ?_)
              have hP : va_P D vwCl [(ra, .inr (9, [.ref ra_numbers, .ref ra_text, .int r_length, .int k1qr_at, .int r_fault, .int r_place])), (ra_text, .inl (cy 1, 500, .inl rf_text))] H := hP
              have hD : va_D A [(ra, .inr (9, [.ref ra_numbers, .ref ra_text, .int r_length, .int k1qr_at, .int r_fault, .int r_place])), (ra_text, .inl (cy 1, 500, .inl rf_text))] := hD
              have p77q := hwu76q
              refine lv_if_eq (tgt := 89) hx hb dX7_readWord_80 (by decide) (fun c78q => ?_) (fun c78q => ?_)
              · simp only [k_lt, k_le, k_eq, ne_eq, ge_iff_le, gt_iff_lt, n_L0, n_L0] at c78q
                refine lv_iinc (v := 2) (lv' := [(2, .int 2), (1, .int r_at), (0, .ref ra)]) hx hb dX7_readWord_89 hl (k := 0) rfl (by decide) (by decide) rfl (fun ls hl => ?_)
                refine lv_goto (tgt := 59) hx hb dX7_readWord_92 (by decide) ?_
                refine lv_iload_n hx hb dX7_readWord_59 rfl (lv_at hl 0 rfl) ?_
                refine va_getsN (C := "LentMinds") (n := "WORDS") (d := "[LLentMinds$Word;") (v := .ref (sa 4000)) hx hb hG.2.2.2.2.2.2.2.2.2.2.2.2.2.2.1 hS hown (va_Nw.use rfl (hG.2.2.2.2.2.2.2.2.2.2.2.2.2.2.2.2.2.2.2.2.2.2 ("LentMinds$Reader", 77, "LentMinds", "WORDS", "[LLentMinds$Word;") (by decide))) (fun _ h9 => h9) dX7_readWord_60 ?_
                refine va_tlen (v := 8) hx hb hG.2.2.2.2.2.2.2.2.2.2.2.2.2.2.2.1 hS rfl dX7_readWord_63 ?_
                refine lv_icmp_ge (tgt := 95) hx hb dX7_readWord_64 (by decide) (fun h => absurd h (by decide)) (fun _ => ?_)
                refine lv_aload_n hx hb dX7_readWord_67 rfl (lv_at hl 2 rfl) ?_
                refine va_getsN (C := "LentMinds") (n := "WORDS") (d := "[LLentMinds$Word;") (v := .ref (sa 4000)) hx hb hG.2.2.2.2.2.2.2.2.2.2.2.2.2.2.1 hS hown (va_Nw.use rfl (hG.2.2.2.2.2.2.2.2.2.2.2.2.2.2.2.2.2.2.2.2.2.2 ("LentMinds$Reader", 77, "LentMinds", "WORDS", "[LLentMinds$Word;") (by decide))) (fun _ h9 => h9) dX7_readWord_68 ?_
                refine lv_iload_n hx hb dX7_readWord_71 rfl (lv_at hl 0 rfl) ?_
                refine vb_tq (v := .ref (sa 1002)) hx hb hG.2.2.2.2.2.2.2.2.2.2.2.2.2.2.2.1 hS (by unfold vp_in; decide) rfl dX7_readWord_72 ?_
                refine va_getX (i := 2) hx hb hG.2.2.2.2.2.2.2.2.2.2.2.2.1 (by decide) hS hown (hts _ wm_2087) (fun _ h9 => h9) dX7_readWord_73 ?_
                refine W.eq (g2 := F0 m 76 ls [.ref (sa 2002), .ref ra]) rfl ?_
                refine lv_iload_n hx hb dX7_readWord_76 rfl (lv_at hl 1 rfl) ?_
                refine k_cali [] (⟨hP, hD, hG, hS, hA, rfl, rfl⟩ : kAt D cy sa A s H _ _ [(ra, .inr (9, [.ref ra_numbers, .ref ra_text, .int r_length, .int k1qr_at, .int r_fault, .int r_place])), (ra_text, .inl (cy 1, 500, .inl rf_text))] [0, 1]) (wr := []) rfl rfl (by decide) (k_runV 9 0 (As := [.ref (sa 2002), .int r_at]) (rest := []) E lk_VRX7_85 rfl rfl rfl (c_isSpelled l hl0 D cy sa ra ra_numbers ra_text r_length k1qr_at r_fault r_place r_at rf_text (2) ⟨by omega, by omega⟩ ⟨by omega, by omega⟩ ⟨by omega, by omega⟩ (by first | exact hkk | decide | omega) H.size) (⟨hP, hD, hG, hS, hA, rfl, rfl⟩ : kAt D cy sa A s H _ _ [(ra, .inr (9, [.ref ra_numbers, .ref ra_text, .int r_length, .int k1qr_at, .int r_fault, .int r_place])), (ra_text, .inl (cy 1, 500, .inl rf_text))] [0, 1]) hl.1 rfl rfl ⟨rfl, rfl, ⟨Nat.le_of_ble_eq_true rfl, Nat.le_of_ble_eq_true rfl⟩, ⟨Nat.le_of_ble_eq_true rfl, Nat.le_of_ble_eq_true rfl⟩, Nat.le_of_ble_eq_true rfl⟩ dX7_readWord_77) (fun r79q u80q H locs hwu80q hP hD hS => ?_)
                have hP : va_P D vwCl [(ra, .inr (9, [.ref ra_numbers, .ref ra_text, .int r_length, .int k1qr_at, .int r_fault, .int r_place])), (ra_text, .inl (cy 1, 500, .inl rf_text))] H := hP
                have hD : va_D A [(ra, .inr (9, [.ref ra_numbers, .ref ra_text, .int r_length, .int k1qr_at, .int r_fault, .int r_place])), (ra_text, .inl (cy 1, 500, .inl rf_text))] := hD
                have p81q := hwu80q
                refine lv_if_eq (tgt := 89) hx hb dX7_readWord_80 (by decide) (fun c82q => ?_) (fun c82q => ?_)
                · simp only [k_lt, k_le, k_eq, ne_eq, ge_iff_le, gt_iff_lt, n_L0, n_L0] at c82q
                  refine lv_iinc (v := 3) (lv' := [(2, .int 3), (1, .int r_at), (0, .ref ra)]) hx hb dX7_readWord_89 hl (k := 0) rfl (by decide) (by decide) rfl (fun ls hl => ?_)
                  refine lv_goto (tgt := 59) hx hb dX7_readWord_92 (by decide) ?_
                  refine lv_iload_n hx hb dX7_readWord_59 rfl (lv_at hl 0 rfl) ?_
                  refine va_getsN (C := "LentMinds") (n := "WORDS") (d := "[LLentMinds$Word;") (v := .ref (sa 4000)) hx hb hG.2.2.2.2.2.2.2.2.2.2.2.2.2.2.1 hS hown (va_Nw.use rfl (hG.2.2.2.2.2.2.2.2.2.2.2.2.2.2.2.2.2.2.2.2.2.2 ("LentMinds$Reader", 77, "LentMinds", "WORDS", "[LLentMinds$Word;") (by decide))) (fun _ h9 => h9) dX7_readWord_60 ?_
                  refine va_tlen (v := 8) hx hb hG.2.2.2.2.2.2.2.2.2.2.2.2.2.2.2.1 hS rfl dX7_readWord_63 ?_
                  refine lv_icmp_ge (tgt := 95) hx hb dX7_readWord_64 (by decide) (fun h => absurd h (by decide)) (fun _ => ?_)
                  refine lv_aload_n hx hb dX7_readWord_67 rfl (lv_at hl 2 rfl) ?_
                  refine va_getsN (C := "LentMinds") (n := "WORDS") (d := "[LLentMinds$Word;") (v := .ref (sa 4000)) hx hb hG.2.2.2.2.2.2.2.2.2.2.2.2.2.2.1 hS hown (va_Nw.use rfl (hG.2.2.2.2.2.2.2.2.2.2.2.2.2.2.2.2.2.2.2.2.2.2 ("LentMinds$Reader", 77, "LentMinds", "WORDS", "[LLentMinds$Word;") (by decide))) (fun _ h9 => h9) dX7_readWord_68 ?_
                  refine lv_iload_n hx hb dX7_readWord_71 rfl (lv_at hl 0 rfl) ?_
                  refine vb_tq (v := .ref (sa 1003)) hx hb hG.2.2.2.2.2.2.2.2.2.2.2.2.2.2.2.1 hS (by unfold vp_in; decide) rfl dX7_readWord_72 ?_
                  refine va_getX (i := 3) hx hb hG.2.2.2.2.2.2.2.2.2.2.2.2.1 (by decide) hS hown (hts _ wm_2087) (fun _ h9 => h9) dX7_readWord_73 ?_
                  refine W.eq (g2 := F0 m 76 ls [.ref (sa 2003), .ref ra]) rfl ?_
                  refine lv_iload_n hx hb dX7_readWord_76 rfl (lv_at hl 1 rfl) ?_
                  refine k_cali [] (⟨hP, hD, hG, hS, hA, rfl, rfl⟩ : kAt D cy sa A s H _ _ [(ra, .inr (9, [.ref ra_numbers, .ref ra_text, .int r_length, .int k1qr_at, .int r_fault, .int r_place])), (ra_text, .inl (cy 1, 500, .inl rf_text))] [0, 1]) (wr := []) rfl rfl (by decide) (k_runV 9 0 (As := [.ref (sa 2003), .int r_at]) (rest := []) E lk_VRX7_85 rfl rfl rfl (c_isSpelled l hl0 D cy sa ra ra_numbers ra_text r_length k1qr_at r_fault r_place r_at rf_text (3) ⟨by omega, by omega⟩ ⟨by omega, by omega⟩ ⟨by omega, by omega⟩ (by first | exact hkk | decide | omega) H.size) (⟨hP, hD, hG, hS, hA, rfl, rfl⟩ : kAt D cy sa A s H _ _ [(ra, .inr (9, [.ref ra_numbers, .ref ra_text, .int r_length, .int k1qr_at, .int r_fault, .int r_place])), (ra_text, .inl (cy 1, 500, .inl rf_text))] [0, 1]) hl.1 rfl rfl ⟨rfl, rfl, ⟨Nat.le_of_ble_eq_true rfl, Nat.le_of_ble_eq_true rfl⟩, ⟨Nat.le_of_ble_eq_true rfl, Nat.le_of_ble_eq_true rfl⟩, Nat.le_of_ble_eq_true rfl⟩ dX7_readWord_77) (fun r83q u84q H locs hwu84q hP hD hS => ?_)
                  have hP : va_P D vwCl [(ra, .inr (9, [.ref ra_numbers, .ref ra_text, .int r_length, .int k1qr_at, .int r_fault, .int r_place])), (ra_text, .inl (cy 1, 500, .inl rf_text))] H := hP
                  have hD : va_D A [(ra, .inr (9, [.ref ra_numbers, .ref ra_text, .int r_length, .int k1qr_at, .int r_fault, .int r_place])), (ra_text, .inl (cy 1, 500, .inl rf_text))] := hD
                  have p85q := hwu84q
                  refine lv_if_eq (tgt := 89) hx hb dX7_readWord_80 (by decide) (fun c86q => ?_) (fun c86q => ?_)
                  · simp only [k_lt, k_le, k_eq, ne_eq, ge_iff_le, gt_iff_lt, n_L0, n_L0] at c86q
                    refine lv_iinc (v := 4) (lv' := [(2, .int 4), (1, .int r_at), (0, .ref ra)]) hx hb dX7_readWord_89 hl (k := 0) rfl (by decide) (by decide) rfl (fun ls hl => ?_)
                    refine lv_goto (tgt := 59) hx hb dX7_readWord_92 (by decide) ?_
                    refine lv_iload_n hx hb dX7_readWord_59 rfl (lv_at hl 0 rfl) ?_
                    refine va_getsN (C := "LentMinds") (n := "WORDS") (d := "[LLentMinds$Word;") (v := .ref (sa 4000)) hx hb hG.2.2.2.2.2.2.2.2.2.2.2.2.2.2.1 hS hown (va_Nw.use rfl (hG.2.2.2.2.2.2.2.2.2.2.2.2.2.2.2.2.2.2.2.2.2.2 ("LentMinds$Reader", 77, "LentMinds", "WORDS", "[LLentMinds$Word;") (by decide))) (fun _ h9 => h9) dX7_readWord_60 ?_
                    refine va_tlen (v := 8) hx hb hG.2.2.2.2.2.2.2.2.2.2.2.2.2.2.2.1 hS rfl dX7_readWord_63 ?_
                    refine lv_icmp_ge (tgt := 95) hx hb dX7_readWord_64 (by decide) (fun h => absurd h (by decide)) (fun _ => ?_)
                    refine lv_aload_n hx hb dX7_readWord_67 rfl (lv_at hl 2 rfl) ?_
                    refine va_getsN (C := "LentMinds") (n := "WORDS") (d := "[LLentMinds$Word;") (v := .ref (sa 4000)) hx hb hG.2.2.2.2.2.2.2.2.2.2.2.2.2.2.1 hS hown (va_Nw.use rfl (hG.2.2.2.2.2.2.2.2.2.2.2.2.2.2.2.2.2.2.2.2.2.2 ("LentMinds$Reader", 77, "LentMinds", "WORDS", "[LLentMinds$Word;") (by decide))) (fun _ h9 => h9) dX7_readWord_68 ?_
                    refine lv_iload_n hx hb dX7_readWord_71 rfl (lv_at hl 0 rfl) ?_
                    refine vb_tq (v := .ref (sa 1004)) hx hb hG.2.2.2.2.2.2.2.2.2.2.2.2.2.2.2.1 hS (by unfold vp_in; decide) rfl dX7_readWord_72 ?_
                    refine va_getX (i := 4) hx hb hG.2.2.2.2.2.2.2.2.2.2.2.2.1 (by decide) hS hown (hts _ wm_2087) (fun _ h9 => h9) dX7_readWord_73 ?_
                    refine W.eq (g2 := F0 m 76 ls [.ref (sa 2004), .ref ra]) rfl ?_
                    refine lv_iload_n hx hb dX7_readWord_76 rfl (lv_at hl 1 rfl) ?_
                    refine k_cali [] (⟨hP, hD, hG, hS, hA, rfl, rfl⟩ : kAt D cy sa A s H _ _ [(ra, .inr (9, [.ref ra_numbers, .ref ra_text, .int r_length, .int k1qr_at, .int r_fault, .int r_place])), (ra_text, .inl (cy 1, 500, .inl rf_text))] [0, 1]) (wr := []) rfl rfl (by decide) (k_runV 9 0 (As := [.ref (sa 2004), .int r_at]) (rest := []) E lk_VRX7_85 rfl rfl rfl (c_isSpelled l hl0 D cy sa ra ra_numbers ra_text r_length k1qr_at r_fault r_place r_at rf_text (4) ⟨by omega, by omega⟩ ⟨by omega, by omega⟩ ⟨by omega, by omega⟩ (by first | exact hkk | decide | omega) H.size) (⟨hP, hD, hG, hS, hA, rfl, rfl⟩ : kAt D cy sa A s H _ _ [(ra, .inr (9, [.ref ra_numbers, .ref ra_text, .int r_length, .int k1qr_at, .int r_fault, .int r_place])), (ra_text, .inl (cy 1, 500, .inl rf_text))] [0, 1]) hl.1 rfl rfl ⟨rfl, rfl, ⟨Nat.le_of_ble_eq_true rfl, Nat.le_of_ble_eq_true rfl⟩, ⟨Nat.le_of_ble_eq_true rfl, Nat.le_of_ble_eq_true rfl⟩, Nat.le_of_ble_eq_true rfl⟩ dX7_readWord_77) (fun r87q u88q H locs hwu88q hP hD hS => ?_)
                    have hP : va_P D vwCl [(ra, .inr (9, [.ref ra_numbers, .ref ra_text, .int r_length, .int k1qr_at, .int r_fault, .int r_place])), (ra_text, .inl (cy 1, 500, .inl rf_text))] H := hP
                    have hD : va_D A [(ra, .inr (9, [.ref ra_numbers, .ref ra_text, .int r_length, .int k1qr_at, .int r_fault, .int r_place])), (ra_text, .inl (cy 1, 500, .inl rf_text))] := hD
                    have p89q := hwu88q
                    refine lv_if_eq (tgt := 89) hx hb dX7_readWord_80 (by decide) (fun c90q => ?_) (fun c90q => ?_)
                    · simp only [k_lt, k_le, k_eq, ne_eq, ge_iff_le, gt_iff_lt, n_L0, n_L0] at c90q
                      refine lv_iinc (v := 5) (lv' := [(2, .int 5), (1, .int r_at), (0, .ref ra)]) hx hb dX7_readWord_89 hl (k := 0) rfl (by decide) (by decide) rfl (fun ls hl => ?_)
                      refine lv_goto (tgt := 59) hx hb dX7_readWord_92 (by decide) ?_
                      refine lv_iload_n hx hb dX7_readWord_59 rfl (lv_at hl 0 rfl) ?_
                      refine va_getsN (C := "LentMinds") (n := "WORDS") (d := "[LLentMinds$Word;") (v := .ref (sa 4000)) hx hb hG.2.2.2.2.2.2.2.2.2.2.2.2.2.2.1 hS hown (va_Nw.use rfl (hG.2.2.2.2.2.2.2.2.2.2.2.2.2.2.2.2.2.2.2.2.2.2 ("LentMinds$Reader", 77, "LentMinds", "WORDS", "[LLentMinds$Word;") (by decide))) (fun _ h9 => h9) dX7_readWord_60 ?_
                      refine va_tlen (v := 8) hx hb hG.2.2.2.2.2.2.2.2.2.2.2.2.2.2.2.1 hS rfl dX7_readWord_63 ?_
                      refine lv_icmp_ge (tgt := 95) hx hb dX7_readWord_64 (by decide) (fun h => absurd h (by decide)) (fun _ => ?_)
                      refine lv_aload_n hx hb dX7_readWord_67 rfl (lv_at hl 2 rfl) ?_
                      refine va_getsN (C := "LentMinds") (n := "WORDS") (d := "[LLentMinds$Word;") (v := .ref (sa 4000)) hx hb hG.2.2.2.2.2.2.2.2.2.2.2.2.2.2.1 hS hown (va_Nw.use rfl (hG.2.2.2.2.2.2.2.2.2.2.2.2.2.2.2.2.2.2.2.2.2.2 ("LentMinds$Reader", 77, "LentMinds", "WORDS", "[LLentMinds$Word;") (by decide))) (fun _ h9 => h9) dX7_readWord_68 ?_
                      refine lv_iload_n hx hb dX7_readWord_71 rfl (lv_at hl 0 rfl) ?_
                      refine vb_tq (v := .ref (sa 1005)) hx hb hG.2.2.2.2.2.2.2.2.2.2.2.2.2.2.2.1 hS (by unfold vp_in; decide) rfl dX7_readWord_72 ?_
                      refine va_getX (i := 5) hx hb hG.2.2.2.2.2.2.2.2.2.2.2.2.1 (by decide) hS hown (hts _ wm_2087) (fun _ h9 => h9) dX7_readWord_73 ?_
                      refine W.eq (g2 := F0 m 76 ls [.ref (sa 2005), .ref ra]) rfl ?_
                      refine lv_iload_n hx hb dX7_readWord_76 rfl (lv_at hl 1 rfl) ?_
                      refine k_cali [] (⟨hP, hD, hG, hS, hA, rfl, rfl⟩ : kAt D cy sa A s H _ _ [(ra, .inr (9, [.ref ra_numbers, .ref ra_text, .int r_length, .int k1qr_at, .int r_fault, .int r_place])), (ra_text, .inl (cy 1, 500, .inl rf_text))] [0, 1]) (wr := []) rfl rfl (by decide) (k_runV 9 0 (As := [.ref (sa 2005), .int r_at]) (rest := []) E lk_VRX7_85 rfl rfl rfl (c_isSpelled l hl0 D cy sa ra ra_numbers ra_text r_length k1qr_at r_fault r_place r_at rf_text (5) ⟨by omega, by omega⟩ ⟨by omega, by omega⟩ ⟨by omega, by omega⟩ (by first | exact hkk | decide | omega) H.size) (⟨hP, hD, hG, hS, hA, rfl, rfl⟩ : kAt D cy sa A s H _ _ [(ra, .inr (9, [.ref ra_numbers, .ref ra_text, .int r_length, .int k1qr_at, .int r_fault, .int r_place])), (ra_text, .inl (cy 1, 500, .inl rf_text))] [0, 1]) hl.1 rfl rfl ⟨rfl, rfl, ⟨Nat.le_of_ble_eq_true rfl, Nat.le_of_ble_eq_true rfl⟩, ⟨Nat.le_of_ble_eq_true rfl, Nat.le_of_ble_eq_true rfl⟩, Nat.le_of_ble_eq_true rfl⟩ dX7_readWord_77) (fun r91q u92q H locs hwu92q hP hD hS => ?_)
                      have hP : va_P D vwCl [(ra, .inr (9, [.ref ra_numbers, .ref ra_text, .int r_length, .int k1qr_at, .int r_fault, .int r_place])), (ra_text, .inl (cy 1, 500, .inl rf_text))] H := hP
                      have hD : va_D A [(ra, .inr (9, [.ref ra_numbers, .ref ra_text, .int r_length, .int k1qr_at, .int r_fault, .int r_place])), (ra_text, .inl (cy 1, 500, .inl rf_text))] := hD
                      have p93q := hwu92q
                      refine lv_if_eq (tgt := 89) hx hb dX7_readWord_80 (by decide) (fun c94q => ?_) (fun c94q => ?_)
                      · simp only [k_lt, k_le, k_eq, ne_eq, ge_iff_le, gt_iff_lt, n_L0, n_L0] at c94q
                        refine lv_iinc (v := 6) (lv' := [(2, .int 6), (1, .int r_at), (0, .ref ra)]) hx hb dX7_readWord_89 hl (k := 0) rfl (by decide) (by decide) rfl (fun ls hl => ?_)
                        refine lv_goto (tgt := 59) hx hb dX7_readWord_92 (by decide) ?_
                        refine lv_iload_n hx hb dX7_readWord_59 rfl (lv_at hl 0 rfl) ?_
                        refine va_getsN (C := "LentMinds") (n := "WORDS") (d := "[LLentMinds$Word;") (v := .ref (sa 4000)) hx hb hG.2.2.2.2.2.2.2.2.2.2.2.2.2.2.1 hS hown (va_Nw.use rfl (hG.2.2.2.2.2.2.2.2.2.2.2.2.2.2.2.2.2.2.2.2.2.2 ("LentMinds$Reader", 77, "LentMinds", "WORDS", "[LLentMinds$Word;") (by decide))) (fun _ h9 => h9) dX7_readWord_60 ?_
                        refine va_tlen (v := 8) hx hb hG.2.2.2.2.2.2.2.2.2.2.2.2.2.2.2.1 hS rfl dX7_readWord_63 ?_
                        refine lv_icmp_ge (tgt := 95) hx hb dX7_readWord_64 (by decide) (fun h => absurd h (by decide)) (fun _ => ?_)
                        refine lv_aload_n hx hb dX7_readWord_67 rfl (lv_at hl 2 rfl) ?_
                        refine va_getsN (C := "LentMinds") (n := "WORDS") (d := "[LLentMinds$Word;") (v := .ref (sa 4000)) hx hb hG.2.2.2.2.2.2.2.2.2.2.2.2.2.2.1 hS hown (va_Nw.use rfl (hG.2.2.2.2.2.2.2.2.2.2.2.2.2.2.2.2.2.2.2.2.2.2 ("LentMinds$Reader", 77, "LentMinds", "WORDS", "[LLentMinds$Word;") (by decide))) (fun _ h9 => h9) dX7_readWord_68 ?_
                        refine lv_iload_n hx hb dX7_readWord_71 rfl (lv_at hl 0 rfl) ?_
                        refine vb_tq (v := .ref (sa 1006)) hx hb hG.2.2.2.2.2.2.2.2.2.2.2.2.2.2.2.1 hS (by unfold vp_in; decide) rfl dX7_readWord_72 ?_
                        refine va_getX (i := 6) hx hb hG.2.2.2.2.2.2.2.2.2.2.2.2.1 (by decide) hS hown (hts _ wm_2087) (fun _ h9 => h9) dX7_readWord_73 ?_
                        refine W.eq (g2 := F0 m 76 ls [.ref (sa 2006), .ref ra]) rfl ?_
                        refine lv_iload_n hx hb dX7_readWord_76 rfl (lv_at hl 1 rfl) ?_
                        refine k_cali [] (⟨hP, hD, hG, hS, hA, rfl, rfl⟩ : kAt D cy sa A s H _ _ [(ra, .inr (9, [.ref ra_numbers, .ref ra_text, .int r_length, .int k1qr_at, .int r_fault, .int r_place])), (ra_text, .inl (cy 1, 500, .inl rf_text))] [0, 1]) (wr := []) rfl rfl (by decide) (k_runV 9 0 (As := [.ref (sa 2006), .int r_at]) (rest := []) E lk_VRX7_85 rfl rfl rfl (c_isSpelled l hl0 D cy sa ra ra_numbers ra_text r_length k1qr_at r_fault r_place r_at rf_text (6) ⟨by omega, by omega⟩ ⟨by omega, by omega⟩ ⟨by omega, by omega⟩ (by first | exact hkk | decide | omega) H.size) (⟨hP, hD, hG, hS, hA, rfl, rfl⟩ : kAt D cy sa A s H _ _ [(ra, .inr (9, [.ref ra_numbers, .ref ra_text, .int r_length, .int k1qr_at, .int r_fault, .int r_place])), (ra_text, .inl (cy 1, 500, .inl rf_text))] [0, 1]) hl.1 rfl rfl ⟨rfl, rfl, ⟨Nat.le_of_ble_eq_true rfl, Nat.le_of_ble_eq_true rfl⟩, ⟨Nat.le_of_ble_eq_true rfl, Nat.le_of_ble_eq_true rfl⟩, Nat.le_of_ble_eq_true rfl⟩ dX7_readWord_77) (fun r95q u96q H locs hwu96q hP hD hS => ?_)
                        have hP : va_P D vwCl [(ra, .inr (9, [.ref ra_numbers, .ref ra_text, .int r_length, .int k1qr_at, .int r_fault, .int r_place])), (ra_text, .inl (cy 1, 500, .inl rf_text))] H := hP
                        have hD : va_D A [(ra, .inr (9, [.ref ra_numbers, .ref ra_text, .int r_length, .int k1qr_at, .int r_fault, .int r_place])), (ra_text, .inl (cy 1, 500, .inl rf_text))] := hD
                        have p97q := hwu96q
                        refine lv_if_eq (tgt := 89) hx hb dX7_readWord_80 (by decide) (fun c98q => ?_) (fun c98q => ?_)
                        · simp only [k_lt, k_le, k_eq, ne_eq, ge_iff_le, gt_iff_lt, n_L0, n_L0] at c98q
                          refine lv_iinc (v := 7) (lv' := [(2, .int 7), (1, .int r_at), (0, .ref ra)]) hx hb dX7_readWord_89 hl (k := 0) rfl (by decide) (by decide) rfl (fun ls hl => ?_)
                          refine lv_goto (tgt := 59) hx hb dX7_readWord_92 (by decide) ?_
                          refine lv_iload_n hx hb dX7_readWord_59 rfl (lv_at hl 0 rfl) ?_
                          refine va_getsN (C := "LentMinds") (n := "WORDS") (d := "[LLentMinds$Word;") (v := .ref (sa 4000)) hx hb hG.2.2.2.2.2.2.2.2.2.2.2.2.2.2.1 hS hown (va_Nw.use rfl (hG.2.2.2.2.2.2.2.2.2.2.2.2.2.2.2.2.2.2.2.2.2.2 ("LentMinds$Reader", 77, "LentMinds", "WORDS", "[LLentMinds$Word;") (by decide))) (fun _ h9 => h9) dX7_readWord_60 ?_
                          refine va_tlen (v := 8) hx hb hG.2.2.2.2.2.2.2.2.2.2.2.2.2.2.2.1 hS rfl dX7_readWord_63 ?_
                          refine lv_icmp_ge (tgt := 95) hx hb dX7_readWord_64 (by decide) (fun h => absurd h (by decide)) (fun _ => ?_)
                          refine lv_aload_n hx hb dX7_readWord_67 rfl (lv_at hl 2 rfl) ?_
                          refine va_getsN (C := "LentMinds") (n := "WORDS") (d := "[LLentMinds$Word;") (v := .ref (sa 4000)) hx hb hG.2.2.2.2.2.2.2.2.2.2.2.2.2.2.1 hS hown (va_Nw.use rfl (hG.2.2.2.2.2.2.2.2.2.2.2.2.2.2.2.2.2.2.2.2.2.2 ("LentMinds$Reader", 77, "LentMinds", "WORDS", "[LLentMinds$Word;") (by decide))) (fun _ h9 => h9) dX7_readWord_68 ?_
                          refine lv_iload_n hx hb dX7_readWord_71 rfl (lv_at hl 0 rfl) ?_
                          refine vb_tq (v := .ref (sa 1007)) hx hb hG.2.2.2.2.2.2.2.2.2.2.2.2.2.2.2.1 hS (by unfold vp_in; decide) rfl dX7_readWord_72 ?_
                          refine va_getX (i := 7) hx hb hG.2.2.2.2.2.2.2.2.2.2.2.2.1 (by decide) hS hown (hts _ wm_2087) (fun _ h9 => h9) dX7_readWord_73 ?_
                          refine W.eq (g2 := F0 m 76 ls [.ref (sa 2007), .ref ra]) rfl ?_
                          refine lv_iload_n hx hb dX7_readWord_76 rfl (lv_at hl 1 rfl) ?_
                          refine k_cali [] (⟨hP, hD, hG, hS, hA, rfl, rfl⟩ : kAt D cy sa A s H _ _ [(ra, .inr (9, [.ref ra_numbers, .ref ra_text, .int r_length, .int k1qr_at, .int r_fault, .int r_place])), (ra_text, .inl (cy 1, 500, .inl rf_text))] [0, 1]) (wr := []) rfl rfl (by decide) (k_runV 9 0 (As := [.ref (sa 2007), .int r_at]) (rest := []) E lk_VRX7_85 rfl rfl rfl (c_isSpelled l hl0 D cy sa ra ra_numbers ra_text r_length k1qr_at r_fault r_place r_at rf_text (7) ⟨by omega, by omega⟩ ⟨by omega, by omega⟩ ⟨by omega, by omega⟩ (by first | exact hkk | decide | omega) H.size) (⟨hP, hD, hG, hS, hA, rfl, rfl⟩ : kAt D cy sa A s H _ _ [(ra, .inr (9, [.ref ra_numbers, .ref ra_text, .int r_length, .int k1qr_at, .int r_fault, .int r_place])), (ra_text, .inl (cy 1, 500, .inl rf_text))] [0, 1]) hl.1 rfl rfl ⟨rfl, rfl, ⟨Nat.le_of_ble_eq_true rfl, Nat.le_of_ble_eq_true rfl⟩, ⟨Nat.le_of_ble_eq_true rfl, Nat.le_of_ble_eq_true rfl⟩, Nat.le_of_ble_eq_true rfl⟩ dX7_readWord_77) (fun r99q u100q H locs hwu100q hP hD hS => ?_)
                          have hP : va_P D vwCl [(ra, .inr (9, [.ref ra_numbers, .ref ra_text, .int r_length, .int k1qr_at, .int r_fault, .int r_place])), (ra_text, .inl (cy 1, 500, .inl rf_text))] H := hP
                          have hD : va_D A [(ra, .inr (9, [.ref ra_numbers, .ref ra_text, .int r_length, .int k1qr_at, .int r_fault, .int r_place])), (ra_text, .inl (cy 1, 500, .inl rf_text))] := hD
                          have p101q := hwu100q
                          refine lv_if_eq (tgt := 89) hx hb dX7_readWord_80 (by decide) (fun c102q => ?_) (fun c102q => ?_)
                          · simp only [k_lt, k_le, k_eq, ne_eq, ge_iff_le, gt_iff_lt, n_L0, n_L0] at c102q
                            refine lv_iinc (v := 8) (lv' := [(2, .int 8), (1, .int r_at), (0, .ref ra)]) hx hb dX7_readWord_89 hl (k := 0) rfl (by decide) (by decide) rfl (fun ls hl => ?_)
                            refine lv_goto (tgt := 59) hx hb dX7_readWord_92 (by decide) ?_
                            refine lv_iload_n hx hb dX7_readWord_59 rfl (lv_at hl 0 rfl) ?_
                            refine va_getsN (C := "LentMinds") (n := "WORDS") (d := "[LLentMinds$Word;") (v := .ref (sa 4000)) hx hb hG.2.2.2.2.2.2.2.2.2.2.2.2.2.2.1 hS hown (va_Nw.use rfl (hG.2.2.2.2.2.2.2.2.2.2.2.2.2.2.2.2.2.2.2.2.2.2 ("LentMinds$Reader", 77, "LentMinds", "WORDS", "[LLentMinds$Word;") (by decide))) (fun _ h9 => h9) dX7_readWord_60 ?_
                            refine va_tlen (v := 8) hx hb hG.2.2.2.2.2.2.2.2.2.2.2.2.2.2.2.1 hS rfl dX7_readWord_63 ?_
                            refine lv_icmp_ge (tgt := 95) hx hb dX7_readWord_64 (by decide) (fun _ => ?_) (fun h => absurd (by decide) h)
                            refine lv_null hx hb dX7_readWord_95 ?_
                            refine W.eq (g2 := F0 m 96 ls [va_re (fun i => sa (1000 + i)) none]) rfl ?_
                            rw [hQ0]
                            exact k_eret none (fun k => [k1qr_at].getD k 0, fun k => [].getD k (fun _ => 0)) hx hb hr hlk (⟨(show none = none ∨ none = some 0 ∨ none = some 1 ∨ none = some 2 ∨ none = some 3 ∨ none = some 4 ∨ none = some 5 ∨ none = some 6 ∨ none = some 7 by decide), (show 0 ≤ k1qr_at.toInt ∧ k1qr_at.toInt ≤ 500 from ⟨by omega, by omega⟩), (show k1qr_at.toInt ≤ r_length.toInt by omega)⟩) (hP.sub [0, 1] rfl) (hD.sub [0, 1] (by decide) rfl) hS (by decide) (by decide) dX7_readWord_96
                          · simp only [k_lt, k_le, k_eq, ne_eq, ge_iff_le, gt_iff_lt, n_L0, n_L0] at c102q
                            refine va_getsN (C := "LentMinds") (n := "WORDS") (d := "[LLentMinds$Word;") (v := .ref (sa 4000)) hx hb hG.2.2.2.2.2.2.2.2.2.2.2.2.2.2.1 hS hown (va_Nw.use rfl (hG.2.2.2.2.2.2.2.2.2.2.2.2.2.2.2.2.2.2.2.2.2.2 ("LentMinds$Reader", 77, "LentMinds", "WORDS", "[LLentMinds$Word;") (by decide))) (fun _ h9 => h9) dX7_readWord_83 ?_
                            refine lv_iload_n hx hb dX7_readWord_86 rfl (lv_at hl 0 rfl) ?_
                            refine vb_tq (v := .ref (sa 1007)) hx hb hG.2.2.2.2.2.2.2.2.2.2.2.2.2.2.2.1 hS (by unfold vp_in; decide) rfl dX7_readWord_87 ?_
                            refine W.eq (g2 := F0 m 88 ls [va_re (fun i => sa (1000 + i)) (some 7)]) rfl ?_
                            rw [hQ0]
                            exact k_eret (some 7) (fun k => [k1qr_at].getD k 0, fun k => [].getD k (fun _ => 0)) hx hb hr hlk (⟨(show ((some 7)) = none ∨ ((some 7)) = some 0 ∨ ((some 7)) = some 1 ∨ ((some 7)) = some 2 ∨ ((some 7)) = some 3 ∨ ((some 7)) = some 4 ∨ ((some 7)) = some 5 ∨ ((some 7)) = some 6 ∨ ((some 7)) = some 7 by decide), (show 0 ≤ k1qr_at.toInt ∧ k1qr_at.toInt ≤ 500 from ⟨by omega, by omega⟩), (show k1qr_at.toInt ≤ r_length.toInt by omega)⟩) (hP.sub [0, 1] rfl) (hD.sub [0, 1] (by decide) rfl) hS (by decide) (by decide) dX7_readWord_88
                        · simp only [k_lt, k_le, k_eq, ne_eq, ge_iff_le, gt_iff_lt, n_L0, n_L0] at c98q
                          refine va_getsN (C := "LentMinds") (n := "WORDS") (d := "[LLentMinds$Word;") (v := .ref (sa 4000)) hx hb hG.2.2.2.2.2.2.2.2.2.2.2.2.2.2.1 hS hown (va_Nw.use rfl (hG.2.2.2.2.2.2.2.2.2.2.2.2.2.2.2.2.2.2.2.2.2.2 ("LentMinds$Reader", 77, "LentMinds", "WORDS", "[LLentMinds$Word;") (by decide))) (fun _ h9 => h9) dX7_readWord_83 ?_
                          refine lv_iload_n hx hb dX7_readWord_86 rfl (lv_at hl 0 rfl) ?_
                          refine vb_tq (v := .ref (sa 1006)) hx hb hG.2.2.2.2.2.2.2.2.2.2.2.2.2.2.2.1 hS (by unfold vp_in; decide) rfl dX7_readWord_87 ?_
                          refine W.eq (g2 := F0 m 88 ls [va_re (fun i => sa (1000 + i)) (some 6)]) rfl ?_
                          rw [hQ0]
                          exact k_eret (some 6) (fun k => [k1qr_at].getD k 0, fun k => [].getD k (fun _ => 0)) hx hb hr hlk (⟨(show ((some 6)) = none ∨ ((some 6)) = some 0 ∨ ((some 6)) = some 1 ∨ ((some 6)) = some 2 ∨ ((some 6)) = some 3 ∨ ((some 6)) = some 4 ∨ ((some 6)) = some 5 ∨ ((some 6)) = some 6 ∨ ((some 6)) = some 7 by decide), (show 0 ≤ k1qr_at.toInt ∧ k1qr_at.toInt ≤ 500 from ⟨by omega, by omega⟩), (show k1qr_at.toInt ≤ r_length.toInt by omega)⟩) (hP.sub [0, 1] rfl) (hD.sub [0, 1] (by decide) rfl) hS (by decide) (by decide) dX7_readWord_88
                      · simp only [k_lt, k_le, k_eq, ne_eq, ge_iff_le, gt_iff_lt, n_L0, n_L0] at c94q
                        refine va_getsN (C := "LentMinds") (n := "WORDS") (d := "[LLentMinds$Word;") (v := .ref (sa 4000)) hx hb hG.2.2.2.2.2.2.2.2.2.2.2.2.2.2.1 hS hown (va_Nw.use rfl (hG.2.2.2.2.2.2.2.2.2.2.2.2.2.2.2.2.2.2.2.2.2.2 ("LentMinds$Reader", 77, "LentMinds", "WORDS", "[LLentMinds$Word;") (by decide))) (fun _ h9 => h9) dX7_readWord_83 ?_
                        refine lv_iload_n hx hb dX7_readWord_86 rfl (lv_at hl 0 rfl) ?_
                        refine vb_tq (v := .ref (sa 1005)) hx hb hG.2.2.2.2.2.2.2.2.2.2.2.2.2.2.2.1 hS (by unfold vp_in; decide) rfl dX7_readWord_87 ?_
                        refine W.eq (g2 := F0 m 88 ls [va_re (fun i => sa (1000 + i)) (some 5)]) rfl ?_
                        rw [hQ0]
                        exact k_eret (some 5) (fun k => [k1qr_at].getD k 0, fun k => [].getD k (fun _ => 0)) hx hb hr hlk (⟨(show ((some 5)) = none ∨ ((some 5)) = some 0 ∨ ((some 5)) = some 1 ∨ ((some 5)) = some 2 ∨ ((some 5)) = some 3 ∨ ((some 5)) = some 4 ∨ ((some 5)) = some 5 ∨ ((some 5)) = some 6 ∨ ((some 5)) = some 7 by decide), (show 0 ≤ k1qr_at.toInt ∧ k1qr_at.toInt ≤ 500 from ⟨by omega, by omega⟩), (show k1qr_at.toInt ≤ r_length.toInt by omega)⟩) (hP.sub [0, 1] rfl) (hD.sub [0, 1] (by decide) rfl) hS (by decide) (by decide) dX7_readWord_88
                    · simp only [k_lt, k_le, k_eq, ne_eq, ge_iff_le, gt_iff_lt, n_L0, n_L0] at c90q
                      refine va_getsN (C := "LentMinds") (n := "WORDS") (d := "[LLentMinds$Word;") (v := .ref (sa 4000)) hx hb hG.2.2.2.2.2.2.2.2.2.2.2.2.2.2.1 hS hown (va_Nw.use rfl (hG.2.2.2.2.2.2.2.2.2.2.2.2.2.2.2.2.2.2.2.2.2.2 ("LentMinds$Reader", 77, "LentMinds", "WORDS", "[LLentMinds$Word;") (by decide))) (fun _ h9 => h9) dX7_readWord_83 ?_
                      refine lv_iload_n hx hb dX7_readWord_86 rfl (lv_at hl 0 rfl) ?_
                      refine vb_tq (v := .ref (sa 1004)) hx hb hG.2.2.2.2.2.2.2.2.2.2.2.2.2.2.2.1 hS (by unfold vp_in; decide) rfl dX7_readWord_87 ?_
                      refine W.eq (g2 := F0 m 88 ls [va_re (fun i => sa (1000 + i)) (some 4)]) rfl ?_
                      rw [hQ0]
                      exact k_eret (some 4) (fun k => [k1qr_at].getD k 0, fun k => [].getD k (fun _ => 0)) hx hb hr hlk (⟨(show ((some 4)) = none ∨ ((some 4)) = some 0 ∨ ((some 4)) = some 1 ∨ ((some 4)) = some 2 ∨ ((some 4)) = some 3 ∨ ((some 4)) = some 4 ∨ ((some 4)) = some 5 ∨ ((some 4)) = some 6 ∨ ((some 4)) = some 7 by decide), (show 0 ≤ k1qr_at.toInt ∧ k1qr_at.toInt ≤ 500 from ⟨by omega, by omega⟩), (show k1qr_at.toInt ≤ r_length.toInt by omega)⟩) (hP.sub [0, 1] rfl) (hD.sub [0, 1] (by decide) rfl) hS (by decide) (by decide) dX7_readWord_88
                  · simp only [k_lt, k_le, k_eq, ne_eq, ge_iff_le, gt_iff_lt, n_L0, n_L0] at c86q
                    refine va_getsN (C := "LentMinds") (n := "WORDS") (d := "[LLentMinds$Word;") (v := .ref (sa 4000)) hx hb hG.2.2.2.2.2.2.2.2.2.2.2.2.2.2.1 hS hown (va_Nw.use rfl (hG.2.2.2.2.2.2.2.2.2.2.2.2.2.2.2.2.2.2.2.2.2.2 ("LentMinds$Reader", 77, "LentMinds", "WORDS", "[LLentMinds$Word;") (by decide))) (fun _ h9 => h9) dX7_readWord_83 ?_
                    refine lv_iload_n hx hb dX7_readWord_86 rfl (lv_at hl 0 rfl) ?_
                    refine vb_tq (v := .ref (sa 1003)) hx hb hG.2.2.2.2.2.2.2.2.2.2.2.2.2.2.2.1 hS (by unfold vp_in; decide) rfl dX7_readWord_87 ?_
                    refine W.eq (g2 := F0 m 88 ls [va_re (fun i => sa (1000 + i)) (some 3)]) rfl ?_
                    rw [hQ0]
                    exact k_eret (some 3) (fun k => [k1qr_at].getD k 0, fun k => [].getD k (fun _ => 0)) hx hb hr hlk (⟨(show ((some 3)) = none ∨ ((some 3)) = some 0 ∨ ((some 3)) = some 1 ∨ ((some 3)) = some 2 ∨ ((some 3)) = some 3 ∨ ((some 3)) = some 4 ∨ ((some 3)) = some 5 ∨ ((some 3)) = some 6 ∨ ((some 3)) = some 7 by decide), (show 0 ≤ k1qr_at.toInt ∧ k1qr_at.toInt ≤ 500 from ⟨by omega, by omega⟩), (show k1qr_at.toInt ≤ r_length.toInt by omega)⟩) (hP.sub [0, 1] rfl) (hD.sub [0, 1] (by decide) rfl) hS (by decide) (by decide) dX7_readWord_88
                · simp only [k_lt, k_le, k_eq, ne_eq, ge_iff_le, gt_iff_lt, n_L0, n_L0] at c82q
                  refine va_getsN (C := "LentMinds") (n := "WORDS") (d := "[LLentMinds$Word;") (v := .ref (sa 4000)) hx hb hG.2.2.2.2.2.2.2.2.2.2.2.2.2.2.1 hS hown (va_Nw.use rfl (hG.2.2.2.2.2.2.2.2.2.2.2.2.2.2.2.2.2.2.2.2.2.2 ("LentMinds$Reader", 77, "LentMinds", "WORDS", "[LLentMinds$Word;") (by decide))) (fun _ h9 => h9) dX7_readWord_83 ?_
                  refine lv_iload_n hx hb dX7_readWord_86 rfl (lv_at hl 0 rfl) ?_
                  refine vb_tq (v := .ref (sa 1002)) hx hb hG.2.2.2.2.2.2.2.2.2.2.2.2.2.2.2.1 hS (by unfold vp_in; decide) rfl dX7_readWord_87 ?_
                  refine W.eq (g2 := F0 m 88 ls [va_re (fun i => sa (1000 + i)) (some 2)]) rfl ?_
                  rw [hQ0]
                  exact k_eret (some 2) (fun k => [k1qr_at].getD k 0, fun k => [].getD k (fun _ => 0)) hx hb hr hlk (⟨(show ((some 2)) = none ∨ ((some 2)) = some 0 ∨ ((some 2)) = some 1 ∨ ((some 2)) = some 2 ∨ ((some 2)) = some 3 ∨ ((some 2)) = some 4 ∨ ((some 2)) = some 5 ∨ ((some 2)) = some 6 ∨ ((some 2)) = some 7 by decide), (show 0 ≤ k1qr_at.toInt ∧ k1qr_at.toInt ≤ 500 from ⟨by omega, by omega⟩), (show k1qr_at.toInt ≤ r_length.toInt by omega)⟩) (hP.sub [0, 1] rfl) (hD.sub [0, 1] (by decide) rfl) hS (by decide) (by decide) dX7_readWord_88
              · simp only [k_lt, k_le, k_eq, ne_eq, ge_iff_le, gt_iff_lt, n_L0, n_L0] at c78q
                refine va_getsN (C := "LentMinds") (n := "WORDS") (d := "[LLentMinds$Word;") (v := .ref (sa 4000)) hx hb hG.2.2.2.2.2.2.2.2.2.2.2.2.2.2.1 hS hown (va_Nw.use rfl (hG.2.2.2.2.2.2.2.2.2.2.2.2.2.2.2.2.2.2.2.2.2.2 ("LentMinds$Reader", 77, "LentMinds", "WORDS", "[LLentMinds$Word;") (by decide))) (fun _ h9 => h9) dX7_readWord_83 ?_
                refine lv_iload_n hx hb dX7_readWord_86 rfl (lv_at hl 0 rfl) ?_
                refine vb_tq (v := .ref (sa 1001)) hx hb hG.2.2.2.2.2.2.2.2.2.2.2.2.2.2.2.1 hS (by unfold vp_in; decide) rfl dX7_readWord_87 ?_
                refine W.eq (g2 := F0 m 88 ls [va_re (fun i => sa (1000 + i)) (some 1)]) rfl ?_
                rw [hQ0]
                exact k_eret (some 1) (fun k => [k1qr_at].getD k 0, fun k => [].getD k (fun _ => 0)) hx hb hr hlk (⟨(show ((some 1)) = none ∨ ((some 1)) = some 0 ∨ ((some 1)) = some 1 ∨ ((some 1)) = some 2 ∨ ((some 1)) = some 3 ∨ ((some 1)) = some 4 ∨ ((some 1)) = some 5 ∨ ((some 1)) = some 6 ∨ ((some 1)) = some 7 by decide), (show 0 ≤ k1qr_at.toInt ∧ k1qr_at.toInt ≤ 500 from ⟨by omega, by omega⟩), (show k1qr_at.toInt ≤ r_length.toInt by omega)⟩) (hP.sub [0, 1] rfl) (hD.sub [0, 1] (by decide) rfl) hS (by decide) (by decide) dX7_readWord_88
            · simp only [k_lt, k_le, k_eq, ne_eq, ge_iff_le, gt_iff_lt, n_L0, n_L0] at c74q
              refine va_getsN (C := "LentMinds") (n := "WORDS") (d := "[LLentMinds$Word;") (v := .ref (sa 4000)) hx hb hG.2.2.2.2.2.2.2.2.2.2.2.2.2.2.1 hS hown (va_Nw.use rfl (hG.2.2.2.2.2.2.2.2.2.2.2.2.2.2.2.2.2.2.2.2.2.2 ("LentMinds$Reader", 77, "LentMinds", "WORDS", "[LLentMinds$Word;") (by decide))) (fun _ h9 => h9) dX7_readWord_83 ?_
              refine lv_iload_n hx hb dX7_readWord_86 rfl (lv_at hl 0 rfl) ?_
              refine vb_tq (v := .ref (sa 1000)) hx hb hG.2.2.2.2.2.2.2.2.2.2.2.2.2.2.2.1 hS (by unfold vp_in; decide) rfl dX7_readWord_87 ?_
              refine W.eq (g2 := F0 m 88 ls [va_re (fun i => sa (1000 + i)) (some 0)]) rfl ?_
              rw [hQ0]
              exact k_eret (some 0) (fun k => [k1qr_at].getD k 0, fun k => [].getD k (fun _ => 0)) hx hb hr hlk (⟨(show ((some 0)) = none ∨ ((some 0)) = some 0 ∨ ((some 0)) = some 1 ∨ ((some 0)) = some 2 ∨ ((some 0)) = some 3 ∨ ((some 0)) = some 4 ∨ ((some 0)) = some 5 ∨ ((some 0)) = some 6 ∨ ((some 0)) = some 7 by decide), (show 0 ≤ k1qr_at.toInt ∧ k1qr_at.toInt ≤ 500 from ⟨by omega, by omega⟩), (show k1qr_at.toInt ≤ r_length.toInt by omega)⟩) (hP.sub [0, 1] rfl) (hD.sub [0, 1] (by decide) rfl) hS (by decide) (by decide) dX7_readWord_88
          · simp only [k_lt, k_le, k_eq, ne_eq, ge_iff_le, gt_iff_lt, n_L122] at c70q
            refine lv_aload_n hx hb dX7_readWord_44 rfl (lv_at hl 1 rfl) ?_
            refine lv_dup hx hb dX7_readWord_45 rfl ?_
            refine va_get (D := D) (ci := 9) (v := .int k1qr_at) (C := RX7) (T := TX7) (N := 6) hx hb hts kin_RX7 hown hG.1 hP 0 rfl rfl 3 (by decide) (hts _ wm_50) (fun _ h9 => h9) rfl dX7_readWord_46 ?_
            refine lv_iconst (v := 1) hx hb dX7_readWord_49 (by decide) ?_
            refine lv_iadd hx hb dX7_readWord_50 ?_
            refine lv_topi (fun x103q ex103q => ?_)
            have rx103q := n_add ex103q (a := k1qr_at.toInt) (b := 1) rfl n_L1 (by omega) (by omega)
            refine va_put (D := D) (ci := 9) (v := .int x103q) (ty := .int) (C := RX7) (T := TX7) (N := 6) hx hb hts kin_RX7 tyX7 tyX7_ok nmX7 hown hG.1 hP hD hS 0 rfl rfl 3 (by decide) (hts _ wm_50) (fun _ h9 => h9) rfl (by decide +kernel) rfl rfl (Nat.le_of_ble_eq_true rfl) dX7_readWord_51 (fun H locs hP hD hS => ?_)
            have hP : va_P D vwCl [(ra, .inr (9, [.ref ra_numbers, .ref ra_text, .int r_length, .int x103q, .int r_fault, .int r_place])), (ra_text, .inl (cy 1, 500, .inl rf_text))] H := hP
            have hD : va_D A [(ra, .inr (9, [.ref ra_numbers, .ref ra_text, .int r_length, .int x103q, .int r_fault, .int r_place])), (ra_text, .inl (cy 1, 500, .inl rf_text))] := hD
            refine lv_goto (tgt := 5) hx hb dX7_readWord_54 (by decide) ?_
            exact k1qih ((500 - x103q.toInt).toNat) (by omega) x103q H locs ls ⟨by omega, by omega⟩ (show x103q.toInt ≤ r_length.toInt by omega) rfl hP hD hS (lv_sub hl [0, 1] rfl)
  exact k1q _ r_at H locs ls ⟨by omega, by omega⟩ (show r_at.toInt ≤ r_length.toInt by omega) rfl hP hD hS (lv_sub hl [0, 1] rfl)
