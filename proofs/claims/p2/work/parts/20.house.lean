theorem n_L0 : (0 : Int32).toInt = 0 := by decide
theorem wm_117 : Cond.fieldLink RX2 48 "LentMinds$House" "bodies" "I" ∈ kWS := kws_at 117 (by decide +kernel) (by decide +kernel)
theorem n_L9 : (9 : Int32).toInt = 9 := by decide
theorem n_L1 : (1 : Int32).toInt = 1 := by decide
theorem wm_534 : Cond.methodLink RX2 72 Lib.Math.abs.name ∈ kWS := kws_at 534 (by decide +kernel) (by decide +kernel)
theorem wm_535 : Cond.static Lib.Math.abs.name ∈ kWS := kws_at 535 (by decide +kernel) (by decide +kernel)
theorem wm_17 : Cond.initialized "java/lang/Math" ∈ kWS := kws_at 17 (by decide +kernel) (by decide +kernel)
theorem wm_536 : Cond.code Lib.Math.abs.name Lib.Math.abs.code 1 (some .int) ∈ kWS := kws_at 536 (by decide +kernel) (by decide +kernel)
theorem wm_129 : Cond.fieldLink RX2 58 "LentMinds$House" "stride" "I" ∈ kWS := kws_at 129 (by decide +kernel) (by decide +kernel)
theorem wm_126 : Cond.fieldLink RX2 55 "LentMinds$House" "breath" "I" ∈ kWS := kws_at 126 (by decide +kernel) (by decide +kernel)
theorem wm_529 : Cond.code yX2_has cX2_has 2 (some .boolean) ∈ kWS := kws_at 529 (by decide +kernel) (by decide +kernel)
theorem wm_526 : Cond.methodLink RX2 64 yX2_has ∈ kWS := kws_at 526 (by decide +kernel) (by decide +kernel)
theorem wm_528 : Cond.selects RX2 yX2_has yX2_has ∈ kWS := kws_at 528 (by decide +kernel) (by decide +kernel)
theorem wm_527 : Cond.instanceMethod yX2_has ∈ kWS := kws_at 527 (by decide +kernel) (by decide +kernel)
theorem wm_3 : Cond.initialized RX2 ∈ kWS := kws_at 3 (by decide +kernel) (by decide +kernel)
theorem lk_VRX2_64 : kLV RX2 64 yX2_has (Cond.code yX2_has cX2_has 2 (some .boolean)) 1 := ⟨wm_526, wm_527, wm_528, wm_3, wm_529, ⟨by decide +kernel, by decide +kernel, by decide +kernel⟩⟩
theorem wm_75 : Cond.fieldLink RX2 9 "LentMinds$House" "x" "[I" ∈ kWS := kws_at 75 (by decide +kernel) (by decide +kernel)
theorem wm_77 : Cond.fieldLink RX2 15 "LentMinds$House" "y" "[I" ∈ kWS := kws_at 77 (by decide +kernel) (by decide +kernel)
theorem wm_533 : Cond.code yX2_costOfWay cX2_costOfWay 4 (some .int) ∈ kWS := kws_at 533 (by decide +kernel) (by decide +kernel)
theorem wm_530 : Cond.methodLink RX2 68 yX2_costOfWay ∈ kWS := kws_at 530 (by decide +kernel) (by decide +kernel)
theorem wm_532 : Cond.selects RX2 yX2_costOfWay yX2_costOfWay ∈ kWS := kws_at 532 (by decide +kernel) (by decide +kernel)
theorem wm_531 : Cond.instanceMethod yX2_costOfWay ∈ kWS := kws_at 531 (by decide +kernel) (by decide +kernel)
theorem lk_VRX2_68 : kLV RX2 68 yX2_costOfWay (Cond.code yX2_costOfWay cX2_costOfWay 4 (some .int)) 2 := ⟨wm_530, wm_531, wm_532, wm_3, wm_533, ⟨by decide +kernel, by decide +kernel, by decide +kernel⟩⟩
theorem dX2_has_0 : decode cX2_has 0 = .ok (.iload_n 1, 1) := by decide +kernel
theorem dX2_has_1 : decode cX2_has 1 = .ok (.ifCond .lt 21, 3) := by decide +kernel
theorem dX2_has_4 : decode cX2_has 4 = .ok (.iload_n 1, 1) := by decide +kernel
theorem dX2_has_5 : decode cX2_has 5 = .ok (.aload_n 0, 1) := by decide +kernel
theorem dX2_has_6 : decode cX2_has 6 = .ok (.getfield 48, 3) := by decide +kernel
theorem dX2_has_9 : decode cX2_has 9 = .ok (.if_icmp .ge 13, 3) := by decide +kernel
theorem dX2_has_12 : decode cX2_has 12 = .ok (.iload_n 1, 1) := by decide +kernel
theorem dX2_has_13 : decode cX2_has 13 = .ok (.bipush 9, 2) := by decide +kernel
theorem dX2_has_15 : decode cX2_has 15 = .ok (.if_icmp .ge 7, 3) := by decide +kernel
theorem dX2_has_18 : decode cX2_has 18 = .ok (.iconst 1, 1) := by decide +kernel
theorem dX2_has_19 : decode cX2_has 19 = .ok (.goto 4, 3) := by decide +kernel
theorem dX2_has_22 : decode cX2_has 22 = .ok (.iconst 0, 1) := by decide +kernel
theorem dX2_has_23 : decode cX2_has 23 = .ok (.ireturn, 1) := by decide +kernel
theorem dX2_costOfWay_0 : decode cX2_costOfWay 0 = .ok (.iload_n 1, 1) := by decide +kernel
theorem dX2_costOfWay_1 : decode cX2_costOfWay 1 = .ok (.invokestatic 72, 3) := by decide +kernel
theorem dX2_costOfWay_4 : decode cX2_costOfWay 4 = .ok (.iload_n 2, 1) := by decide +kernel
theorem dX2_costOfWay_5 : decode cX2_costOfWay 5 = .ok (.invokestatic 72, 3) := by decide +kernel
theorem dX2_costOfWay_8 : decode cX2_costOfWay 8 = .ok (.iadd, 1) := by decide +kernel
theorem dX2_costOfWay_9 : decode cX2_costOfWay 9 = .ok (.istore_n 3, 1) := by decide +kernel
theorem dX2_costOfWay_10 : decode cX2_costOfWay 10 = .ok (.aload_n 0, 1) := by decide +kernel
theorem dX2_costOfWay_11 : decode cX2_costOfWay 11 = .ok (.getfield 58, 3) := by decide +kernel
theorem dX2_costOfWay_14 : decode cX2_costOfWay 14 = .ok (.iconst 1, 1) := by decide +kernel
theorem dX2_costOfWay_15 : decode cX2_costOfWay 15 = .ok (.if_icmp .ge 10, 3) := by decide +kernel
theorem dX2_costOfWay_18 : decode cX2_costOfWay 18 = .ok (.aload_n 0, 1) := by decide +kernel
theorem dX2_costOfWay_19 : decode cX2_costOfWay 19 = .ok (.getfield 55, 3) := by decide +kernel
theorem dX2_costOfWay_22 : decode cX2_costOfWay 22 = .ok (.goto 14, 3) := by decide +kernel
theorem dX2_costOfWay_25 : decode cX2_costOfWay 25 = .ok (.aload_n 0, 1) := by decide +kernel
theorem dX2_costOfWay_26 : decode cX2_costOfWay 26 = .ok (.getfield 55, 3) := by decide +kernel
theorem dX2_costOfWay_29 : decode cX2_costOfWay 29 = .ok (.iload_n 3, 1) := by decide +kernel
theorem dX2_costOfWay_30 : decode cX2_costOfWay 30 = .ok (.aload_n 0, 1) := by decide +kernel
theorem dX2_costOfWay_31 : decode cX2_costOfWay 31 = .ok (.getfield 58, 3) := by decide +kernel
theorem dX2_costOfWay_34 : decode cX2_costOfWay 34 = .ok (.idiv, 1) := by decide +kernel
theorem dX2_costOfWay_35 : decode cX2_costOfWay 35 = .ok (.iadd, 1) := by decide +kernel
theorem dX2_costOfWay_36 : decode cX2_costOfWay 36 = .ok (.ireturn, 1) := by decide +kernel
theorem dX2_cost_0 : decode cX2_cost 0 = .ok (.iload_n 1, 1) := by decide +kernel
theorem dX2_cost_1 : decode cX2_cost 1 = .ok (.iload_n 2, 1) := by decide +kernel
theorem dX2_cost_2 : decode cX2_cost 2 = .ok (.if_icmp .eq 19, 3) := by decide +kernel
theorem dX2_cost_5 : decode cX2_cost 5 = .ok (.aload_n 0, 1) := by decide +kernel
theorem dX2_cost_6 : decode cX2_cost 6 = .ok (.iload_n 1, 1) := by decide +kernel
theorem dX2_cost_7 : decode cX2_cost 7 = .ok (.invokevirtual 64, 3) := by decide +kernel
theorem dX2_cost_10 : decode cX2_cost 10 = .ok (.ifCond .eq 11, 3) := by decide +kernel
theorem dX2_cost_13 : decode cX2_cost 13 = .ok (.aload_n 0, 1) := by decide +kernel
theorem dX2_cost_14 : decode cX2_cost 14 = .ok (.iload_n 2, 1) := by decide +kernel
theorem dX2_cost_15 : decode cX2_cost 15 = .ok (.invokevirtual 64, 3) := by decide +kernel
theorem dX2_cost_18 : decode cX2_cost 18 = .ok (.ifCond .ne 5, 3) := by decide +kernel
theorem dX2_cost_21 : decode cX2_cost 21 = .ok (.iconst 0, 1) := by decide +kernel
theorem dX2_cost_22 : decode cX2_cost 22 = .ok (.ireturn, 1) := by decide +kernel
theorem dX2_cost_23 : decode cX2_cost 23 = .ok (.aload_n 0, 1) := by decide +kernel
theorem dX2_cost_24 : decode cX2_cost 24 = .ok (.aload_n 0, 1) := by decide +kernel
theorem dX2_cost_25 : decode cX2_cost 25 = .ok (.getfield 9, 3) := by decide +kernel
theorem dX2_cost_28 : decode cX2_cost 28 = .ok (.iload_n 1, 1) := by decide +kernel
theorem dX2_cost_29 : decode cX2_cost 29 = .ok (.iaload, 1) := by decide +kernel
theorem dX2_cost_30 : decode cX2_cost 30 = .ok (.aload_n 0, 1) := by decide +kernel
theorem dX2_cost_31 : decode cX2_cost 31 = .ok (.getfield 9, 3) := by decide +kernel
theorem dX2_cost_34 : decode cX2_cost 34 = .ok (.iload_n 2, 1) := by decide +kernel
theorem dX2_cost_35 : decode cX2_cost 35 = .ok (.iaload, 1) := by decide +kernel
theorem dX2_cost_36 : decode cX2_cost 36 = .ok (.isub, 1) := by decide +kernel
theorem dX2_cost_37 : decode cX2_cost 37 = .ok (.aload_n 0, 1) := by decide +kernel
theorem dX2_cost_38 : decode cX2_cost 38 = .ok (.getfield 15, 3) := by decide +kernel
theorem dX2_cost_41 : decode cX2_cost 41 = .ok (.iload_n 1, 1) := by decide +kernel
theorem dX2_cost_42 : decode cX2_cost 42 = .ok (.iaload, 1) := by decide +kernel
theorem dX2_cost_43 : decode cX2_cost 43 = .ok (.aload_n 0, 1) := by decide +kernel
theorem dX2_cost_44 : decode cX2_cost 44 = .ok (.getfield 15, 3) := by decide +kernel
theorem dX2_cost_47 : decode cX2_cost 47 = .ok (.iload_n 2, 1) := by decide +kernel
theorem dX2_cost_48 : decode cX2_cost 48 = .ok (.iaload, 1) := by decide +kernel
theorem dX2_cost_49 : decode cX2_cost 49 = .ok (.isub, 1) := by decide +kernel
theorem dX2_cost_50 : decode cX2_cost 50 = .ok (.invokevirtual 68, 3) := by decide +kernel
theorem dX2_cost_53 : decode cX2_cost 53 = .ok (.ireturn, 1) := by decide +kernel
set_option maxHeartbeats 4000000 in
set_option maxRecDepth 100000 in
/-- House.has -/
theorem c_has (l : Launch) (hl0 : l.stackTraces = false) (D : va_G) (cy : Nat → ClassId) (sa : Nat → Nat) (ha ha_x ha_y ha_holds ha_needs ha_harm ha_worth ha_joint ha_habit ha_sleepsFrom ha_sleepsTo ha_criesDrifted ha_criesElse : Nat) (h_bodies h_joints h_breath h_stride h_day b0 : Int32) (h_h_bodies : 0 ≤ h_bodies.toInt ∧ h_bodies.toInt ≤ 9) (h_h_breath : 0 ≤ h_breath.toInt ∧ h_breath.toInt ≤ 9) (h_h_day : 0 ≤ h_day.toInt ∧ h_day.toInt ≤ 480) (sz : Nat) : Met l yX2_has (Cond.code yX2_has cX2_has 2 (some .boolean) :: kWS) ({ frames := 10, cells := 0, slots := 0, locals := 300 }) (kPre D cy sa [.ref ha, .int b0] [(ha, .inr (4, [.ref ha_x, .ref ha_y, .ref ha_holds, .ref ha_needs, .ref ha_harm, .ref ha_worth, .ref ha_joint, .ref ha_habit, .ref ha_sleepsFrom, .ref ha_sleepsTo, .ref ha_criesDrifted, .ref ha_criesElse, .int h_bodies, .int h_joints, .int h_breath, .int h_stride, .int h_day]))] sz) (va_Qi (fun (r : Int32) (u : Unit) => (r.toInt = 0 ∨ (r.toInt = 1 ∧ 0 ≤ b0.toInt ∧ b0.toInt < h_bodies.toInt ∧ b0.toInt < 9))) (kB D (va_A [(ha, .inr (4, [.ref ha_x, .ref ha_y, .ref ha_holds, .ref ha_needs, .ref ha_harm, .ref ha_worth, .ref ha_joint, .ref ha_habit, .ref ha_sleepsFrom, .ref ha_sleepsTo, .ref ha_criesDrifted, .ref ha_criesElse, .int h_bodies, .int h_joints, .int h_breath, .int h_stride, .int h_day]))] sz) (fun (u : Unit) => [(ha, .inr (4, [.ref ha_x, .ref ha_y, .ref ha_holds, .ref ha_needs, .ref ha_harm, .ref ha_worth, .ref ha_joint, .ref ha_habit, .ref ha_sleepsFrom, .ref ha_sleepsTo, .ref ha_criesDrifted, .ref ha_criesElse, .int h_bodies, .int h_joints, .int h_breath, .int h_stride, .int h_day]))])) (va_A [(ha, .inr (4, [.ref ha_x, .ref ha_y, .ref ha_holds, .ref ha_needs, .ref ha_harm, .ref ha_worth, .ref ha_joint, .ref ha_habit, .ref ha_sleepsFrom, .ref ha_sleepsTo, .ref ha_criesDrifted, .ref ha_criesElse, .int h_bodies, .int h_joints, .int h_breath, .int h_stride, .int h_day]))] sz)) 0 0 (va_A [(ha, .inr (4, [.ref ha_x, .ref ha_y, .ref ha_holds, .ref ha_needs, .ref ha_harm, .ref ha_worth, .ref ha_joint, .ref ha_habit, .ref ha_sleepsFrom, .ref ha_sleepsTo, .ref ha_criesDrifted, .ref ha_criesElse, .int h_bodies, .int h_joints, .int h_breath, .int h_stride, .int h_day]))] sz) := by
  refine k_ofW (y := yX2_has) (cc := cX2_has) (maxL := 2) (ret := (some .boolean)) (av := [.ref ha, .int b0]) (ws := [(ha, .inr (4, [.ref ha_x, .ref ha_y, .ref ha_holds, .ref ha_needs, .ref ha_harm, .ref ha_worth, .ref ha_joint, .ref ha_habit, .ref ha_sleepsFrom, .ref ha_sleepsTo, .ref ha_criesDrifted, .ref ha_criesElse, .int h_bodies, .int h_joints, .int h_breath, .int h_stride, .int h_day]))]) (Qc := fun A => (va_Qi (fun (r : Int32) (u : Unit) => (r.toInt = 0 ∨ (r.toInt = 1 ∧ 0 ≤ b0.toInt ∧ b0.toInt < h_bodies.toInt ∧ b0.toInt < 9))) (kB D A (fun (u : Unit) => [(ha, .inr (4, [.ref ha_x, .ref ha_y, .ref ha_holds, .ref ha_needs, .ref ha_harm, .ref ha_worth, .ref ha_joint, .ref ha_habit, .ref ha_sleepsFrom, .ref ha_sleepsTo, .ref ha_criesDrifted, .ref ha_criesElse, .int h_bodies, .int h_joints, .int h_breath, .int h_stride, .int h_day]))])) A)) (by decide) (Nat.le_of_ble_eq_true rfl) ?_
  intro p e s m below meth c ls A E hA hP hD hG hS hl
  obtain ⟨Q0, hQ0⟩ : ∃ Q0 : State → Prop, Q0 = MQ below (va_Qi (fun (r : Int32) (u : Unit) => (r.toInt = 0 ∨ (r.toInt = 1 ∧ 0 ≤ b0.toInt ∧ b0.toInt < h_bodies.toInt ∧ b0.toInt < 9))) (kB D A (fun (u : Unit) => [(ha, .inr (4, [.ref ha_x, .ref ha_y, .ref ha_holds, .ref ha_needs, .ref ha_harm, .ref ha_worth, .ref ha_joint, .ref ha_habit, .ref ha_sleepsFrom, .ref ha_sleepsTo, .ref ha_criesDrifted, .ref ha_criesElse, .int h_bodies, .int h_joints, .int h_breath, .int h_stride, .int h_day]))])) A) ([.ref ha, .int b0] : List Value).toArray s 0 0 A := ⟨_, rfl⟩
  rw [← hQ0]
  obtain ⟨hx, hb, hml, hown, hts, hr, hlk, hnm⟩ := id E
  have hown : s.vm.findClass RX2 = some m.cls := hown
  have hl : lv_has ls 2 [(0, .ref ha), (1, .int b0)] := hl
  have g_b0 := k_rng b0
  obtain ⟨H, hH⟩ : ∃ H, H = s.heap := ⟨_, rfl⟩
  have hP : va_P D vwCl [(ha, .inr (4, [.ref ha_x, .ref ha_y, .ref ha_holds, .ref ha_needs, .ref ha_harm, .ref ha_worth, .ref ha_joint, .ref ha_habit, .ref ha_sleepsFrom, .ref ha_sleepsTo, .ref ha_criesDrifted, .ref ha_criesElse, .int h_bodies, .int h_joints, .int h_breath, .int h_stride, .int h_day]))] H := by rw [hH]; exact hP
  have hS : va_S A s.heap H [] := by rw [hH]; exact va_S.rf
  rw [← hH]
  clear hH
  obtain ⟨locs, hlocs⟩ : ∃ locs : List Loc, locs = [] := ⟨_, rfl⟩
  rw [← hlocs] at hS ⊢
  refine lv_iload_n hx hb dX2_has_0 rfl (lv_at hl 1 rfl) ?_
  refine lv_if_lt (tgt := 22) hx hb dX2_has_1 (by decide) (fun c1q => ?_) (fun c1q => ?_)
  · simp only [k_lt, k_le, k_eq, ne_eq, ge_iff_le, gt_iff_lt, n_L0, n_L0] at c1q
    refine lv_iconst (v := 0) hx hb dX2_has_22 (by decide) ?_
    rw [hQ0]
    exact k_zret () hx hb hr hlk (k_nz (by decide)) ((by show (0 : Int32).toInt = 0 ∨ ((0 : Int32).toInt = 1 ∧ 0 ≤ b0.toInt ∧ b0.toInt < h_bodies.toInt ∧ b0.toInt < 9); rw [n_L0]; omega)) (hP.sub [0] rfl) (hD.sub [0] (by decide) rfl) hS (by decide) (by decide) dX2_has_23
  · simp only [k_lt, k_le, k_eq, ne_eq, ge_iff_le, gt_iff_lt, n_L0, n_L0] at c1q
    refine lv_iload_n hx hb dX2_has_4 rfl (lv_at hl 1 rfl) ?_
    refine lv_aload_n hx hb dX2_has_5 rfl (lv_at hl 0 rfl) ?_
    refine va_get (D := D) (ci := 4) (v := .int h_bodies) (C := RX2) (T := TX2) (N := 17) hx hb hts kin_RX2 hown hG.1 hP 0 rfl rfl 12 (by decide) (hts _ wm_117) (fun _ h9 => h9) rfl dX2_has_6 ?_
    refine lv_icmp_ge (tgt := 22) hx hb dX2_has_9 (by decide) (fun c2q => ?_) (fun c2q => ?_)
    · simp only [k_lt, k_le, k_eq, ne_eq, ge_iff_le, gt_iff_lt] at c2q
      refine lv_iconst (v := 0) hx hb dX2_has_22 (by decide) ?_
      rw [hQ0]
      exact k_zret () hx hb hr hlk (k_nz (by decide)) ((by show (0 : Int32).toInt = 0 ∨ ((0 : Int32).toInt = 1 ∧ 0 ≤ b0.toInt ∧ b0.toInt < h_bodies.toInt ∧ b0.toInt < 9); rw [n_L0]; omega)) (hP.sub [0] rfl) (hD.sub [0] (by decide) rfl) hS (by decide) (by decide) dX2_has_23
    · simp only [k_lt, k_le, k_eq, ne_eq, ge_iff_le, gt_iff_lt] at c2q
      refine lv_iload_n hx hb dX2_has_12 rfl (lv_at hl 1 rfl) ?_
      refine lv_bipush (v := 9) hx hb dX2_has_13 (by decide) ?_
      refine lv_icmp_ge (tgt := 22) hx hb dX2_has_15 (by decide) (fun c3q => by exfalso; simp only [k_lt, k_le, k_eq, ne_eq, ge_iff_le, gt_iff_lt, n_L9] at c3q; omega) (fun c3q => ?_)
      simp only [k_lt, k_le, k_eq, ne_eq, ge_iff_le, gt_iff_lt, n_L9] at c3q
      refine lv_iconst (v := 1) hx hb dX2_has_18 (by decide) ?_
      refine lv_goto (tgt := 23) hx hb dX2_has_19 (by decide) ?_
      rw [hQ0]
      exact k_zret () hx hb hr hlk (k_nz (by decide)) ((by show (1 : Int32).toInt = 0 ∨ ((1 : Int32).toInt = 1 ∧ 0 ≤ b0.toInt ∧ b0.toInt < h_bodies.toInt ∧ b0.toInt < 9); rw [n_L1]; omega)) (hP.sub [0] rfl) (hD.sub [0] (by decide) rfl) hS (by decide) (by decide) dX2_has_23

set_option maxHeartbeats 4000000 in
set_option maxRecDepth 100000 in
/-- House.costOfWay -/
theorem c_costOfWay (l : Launch) (hl0 : l.stackTraces = false) (D : va_G) (cy : Nat → ClassId) (sa : Nat → Nat) (ha ha_x ha_y ha_holds ha_needs ha_harm ha_worth ha_joint ha_habit ha_sleepsFrom ha_sleepsTo ha_criesDrifted ha_criesElse : Nat) (h_bodies h_joints h_breath h_stride h_day dx dy : Int32) (h_h_bodies : 0 ≤ h_bodies.toInt ∧ h_bodies.toInt ≤ 9) (h_h_breath : 0 ≤ h_breath.toInt ∧ h_breath.toInt ≤ 9) (h_h_day : 0 ≤ h_day.toInt ∧ h_day.toInt ≤ 480) (h_dx : -15 ≤ dx.toInt ∧ dx.toInt ≤ 15) (h_dy : -15 ≤ dy.toInt ∧ dy.toInt ≤ 15) (sz : Nat) : Met l yX2_costOfWay (Cond.code yX2_costOfWay cX2_costOfWay 4 (some .int) :: kWS) ({ frames := 10, cells := 0, slots := 0, locals := 300 }) (kPre D cy sa [.ref ha, .int dx, .int dy] [(ha, .inr (4, [.ref ha_x, .ref ha_y, .ref ha_holds, .ref ha_needs, .ref ha_harm, .ref ha_worth, .ref ha_joint, .ref ha_habit, .ref ha_sleepsFrom, .ref ha_sleepsTo, .ref ha_criesDrifted, .ref ha_criesElse, .int h_bodies, .int h_joints, .int h_breath, .int h_stride, .int h_day]))] sz) (va_Qi (fun (r : Int32) (u : Unit) => (0 ≤ r.toInt ∧ r.toInt ≤ 39)) (kB D (va_A [(ha, .inr (4, [.ref ha_x, .ref ha_y, .ref ha_holds, .ref ha_needs, .ref ha_harm, .ref ha_worth, .ref ha_joint, .ref ha_habit, .ref ha_sleepsFrom, .ref ha_sleepsTo, .ref ha_criesDrifted, .ref ha_criesElse, .int h_bodies, .int h_joints, .int h_breath, .int h_stride, .int h_day]))] sz) (fun (u : Unit) => [(ha, .inr (4, [.ref ha_x, .ref ha_y, .ref ha_holds, .ref ha_needs, .ref ha_harm, .ref ha_worth, .ref ha_joint, .ref ha_habit, .ref ha_sleepsFrom, .ref ha_sleepsTo, .ref ha_criesDrifted, .ref ha_criesElse, .int h_bodies, .int h_joints, .int h_breath, .int h_stride, .int h_day]))])) (va_A [(ha, .inr (4, [.ref ha_x, .ref ha_y, .ref ha_holds, .ref ha_needs, .ref ha_harm, .ref ha_worth, .ref ha_joint, .ref ha_habit, .ref ha_sleepsFrom, .ref ha_sleepsTo, .ref ha_criesDrifted, .ref ha_criesElse, .int h_bodies, .int h_joints, .int h_breath, .int h_stride, .int h_day]))] sz)) 0 0 (va_A [(ha, .inr (4, [.ref ha_x, .ref ha_y, .ref ha_holds, .ref ha_needs, .ref ha_harm, .ref ha_worth, .ref ha_joint, .ref ha_habit, .ref ha_sleepsFrom, .ref ha_sleepsTo, .ref ha_criesDrifted, .ref ha_criesElse, .int h_bodies, .int h_joints, .int h_breath, .int h_stride, .int h_day]))] sz) := by
  refine k_ofW (y := yX2_costOfWay) (cc := cX2_costOfWay) (maxL := 4) (ret := (some .int)) (av := [.ref ha, .int dx, .int dy]) (ws := [(ha, .inr (4, [.ref ha_x, .ref ha_y, .ref ha_holds, .ref ha_needs, .ref ha_harm, .ref ha_worth, .ref ha_joint, .ref ha_habit, .ref ha_sleepsFrom, .ref ha_sleepsTo, .ref ha_criesDrifted, .ref ha_criesElse, .int h_bodies, .int h_joints, .int h_breath, .int h_stride, .int h_day]))]) (Qc := fun A => (va_Qi (fun (r : Int32) (u : Unit) => (0 ≤ r.toInt ∧ r.toInt ≤ 39)) (kB D A (fun (u : Unit) => [(ha, .inr (4, [.ref ha_x, .ref ha_y, .ref ha_holds, .ref ha_needs, .ref ha_harm, .ref ha_worth, .ref ha_joint, .ref ha_habit, .ref ha_sleepsFrom, .ref ha_sleepsTo, .ref ha_criesDrifted, .ref ha_criesElse, .int h_bodies, .int h_joints, .int h_breath, .int h_stride, .int h_day]))])) A)) (by decide) (Nat.le_of_ble_eq_true rfl) ?_
  intro p e s m below meth c ls A E hA hP hD hG hS hl
  obtain ⟨Q0, hQ0⟩ : ∃ Q0 : State → Prop, Q0 = MQ below (va_Qi (fun (r : Int32) (u : Unit) => (0 ≤ r.toInt ∧ r.toInt ≤ 39)) (kB D A (fun (u : Unit) => [(ha, .inr (4, [.ref ha_x, .ref ha_y, .ref ha_holds, .ref ha_needs, .ref ha_harm, .ref ha_worth, .ref ha_joint, .ref ha_habit, .ref ha_sleepsFrom, .ref ha_sleepsTo, .ref ha_criesDrifted, .ref ha_criesElse, .int h_bodies, .int h_joints, .int h_breath, .int h_stride, .int h_day]))])) A) ([.ref ha, .int dx, .int dy] : List Value).toArray s 0 0 A := ⟨_, rfl⟩
  rw [← hQ0]
  obtain ⟨hx, hb, hml, hown, hts, hr, hlk, hnm⟩ := id E
  have hown : s.vm.findClass RX2 = some m.cls := hown
  have hl : lv_has ls 4 [(0, .ref ha), (1, .int dx), (2, .int dy)] := hl
  obtain ⟨H, hH⟩ : ∃ H, H = s.heap := ⟨_, rfl⟩
  have hP : va_P D vwCl [(ha, .inr (4, [.ref ha_x, .ref ha_y, .ref ha_holds, .ref ha_needs, .ref ha_harm, .ref ha_worth, .ref ha_joint, .ref ha_habit, .ref ha_sleepsFrom, .ref ha_sleepsTo, .ref ha_criesDrifted, .ref ha_criesElse, .int h_bodies, .int h_joints, .int h_breath, .int h_stride, .int h_day]))] H := by rw [hH]; exact hP
  have hS : va_S A s.heap H [] := by rw [hH]; exact va_S.rf
  rw [← hH]
  clear hH
  obtain ⟨locs, hlocs⟩ : ∃ locs : List Loc, locs = [] := ⟨_, rfl⟩
  rw [← hlocs] at hS ⊢
  refine lv_iload_n hx hb dX2_costOfWay_0 rfl (lv_at hl 1 rfl) ?_
  refine va_mabs hx hb (hml.trans hl.1.symm) hown (hts _ wm_534) (hts _ wm_535) (hts _ wm_17) (hts _ wm_536) (Nat.le_of_ble_eq_true rfl) (Nat.le_of_ble_eq_true rfl) (Nat.le_of_ble_eq_true rfl) (Nat.le_of_ble_eq_true rfl) dX2_costOfWay_1 ?_
  refine lv_topi (fun x1q ex1q => ?_)
  have rx1q := n_abs ex1q (by omega)
  refine lv_iload_n hx hb dX2_costOfWay_4 rfl (lv_at hl 2 rfl) ?_
  refine va_mabs hx hb (hml.trans hl.1.symm) hown (hts _ wm_534) (hts _ wm_535) (hts _ wm_17) (hts _ wm_536) (Nat.le_of_ble_eq_true rfl) (Nat.le_of_ble_eq_true rfl) (Nat.le_of_ble_eq_true rfl) (Nat.le_of_ble_eq_true rfl) dX2_costOfWay_5 ?_
  refine lv_topi (fun x2q ex2q => ?_)
  have rx2q := n_abs ex2q (by omega)
  refine lv_iadd hx hb dX2_costOfWay_8 ?_
  refine lv_topi (fun x3q ex3q => ?_)
  have rx3q := n_add ex3q (a := x1q.toInt) (b := x2q.toInt) rfl rfl (by omega) (by omega)
  refine lv_istore_n (lv' := [(3, .int x3q), (0, .ref ha), (1, .int dx), (2, .int dy)]) hx hb dX2_costOfWay_9 rfl hl (by decide) rfl (fun ls hl => ?_)
  refine lv_aload_n hx hb dX2_costOfWay_10 rfl (lv_at hl 1 rfl) ?_
  refine va_get (D := D) (ci := 4) (v := .int h_stride) (C := RX2) (T := TX2) (N := 17) hx hb hts kin_RX2 hown hG.1 hP 0 rfl rfl 15 (by decide) (hts _ wm_129) (fun _ h9 => h9) rfl dX2_costOfWay_11 ?_
  refine lv_iconst (v := 1) hx hb dX2_costOfWay_14 (by decide) ?_
  refine lv_icmp_ge (tgt := 25) hx hb dX2_costOfWay_15 (by decide) (fun c4q => ?_) (fun c4q => ?_)
  · simp only [k_lt, k_le, k_eq, ne_eq, ge_iff_le, gt_iff_lt, n_L1] at c4q
    refine lv_aload_n hx hb dX2_costOfWay_25 rfl (lv_at hl 1 rfl) ?_
    refine va_get (D := D) (ci := 4) (v := .int h_breath) (C := RX2) (T := TX2) (N := 17) hx hb hts kin_RX2 hown hG.1 hP 0 rfl rfl 14 (by decide) (hts _ wm_126) (fun _ h9 => h9) rfl dX2_costOfWay_26 ?_
    refine lv_iload_n hx hb dX2_costOfWay_29 rfl (lv_at hl 0 rfl) ?_
    refine lv_aload_n hx hb dX2_costOfWay_30 rfl (lv_at hl 1 rfl) ?_
    refine va_get (D := D) (ci := 4) (v := .int h_stride) (C := RX2) (T := TX2) (N := 17) hx hb hts kin_RX2 hown hG.1 hP 0 rfl rfl 15 (by decide) (hts _ wm_129) (fun _ h9 => h9) rfl dX2_costOfWay_31 ?_
    refine lv_idiv hx hb dX2_costOfWay_34 (n_ne (by omega)) ?_
    refine lv_topi (fun x5q ex5q => ?_)
    have gx5q := k_rng h_stride
    have rx5q := n_divR ex5q (by omega) (by omega)
    refine lv_iadd hx hb dX2_costOfWay_35 ?_
    refine lv_topi (fun x6q ex6q => ?_)
    have rx6q := n_add ex6q (a := h_breath.toInt) (b := x5q.toInt) rfl rfl (by omega) (by omega)
    rw [hQ0]
    exact k_iret () hx hb hr hlk ((show 0 ≤ x6q.toInt ∧ x6q.toInt ≤ 39 by omega)) (hP.sub [0] rfl) (hD.sub [0] (by decide) rfl) hS (by decide) (by decide) dX2_costOfWay_36
  · simp only [k_lt, k_le, k_eq, ne_eq, ge_iff_le, gt_iff_lt, n_L1] at c4q
    refine lv_aload_n hx hb dX2_costOfWay_18 rfl (lv_at hl 1 rfl) ?_
    refine va_get (D := D) (ci := 4) (v := .int h_breath) (C := RX2) (T := TX2) (N := 17) hx hb hts kin_RX2 hown hG.1 hP 0 rfl rfl 14 (by decide) (hts _ wm_126) (fun _ h9 => h9) rfl dX2_costOfWay_19 ?_
    refine lv_goto (tgt := 36) hx hb dX2_costOfWay_22 (by decide) ?_
    rw [hQ0]
    exact k_iret () hx hb hr hlk ((show 0 ≤ h_breath.toInt ∧ h_breath.toInt ≤ 39 by omega)) (hP.sub [0] rfl) (hD.sub [0] (by decide) rfl) hS (by decide) (by decide) dX2_costOfWay_36

set_option maxHeartbeats 4000000 in
set_option maxRecDepth 100000 in
/-- House.cost -/
theorem c_cost (l : Launch) (hl0 : l.stackTraces = false) (D : va_G) (cy : Nat → ClassId) (sa : Nat → Nat) (ha ha_x ha_y ha_holds ha_needs ha_harm ha_worth ha_joint ha_habit ha_sleepsFrom ha_sleepsTo ha_criesDrifted ha_criesElse : Nat) (h_bodies h_joints h_breath h_stride h_day b0 b1 : Int32) (hf_x hf_y : Nat → Int32) (h_h_bodies : 0 ≤ h_bodies.toInt ∧ h_bodies.toInt ≤ 9) (h_h_breath : 0 ≤ h_breath.toInt ∧ h_breath.toInt ≤ 9) (h_h_day : 0 ≤ h_day.toInt ∧ h_day.toInt ≤ 480) (h_hf_x : rowR 9 0 (15) hf_x) (h_hf_y : rowR 9 0 (15) hf_y) (sz : Nat) : Met l yX2_cost (Cond.code yX2_cost cX2_cost 3 (some .int) :: kWS) ({ frames := 11, cells := 0, slots := 0, locals := 360 }) (kPre D cy sa [.ref ha, .int b0, .int b1] [(ha, .inr (4, [.ref ha_x, .ref ha_y, .ref ha_holds, .ref ha_needs, .ref ha_harm, .ref ha_worth, .ref ha_joint, .ref ha_habit, .ref ha_sleepsFrom, .ref ha_sleepsTo, .ref ha_criesDrifted, .ref ha_criesElse, .int h_bodies, .int h_joints, .int h_breath, .int h_stride, .int h_day])), (ha_x, .inl (cy 0, 9, .inl hf_x)), (ha_y, .inl (cy 0, 9, .inl hf_y))] sz) (va_Qi (fun (r : Int32) (u : Unit) => (0 ≤ r.toInt ∧ r.toInt ≤ 39)) (kB D (va_A [(ha, .inr (4, [.ref ha_x, .ref ha_y, .ref ha_holds, .ref ha_needs, .ref ha_harm, .ref ha_worth, .ref ha_joint, .ref ha_habit, .ref ha_sleepsFrom, .ref ha_sleepsTo, .ref ha_criesDrifted, .ref ha_criesElse, .int h_bodies, .int h_joints, .int h_breath, .int h_stride, .int h_day])), (ha_x, .inl (cy 0, 9, .inl hf_x)), (ha_y, .inl (cy 0, 9, .inl hf_y))] sz) (fun (u : Unit) => [(ha, .inr (4, [.ref ha_x, .ref ha_y, .ref ha_holds, .ref ha_needs, .ref ha_harm, .ref ha_worth, .ref ha_joint, .ref ha_habit, .ref ha_sleepsFrom, .ref ha_sleepsTo, .ref ha_criesDrifted, .ref ha_criesElse, .int h_bodies, .int h_joints, .int h_breath, .int h_stride, .int h_day])), (ha_x, .inl (cy 0, 9, .inl hf_x)), (ha_y, .inl (cy 0, 9, .inl hf_y))])) (va_A [(ha, .inr (4, [.ref ha_x, .ref ha_y, .ref ha_holds, .ref ha_needs, .ref ha_harm, .ref ha_worth, .ref ha_joint, .ref ha_habit, .ref ha_sleepsFrom, .ref ha_sleepsTo, .ref ha_criesDrifted, .ref ha_criesElse, .int h_bodies, .int h_joints, .int h_breath, .int h_stride, .int h_day])), (ha_x, .inl (cy 0, 9, .inl hf_x)), (ha_y, .inl (cy 0, 9, .inl hf_y))] sz)) 0 0 (va_A [(ha, .inr (4, [.ref ha_x, .ref ha_y, .ref ha_holds, .ref ha_needs, .ref ha_harm, .ref ha_worth, .ref ha_joint, .ref ha_habit, .ref ha_sleepsFrom, .ref ha_sleepsTo, .ref ha_criesDrifted, .ref ha_criesElse, .int h_bodies, .int h_joints, .int h_breath, .int h_stride, .int h_day])), (ha_x, .inl (cy 0, 9, .inl hf_x)), (ha_y, .inl (cy 0, 9, .inl hf_y))] sz) := by
  refine k_ofW (y := yX2_cost) (cc := cX2_cost) (maxL := 3) (ret := (some .int)) (av := [.ref ha, .int b0, .int b1]) (ws := [(ha, .inr (4, [.ref ha_x, .ref ha_y, .ref ha_holds, .ref ha_needs, .ref ha_harm, .ref ha_worth, .ref ha_joint, .ref ha_habit, .ref ha_sleepsFrom, .ref ha_sleepsTo, .ref ha_criesDrifted, .ref ha_criesElse, .int h_bodies, .int h_joints, .int h_breath, .int h_stride, .int h_day])), (ha_x, .inl (cy 0, 9, .inl hf_x)), (ha_y, .inl (cy 0, 9, .inl hf_y))]) (Qc := fun A => (va_Qi (fun (r : Int32) (u : Unit) => (0 ≤ r.toInt ∧ r.toInt ≤ 39)) (kB D A (fun (u : Unit) => [(ha, .inr (4, [.ref ha_x, .ref ha_y, .ref ha_holds, .ref ha_needs, .ref ha_harm, .ref ha_worth, .ref ha_joint, .ref ha_habit, .ref ha_sleepsFrom, .ref ha_sleepsTo, .ref ha_criesDrifted, .ref ha_criesElse, .int h_bodies, .int h_joints, .int h_breath, .int h_stride, .int h_day])), (ha_x, .inl (cy 0, 9, .inl hf_x)), (ha_y, .inl (cy 0, 9, .inl hf_y))])) A)) (by decide) (Nat.le_of_ble_eq_true rfl) ?_
  intro p e s m below meth c ls A E hA hP hD hG hS hl
  obtain ⟨Q0, hQ0⟩ : ∃ Q0 : State → Prop, Q0 = MQ below (va_Qi (fun (r : Int32) (u : Unit) => (0 ≤ r.toInt ∧ r.toInt ≤ 39)) (kB D A (fun (u : Unit) => [(ha, .inr (4, [.ref ha_x, .ref ha_y, .ref ha_holds, .ref ha_needs, .ref ha_harm, .ref ha_worth, .ref ha_joint, .ref ha_habit, .ref ha_sleepsFrom, .ref ha_sleepsTo, .ref ha_criesDrifted, .ref ha_criesElse, .int h_bodies, .int h_joints, .int h_breath, .int h_stride, .int h_day])), (ha_x, .inl (cy 0, 9, .inl hf_x)), (ha_y, .inl (cy 0, 9, .inl hf_y))])) A) ([.ref ha, .int b0, .int b1] : List Value).toArray s 0 0 A := ⟨_, rfl⟩
  rw [← hQ0]
  obtain ⟨hx, hb, hml, hown, hts, hr, hlk, hnm⟩ := id E
  have hown : s.vm.findClass RX2 = some m.cls := hown
  have hl : lv_has ls 3 [(0, .ref ha), (1, .int b0), (2, .int b1)] := hl
  have g_b0 := k_rng b0
  have g_b1 := k_rng b1
  obtain ⟨H, hH⟩ : ∃ H, H = s.heap := ⟨_, rfl⟩
  have hP : va_P D vwCl [(ha, .inr (4, [.ref ha_x, .ref ha_y, .ref ha_holds, .ref ha_needs, .ref ha_harm, .ref ha_worth, .ref ha_joint, .ref ha_habit, .ref ha_sleepsFrom, .ref ha_sleepsTo, .ref ha_criesDrifted, .ref ha_criesElse, .int h_bodies, .int h_joints, .int h_breath, .int h_stride, .int h_day])), (ha_x, .inl (cy 0, 9, .inl hf_x)), (ha_y, .inl (cy 0, 9, .inl hf_y))] H := by rw [hH]; exact hP
  have hS : va_S A s.heap H [] := by rw [hH]; exact va_S.rf
  rw [← hH]
  clear hH
  obtain ⟨locs, hlocs⟩ : ∃ locs : List Loc, locs = [] := ⟨_, rfl⟩
  rw [← hlocs] at hS ⊢
  refine lv_iload_n hx hb dX2_cost_0 rfl (lv_at hl 1 rfl) ?_
  refine lv_iload_n hx hb dX2_cost_1 rfl (lv_at hl 2 rfl) ?_
  refine lv_icmp_eq (tgt := 21) hx hb dX2_cost_2 (by decide) (fun c1q => ?_) (fun c1q => ?_)
  · simp only [k_lt, k_le, k_eq, ne_eq, ge_iff_le, gt_iff_lt] at c1q
    refine lv_iconst (v := 0) hx hb dX2_cost_21 (by decide) ?_
    rw [hQ0]
    exact k_iret () hx hb hr hlk ((by show 0 ≤ (0 : Int32).toInt ∧ (0 : Int32).toInt ≤ 39; rw [n_L0]; omega)) (hP.sub [0, 1, 2] rfl) (hD.sub [0, 1, 2] (by decide) rfl) hS (by decide) (by decide) dX2_cost_22
  · simp only [k_lt, k_le, k_eq, ne_eq, ge_iff_le, gt_iff_lt] at c1q
    refine lv_aload_n hx hb dX2_cost_5 rfl (lv_at hl 0 rfl) ?_
    refine lv_iload_n hx hb dX2_cost_6 rfl (lv_at hl 1 rfl) ?_
    refine k_cali [1, 2] (⟨hP, hD, hG, hS, hA, rfl, rfl⟩ : kAt D cy sa A s H _ _ [(ha, .inr (4, [.ref ha_x, .ref ha_y, .ref ha_holds, .ref ha_needs, .ref ha_harm, .ref ha_worth, .ref ha_joint, .ref ha_habit, .ref ha_sleepsFrom, .ref ha_sleepsTo, .ref ha_criesDrifted, .ref ha_criesElse, .int h_bodies, .int h_joints, .int h_breath, .int h_stride, .int h_day]))] [0]) (wr := [(ha_x, .inl (cy 0, 9, .inl hf_x)), (ha_y, .inl (cy 0, 9, .inl hf_y))]) rfl rfl (by decide) (k_runV 4 0 (As := [.int b0]) (rest := []) E lk_VRX2_64 rfl rfl rfl (c_has l hl0 D cy sa ha ha_x ha_y ha_holds ha_needs ha_harm ha_worth ha_joint ha_habit ha_sleepsFrom ha_sleepsTo ha_criesDrifted ha_criesElse h_bodies h_joints h_breath h_stride h_day b0 ⟨by omega, by omega⟩ ⟨by omega, by omega⟩ ⟨by omega, by omega⟩ H.size) (⟨hP, hD, hG, hS, hA, rfl, rfl⟩ : kAt D cy sa A s H _ _ [(ha, .inr (4, [.ref ha_x, .ref ha_y, .ref ha_holds, .ref ha_needs, .ref ha_harm, .ref ha_worth, .ref ha_joint, .ref ha_habit, .ref ha_sleepsFrom, .ref ha_sleepsTo, .ref ha_criesDrifted, .ref ha_criesElse, .int h_bodies, .int h_joints, .int h_breath, .int h_stride, .int h_day]))] [0]) hl.1 rfl rfl ⟨rfl, rfl, ⟨Nat.le_of_ble_eq_true rfl, Nat.le_of_ble_eq_true rfl⟩, ⟨Nat.le_of_ble_eq_true rfl, Nat.le_of_ble_eq_true rfl⟩, Nat.le_of_ble_eq_true rfl⟩ dX2_cost_7) (fun r2q u3q H locs hwu3q hP hD hS => ?_)
    have hP : va_P D vwCl [(ha_x, .inl (cy 0, 9, .inl hf_x)), (ha_y, .inl (cy 0, 9, .inl hf_y)), (ha, .inr (4, [.ref ha_x, .ref ha_y, .ref ha_holds, .ref ha_needs, .ref ha_harm, .ref ha_worth, .ref ha_joint, .ref ha_habit, .ref ha_sleepsFrom, .ref ha_sleepsTo, .ref ha_criesDrifted, .ref ha_criesElse, .int h_bodies, .int h_joints, .int h_breath, .int h_stride, .int h_day]))] H := hP
    have hD : va_D A [(ha_x, .inl (cy 0, 9, .inl hf_x)), (ha_y, .inl (cy 0, 9, .inl hf_y)), (ha, .inr (4, [.ref ha_x, .ref ha_y, .ref ha_holds, .ref ha_needs, .ref ha_harm, .ref ha_worth, .ref ha_joint, .ref ha_habit, .ref ha_sleepsFrom, .ref ha_sleepsTo, .ref ha_criesDrifted, .ref ha_criesElse, .int h_bodies, .int h_joints, .int h_breath, .int h_stride, .int h_day]))] := hD
    have p4q := hwu3q
    refine lv_if_eq (tgt := 21) hx hb dX2_cost_10 (by decide) (fun c5q => ?_) (fun c5q => ?_)
    · simp only [k_lt, k_le, k_eq, ne_eq, ge_iff_le, gt_iff_lt, n_L0, n_L0] at c5q
      refine lv_iconst (v := 0) hx hb dX2_cost_21 (by decide) ?_
      rw [hQ0]
      exact k_iret () hx hb hr hlk ((by show 0 ≤ (0 : Int32).toInt ∧ (0 : Int32).toInt ≤ 39; rw [n_L0]; omega)) (hP.sub [2, 0, 1] rfl) (hD.sub [2, 0, 1] (by decide) rfl) hS (by decide) (by decide) dX2_cost_22
    · simp only [k_lt, k_le, k_eq, ne_eq, ge_iff_le, gt_iff_lt, n_L0, n_L0] at c5q
      refine lv_aload_n hx hb dX2_cost_13 rfl (lv_at hl 0 rfl) ?_
      refine lv_iload_n hx hb dX2_cost_14 rfl (lv_at hl 2 rfl) ?_
      refine k_cali [0, 1] (⟨hP, hD, hG, hS, hA, rfl, rfl⟩ : kAt D cy sa A s H _ _ [(ha, .inr (4, [.ref ha_x, .ref ha_y, .ref ha_holds, .ref ha_needs, .ref ha_harm, .ref ha_worth, .ref ha_joint, .ref ha_habit, .ref ha_sleepsFrom, .ref ha_sleepsTo, .ref ha_criesDrifted, .ref ha_criesElse, .int h_bodies, .int h_joints, .int h_breath, .int h_stride, .int h_day]))] [2]) (wr := [(ha_x, .inl (cy 0, 9, .inl hf_x)), (ha_y, .inl (cy 0, 9, .inl hf_y))]) rfl rfl (by decide) (k_runV 4 2 (As := [.int b1]) (rest := []) E lk_VRX2_64 rfl rfl rfl (c_has l hl0 D cy sa ha ha_x ha_y ha_holds ha_needs ha_harm ha_worth ha_joint ha_habit ha_sleepsFrom ha_sleepsTo ha_criesDrifted ha_criesElse h_bodies h_joints h_breath h_stride h_day b1 ⟨by omega, by omega⟩ ⟨by omega, by omega⟩ ⟨by omega, by omega⟩ H.size) (⟨hP, hD, hG, hS, hA, rfl, rfl⟩ : kAt D cy sa A s H _ _ [(ha, .inr (4, [.ref ha_x, .ref ha_y, .ref ha_holds, .ref ha_needs, .ref ha_harm, .ref ha_worth, .ref ha_joint, .ref ha_habit, .ref ha_sleepsFrom, .ref ha_sleepsTo, .ref ha_criesDrifted, .ref ha_criesElse, .int h_bodies, .int h_joints, .int h_breath, .int h_stride, .int h_day]))] [2]) hl.1 rfl rfl ⟨rfl, rfl, ⟨Nat.le_of_ble_eq_true rfl, Nat.le_of_ble_eq_true rfl⟩, ⟨Nat.le_of_ble_eq_true rfl, Nat.le_of_ble_eq_true rfl⟩, Nat.le_of_ble_eq_true rfl⟩ dX2_cost_15) (fun r6q u7q H locs hwu7q hP hD hS => ?_)
      have hP : va_P D vwCl [(ha_x, .inl (cy 0, 9, .inl hf_x)), (ha_y, .inl (cy 0, 9, .inl hf_y)), (ha, .inr (4, [.ref ha_x, .ref ha_y, .ref ha_holds, .ref ha_needs, .ref ha_harm, .ref ha_worth, .ref ha_joint, .ref ha_habit, .ref ha_sleepsFrom, .ref ha_sleepsTo, .ref ha_criesDrifted, .ref ha_criesElse, .int h_bodies, .int h_joints, .int h_breath, .int h_stride, .int h_day]))] H := hP
      have hD : va_D A [(ha_x, .inl (cy 0, 9, .inl hf_x)), (ha_y, .inl (cy 0, 9, .inl hf_y)), (ha, .inr (4, [.ref ha_x, .ref ha_y, .ref ha_holds, .ref ha_needs, .ref ha_harm, .ref ha_worth, .ref ha_joint, .ref ha_habit, .ref ha_sleepsFrom, .ref ha_sleepsTo, .ref ha_criesDrifted, .ref ha_criesElse, .int h_bodies, .int h_joints, .int h_breath, .int h_stride, .int h_day]))] := hD
      have p8q := hwu7q
      refine lv_if_ne (tgt := 23) hx hb dX2_cost_18 (by decide) (fun c9q => ?_) (fun c9q => ?_)
      · simp only [k_lt, k_le, k_eq, ne_eq, ge_iff_le, gt_iff_lt, n_L0, n_L0] at c9q
        refine lv_aload_n hx hb dX2_cost_23 rfl (lv_at hl 0 rfl) ?_
        refine lv_aload_n hx hb dX2_cost_24 rfl (lv_at hl 0 rfl) ?_
        refine va_get (D := D) (ci := 4) (v := .ref ha_x) (C := RX2) (T := TX2) (N := 17) hx hb hts kin_RX2 hown hG.1 hP 2 rfl rfl 0 (by decide) (hts _ wm_75) (fun _ h9 => h9) rfl dX2_cost_25 ?_
        refine lv_iload_n hx hb dX2_cost_28 rfl (lv_at hl 1 rfl) ?_
        refine va_iald hx hb hG.1 hP 0 0 rfl rfl (n_in (by omega) (by omega)) dX2_cost_29 ?_
        refine lv_topi (fun x10q ex10q => ?_)
        have rx10q : 0 ≤ x10q.toInt ∧ x10q.toInt ≤ 15 := by rw [ex10q]; exact h_hf_x _ (n_lt (by omega) (by omega))
        refine lv_aload_n hx hb dX2_cost_30 rfl (lv_at hl 0 rfl) ?_
        refine va_get (D := D) (ci := 4) (v := .ref ha_x) (C := RX2) (T := TX2) (N := 17) hx hb hts kin_RX2 hown hG.1 hP 2 rfl rfl 0 (by decide) (hts _ wm_75) (fun _ h9 => h9) rfl dX2_cost_31 ?_
        refine lv_iload_n hx hb dX2_cost_34 rfl (lv_at hl 2 rfl) ?_
        refine va_iald hx hb hG.1 hP 0 0 rfl rfl (n_in (by omega) (by omega)) dX2_cost_35 ?_
        refine lv_topi (fun x11q ex11q => ?_)
        have rx11q : 0 ≤ x11q.toInt ∧ x11q.toInt ≤ 15 := by rw [ex11q]; exact h_hf_x _ (n_lt (by omega) (by omega))
        refine lv_isub hx hb dX2_cost_36 ?_
        refine lv_topi (fun x12q ex12q => ?_)
        have rx12q := n_sub ex12q (a := x10q.toInt) (b := x11q.toInt) rfl rfl (by omega) (by omega)
        refine lv_aload_n hx hb dX2_cost_37 rfl (lv_at hl 0 rfl) ?_
        refine va_get (D := D) (ci := 4) (v := .ref ha_y) (C := RX2) (T := TX2) (N := 17) hx hb hts kin_RX2 hown hG.1 hP 2 rfl rfl 1 (by decide) (hts _ wm_77) (fun _ h9 => h9) rfl dX2_cost_38 ?_
        refine lv_iload_n hx hb dX2_cost_41 rfl (lv_at hl 1 rfl) ?_
        refine va_iald hx hb hG.1 hP 1 0 rfl rfl (n_in (by omega) (by omega)) dX2_cost_42 ?_
        refine lv_topi (fun x13q ex13q => ?_)
        have rx13q : 0 ≤ x13q.toInt ∧ x13q.toInt ≤ 15 := by rw [ex13q]; exact h_hf_y _ (n_lt (by omega) (by omega))
        refine lv_aload_n hx hb dX2_cost_43 rfl (lv_at hl 0 rfl) ?_
        refine va_get (D := D) (ci := 4) (v := .ref ha_y) (C := RX2) (T := TX2) (N := 17) hx hb hts kin_RX2 hown hG.1 hP 2 rfl rfl 1 (by decide) (hts _ wm_77) (fun _ h9 => h9) rfl dX2_cost_44 ?_
        refine lv_iload_n hx hb dX2_cost_47 rfl (lv_at hl 2 rfl) ?_
        refine va_iald hx hb hG.1 hP 1 0 rfl rfl (n_in (by omega) (by omega)) dX2_cost_48 ?_
        refine lv_topi (fun x14q ex14q => ?_)
        have rx14q : 0 ≤ x14q.toInt ∧ x14q.toInt ≤ 15 := by rw [ex14q]; exact h_hf_y _ (n_lt (by omega) (by omega))
        refine lv_isub hx hb dX2_cost_49 ?_
        refine lv_topi (fun x15q ex15q => ?_)
        have rx15q := n_sub ex15q (a := x13q.toInt) (b := x14q.toInt) rfl rfl (by omega) (by omega)
        refine k_cali [0, 1] (⟨hP, hD, hG, hS, hA, rfl, rfl⟩ : kAt D cy sa A s H _ _ [(ha, .inr (4, [.ref ha_x, .ref ha_y, .ref ha_holds, .ref ha_needs, .ref ha_harm, .ref ha_worth, .ref ha_joint, .ref ha_habit, .ref ha_sleepsFrom, .ref ha_sleepsTo, .ref ha_criesDrifted, .ref ha_criesElse, .int h_bodies, .int h_joints, .int h_breath, .int h_stride, .int h_day]))] [2]) (wr := [(ha_x, .inl (cy 0, 9, .inl hf_x)), (ha_y, .inl (cy 0, 9, .inl hf_y))]) rfl rfl (by decide) (k_runV 4 2 (As := [.int x12q, .int x15q]) (rest := []) E lk_VRX2_68 rfl rfl rfl (c_costOfWay l hl0 D cy sa ha ha_x ha_y ha_holds ha_needs ha_harm ha_worth ha_joint ha_habit ha_sleepsFrom ha_sleepsTo ha_criesDrifted ha_criesElse h_bodies h_joints h_breath h_stride h_day x12q x15q ⟨by omega, by omega⟩ ⟨by omega, by omega⟩ ⟨by omega, by omega⟩ ⟨by omega, by omega⟩ ⟨by omega, by omega⟩ H.size) (⟨hP, hD, hG, hS, hA, rfl, rfl⟩ : kAt D cy sa A s H _ _ [(ha, .inr (4, [.ref ha_x, .ref ha_y, .ref ha_holds, .ref ha_needs, .ref ha_harm, .ref ha_worth, .ref ha_joint, .ref ha_habit, .ref ha_sleepsFrom, .ref ha_sleepsTo, .ref ha_criesDrifted, .ref ha_criesElse, .int h_bodies, .int h_joints, .int h_breath, .int h_stride, .int h_day]))] [2]) hl.1 rfl rfl ⟨rfl, rfl, ⟨Nat.le_of_ble_eq_true rfl, Nat.le_of_ble_eq_true rfl⟩, ⟨Nat.le_of_ble_eq_true rfl, Nat.le_of_ble_eq_true rfl⟩, Nat.le_of_ble_eq_true rfl⟩ dX2_cost_50) (fun r16q u17q H locs hwu17q hP hD hS => ?_)
        have hP : va_P D vwCl [(ha_x, .inl (cy 0, 9, .inl hf_x)), (ha_y, .inl (cy 0, 9, .inl hf_y)), (ha, .inr (4, [.ref ha_x, .ref ha_y, .ref ha_holds, .ref ha_needs, .ref ha_harm, .ref ha_worth, .ref ha_joint, .ref ha_habit, .ref ha_sleepsFrom, .ref ha_sleepsTo, .ref ha_criesDrifted, .ref ha_criesElse, .int h_bodies, .int h_joints, .int h_breath, .int h_stride, .int h_day]))] H := hP
        have hD : va_D A [(ha_x, .inl (cy 0, 9, .inl hf_x)), (ha_y, .inl (cy 0, 9, .inl hf_y)), (ha, .inr (4, [.ref ha_x, .ref ha_y, .ref ha_holds, .ref ha_needs, .ref ha_harm, .ref ha_worth, .ref ha_joint, .ref ha_habit, .ref ha_sleepsFrom, .ref ha_sleepsTo, .ref ha_criesDrifted, .ref ha_criesElse, .int h_bodies, .int h_joints, .int h_breath, .int h_stride, .int h_day]))] := hD
        have p18q := hwu17q
        rw [hQ0]
        exact k_iret () hx hb hr hlk ((show 0 ≤ r16q.toInt ∧ r16q.toInt ≤ 39 by omega)) (hP.sub [2, 0, 1] rfl) (hD.sub [2, 0, 1] (by decide) rfl) hS (by decide) (by decide) dX2_cost_53
      · simp only [k_lt, k_le, k_eq, ne_eq, ge_iff_le, gt_iff_lt, n_L0, n_L0] at c9q
        refine lv_iconst (v := 0) hx hb dX2_cost_21 (by decide) ?_
        rw [hQ0]
        exact k_iret () hx hb hr hlk ((by show 0 ≤ (0 : Int32).toInt ∧ (0 : Int32).toInt ≤ 39; rw [n_L0]; omega)) (hP.sub [2, 0, 1] rfl) (hD.sub [2, 0, 1] (by decide) rfl) hS (by decide) (by decide) dX2_cost_22
