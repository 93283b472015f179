theorem wm_117 : Cond.fieldLink RX2 48 "LentMinds$House" "bodies" "I" ∈ kWS := kws_at 117 (by decide +kernel) (by decide +kernel)
theorem wm_921 : Cond.classLink RX11 110 "java/lang/IllegalArgumentException" ∈ kWS := kws_at 921 (by decide +kernel) (by decide +kernel)
theorem dX2_has_0 : decode cX2_has 0 = .ok (.iload_n 1, 1) := by decide +kernel
theorem dX2_has_1 : decode cX2_has 1 = .ok (.ifCond .lt 21, 3) := by decide +kernel
theorem dX2_has_4 : decode cX2_has 4 = .ok (.iload_n 1, 1) := by decide +kernel
theorem dX2_has_5 : decode cX2_has 5 = .ok (.aload_n 0, 1) := by decide +kernel
theorem dX2_has_6 : decode cX2_has 6 = .ok (.getfield 48, 3) := by decide +kernel
theorem dX2_has_9 : decode cX2_has 9 = .ok (.if_icmp .ge 13, 3) := by decide +kernel
theorem dX2_has_12 : decode cX2_has 12 = .ok (.iload_n 1, 1) := by decide +kernel
theorem dX2_has_13 : decode cX2_has 13 = .ok (.bipush 9, 2) := by decide +kernel
theorem dX2_has_15 : decode cX2_has 15 = .ok (.if_icmp .ge 7, 3) := by decide +kernel
theorem dX2_has_18 : decode cX2_has 18 = .ok (.iconst 1, 1) := by decide +kernel
theorem dX2_has_19 : decode cX2_has 19 = .ok (.goto 4, 3) := by decide +kernel
theorem dX2_has_22 : decode cX2_has 22 = .ok (.iconst 0, 1) := by decide +kernel
theorem dX2_has_23 : decode cX2_has 23 = .ok (.ireturn, 1) := by decide +kernel
theorem dX11_within_0 : decode cX11_within 0 = .ok (.iload_n 0, 1) := by decide +kernel
theorem dX11_within_1 : decode cX11_within 1 = .ok (.iload_n 1, 1) := by decide +kernel
theorem dX11_within_2 : decode cX11_within 2 = .ok (.if_icmp .lt 12, 3) := by decide +kernel
theorem dX11_within_5 : decode cX11_within 5 = .ok (.iload_n 0, 1) := by decide +kernel
theorem dX11_within_6 : decode cX11_within 6 = .ok (.iload_n 2, 1) := by decide +kernel
theorem dX11_within_7 : decode cX11_within 7 = .ok (.if_icmp .gt 7, 3) := by decide +kernel
theorem dX11_within_10 : decode cX11_within 10 = .ok (.iconst 1, 1) := by decide +kernel
theorem dX11_within_11 : decode cX11_within 11 = .ok (.goto 4, 3) := by decide +kernel
theorem dX11_within_14 : decode cX11_within 14 = .ok (.iconst 0, 1) := by decide +kernel
theorem dX11_within_15 : decode cX11_within 15 = .ok (.ireturn, 1) := by decide +kernel
theorem dX11_need_0 : decode cX11_need 0 = .ok (.iload_n 0, 1) := by decide +kernel
theorem dX11_need_1 : decode cX11_need 1 = .ok (.ifCond .ne 13, 3) := by decide +kernel
theorem dX11_need_4 : decode cX11_need 4 = .ok (.new 110, 3) := by decide +kernel
theorem dX11_need_7 : decode cX11_need 7 = .ok (.dup, 1) := by decide +kernel
theorem dX11_need_8 : decode cX11_need 8 = .ok (.ldc 184, 2) := by decide +kernel
theorem dX11_need_10 : decode cX11_need 10 = .ok (.invokespecial 114, 3) := by decide +kernel
theorem dX11_need_13 : decode cX11_need 13 = .ok (.athrow, 1) := by decide +kernel
theorem dX11_need_14 : decode cX11_need 14 = .ok (.return_, 1) := by decide +kernel
set_option maxHeartbeats 4000000 in
set_option maxRecDepth 100000 in
/-- House.has: whether there is such a body -/
theorem c_House_has (l : Launch) (hl0 : l.stackTraces = false) (D : va_G) (cy : Nat → ClassId) (sa : Nat → Nat) (h0 : Nat) (v0 v1 v2 v3 v4 v5 v6 v7 v8 v9 v10 v11 : Value) (n j b t y : Int32) (p0 : Int32) (sz : Nat) : Met l yX2_has (Cond.code yX2_has cX2_has 2 (some .boolean) :: kWS) ({ frames := 10, cells := 0, slots := 0, locals := 300 }) (kPre D cy sa [.ref h0, .int p0] [(h0, .inr (4, [v0, v1, v2, v3, v4, v5, v6, v7, v8, v9, v10, v11, .int n, .int j, .int b, .int t, .int y]))] sz) (va_Qi (fun (r : Int32) (_ : Unit) => r = if ¬ p0 < 0 ∧ p0 < n ∧ p0 < 9 then 1 else 0) (kB D (va_A [(h0, .inr (4, [v0, v1, v2, v3, v4, v5, v6, v7, v8, v9, v10, v11, .int n, .int j, .int b, .int t, .int y]))] sz) (fun _ => [(h0, .inr (4, [v0, v1, v2, v3, v4, v5, v6, v7, v8, v9, v10, v11, .int n, .int j, .int b, .int t, .int y]))])) (va_A [(h0, .inr (4, [v0, v1, v2, v3, v4, v5, v6, v7, v8, v9, v10, v11, .int n, .int j, .int b, .int t, .int y]))] sz)) 0 0 (va_A [(h0, .inr (4, [v0, v1, v2, v3, v4, v5, v6, v7, v8, v9, v10, v11, .int n, .int j, .int b, .int t, .int y]))] sz) := by
  refine k_ofW (Qc := fun A => va_Qi (fun (r : Int32) (_ : Unit) => r = if ¬ p0 < 0 ∧ p0 < n ∧ p0 < 9 then 1 else 0) (kB D A (fun _ => [(h0, .inr (4, [v0, v1, v2, v3, v4, v5, v6, v7, v8, v9, v10, v11, .int n, .int j, .int b, .int t, .int y]))])) A) (by decide) (Nat.le_of_ble_eq_true rfl) ?_
  intro p e s m below meth c ls A E hA hP hD hG hS hl
  obtain ⟨hx, hb, hml, hown, hts, hr, hlk, hnm⟩ := id E
  have hown : s.vm.findClass RX2 = some m.cls := hown
  have hl : lv_has ls 2 [(0, .ref h0), (1, .int p0)] := hl
  obtain ⟨H, hH⟩ : ∃ H, H = s.heap := ⟨_, rfl⟩
  have hP : va_P D vwCl [(h0, .inr (4, [v0, v1, v2, v3, v4, v5, v6, v7, v8, v9, v10, v11, .int n, .int j, .int b, .int t, .int y]))] H := by rw [hH]; exact hP
  have hS : va_S A s.heap H [] := by rw [hH]; exact va_S.rf
  rw [← hH]
  clear hH
  refine lv_iload_n hx hb dX2_has_0 rfl (lv_at hl 1 rfl) ?_
  refine lv_if_lt (tgt := 22) hx hb dX2_has_1 (by decide) (fun c1 => ?_) (fun c1 => ?_)
  · refine lv_iconst (v := 0) hx hb dX2_has_22 (by decide) ?_
    exact k_zret () hx hb hr hlk (k_nz (by decide)) (by first | exact if_pos (by (simp only [k_lt, k_le, k_eq, k_L0, k_L1, k_L2, k_L3, k_L4, k_L5, k_L6, k_L7, k_L8, k_L9, k_L10, k_L15, k_L20, k_L30, k_L31, k_L40, k_L41, k_L60, k_L61, k_L99, k_L120, k_L239, k_L240, k_L479, k_L480, k_L500, k_L720, k_L999, k_L1000, k_L9999, k_Lm1] at c1 ⊢; omega)) | exact (if_pos (by (simp only [k_lt, k_le, k_eq, k_L0, k_L1, k_L2, k_L3, k_L4, k_L5, k_L6, k_L7, k_L8, k_L9, k_L10, k_L15, k_L20, k_L30, k_L31, k_L40, k_L41, k_L60, k_L61, k_L99, k_L120, k_L239, k_L240, k_L479, k_L480, k_L500, k_L720, k_L999, k_L1000, k_L9999, k_Lm1] at c1 ⊢; omega))).symm | exact if_neg (by (simp only [k_lt, k_le, k_eq, k_L0, k_L1, k_L2, k_L3, k_L4, k_L5, k_L6, k_L7, k_L8, k_L9, k_L10, k_L15, k_L20, k_L30, k_L31, k_L40, k_L41, k_L60, k_L61, k_L99, k_L120, k_L239, k_L240, k_L479, k_L480, k_L500, k_L720, k_L999, k_L1000, k_L9999, k_Lm1] at c1 ⊢; omega)) | exact (if_neg (by (simp only [k_lt, k_le, k_eq, k_L0, k_L1, k_L2, k_L3, k_L4, k_L5, k_L6, k_L7, k_L8, k_L9, k_L10, k_L15, k_L20, k_L30, k_L31, k_L40, k_L41, k_L60, k_L61, k_L99, k_L120, k_L239, k_L240, k_L479, k_L480, k_L500, k_L720, k_L999, k_L1000, k_L9999, k_Lm1] at c1 ⊢; omega))).symm) (hP.sub [0] rfl) (hD.sub [0] (by decide) rfl) hS (by decide) (by decide) dX2_has_23
  · refine lv_iload_n hx hb dX2_has_4 rfl (lv_at hl 1 rfl) ?_
    refine lv_aload_n hx hb dX2_has_5 rfl (lv_at hl 0 rfl) ?_
    refine va_get (D := D) (ci := 4) (v := .int n) (C := RX2) (T := TX2) (N := 17) hx hb hts kin_RX2 hown hG.1 hP 0 rfl rfl 12 (by decide) (hts _ wm_117) (fun _ h9 => h9) rfl dX2_has_6 ?_
    refine lv_icmp_ge (tgt := 22) hx hb dX2_has_9 (by decide) (fun c2 => ?_) (fun c2 => ?_)
    · refine lv_iconst (v := 0) hx hb dX2_has_22 (by decide) ?_
      exact k_zret () hx hb hr hlk (k_nz (by decide)) (by first | exact if_pos (by (simp only [k_lt, k_le, k_eq, k_L0, k_L1, k_L2, k_L3, k_L4, k_L5, k_L6, k_L7, k_L8, k_L9, k_L10, k_L15, k_L20, k_L30, k_L31, k_L40, k_L41, k_L60, k_L61, k_L99, k_L120, k_L239, k_L240, k_L479, k_L480, k_L500, k_L720, k_L999, k_L1000, k_L9999, k_Lm1] at c1 c2 ⊢; omega)) | exact (if_pos (by (simp only [k_lt, k_le, k_eq, k_L0, k_L1, k_L2, k_L3, k_L4, k_L5, k_L6, k_L7, k_L8, k_L9, k_L10, k_L15, k_L20, k_L30, k_L31, k_L40, k_L41, k_L60, k_L61, k_L99, k_L120, k_L239, k_L240, k_L479, k_L480, k_L500, k_L720, k_L999, k_L1000, k_L9999, k_Lm1] at c1 c2 ⊢; omega))).symm | exact if_neg (by (simp only [k_lt, k_le, k_eq, k_L0, k_L1, k_L2, k_L3, k_L4, k_L5, k_L6, k_L7, k_L8, k_L9, k_L10, k_L15, k_L20, k_L30, k_L31, k_L40, k_L41, k_L60, k_L61, k_L99, k_L120, k_L239, k_L240, k_L479, k_L480, k_L500, k_L720, k_L999, k_L1000, k_L9999, k_Lm1] at c1 c2 ⊢; omega)) | exact (if_neg (by (simp only [k_lt, k_le, k_eq, k_L0, k_L1, k_L2, k_L3, k_L4, k_L5, k_L6, k_L7, k_L8, k_L9, k_L10, k_L15, k_L20, k_L30, k_L31, k_L40, k_L41, k_L60, k_L61, k_L99, k_L120, k_L239, k_L240, k_L479, k_L480, k_L500, k_L720, k_L999, k_L1000, k_L9999, k_Lm1] at c1 c2 ⊢; omega))).symm) (hP.sub [0] rfl) (hD.sub [0] (by decide) rfl) hS (by decide) (by decide) dX2_has_23
    · refine lv_iload_n hx hb dX2_has_12 rfl (lv_at hl 1 rfl) ?_
      refine lv_bipush (v := 9) hx hb dX2_has_13 (by decide) ?_
      refine lv_icmp_ge (tgt := 22) hx hb dX2_has_15 (by decide) (fun c3 => ?_) (fun c3 => ?_)
      · refine lv_iconst (v := 0) hx hb dX2_has_22 (by decide) ?_
        exact k_zret () hx hb hr hlk (k_nz (by decide)) (by first | exact if_pos (by (simp only [k_lt, k_le, k_eq, k_L0, k_L1, k_L2, k_L3, k_L4, k_L5, k_L6, k_L7, k_L8, k_L9, k_L10, k_L15, k_L20, k_L30, k_L31, k_L40, k_L41, k_L60, k_L61, k_L99, k_L120, k_L239, k_L240, k_L479, k_L480, k_L500, k_L720, k_L999, k_L1000, k_L9999, k_Lm1] at c1 c2 c3 ⊢; omega)) | exact (if_pos (by (simp only [k_lt, k_le, k_eq, k_L0, k_L1, k_L2, k_L3, k_L4, k_L5, k_L6, k_L7, k_L8, k_L9, k_L10, k_L15, k_L20, k_L30, k_L31, k_L40, k_L41, k_L60, k_L61, k_L99, k_L120, k_L239, k_L240, k_L479, k_L480, k_L500, k_L720, k_L999, k_L1000, k_L9999, k_Lm1] at c1 c2 c3 ⊢; omega))).symm | exact if_neg (by (simp only [k_lt, k_le, k_eq, k_L0, k_L1, k_L2, k_L3, k_L4, k_L5, k_L6, k_L7, k_L8, k_L9, k_L10, k_L15, k_L20, k_L30, k_L31, k_L40, k_L41, k_L60, k_L61, k_L99, k_L120, k_L239, k_L240, k_L479, k_L480, k_L500, k_L720, k_L999, k_L1000, k_L9999, k_Lm1] at c1 c2 c3 ⊢; omega)) | exact (if_neg (by (simp only [k_lt, k_le, k_eq, k_L0, k_L1, k_L2, k_L3, k_L4, k_L5, k_L6, k_L7, k_L8, k_L9, k_L10, k_L15, k_L20, k_L30, k_L31, k_L40, k_L41, k_L60, k_L61, k_L99, k_L120, k_L239, k_L240, k_L479, k_L480, k_L500, k_L720, k_L999, k_L1000, k_L9999, k_Lm1] at c1 c2 c3 ⊢; omega))).symm) (hP.sub [0] rfl) (hD.sub [0] (by decide) rfl) hS (by decide) (by decide) dX2_has_23
      · refine lv_iconst (v := 1) hx hb dX2_has_18 (by decide) ?_
        refine lv_goto (tgt := 23) hx hb dX2_has_19 (by decide) ?_
        exact k_zret () hx hb hr hlk (k_nz (by decide)) (by first | exact if_pos (by (simp only [k_lt, k_le, k_eq, k_L0, k_L1, k_L2, k_L3, k_L4, k_L5, k_L6, k_L7, k_L8, k_L9, k_L10, k_L15, k_L20, k_L30, k_L31, k_L40, k_L41, k_L60, k_L61, k_L99, k_L120, k_L239, k_L240, k_L479, k_L480, k_L500, k_L720, k_L999, k_L1000, k_L9999, k_Lm1] at c1 c2 c3 ⊢; omega)) | exact (if_pos (by (simp only [k_lt, k_le, k_eq, k_L0, k_L1, k_L2, k_L3, k_L4, k_L5, k_L6, k_L7, k_L8, k_L9, k_L10, k_L15, k_L20, k_L30, k_L31, k_L40, k_L41, k_L60, k_L61, k_L99, k_L120, k_L239, k_L240, k_L479, k_L480, k_L500, k_L720, k_L999, k_L1000, k_L9999, k_Lm1] at c1 c2 c3 ⊢; omega))).symm | exact if_neg (by (simp only [k_lt, k_le, k_eq, k_L0, k_L1, k_L2, k_L3, k_L4, k_L5, k_L6, k_L7, k_L8, k_L9, k_L10, k_L15, k_L20, k_L30, k_L31, k_L40, k_L41, k_L60, k_L61, k_L99, k_L120, k_L239, k_L240, k_L479, k_L480, k_L500, k_L720, k_L999, k_L1000, k_L9999, k_Lm1] at c1 c2 c3 ⊢; omega)) | exact (if_neg (by (simp only [k_lt, k_le, k_eq, k_L0, k_L1, k_L2, k_L3, k_L4, k_L5, k_L6, k_L7, k_L8, k_L9, k_L10, k_L15, k_L20, k_L30, k_L31, k_L40, k_L41, k_L60, k_L61, k_L99, k_L120, k_L239, k_L240, k_L479, k_L480, k_L500, k_L720, k_L999, k_L1000, k_L9999, k_Lm1] at c1 c2 c3 ⊢; omega))).symm) (hP.sub [0] rfl) (hD.sub [0] (by decide) rfl) hS (by decide) (by decide) dX2_has_23

set_option maxHeartbeats 4000000 in
set_option maxRecDepth 100000 in
/-- within -/
theorem c_within (l : Launch) (hl0 : l.stackTraces = false) (D : va_G) (cy : Nat → ClassId) (sa : Nat → Nat) (p0 p1 p2 : Int32) (sz : Nat) : Met l yX11_within (Cond.code yX11_within cX11_within 3 (some .boolean) :: kWS) ({ frames := 10, cells := 0, slots := 0, locals := 300 }) (kPre D cy sa [.int p0, .int p1, .int p2] [] sz) (va_Qi (fun (r : Int32) (_ : Unit) => r = if p1 ≤ p0 ∧ p0 ≤ p2 then 1 else 0) (kB D (va_A [] sz) (fun _ => [])) (va_A [] sz)) 0 0 (va_A [] sz) := by
  refine k_ofW (Qc := fun A => va_Qi (fun (r : Int32) (_ : Unit) => r = if p1 ≤ p0 ∧ p0 ≤ p2 then 1 else 0) (kB D A (fun _ => [])) A) (by decide) (Nat.le_of_ble_eq_true rfl) ?_
  intro p e s m below meth c ls A E hA hP hD hG hS hl
  obtain ⟨hx, hb, hml, hown, hts, hr, hlk, hnm⟩ := id E
  have hown : s.vm.findClass RX11 = some m.cls := hown
  have hl : lv_has ls 3 [(0, .int p0), (1, .int p1), (2, .int p2)] := hl
  obtain ⟨H, hH⟩ : ∃ H, H = s.heap := ⟨_, rfl⟩
  have hP : va_P D vwCl [] H := by rw [hH]; exact hP
  have hS : va_S A s.heap H [] := by rw [hH]; exact va_S.rf
  rw [← hH]
  clear hH
  refine lv_iload_n hx hb dX11_within_0 rfl (lv_at hl 0 rfl) ?_
  refine lv_iload_n hx hb dX11_within_1 rfl (lv_at hl 1 rfl) ?_
  refine lv_icmp_lt (tgt := 14) hx hb dX11_within_2 (by decide) (fun c1 => ?_) (fun c1 => ?_)
  · refine lv_iconst (v := 0) hx hb dX11_within_14 (by decide) ?_
    exact k_zret () hx hb hr hlk (k_nz (by decide)) (by first | exact if_pos (by (simp only [k_lt, k_le, k_eq, k_L0, k_L1, k_L2, k_L3, k_L4, k_L5, k_L6, k_L7, k_L8, k_L9, k_L10, k_L15, k_L20, k_L30, k_L31, k_L40, k_L41, k_L60, k_L61, k_L99, k_L120, k_L239, k_L240, k_L479, k_L480, k_L500, k_L720, k_L999, k_L1000, k_L9999, k_Lm1] at c1 ⊢; omega)) | exact (if_pos (by (simp only [k_lt, k_le, k_eq, k_L0, k_L1, k_L2, k_L3, k_L4, k_L5, k_L6, k_L7, k_L8, k_L9, k_L10, k_L15, k_L20, k_L30, k_L31, k_L40, k_L41, k_L60, k_L61, k_L99, k_L120, k_L239, k_L240, k_L479, k_L480, k_L500, k_L720, k_L999, k_L1000, k_L9999, k_Lm1] at c1 ⊢; omega))).symm | exact if_neg (by (simp only [k_lt, k_le, k_eq, k_L0, k_L1, k_L2, k_L3, k_L4, k_L5, k_L6, k_L7, k_L8, k_L9, k_L10, k_L15, k_L20, k_L30, k_L31, k_L40, k_L41, k_L60, k_L61, k_L99, k_L120, k_L239, k_L240, k_L479, k_L480, k_L500, k_L720, k_L999, k_L1000, k_L9999, k_Lm1] at c1 ⊢; omega)) | exact (if_neg (by (simp only [k_lt, k_le, k_eq, k_L0, k_L1, k_L2, k_L3, k_L4, k_L5, k_L6, k_L7, k_L8, k_L9, k_L10, k_L15, k_L20, k_L30, k_L31, k_L40, k_L41, k_L60, k_L61, k_L99, k_L120, k_L239, k_L240, k_L479, k_L480, k_L500, k_L720, k_L999, k_L1000, k_L9999, k_Lm1] at c1 ⊢; omega))).symm) (hP.sub [] rfl) (hD.sub [] (by decide) rfl) hS (by decide) (by decide) dX11_within_15
  · refine lv_iload_n hx hb dX11_within_5 rfl (lv_at hl 0 rfl) ?_
    refine lv_iload_n hx hb dX11_within_6 rfl (lv_at hl 2 rfl) ?_
    refine lv_icmp_gt (tgt := 14) hx hb dX11_within_7 (by decide) (fun c2 => ?_) (fun c2 => ?_)
    · refine lv_iconst (v := 0) hx hb dX11_within_14 (by decide) ?_
      exact k_zret () hx hb hr hlk (k_nz (by decide)) (by first | exact if_pos (by (simp only [k_lt, k_le, k_eq, k_L0, k_L1, k_L2, k_L3, k_L4, k_L5, k_L6, k_L7, k_L8, k_L9, k_L10, k_L15, k_L20, k_L30, k_L31, k_L40, k_L41, k_L60, k_L61, k_L99, k_L120, k_L239, k_L240, k_L479, k_L480, k_L500, k_L720, k_L999, k_L1000, k_L9999, k_Lm1] at c1 c2 ⊢; omega)) | exact (if_pos (by (simp only [k_lt, k_le, k_eq, k_L0, k_L1, k_L2, k_L3, k_L4, k_L5, k_L6, k_L7, k_L8, k_L9, k_L10, k_L15, k_L20, k_L30, k_L31, k_L40, k_L41, k_L60, k_L61, k_L99, k_L120, k_L239, k_L240, k_L479, k_L480, k_L500, k_L720, k_L999, k_L1000, k_L9999, k_Lm1] at c1 c2 ⊢; omega))).symm | exact if_neg (by (simp only [k_lt, k_le, k_eq, k_L0, k_L1, k_L2, k_L3, k_L4, k_L5, k_L6, k_L7, k_L8, k_L9, k_L10, k_L15, k_L20, k_L30, k_L31, k_L40, k_L41, k_L60, k_L61, k_L99, k_L120, k_L239, k_L240, k_L479, k_L480, k_L500, k_L720, k_L999, k_L1000, k_L9999, k_Lm1] at c1 c2 ⊢; omega)) | exact (if_neg (by (simp only [k_lt, k_le, k_eq, k_L0, k_L1, k_L2, k_L3, k_L4, k_L5, k_L6, k_L7, k_L8, k_L9, k_L10, k_L15, k_L20, k_L30, k_L31, k_L40, k_L41, k_L60, k_L61, k_L99, k_L120, k_L239, k_L240, k_L479, k_L480, k_L500, k_L720, k_L999, k_L1000, k_L9999, k_Lm1] at c1 c2 ⊢; omega))).symm) (hP.sub [] rfl) (hD.sub [] (by decide) rfl) hS (by decide) (by decide) dX11_within_15
    · refine lv_iconst (v := 1) hx hb dX11_within_10 (by decide) ?_
      refine lv_goto (tgt := 15) hx hb dX11_within_11 (by decide) ?_
      exact k_zret () hx hb hr hlk (k_nz (by decide)) (by first | exact if_pos (by (simp only [k_lt, k_le, k_eq, k_L0, k_L1, k_L2, k_L3, k_L4, k_L5, k_L6, k_L7, k_L8, k_L9, k_L10, k_L15, k_L20, k_L30, k_L31, k_L40, k_L41, k_L60, k_L61, k_L99, k_L120, k_L239, k_L240, k_L479, k_L480, k_L500, k_L720, k_L999, k_L1000, k_L9999, k_Lm1] at c1 c2 ⊢; omega)) | exact (if_pos (by (simp only [k_lt, k_le, k_eq, k_L0, k_L1, k_L2, k_L3, k_L4, k_L5, k_L6, k_L7, k_L8, k_L9, k_L10, k_L15, k_L20, k_L30, k_L31, k_L40, k_L41, k_L60, k_L61, k_L99, k_L120, k_L239, k_L240, k_L479, k_L480, k_L500, k_L720, k_L999, k_L1000, k_L9999, k_Lm1] at c1 c2 ⊢; omega))).symm | exact if_neg (by (simp only [k_lt, k_le, k_eq, k_L0, k_L1, k_L2, k_L3, k_L4, k_L5, k_L6, k_L7, k_L8, k_L9, k_L10, k_L15, k_L20, k_L30, k_L31, k_L40, k_L41, k_L60, k_L61, k_L99, k_L120, k_L239, k_L240, k_L479, k_L480, k_L500, k_L720, k_L999, k_L1000, k_L9999, k_Lm1] at c1 c2 ⊢; omega)) | exact (if_neg (by (simp only [k_lt, k_le, k_eq, k_L0, k_L1, k_L2, k_L3, k_L4, k_L5, k_L6, k_L7, k_L8, k_L9, k_L10, k_L15, k_L20, k_L30, k_L31, k_L40, k_L41, k_L60, k_L61, k_L99, k_L120, k_L239, k_L240, k_L479, k_L480, k_L500, k_L720, k_L999, k_L1000, k_L9999, k_Lm1] at c1 c2 ⊢; omega))).symm) (hP.sub [] rfl) (hD.sub [] (by decide) rfl) hS (by decide) (by decide) dX11_within_15

set_option maxHeartbeats 4000000 in
set_option maxRecDepth 100000 in
/-- need -/
theorem c_need (l : Launch) (hl0 : l.stackTraces = false) (D : va_G) (cy : Nat → ClassId) (sa : Nat → Nat) (p0 : Int32) (sz : Nat) : vx_Met l yX11_need (Cond.code yX11_need cX11_need 1 none :: kWS) ({ frames := 10, cells := 1, slots := 6, locals := 300 }) (kPre D cy sa [.int p0] [] sz) (va_Qv (fun (_ : Unit) => ¬ p0 = 0) (kB D (va_A [] sz) (fun _ => [])) (va_A [] sz)) (vx_X (fun (_ : Unit) => p0 = 0) (kBX D (va_A [] sz) (fun _ => []) (fun _ => "java/lang/IllegalArgumentException")) (va_A [] sz)) 1 6 (va_A [] sz) := by
  refine k_ofX (Qc := fun A => va_Qv (fun (_ : Unit) => ¬ p0 = 0) (kB D A (fun _ => [])) A) (XC := fun A => vx_X (fun (_ : Unit) => p0 = 0) (kBX D A (fun _ => []) (fun _ => "java/lang/IllegalArgumentException")) A) (by decide) (Nat.le_of_ble_eq_true rfl) ?_
  intro p e s m below meth c ls A E hxt hA hP hD hG hS hl
  obtain ⟨hx, hb, hml, hown, hts, hr, hlk, hnm⟩ := id E
  have hown : s.vm.findClass RX11 = some m.cls := hown
  have hl : lv_has ls 1 [(0, .int p0)] := hl
  obtain ⟨H, hH⟩ : ∃ H, H = s.heap := ⟨_, rfl⟩
  have hP : va_P D vwCl [] H := by rw [hH]; exact hP
  have hS : va_S A s.heap H [] := by rw [hH]; exact va_S.rf
  rw [← hH]
  clear hH
  refine lv_iload_n hx hb dX11_need_0 rfl (lv_at hl 0 rfl) ?_
  refine lv_if_ne (tgt := 14) hx hb dX11_need_1 (by decide) (fun c1 => ?_) (fun c1 => ?_)
  · exact vx_ret (k_vret () hx hb hr hlk (by assumption) (hP.sub [] rfl) (hD.sub [] (by decide) rfl) hS (by decide) (by decide) dX11_need_14)
  · exact k_throwS () hl0 E rfl hxt th_110_114_184 hl.1 (hP.sub [] rfl) (hD.sub [] (by decide) rfl) hG hS (by assumption) (rfl) dX11_need_4 dX11_need_7 dX11_need_8 dX11_need_10 dX11_need_13 (Nat.le_of_ble_eq_true rfl) (Nat.le_of_ble_eq_true rfl) (Nat.le_of_ble_eq_true rfl) (Nat.le_of_ble_eq_true rfl) (by decide) (by decide)
