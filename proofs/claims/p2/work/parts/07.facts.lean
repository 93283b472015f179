/-! Small facts for the walks. -/
theorem k_nz {v : Int32} (h : v = 0 ∨ v = 1) : narrow .boolean (.int v) = .int v := by rcases h with rfl | rfl <;> rfl
theorem k_cpy0 (a b n : Nat) : va_cpy (fun _ => (0 : Int32)) (fun _ => 0) a b n = fun _ => 0 := by funext j; simp [va_cpy]
theorem k_upd0 (i : Nat) : upd (fun _ => (0 : Int32)) i 0 = fun _ => 0 := by funext j; simp [upd]
theorem k_lt (a b : Int32) : a < b ↔ a.toInt < b.toInt := Int32.lt_iff_toInt_lt
theorem k_le (a b : Int32) : a ≤ b ↔ a.toInt ≤ b.toInt := Int32.le_iff_toInt_le
theorem k_eq (a b : Int32) : a = b ↔ a.toInt = b.toInt := Int32.toInt_inj.symm
theorem k_rng (a : Int32) : -2147483648 ≤ a.toInt ∧ a.toInt < 2147483648 := ⟨Int32.le_toInt a, Int32.toInt_lt a⟩
theorem k_Lm1 : (-1 : Int32).toInt = -1 := by decide
theorem k_L0 : (0 : Int32).toInt = 0 := by decide
theorem k_L1 : (1 : Int32).toInt = 1 := by decide
theorem k_L2 : (2 : Int32).toInt = 2 := by decide
theorem k_L3 : (3 : Int32).toInt = 3 := by decide
theorem k_L4 : (4 : Int32).toInt = 4 := by decide
theorem k_L5 : (5 : Int32).toInt = 5 := by decide
theorem k_L6 : (6 : Int32).toInt = 6 := by decide
theorem k_L7 : (7 : Int32).toInt = 7 := by decide
theorem k_L8 : (8 : Int32).toInt = 8 := by decide
theorem k_L9 : (9 : Int32).toInt = 9 := by decide
theorem k_L10 : (10 : Int32).toInt = 10 := by decide
theorem k_L15 : (15 : Int32).toInt = 15 := by decide
theorem k_L20 : (20 : Int32).toInt = 20 := by decide
theorem k_L30 : (30 : Int32).toInt = 30 := by decide
theorem k_L31 : (31 : Int32).toInt = 31 := by decide
theorem k_L40 : (40 : Int32).toInt = 40 := by decide
theorem k_L41 : (41 : Int32).toInt = 41 := by decide
theorem k_L60 : (60 : Int32).toInt = 60 := by decide
theorem k_L61 : (61 : Int32).toInt = 61 := by decide
theorem k_L99 : (99 : Int32).toInt = 99 := by decide
theorem k_L120 : (120 : Int32).toInt = 120 := by decide
theorem k_L239 : (239 : Int32).toInt = 239 := by decide
theorem k_L240 : (240 : Int32).toInt = 240 := by decide
theorem k_L479 : (479 : Int32).toInt = 479 := by decide
theorem k_L480 : (480 : Int32).toInt = 480 := by decide
theorem k_L500 : (500 : Int32).toInt = 500 := by decide
theorem k_L720 : (720 : Int32).toInt = 720 := by decide
theorem k_L999 : (999 : Int32).toInt = 999 := by decide
theorem k_L1000 : (1000 : Int32).toInt = 1000 := by decide
theorem k_L9999 : (9999 : Int32).toInt = 9999 := by decide
theorem k_if {r : Int32} {P : Prop} [Decidable P] (h : r = if P then 1 else 0) : (P ∧ r = 1) ∨ (¬ P ∧ r = 0) := by
  by_cases hp : P
  · exact Or.inl ⟨hp, by rw [h, if_pos hp]⟩
  · exact Or.inr ⟨hp, by rw [h, if_neg hp]⟩
theorem k_ne1 {c : Int32} (h0 : 0 ≤ c) (h : c ≤ 30) : ¬ c + 1 = 0 := by
  obtain ⟨j, hj, rfl⟩ := nI_of2 (x := c) (M := 30) (n := 30) (by decide) (by rw [k_lt, k_L0]; rw [k_le, k_L0] at h0; omega) h
  rw [nI_1]
  exact nI_ne0 (by omega) (by omega)
theorem k_back {sp sq x : Int32} (h : vp_in sp 120) (hq : sp + 1 = sq) (e : x = sq - 1) : vp_in x 120 := by
  have h9 : x = sp := by rw [e, ← hq, Int32.add_sub_cancel]
  rw [h9]; exact h

theorem kin_RX0 : ∀ w ∈ u_ws RX0 TX0 5, w ∈ kWS := by decide +kernel
theorem k_fs_RX0 : ∀ j, j < 5 → defaultValue (tyX0 j) = vp_V [.null, .null, .null, .int 0, .int 0] j := by
  intro j hj
  rcases (show j = 0 ∨ j = 1 ∨ j = 2 ∨ j = 3 ∨ j = 4 by omega) with rfl | rfl | rfl | rfl | rfl <;> rfl
theorem kin_RX1 : ∀ w ∈ u_ws RX1 TX1 5, w ∈ kWS := by decide +kernel
theorem k_fs_RX1 : ∀ j, j < 5 → defaultValue (tyX1 j) = vp_V [.null, .null, .null, .null, .int 0] j := by
  intro j hj
  rcases (show j = 0 ∨ j = 1 ∨ j = 2 ∨ j = 3 ∨ j = 4 by omega) with rfl | rfl | rfl | rfl | rfl <;> rfl
theorem kin_RX2 : ∀ w ∈ u_ws RX2 TX2 17, w ∈ kWS := by decide +kernel
theorem k_fs_RX2 : ∀ j, j < 17 → defaultValue (tyX2 j) = vp_V [.null, .null, .null, .null, .null, .null, .null, .null, .null, .null, .null, .null, .int 0, .int 0, .int 0, .int 0, .int 0] j := by
  intro j hj
  rcases (show j = 0 ∨ j = 1 ∨ j = 2 ∨ j = 3 ∨ j = 4 ∨ j = 5 ∨ j = 6 ∨ j = 7 ∨ j = 8 ∨ j = 9 ∨ j = 10 ∨ j = 11 ∨ j = 12 ∨ j = 13 ∨ j = 14 ∨ j = 15 ∨ j = 16 by omega) with rfl | rfl | rfl | rfl | rfl | rfl | rfl | rfl | rfl | rfl | rfl | rfl | rfl | rfl | rfl | rfl | rfl <;> rfl
theorem kin_RX3 : ∀ w ∈ u_ws RX3 TX3 3, w ∈ kWS := by decide +kernel
theorem k_fs_RX3 : ∀ j, j < 3 → defaultValue (tyX3 j) = vp_V [.null, .int 0, .int 0] j := by
  intro j hj
  rcases (show j = 0 ∨ j = 1 ∨ j = 2 by omega) with rfl | rfl | rfl <;> rfl
theorem kin_RX4 : ∀ w ∈ u_ws RX4 TX4 8, w ∈ kWS := by decide +kernel
theorem k_fs_RX4 : ∀ j, j < 8 → defaultValue (tyX4 j) = vp_V [.null, .null, .null, .null, .null, .int 0, .int 0, .int 0] j := by
  intro j hj
  rcases (show j = 0 ∨ j = 1 ∨ j = 2 ∨ j = 3 ∨ j = 4 ∨ j = 5 ∨ j = 6 ∨ j = 7 by omega) with rfl | rfl | rfl | rfl | rfl | rfl | rfl | rfl <;> rfl
theorem kin_RX5 : ∀ w ∈ u_ws RX5 TX5 10, w ∈ kWS := by decide +kernel
theorem k_fs_RX5 : ∀ j, j < 10 → defaultValue (tyX5 j) = vp_V [.null, .null, .int 0, .int 0, .int 0, .int 0, .int 0, .int 0, .int 0, .int 0] j := by
  intro j hj
  rcases (show j = 0 ∨ j = 1 ∨ j = 2 ∨ j = 3 ∨ j = 4 ∨ j = 5 ∨ j = 6 ∨ j = 7 ∨ j = 8 ∨ j = 9 by omega) with rfl | rfl | rfl | rfl | rfl | rfl | rfl | rfl | rfl | rfl <;> rfl
theorem kin_RX6 : ∀ w ∈ u_ws RX6 TX6 7, w ∈ kWS := by decide +kernel
theorem k_fs_RX6 : ∀ j, j < 7 → defaultValue (tyX6 j) = vp_V [.null, .null, .int 0, .null, .null, .int 0, .null] j := by
  intro j hj
  rcases (show j = 0 ∨ j = 1 ∨ j = 2 ∨ j = 3 ∨ j = 4 ∨ j = 5 ∨ j = 6 by omega) with rfl | rfl | rfl | rfl | rfl | rfl | rfl <;> rfl
theorem kin_RX7 : ∀ w ∈ u_ws RX7 TX7 6, w ∈ kWS := by decide +kernel
theorem k_fs_RX7 : ∀ j, j < 6 → defaultValue (tyX7 j) = vp_V [.null, .null, .int 0, .int 0, .int 0, .int 0] j := by
  intro j hj
  rcases (show j = 0 ∨ j = 1 ∨ j = 2 ∨ j = 3 ∨ j = 4 ∨ j = 5 by omega) with rfl | rfl | rfl | rfl | rfl | rfl <;> rfl
theorem kin_RX8 : ∀ w ∈ u_ws RX8 TX8 3, w ∈ kWS := by decide +kernel
theorem k_fs_RX8 : ∀ j, j < 3 → defaultValue (tyX8 j) = vp_V [.null, .int 0, .int 0] j := by
  intro j hj
  rcases (show j = 0 ∨ j = 1 ∨ j = 2 by omega) with rfl | rfl | rfl <;> rfl
theorem kin_RX9 : ∀ w ∈ u_ws RX9 TX9 5, w ∈ kWS := by decide +kernel
theorem k_fs_RX9 : ∀ j, j < 5 → defaultValue (tyX9 j) = vp_V [.null, .null, .int 0, .int 0, .int 0] j := by
  intro j hj
  rcases (show j = 0 ∨ j = 1 ∨ j = 2 ∨ j = 3 ∨ j = 4 by omega) with rfl | rfl | rfl | rfl | rfl <;> rfl
theorem kin_RX11 : ∀ w ∈ u_ws RX11 TX11 17, w ∈ kWS := by decide +kernel
theorem k_fs_RX11 : ∀ j, j < 17 → defaultValue (tyX11 j) = vp_V [.null, .int 0, .int 0, .null, .null, .null, .null, .null, .null, .null, .int 0, .null, .null, .null, .null, .null, .null] j := by
  intro j hj
  rcases (show j = 0 ∨ j = 1 ∨ j = 2 ∨ j = 3 ∨ j = 4 ∨ j = 5 ∨ j = 6 ∨ j = 7 ∨ j = 8 ∨ j = 9 ∨ j = 10 ∨ j = 11 ∨ j = 12 ∨ j = 13 ∨ j = 14 ∨ j = 15 ∨ j = 16 by omega) with rfl | rfl | rfl | rfl | rfl | rfl | rfl | rfl | rfl | rfl | rfl | rfl | rfl | rfl | rfl | rfl | rfl <;> rfl
theorem kin_RX12 : ∀ w ∈ u_ws RX12 TX12 48, w ∈ kWS := by decide +kernel
theorem k_fs_RX12 : ∀ j, j < 48 → defaultValue (tyX12 j) = vp_V [.int 0, .int 0, .int 0, .int 0, .int 0, .int 0, .int 0, .int 0, .null, .null, .null, .null, .null, .null, .null, .null, .null, .int 0, .int 0, .int 0, .int 0, .int 0, .int 0, .int 0, .int 0, .int 0, .null, .null, .null, .null, .int 0, .null, .null, .null, .null, .null, .int 0, .int 0, .int 0, .null, .null, .null, .null, .null, .int 0, .int 0, .int 0, .int 0] j := by
  intro j hj
  rcases (show j = 0 ∨ j = 1 ∨ j = 2 ∨ j = 3 ∨ j = 4 ∨ j = 5 ∨ j = 6 ∨ j = 7 ∨ j = 8 ∨ j = 9 ∨ j = 10 ∨ j = 11 ∨ j = 12 ∨ j = 13 ∨ j = 14 ∨ j = 15 ∨ j = 16 ∨ j = 17 ∨ j = 18 ∨ j = 19 ∨ j = 20 ∨ j = 21 ∨ j = 22 ∨ j = 23 ∨ j = 24 ∨ j = 25 ∨ j = 26 ∨ j = 27 ∨ j = 28 ∨ j = 29 ∨ j = 30 ∨ j = 31 ∨ j = 32 ∨ j = 33 ∨ j = 34 ∨ j = 35 ∨ j = 36 ∨ j = 37 ∨ j = 38 ∨ j = 39 ∨ j = 40 ∨ j = 41 ∨ j = 42 ∨ j = 43 ∨ j = 44 ∨ j = 45 ∨ j = 46 ∨ j = 47 by omega) with rfl | rfl | rfl | rfl | rfl | rfl | rfl | rfl | rfl | rfl | rfl | rfl | rfl | rfl | rfl | rfl | rfl | rfl | rfl | rfl | rfl | rfl | rfl | rfl | rfl | rfl | rfl | rfl | rfl | rfl | rfl | rfl | rfl | rfl | rfl | rfl | rfl | rfl | rfl | rfl | rfl | rfl | rfl | rfl | rfl | rfl | rfl | rfl <;> rfl
