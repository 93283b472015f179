/-! Bits of a number, counted. -/
def bitZ (x : Int32) (n : Nat) : Int := ((x >>> (Int32.ofInt (n : Int) &&& 31)) &&& 1).toInt
def sumB (x : Int32) : Nat → Int
  | 0 => 0
  | n + 1 => sumB x n + bitZ x n
theorem bitZ_rng (x : Int32) (n : Nat) : 0 ≤ bitZ x n ∧ bitZ x n ≤ 1 := n_and (y := 1) rfl (by decide) (by decide)
theorem bitZ_eq {x k z v : Int32} (ez : z = x >>> (k &&& 31)) (ev : v = z &&& 1) (h0 : 0 ≤ k.toInt) : bitZ x k.toInt.toNat = v.toInt := by
  unfold bitZ
  rw [show ((k.toInt.toNat : Nat) : Int) = k.toInt by omega, Int32.ofInt_toInt, ev, ez]
theorem sumB_step {x k k' z v : Int32} (ez : z = x >>> (k &&& 31)) (ev : v = z &&& 1) (h0 : 0 ≤ k.toInt) (hk : k'.toInt = k.toInt + 1) : sumB x k'.toInt.toNat = sumB x k.toInt.toNat + v.toInt := by
  rw [show k'.toInt.toNat = k.toInt.toNat + 1 by omega, ← bitZ_eq ez ev h0]
  rfl
theorem sumB_mono (x : Int32) {m n : Nat} (h : m ≤ n) : sumB x m ≤ sumB x n := by
  induction h with
  | refl => exact Int.le_refl _
  | step _ ih => exact Int.le_trans ih (by show _ ≤ sumB x _ + bitZ x _; have := (bitZ_rng x (by assumption)).1; omega)
theorem sumB_room {x k z v : Int32} (ez : z = x >>> (k &&& 31)) (ev : v = z &&& 1) (h0 : 0 ≤ k.toInt) (h1 : k.toInt < 9) : sumB x k.toInt.toNat + v.toInt ≤ sumB x 9 := by
  rw [← bitZ_eq ez ev h0]
  exact sumB_mono x (m := k.toInt.toNat + 1) (by omega)
theorem sumB_0 {x : Int32} : (0 : Int32).toInt = sumB x ((0 : Int32).toInt).toNat := rfl
theorem sumB_9 {x k : Int32} (h : k.toInt = 9) : sumB x k.toInt.toNat = sumB x 9 := by rw [h]; rfl
theorem sumB_nn (x : Int32) (n : Nat) : 0 ≤ sumB x n := sumB_mono x (m := 0) (Nat.zero_le n)
