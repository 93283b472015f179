/-! Bits of at most nine bodies. -/
theorem n_shl1 {y z : Int32} (e : z = 1 <<< (y &&& 31)) (h0 : 0 ≤ y.toInt) (h1 : y.toInt ≤ 9) : 1 ≤ z.toInt ∧ z.toInt ≤ 512 := by
  rcases (show y.toInt = 0 ∨ y.toInt = 1 ∨ y.toInt = 2 ∨ y.toInt = 3 ∨ y.toInt = 4 ∨ y.toInt = 5 ∨ y.toInt = 6 ∨ y.toInt = 7 ∨ y.toInt = 8 ∨ y.toInt = 9 by omega) with h | h | h | h | h | h | h | h | h | h
  · obtain rfl : y = 0 := Int32.toInt_inj.mp (h.trans (by decide)); subst e; decide
  · obtain rfl : y = 1 := Int32.toInt_inj.mp (h.trans (by decide)); subst e; decide
  · obtain rfl : y = 2 := Int32.toInt_inj.mp (h.trans (by decide)); subst e; decide
  · obtain rfl : y = 3 := Int32.toInt_inj.mp (h.trans (by decide)); subst e; decide
  · obtain rfl : y = 4 := Int32.toInt_inj.mp (h.trans (by decide)); subst e; decide
  · obtain rfl : y = 5 := Int32.toInt_inj.mp (h.trans (by decide)); subst e; decide
  · obtain rfl : y = 6 := Int32.toInt_inj.mp (h.trans (by decide)); subst e; decide
  · obtain rfl : y = 7 := Int32.toInt_inj.mp (h.trans (by decide)); subst e; decide
  · obtain rfl : y = 8 := Int32.toInt_inj.mp (h.trans (by decide)); subst e; decide
  · obtain rfl : y = 9 := Int32.toInt_inj.mp (h.trans (by decide)); subst e; decide
theorem n_nn {y : Int32} (h : 0 ≤ y.toInt) : (y.toBitVec.toNat : Int) = y.toInt := by
  have h1 : y.toBitVec.toInt = y.toInt := rfl
  rw [BitVec.toInt_eq_toNat_cond] at h1
  have h2 := y.toBitVec.isLt
  split at h1 <;> omega
theorem n_or511 {x y z : Int32} (e : z = x ||| y) (hx : 0 ≤ x.toInt ∧ x.toInt ≤ 511) (hy : 0 ≤ y.toInt ∧ y.toInt ≤ 511) : 0 ≤ z.toInt ∧ z.toInt ≤ 511 := by
  have h1 := n_nn hx.1
  have h2 := n_nn hy.1
  have h3 : (x ||| y).toBitVec.toNat < 2 ^ 9 := by
    rw [Int32.toBitVec_or, BitVec.toNat_or]
    exact Nat.or_lt_two_pow (by omega) (by omega)
  have h4 : (x ||| y).toInt = ((x ||| y).toBitVec.toNat : Int) := by
    show (x ||| y).toBitVec.toInt = _
    rw [BitVec.toInt_eq_toNat_cond, if_pos (by omega)]
  rw [e, h4]; omega
