theorem n_shl8 {y z : Int32} (e : z = 1 <<< (y &&& 31)) (h0 : 0 ≤ y.toInt) (h1 : y.toInt ≤ 8) : 1 ≤ z.toInt ∧ z.toInt ≤ 256 := by
  rcases (show y.toInt = 0 ∨ y.toInt = 1 ∨ y.toInt = 2 ∨ y.toInt = 3 ∨ y.toInt = 4 ∨ y.toInt = 5 ∨ y.toInt = 6 ∨ y.toInt = 7 ∨ y.toInt = 8 by omega) with h | h | h | h | h | h | h | h | h
  · obtain rfl : y = 0 := Int32.toInt_inj.mp (h.trans (by decide)); subst e; decide
  · obtain rfl : y = 1 := Int32.toInt_inj.mp (h.trans (by decide)); subst e; decide
  · obtain rfl : y = 2 := Int32.toInt_inj.mp (h.trans (by decide)); subst e; decide
  · obtain rfl : y = 3 := Int32.toInt_inj.mp (h.trans (by decide)); subst e; decide
  · obtain rfl : y = 4 := Int32.toInt_inj.mp (h.trans (by decide)); subst e; decide
  · obtain rfl : y = 5 := Int32.toInt_inj.mp (h.trans (by decide)); subst e; decide
  · obtain rfl : y = 6 := Int32.toInt_inj.mp (h.trans (by decide)); subst e; decide
  · obtain rfl : y = 7 := Int32.toInt_inj.mp (h.trans (by decide)); subst e; decide
  · obtain rfl : y = 8 := Int32.toInt_inj.mp (h.trans (by decide)); subst e; decide
