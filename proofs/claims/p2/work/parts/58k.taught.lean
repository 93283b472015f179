theorem tbU {D D1 D2 : Nat → Int32} {U : Int} {b v w : Int32} (h : rowR 9 0 U D) (e : upd D b.toNatClampNeg v = D1) (hd : ∀ j, j < 9 → D2 j = D1 j) (hw : w.toInt = (D b.toNatClampNeg).toInt) : rowR 9 0 U (upd D2 b.toNatClampNeg w) := by
  intro j hj
  by_cases hb : j = b.toNatClampNeg
  · rw [hb, upd_at, hw, ← hb]
    exact h j hj
  · rw [upd_off hb, hd j hj, ← e, upd_off hb]
    exact h j hj
