/-! A row of rows, one place written. -/
def rset (F : Nat → Nat → Int32) (i j : Nat) (v : Int32) : Nat → Nat → Int32 := fun b => if b = i then upd (F b) j v else F b
theorem rset_eq {F : Nat → Nat → Int32} {n i j c : Nat} {v : Int32} {lo hi : Int} (h : ∀ b, b < n → lo ≤ (F b c).toInt ∧ (F b c).toInt ≤ hi) (hv : lo ≤ v.toInt ∧ v.toInt ≤ hi) : ∀ b, b < n → lo ≤ (rset F i j v b c).toInt ∧ (rset F i j v b c).toInt ≤ hi := by
  intro b hb
  unfold rset
  by_cases h1 : b = i
  · rw [if_pos h1]
    unfold upd
    by_cases h2 : c = j
    · rw [if_pos h2]; exact hv
    · rw [if_neg h2]; exact h b hb
  · rw [if_neg h1]; exact h b hb
theorem rset_ne {F : Nat → Nat → Int32} {n i j c : Nat} {v : Int32} {lo hi : Int} (h : ∀ b, b < n → lo ≤ (F b c).toInt ∧ (F b c).toInt ≤ hi) (hc : c ≠ j) : ∀ b, b < n → lo ≤ (rset F i j v b c).toInt ∧ (rset F i j v b c).toInt ≤ hi := by
  intro b hb
  unfold rset
  by_cases h1 : b = i
  · rw [if_pos h1]
    unfold upd
    rw [if_neg hc]; exact h b hb
  · rw [if_neg h1]; exact h b hb
