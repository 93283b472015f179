theorem n_six {x : Int} (h : 1 ≤ x ∧ x ≤ 6) : x = 1 ∨ x = 2 ∨ x = 3 ∨ x = 4 ∨ x = 5 ∨ x = 6 := by omega
theorem n_p1 {x : Int} (h : 0 ≤ x) (h0 : ¬ x = 0) : 1 ≤ x := by omega
