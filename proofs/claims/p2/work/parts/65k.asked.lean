theorem ab_1 {m x b : Int32} {f0 : Int} (e : x = 1 <<< (m &&& 31)) (hm : m.toInt = f0) (hf : 0 ≤ f0) (h0 : 0 ≤ b.toInt) (hb : b.toInt < x.toInt) : 1 ≤ f0 ∨ sumB b 9 = 0 := by
  by_cases h : f0 = 0
  · right
    have hm0 : m = 0 := n_z (by omega)
    subst hm0
    have hx : x = 1 := e.trans (by decide)
    rw [hx] at hb
    have h1 : (1 : Int32).toInt = 1 := by decide
    have : b = 0 := n_z (by omega)
    rw [this]; decide
  · left; omega
theorem ab_2 {m x b : Int32} (e : x = 1 <<< (m &&& 31)) (h0 : 1 ≤ b.toInt) (hb : b.toInt < x.toInt) : m.toInt ≠ 0 := by
  intro h
  have hm0 : m = 0 := n_z h
  subst hm0
  have hx : x = 1 := e.trans (by decide)
  rw [hx] at hb
  have h1 : (1 : Int32).toInt = 1 := by decide
  omega
theorem sumB_lt9 {x k : Int32} (h : 0 = sumB x k.toInt.toNat) (h9 : 2 ≤ sumB x 9) (hk : k.toInt ≤ 9) : k.toInt < 9 := by
  by_cases e : k.toInt = 9
  · rw [e] at h
    have : sumB x (Int.toNat 9) = sumB x 9 := rfl
    omega
  · omega
theorem sumB_z {x : Int32} : 0 = sumB x ((0 : Int32).toInt).toNat := rfl
theorem cntN_ini (h : Nat → Int32) : (0 : Int32).toInt + (cntN h 26244 : Int) ≤ 26244 := by have := cntN_le h 26244; have h1 : (0 : Int32).toInt = 0 := (by decide); omega
theorem hFin_go {P : (Nat → Int32) → Int32 → Int32 → Prop} {wm : Int} {h : Nat → Int32} {s r : Int32} (hf : hFin P wm h) (h0 : 0 ≤ s.toInt) (h1 : s.toInt ≤ 26243) (hs : h s.toNatClampNeg ≠ 0) (hn : r.toInt = -1 → ∀ j : Int32, 0 ≤ j.toInt → j.toInt < wm → ¬ P h s j) : ¬ r.toInt = -1 := by
  intro q
  obtain ⟨k, k0, k1, k2⟩ := hf s h0 h1 hs
  exact hn q k k0 k1 k2
