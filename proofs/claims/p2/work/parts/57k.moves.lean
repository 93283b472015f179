/-! What the reference lays aside and takes back: a row of 120, bodies by fours. -/
theorem upd_self {f : Nat → Int32} {i : Nat} {v : Int32} (h : v = f i) : upd f i v = f := by
  funext j
  show (if j = i then v else f j) = f j
  by_cases hj : j = i
  · rw [if_pos hj, h, hj]
  · rw [if_neg hj]
theorem upd_at {f : Nat → Int32} {i : Nat} {v : Int32} : upd f i v i = v := if_pos rfl
theorem upd_off {f : Nat → Int32} {i j : Nat} {v : Int32} (h : j ≠ i) : upd f i v j = f j := if_neg h
theorem n_clamp {i : Int32} {n : Nat} (h : i.toInt = n) : i.toNatClampNeg = n := by
  have : i.toNatClampNeg = i.toInt.toNat := rfl
  omega
/-- a row holds the bodies' numbers, the minute and where the mind is -/
def asd (K g : Nat → Int32) (now mind : Int32) : Prop := (∀ j, j < 9 → K (4 * j + 1) = g j) ∧ K 36 = now ∧ K 37 = mind
theorem mv4 {K K1 K2 K3 K4 g : Nat → Int32} {s0 s1 s2 s3 b b' v0 v1 v2 v3 : Int32} (e1 : K1 = upd K s0.toNatClampNeg v0) (h1 : s1.toInt = s0.toInt + 1) (e2 : K2 = upd K1 s1.toNatClampNeg v1) (h2 : s2.toInt = s1.toInt + 1) (e3 : K3 = upd K2 s2.toNatClampNeg v2) (h3 : s3.toInt = s2.toInt + 1) (e4 : K4 = upd K3 s3.toNatClampNeg v3)
    (h0 : s0.toInt = 4 * b.toInt) (hb : 0 ≤ b.toInt) (hb' : b'.toInt = b.toInt + 1) (hv : v1 = g b.toNatClampNeg) (hi : ∀ j, j < b.toInt.toNat → K (4 * j + 1) = g j) : ∀ j, j < b'.toInt.toNat → K4 (4 * j + 1) = g j := by
  intro j hj
  have c0 : s0.toNatClampNeg = 4 * b.toInt.toNat := n_clamp (by omega)
  have c1 : s1.toNatClampNeg = 4 * b.toInt.toNat + 1 := n_clamp (by omega)
  have c2 : s2.toNatClampNeg = 4 * b.toInt.toNat + 2 := n_clamp (by omega)
  have c3 : s3.toNatClampNeg = 4 * b.toInt.toNat + 3 := n_clamp (by omega)
  have cb : b.toNatClampNeg = b.toInt.toNat := rfl
  rw [e4, c3, upd_off (by omega), e3, c2, upd_off (by omega), e2, c1]
  by_cases h : j = b.toInt.toNat
  · rw [h, upd_at, hv, cb]
  · rw [upd_off (by omega), e1, c0, upd_off (by omega)]
    exact hi j (by omega)
theorem mv6 {K K1 K2 K3 K4 K5 K6 g : Nat → Int32} {s0 s1 s2 s3 s4 s5 b v0 v1 v2 v3 v4 v5 : Int32} (e1 : K1 = upd K s0.toNatClampNeg v0) (h1 : s1.toInt = s0.toInt + 1) (e2 : K2 = upd K1 s1.toNatClampNeg v1) (h2 : s2.toInt = s1.toInt + 1) (e3 : K3 = upd K2 s2.toNatClampNeg v2) (h3 : s3.toInt = s2.toInt + 1) (e4 : K4 = upd K3 s3.toNatClampNeg v3) (h4 : s4.toInt = s3.toInt + 1) (e5 : K5 = upd K4 s4.toNatClampNeg v4) (h5 : s5.toInt = s4.toInt + 1) (e6 : K6 = upd K5 s5.toNatClampNeg v5)
    (h0 : s0.toInt = 36) (hb : 9 ≤ b.toInt) (hi : ∀ j, j < b.toInt.toNat → K (4 * j + 1) = g j) : asd K6 g v0 v1 := by
  have c0 : s0.toNatClampNeg = 36 := n_clamp (by omega)
  have c1 : s1.toNatClampNeg = 37 := n_clamp (by omega)
  have c2 : s2.toNatClampNeg = 38 := n_clamp (by omega)
  have c3 : s3.toNatClampNeg = 39 := n_clamp (by omega)
  have c4 : s4.toNatClampNeg = 40 := n_clamp (by omega)
  have c5 : s5.toNatClampNeg = 41 := n_clamp (by omega)
  refine ⟨fun j hj => ?_, ?_, ?_⟩
  · rw [e6, c5, upd_off (by omega), e5, c4, upd_off (by omega), e4, c3, upd_off (by omega), e3, c2, upd_off (by omega), e2, c1, upd_off (by omega), e1, c0, upd_off (by omega)]
    exact hi j (by omega)
  · rw [e6, c5, upd_off (by omega), e5, c4, upd_off (by omega), e4, c3, upd_off (by omega), e3, c2, upd_off (by omega), e2, c1, upd_off (by omega), e1, c0, upd_at]
  · rw [e6, c5, upd_off (by omega), e5, c4, upd_off (by omega), e4, c3, upd_off (by omega), e3, c2, upd_off (by omega), e2, c1, upd_at]
/-- what is taken back of one body -/
theorem mvb {K g : Nat → Int32} {n9 m9 s b r : Int32} (h : asd K g n9 m9) (hr : r = K s.toNatClampNeg) (hs : s.toInt = 4 * b.toInt + 1) (h0 : 0 ≤ b.toInt) (h1 : b.toInt < 9) : r = g b.toNatClampNeg := by
  have c : s.toNatClampNeg = 4 * b.toInt.toNat + 1 := n_clamp (by omega)
  have cb : b.toNatClampNeg = b.toInt.toNat := rfl
  rw [hr, c, cb]
  exact h.1 _ (by omega)
theorem mvR {g : Nat → Int32} {U : Int} {b r : Int32} (h : rowR 9 0 U g) (hr : r = g b.toNatClampNeg) (h0 : 0 ≤ b.toInt) (h1 : b.toInt < 9) : 0 ≤ r.toInt ∧ r.toInt ≤ U := by
  rw [hr]; exact h _ (n_lt h0 h1)
theorem mvD {D D' g : Nat → Int32} {b b' r : Int32} (e : upd D b.toNatClampNeg r = D') (hr : r = g b.toNatClampNeg) (hb : 0 ≤ b.toInt) (hb' : b'.toInt = b.toInt + 1) (hi : ∀ j, j < b.toInt.toNat → D j = g j) : ∀ j, j < b'.toInt.toNat → D' j = g j := by
  intro j hj
  have cb : b.toNatClampNeg = b.toInt.toNat := rfl
  rw [← e, cb]
  by_cases h : j = b.toInt.toNat
  · rw [h, upd_at, hr, cb]
  · rw [upd_off h]; exact hi j (by omega)
theorem mv36 {K g : Nat → Int32} {n9 m9 s r : Int32} (h : asd K g n9 m9) (hr : r = K s.toNatClampNeg) (hs : s.toInt = 36) : r = n9 := by rw [hr, n_clamp (n := 36) hs]; exact h.2.1
theorem mv37 {K g : Nat → Int32} {n9 m9 s r : Int32} (h : asd K g n9 m9) (hr : r = K s.toNatClampNeg) (hs : s.toInt = 37) : r = m9 := by rw [hr, n_clamp (n := 37) hs]; exact h.2.2
theorem mv9 {D g : Nat → Int32} {b : Int32} (hb : 9 ≤ b.toInt) (hi : ∀ j, j < b.toInt.toNat → D j = g j) : ∀ j, j < 9 → D j = g j := fun j hj => hi j (by omega)
theorem mvU {D g : Nat → Int32} {U : Int} (h : ∀ j, j < 9 → D j = g j) (hg : rowR 9 0 U g) : rowR 9 0 U D := fun j hj => by rw [h j hj]; exact hg j hj
