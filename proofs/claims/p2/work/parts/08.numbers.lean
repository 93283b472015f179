/-! Numbers: what is computed, as integers; ranges of what arrays hold. -/
theorem n_bmod {n : Int} (h1 : -2147483648 ≤ n) (h2 : n < 2147483648) : n.bmod (2 ^ 32) = n := Int.bmod_eq_of_le (by omega) (by omega)
theorem n_add {x y z : Int32} {a b : Int} (e : z = x + y) (hx : x.toInt = a) (hy : y.toInt = b) (h1 : -2147483648 ≤ a + b) (h2 : a + b < 2147483648) : z.toInt = a + b := by
  rw [e, Int32.toInt_add, hx, hy]; exact n_bmod h1 h2
theorem n_sub {x y z : Int32} {a b : Int} (e : z = x - y) (hx : x.toInt = a) (hy : y.toInt = b) (h1 : -2147483648 ≤ a - b) (h2 : a - b < 2147483648) : z.toInt = a - b := by
  rw [e, Int32.toInt_sub, hx, hy]; exact n_bmod h1 h2
theorem n_mul {x y z : Int32} {a b : Int} (e : z = x * y) (hx : x.toInt = a) (hy : y.toInt = b) (h1 : -2147483648 ≤ a * b) (h2 : a * b < 2147483648) : z.toInt = a * b := by
  rw [e, Int32.toInt_mul, hx, hy]; exact n_bmod h1 h2
theorem n_neg {x z : Int32} {a : Int} (e : z = -x) (hx : x.toInt = a) (h1 : -2147483648 < a) : z.toInt = -a := by
  have h := Int32.toInt_lt x
  rw [e, Int32.toInt_neg, hx]; exact n_bmod (by rw [← hx]; omega) (by omega)
/-- a product of two that are not negative: its range -/
theorem n_mulR {x y z : Int32} {a b : Int} (e : z = x * y) (hx : 0 ≤ x.toInt ∧ x.toInt ≤ a) (hy : 0 ≤ y.toInt ∧ y.toInt ≤ b) (hab : a * b < 2147483648) : 0 ≤ z.toInt ∧ z.toInt ≤ a * b := by
  have h0 : 0 ≤ x.toInt * y.toInt := Int.mul_nonneg hx.1 hy.1
  have h1 : x.toInt * y.toInt ≤ a * b := Int.mul_le_mul hx.2 hy.2 hy.1 (by omega)
  rw [n_mul e rfl rfl (by omega) (by omega)]
  exact ⟨h0, h1⟩
theorem n_div {x y z : Int32} {a b : Int} (e : z = x / y) (hx : x.toInt = a) (hy : y.toInt = b) (ha : 0 ≤ a) (hb : 0 < b) : z.toInt = a / b := by
  have h9 := Int32.toInt_lt x
  have hq : 0 ≤ a / b := Int.ediv_nonneg ha (by omega)
  have hq2 : a / b ≤ a := Int.ediv_le_self _ ha
  rw [e, Int32.toInt_div, hx, hy, Int.tdiv_eq_ediv_of_nonneg ha]
  exact n_bmod (by omega) (by omega)
theorem n_mod {x y z : Int32} {a b : Int} (e : z = x - x / y * y) (hx : x.toInt = a) (hy : y.toInt = b) (ha : 0 ≤ a) (hb : 0 < b) : z.toInt = a % b := by
  have h9 := Int32.toInt_lt x
  have hq : (x / y).toInt = a / b := n_div rfl hx hy ha hb
  have hq0 : 0 ≤ a / b := Int.ediv_nonneg ha (by omega)
  have hm : a / b * b ≤ a := Int.ediv_mul_le a (by omega)
  have hm0 : 0 ≤ a / b * b := Int.mul_nonneg hq0 (by omega)
  have hp : (x / y * y).toInt = a / b * b := n_mul rfl hq hy (by omega) (by omega)
  rw [n_sub e hx hp (by omega) (by omega), Int.emod_def, Int.mul_comm]
theorem n_divR {x y z : Int32} (e : z = x / y) (hx : 0 ≤ x.toInt) (hy : 0 < y.toInt) : 0 ≤ z.toInt ∧ z.toInt ≤ x.toInt := by
  rw [n_div e rfl rfl hx hy]
  exact ⟨Int.ediv_nonneg hx (by omega), Int.ediv_le_self _ hx⟩
theorem n_modR {x y z : Int32} (e : z = x - x / y * y) (hx : 0 ≤ x.toInt) (hy : 0 < y.toInt) : 0 ≤ z.toInt ∧ z.toInt < y.toInt := by
  rw [n_mod e rfl rfl hx hy]
  exact ⟨Int.emod_nonneg _ (by omega), Int.emod_lt_of_pos _ hy⟩
/-- a mask that is not negative -/
theorem n_and {x y z : Int32} {b : Int} (e : z = x &&& y) (hy : y.toInt = b) (h0 : 0 ≤ b) : 0 ≤ z.toInt ∧ z.toInt ≤ b := by
  subst e
  have hb : y.toBitVec.toNat < 2 ^ 31 := by
    have h1 : y.toBitVec.toInt = b := hy
    rw [BitVec.toInt_eq_toNat_cond] at h1
    have h2 := y.toBitVec.isLt
    split at h1 <;> omega
  have hyn : (y.toBitVec.toNat : Int) = b := by
    have h1 : y.toBitVec.toInt = b := hy
    rw [BitVec.toInt_eq_toNat_cond] at h1
    have h2 := y.toBitVec.isLt
    split at h1 <;> omega
  have hle : (x &&& y).toBitVec.toNat ≤ y.toBitVec.toNat := by
    rw [Int32.toBitVec_and, BitVec.toNat_and]; exact Nat.and_le_right
  have hz : (x &&& y).toInt = ((x &&& y).toBitVec.toNat : Int) := by
    show (x &&& y).toBitVec.toInt = _
    rw [BitVec.toInt_eq_toNat_cond, if_pos (by omega)]
  rw [hz]; omega
theorem n_andL {x y z : Int32} {b : Int} (e : z = x &&& y) (hx : x.toInt = b) (h0 : 0 ≤ b) : 0 ≤ z.toInt ∧ z.toInt ≤ b := n_and (x := y) (y := x) (by rw [e, Int32.and_comm]) hx h0
/-- an index that is in its row -/
theorem n_in {i : Int32} {n : Nat} (h0 : 0 ≤ i.toInt) (h1 : i.toInt < n) : vp_in i n := by
  intro h
  rcases h with h | h
  · have := Int32.lt_iff_toInt_lt.mp h
    rw [show (0 : Int32).toInt = 0 by decide] at this
    omega
  · have : i.toNatClampNeg = i.toInt.toNat := rfl
    omega
theorem n_nat {i : Int32} (h0 : 0 ≤ i.toInt) : (i.toNatClampNeg : Int) = i.toInt := by
  have : i.toNatClampNeg = i.toInt.toNat := rfl
  omega
theorem n_lt {i : Int32} {n : Nat} (h0 : 0 ≤ i.toInt) (h1 : i.toInt < n) : i.toNatClampNeg < n := by
  have : i.toNatClampNeg = i.toInt.toNat := rfl
  omega
/-- all that a row holds lies in a range -/
def rowR (n : Nat) (lo hi : Int) (f : Nat → Int32) : Prop := ∀ i, i < n → lo ≤ (f i).toInt ∧ (f i).toInt ≤ hi
theorem rowR_upd {n : Nat} {lo hi : Int} {f : Nat → Int32} {i : Nat} {v : Int32} (h : rowR n lo hi f) (h1 : lo ≤ v.toInt) (h2 : v.toInt ≤ hi) : rowR n lo hi (upd f i v) := fun j hn => by
  by_cases hj : j = i
  · rw [show upd f i v j = v from if_pos hj]; exact ⟨h1, h2⟩
  · rw [show upd f i v j = f j from if_neg hj]; exact h j hn
theorem rowR_zero {n : Nat} {lo hi : Int} (h1 : lo ≤ 0) (h2 : 0 ≤ hi) : rowR n lo hi (fun _ => 0) := fun _ _ => by rw [show ((0 : Int32)).toInt = 0 by decide]; exact ⟨h1, h2⟩
theorem rowR_const {n : Nat} {lo hi : Int} {c : Int32} (h1 : lo ≤ c.toInt) (h2 : c.toInt ≤ hi) : rowR n lo hi (fun _ => c) := fun _ _ => ⟨h1, h2⟩
theorem rowR_cpy {n : Nat} {lo hi : Int} {f g : Nat → Int32} {a b k : Nat} (hf : rowR n lo hi f) (ha : a = 0) (hb : b = 0) (hk : k = n) : rowR n lo hi (va_cpy f g a b k) := fun j hn => by
  subst ha hb hk
  rw [show va_cpy f g 0 0 k j = f (0 + (j - 0)) from if_pos ⟨Nat.zero_le _, by omega⟩]
  exact hf _ (by omega)
theorem rowR_mono {n : Nat} {lo hi lo' hi' : Int} {f : Nat → Int32} (h : rowR n lo hi f) (h1 : lo' ≤ lo) (h2 : hi ≤ hi') : rowR n lo' hi' f := fun i hn => ⟨Int.le_trans h1 (h i hn).1, Int.le_trans (h i hn).2 h2⟩
theorem n_ne {b : Int32} (h : b.toInt ≠ 0) : b ≠ 0 := fun e => h (by rw [e]; decide)
theorem n_bool {v : Int32} (h : v.toInt = 0 ∨ v.toInt = 1) : v = 0 ∨ v = 1 := h.imp (fun h => Int32.toInt_inj.mp (h.trans (by decide))) (fun h => Int32.toInt_inj.mp (h.trans (by decide)))
theorem n_max {x y z : Int32} {a b : Int} (e : z = if x < y then y else x) (hx : x.toInt = a) (hy : y.toInt = b) : a ≤ z.toInt ∧ b ≤ z.toInt ∧ (z.toInt = a ∨ z.toInt = b) := by
  by_cases h : x < y
  · rw [if_pos h] at e; have := Int32.lt_iff_toInt_lt.mp h; subst e; omega
  · rw [if_neg h] at e; have : ¬ x.toInt < y.toInt := fun q => h (Int32.lt_iff_toInt_lt.mpr q); subst e; omega
theorem n_min {x y z : Int32} {a b : Int} (e : z = if y < x then y else x) (hx : x.toInt = a) (hy : y.toInt = b) : z.toInt ≤ a ∧ z.toInt ≤ b ∧ (z.toInt = a ∨ z.toInt = b) := by
  by_cases h : y < x
  · rw [if_pos h] at e; have := Int32.lt_iff_toInt_lt.mp h; subst e; omega
  · rw [if_neg h] at e; have : ¬ y.toInt < x.toInt := fun q => h (Int32.lt_iff_toInt_lt.mpr q); subst e; omega
theorem n_abs {x z : Int32} (e : z = if 0 ≤ x then x else 0 - x) (h1 : -2147483648 < x.toInt) : 0 ≤ z.toInt ∧ (z.toInt = x.toInt ∨ z.toInt = -x.toInt) := by
  have h2 := Int32.toInt_lt x
  by_cases h : 0 ≤ x
  · rw [if_pos h] at e; have := Int32.le_iff_toInt_le.mp h; rw [show (0 : Int32).toInt = 0 by decide] at this; subst e; omega
  · rw [if_neg h] at e
    have h3 : ¬ (0 : Int32).toInt ≤ x.toInt := fun q => h (Int32.le_iff_toInt_le.mpr q)
    rw [show (0 : Int32).toInt = 0 by decide] at h3
    have h4 := n_sub e (a := 0) (b := x.toInt) (by decide) rfl (by omega) (by omega)
    omega
theorem rowR_nil {lo hi : Int} {f : Nat → Int32} {n : Nat} (h : n = 0) : rowR n lo hi f := fun i hi => absurd hi (by omega)
theorem rowR_fill {lo hi : Int} {f : Nat → Int32} {v : Int32} {n k : Nat} (h : rowR k lo hi f) (h1 : lo ≤ v.toInt) (h2 : v.toInt ≤ hi) (hn : n = k + 1) : rowR n lo hi (upd f k v) := fun j hj => by
  by_cases e : j = k
  · rw [show upd f k v j = v from if_pos e]; exact ⟨h1, h2⟩
  · rw [show upd f k v j = f j from if_neg e]; exact h j (by omega)
theorem rowR_len {lo hi : Int} {f : Nat → Int32} {n k : Nat} (h : rowR k lo hi f) (hn : n ≤ k) : rowR n lo hi f := fun j hj => h j (by omega)
