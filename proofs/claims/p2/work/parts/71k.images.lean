/-! Images of the reference: what a row of 120 keeps. -/
def kpA (K : Nat → Int32) : Prop := (∀ j, j < 9 → 0 ≤ (K (4 * j + 1)).toInt ∧ (K (4 * j + 1)).toInt ≤ 9 * (K 36).toInt + 240) ∧ (0 ≤ (K 36).toInt ∧ (K 36).toInt ≤ 480) ∧ (0 ≤ (K 37).toInt ∧ (K 37).toInt ≤ 8)
def kpB (K : Nat → Int32) : Prop := (0 ≤ (K 42).toInt ∧ (K 42).toInt ≤ 30) ∧ (0 ≤ (K 43).toInt ∧ (K 43).toInt ≤ 6) ∧ (∀ k, k < 30 → 0 ≤ (K (45 + 2 * k)).toInt ∧ (K (45 + 2 * k)).toInt ≤ 8) ∧ (∀ k, k < 12 → 0 ≤ (K (104 + k)).toInt ∧ (K (104 + k)).toInt ≤ 15)
def kpt (K : Nat → Int32) : Prop := kpA K ∧ kpB K
theorem kpA_of {K g : Nat → Int32} {n m : Int32} (h : asd K g n m) (hg : rowR 9 0 (9 * n.toInt + 240) g) (hn : 0 ≤ n.toInt ∧ n.toInt ≤ 480) (hm : 0 ≤ m.toInt ∧ m.toInt ≤ 8) : kpA K := by
  refine ⟨fun j hj => ?_, by rw [h.2.1]; exact hn, by rw [h.2.2]; exact hm⟩
  rw [h.1 j hj, h.2.1]; exact hg j hj
theorem kpA_eq {K K' : Nat → Int32} (h : kpA K) (e : ∀ j, j < 42 → K' j = K j) : kpA K' := by
  refine ⟨fun j hj => ?_, by rw [e 36 (by decide)]; exact h.2.1, by rw [e 37 (by decide)]; exact h.2.2⟩
  rw [e _ (by omega), e 36 (by decide)]; exact h.1 j hj
def toldA (tf K : Nat → Int32) (ps sp : Int32) : Prop := (∀ j, j < 42 → K j = tf j) ∧ K 42 = ps ∧ K 43 = sp
theorem tl0 {tf K1 K2 : Nat → Int32} {s0 s1 v0 v1 : Int32} (e1 : K1 = upd tf s0.toNatClampNeg v0) (h1 : s1.toInt = s0.toInt + 1) (e2 : K2 = upd K1 s1.toNatClampNeg v1) (h0 : s0.toInt = 42) : toldA tf K2 v0 v1 := by
  have c0 : s0.toNatClampNeg = 42 := n_clamp (by omega)
  have c1 : s1.toNatClampNeg = 43 := n_clamp (by omega)
  refine ⟨fun j hj => ?_, ?_, ?_⟩
  · rw [e2, c1, upd_off (by omega), e1, c0, upd_off (by omega)]
  · rw [e2, c1, upd_off (by omega), e1, c0, upd_at]
  · rw [e2, c1, upd_at]
theorem tl1 {tf K K1 K2 : Nat → Int32} {s0 s1 v0 v1 ps sp k k' : Int32} (hA : toldA tf K ps sp ∧ ∀ i, i < k.toInt.toNat → 0 ≤ (K (45 + 2 * i)).toInt ∧ (K (45 + 2 * i)).toInt ≤ 8) (e1 : K1 = upd K s0.toNatClampNeg v0) (h1 : s1.toInt = s0.toInt + 1) (e2 : K2 = upd K1 s1.toNatClampNeg v1) (h0 : s0.toInt = 44 + 2 * k.toInt) (hk : 0 ≤ k.toInt) (hk' : k'.toInt = k.toInt + 1) (hv : 0 ≤ v1.toInt ∧ v1.toInt ≤ 8) : toldA tf K2 ps sp ∧ ∀ i, i < k'.toInt.toNat → 0 ≤ (K2 (45 + 2 * i)).toInt ∧ (K2 (45 + 2 * i)).toInt ≤ 8 := by
  have c0 : s0.toNatClampNeg = 44 + 2 * k.toInt.toNat := n_clamp (by omega)
  have c1 : s1.toNatClampNeg = 45 + 2 * k.toInt.toNat := n_clamp (by omega)
  refine ⟨⟨fun j hj => ?_, ?_, ?_⟩, fun i hi => ?_⟩
  · rw [e2, c1, upd_off (by omega), e1, c0, upd_off (by omega)]; exact hA.1.1 j hj
  · rw [e2, c1, upd_off (by omega), e1, c0, upd_off (by omega)]; exact hA.1.2.1
  · rw [e2, c1, upd_off (by omega), e1, c0, upd_off (by omega)]; exact hA.1.2.2
  · rw [e2, c1]
    by_cases e : i = k.toInt.toNat
    · rw [e, upd_at]; exact hv
    · rw [upd_off (by omega), e1, c0, upd_off (by omega)]; exact hA.2 i (by omega)
theorem tl2 {tf K K1 K2 : Nat → Int32} {s0 s1 v0 v1 ps sp k k' : Int32} (hA : (toldA tf K ps sp ∧ ∀ i, i < 30 → 0 ≤ (K (45 + 2 * i)).toInt ∧ (K (45 + 2 * i)).toInt ≤ 8) ∧ ∀ i, i < 2 * k.toInt.toNat → 0 ≤ (K (104 + i)).toInt ∧ (K (104 + i)).toInt ≤ 15) (e1 : K1 = upd K s0.toNatClampNeg v0) (h1 : s1.toInt = s0.toInt + 1) (e2 : K2 = upd K1 s1.toNatClampNeg v1) (h0 : s0.toInt = 104 + 2 * k.toInt) (hk : 0 ≤ k.toInt) (hk' : k'.toInt = k.toInt + 1) (hv0 : 0 ≤ v0.toInt ∧ v0.toInt ≤ 15) (hv1 : 0 ≤ v1.toInt ∧ v1.toInt ≤ 15) : (toldA tf K2 ps sp ∧ ∀ i, i < 30 → 0 ≤ (K2 (45 + 2 * i)).toInt ∧ (K2 (45 + 2 * i)).toInt ≤ 8) ∧ ∀ i, i < 2 * k'.toInt.toNat → 0 ≤ (K2 (104 + i)).toInt ∧ (K2 (104 + i)).toInt ≤ 15 := by
  have c0 : s0.toNatClampNeg = 104 + 2 * k.toInt.toNat := n_clamp (by omega)
  have c1 : s1.toNatClampNeg = 105 + 2 * k.toInt.toNat := n_clamp (by omega)
  refine ⟨⟨⟨fun j hj => ?_, ?_, ?_⟩, fun i hi => ?_⟩, fun i hi => ?_⟩
  · rw [e2, c1, upd_off (by omega), e1, c0, upd_off (by omega)]; exact hA.1.1.1 j hj
  · rw [e2, c1, upd_off (by omega), e1, c0, upd_off (by omega)]; exact hA.1.1.2.1
  · rw [e2, c1, upd_off (by omega), e1, c0, upd_off (by omega)]; exact hA.1.1.2.2
  · rw [e2, c1, upd_off (by omega), e1, c0, upd_off (by omega)]; exact hA.1.2 i hi
  · rw [e2, c1]
    by_cases e : i = 2 * k.toInt.toNat + 1
    · rw [e, show 104 + (2 * k.toInt.toNat + 1) = 105 + 2 * k.toInt.toNat by omega, upd_at]; exact hv1
    · rw [upd_off (by omega), e1, c0]
      by_cases e9 : i = 2 * k.toInt.toNat
      · rw [e9, upd_at]; exact hv0
      · rw [upd_off (by omega)]; exact hA.2 i (by omega)
theorem tl12 {tf K : Nat → Int32} {ps sp k : Int32} (hA : toldA tf K ps sp ∧ ∀ i, i < k.toInt.toNat → 0 ≤ (K (45 + 2 * i)).toInt ∧ (K (45 + 2 * i)).toInt ≤ 8) (hk : 30 ≤ k.toInt) : (toldA tf K ps sp ∧ ∀ i, i < 30 → 0 ≤ (K (45 + 2 * i)).toInt ∧ (K (45 + 2 * i)).toInt ≤ 8) ∧ ∀ i, i < 2 * ((0 : Int32).toInt).toNat → 0 ≤ (K (104 + i)).toInt ∧ (K (104 + i)).toInt ≤ 15 := ⟨⟨hA.1, fun i hi => hA.2 i (by omega)⟩, fun i hi => absurd hi (Nat.not_lt_zero _)⟩
theorem tl3 {tf K : Nat → Int32} {ps sp k : Int32} (hA : (toldA tf K ps sp ∧ ∀ i, i < 30 → 0 ≤ (K (45 + 2 * i)).toInt ∧ (K (45 + 2 * i)).toInt ≤ 8) ∧ ∀ i, i < 2 * k.toInt.toNat → 0 ≤ (K (104 + i)).toInt ∧ (K (104 + i)).toInt ≤ 15) (hk : 6 ≤ k.toInt) (hp : 0 ≤ ps.toInt ∧ ps.toInt ≤ 30) (hs : 0 ≤ sp.toInt ∧ sp.toInt ≤ 6) : kpB K ∧ ∀ j, j < 42 → K j = tf j := ⟨⟨by rw [hA.1.1.2.1]; exact hp, by rw [hA.1.1.2.2]; exact hs, hA.1.2, fun i hi => hA.2 i (by omega)⟩, hA.1.1.1⟩
theorem kb42 {K : Nat → Int32} {s r : Int32} (h : kpB K) (hr : r = K s.toNatClampNeg) (hs : s.toInt = 42) : 0 ≤ r.toInt ∧ r.toInt ≤ 30 := by rw [hr, n_clamp (n := 42) hs]; exact h.1
theorem kb43 {K : Nat → Int32} {s r : Int32} (h : kpB K) (hr : r = K s.toNatClampNeg) (hs : s.toInt = 43) : 0 ≤ r.toInt ∧ r.toInt ≤ 6 := by rw [hr, n_clamp (n := 43) hs]; exact h.2.1
theorem kb45 {K : Nat → Int32} {s r k : Int32} (h : kpB K) (hr : r = K s.toNatClampNeg) (hs : s.toInt = 45 + 2 * k.toInt) (h0 : 0 ≤ k.toInt) (h1 : k.toInt < 30) : 0 ≤ r.toInt ∧ r.toInt ≤ 8 := by rw [hr, n_clamp (n := 45 + 2 * k.toInt.toNat) (by omega)]; exact h.2.2.1 _ (by omega)
theorem kb104 {K : Nat → Int32} {s r : Int32} (h : kpB K) (hr : r = K s.toNatClampNeg) (h0 : 104 ≤ s.toInt) (h1 : s.toInt < 116) : 0 ≤ r.toInt ∧ r.toInt ≤ 15 := by rw [hr, n_clamp (n := 104 + (s.toInt.toNat - 104)) (by omega)]; exact h.2.2.2 _ (by omega)
theorem kpA_row {K : Nat → Int32} (h : kpA K) : rowR 9 0 (9 * (K 36).toInt + 240) (fun j => K (4 * j + 1)) := fun j hj => h.1 j hj
theorem asd_refl (K : Nat → Int32) : asd K (fun j => K (4 * j + 1)) (K 36) (K 37) := ⟨fun _ _ => rfl, rfl, rfl⟩
/-- how far the reading of clauses is -/
def msr (f c : Int) : Nat := if f = 0 then (41 - c).toNat else 0
theorem msr_lt {f f' c c' : Int} (h : f = 0) (hc : c ≤ 40) (h' : f' ≠ 0 ∨ c' = c + 1) : msr f' c' < msr f c := by
  unfold msr
  rw [if_pos h]
  by_cases e : f' = 0
  · rw [if_pos e]; omega
  · rw [if_neg e]; omega
