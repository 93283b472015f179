/-! Few held for ever: the cost, the state behind a step, as numbers. -/
def costZ (F : Nat → Nat → Int32) (mn : Nat → Int32) (a b : Int32) : Int := if a = b then 0 else (mn 1).toInt + (max ((F a.toNatClampNeg 0).toInt - (F b.toNatClampNeg 0).toInt) ((F b.toNatClampNeg 0).toInt - (F a.toNatClampNeg 0).toInt) + max ((F a.toNatClampNeg 1).toInt - (F b.toNatClampNeg 1).toInt) ((F b.toNatClampNeg 1).toInt - (F a.toNatClampNeg 1).toInt)) / (mn 2).toInt
def dig (s : Int) (k : Nat) : Int := if k = 0 then s / 729 % 9 else if k = 1 then s / 81 % 9 else if k = 2 then s / 9 % 9 else s % 9
def bhX (wm to c s : Int) (k : Nat) : Int := if wm ≤ (k : Int) ∨ (k : Int) = to then 0 else dig s k + c + 1
abbrev bhBad (cap : Nat → Int32) (wm to c s : Int) (k : Nat) : Prop := (k : Int) < wm ∧ ((cap k).toInt < dig s k + c ∨ (cap k).toInt < bhX wm to c s k)
def bhL (cap : Nat → Int32) (wm to c s : Int) : Nat → Int → Int
  | 0, v => v
  | n + 1, v => if bhBad cap wm to c s (3 - n) then -1 else bhL cap wm to c s n (9 * v + bhX wm to c s (3 - n))
theorem bhL_bad {cap : Nat → Int32} {wm to c s v : Int} {k : Nat} (hk : k < 4) (h : bhBad cap wm to c s k) : bhL cap wm to c s (4 - k) v = -1 := by
  obtain ⟨n, hn⟩ : ∃ n, 4 - k = n + 1 := ⟨3 - k, by omega⟩
  rw [hn]
  show (if bhBad cap wm to c s (3 - n) then -1 else _) = _
  rw [if_pos (by rw [show 3 - n = k by omega]; exact h)]
theorem bhL_go {cap : Nat → Int32} {wm to c s v x : Int} {k : Nat} (hk : k < 4) (h : ¬ bhBad cap wm to c s k) (hx : x = bhX wm to c s k) : bhL cap wm to c s (4 - k) v = bhL cap wm to c s (4 - (k + 1)) (9 * v + x) := by
  obtain ⟨n, hn⟩ : ∃ n, 4 - k = n + 1 := ⟨3 - k, by omega⟩
  rw [hn, show 4 - (k + 1) = n by omega]
  show (if bhBad cap wm to c s (3 - n) then -1 else _) = _
  rw [show 3 - n = k by omega, if_neg h, hx]
def bhZ (F : Nat → Nat → Int32) (mn who cap : Nat → Int32) (wm : Int) (s to : Int32) : Int := bhL cap wm to.toInt (costZ F mn (who (s.toInt / 6561).toNat) (who to.toNatClampNeg)) s.toInt 4 to.toInt
theorem dig_of {w : Nat → Int32} {s : Int} (h : (w 0).toInt = s / 729 % 9 ∧ (w 1).toInt = s / 81 % 9 ∧ (w 2).toInt = s / 9 % 9 ∧ (w 3).toInt = s % 9) : ∀ k, k < 4 → (w k).toInt = dig s k := by
  intro k hk
  rcases (show k = 0 ∨ k = 1 ∨ k = 2 ∨ k = 3 by omega) with rfl | rfl | rfl | rfl
  · exact h.1
  · exact h.2.1
  · exact h.2.2.1
  · exact h.2.2.2
/-- too long without, at once -/
theorem bh_1 {cap w : Nat → Int32} {wm to c s v : Int} {k xw xc : Int32} (h0 : 0 ≤ k.toInt) (h4 : k.toInt < 4) (hd : ∀ k, k < 4 → (w k).toInt = dig s k) (ew : xw = w k.toNatClampNeg) (ec : xc = cap k.toNatClampNeg) (hwm : k.toInt < wm) (h : xc.toInt < xw.toInt + c) : bhL cap wm to c s (4 - k.toInt.toNat) v = -1 := by
  have e : k.toNatClampNeg = k.toInt.toNat := rfl
  refine bhL_bad (by omega) ⟨by omega, Or.inl ?_⟩
  rw [← hd _ (by omega), ← e, ← ew, ← ec]; exact h
/-- too long without, behind it -/
theorem bh_2 {cap w : Nat → Int32} {wm to c s v : Int} {k xw xc : Int32} (h0 : 0 ≤ k.toInt) (h4 : k.toInt < 4) (hd : ∀ k, k < 4 → (w k).toInt = dig s k) (ew : xw = w k.toNatClampNeg) (ec : xc = cap k.toNatClampNeg) (hwm : k.toInt < wm) (hto : k.toInt ≠ to) (h : xc.toInt < xw.toInt + c + 1) : bhL cap wm to c s (4 - k.toInt.toNat) v = -1 := by
  have e : k.toNatClampNeg = k.toInt.toNat := rfl
  refine bhL_bad (by omega) ⟨by omega, Or.inr ?_⟩
  unfold bhX
  rw [if_neg (by omega), ← hd _ (by omega), ← e, ← ew, ← ec]; exact h
theorem bh_20 {cap : Nat → Int32} {wm to c s v : Int} {k xc : Int32} (h0 : 0 ≤ k.toInt) (h4 : k.toInt < 4) (ec : xc = cap k.toNatClampNeg) (hwm : k.toInt < wm) (hto : k.toInt = to) (h : xc.toInt < 0) : bhL cap wm to c s (4 - k.toInt.toNat) v = -1 := by
  have e : k.toNatClampNeg = k.toInt.toNat := rfl
  refine bhL_bad (by omega) ⟨by omega, Or.inr ?_⟩
  unfold bhX
  rw [if_pos (by omega), ← e, ← ec]; exact h
/-- one that is not of the few -/
theorem bh_g0 {cap : Nat → Int32} {wm to c s v v' : Int} {k k' : Int32} (h0 : 0 ≤ k.toInt) (h4 : k.toInt < 4) (hk : k'.toInt = k.toInt + 1) (hwm : wm ≤ k.toInt) (hv : v' = 9 * v) : bhL cap wm to c s (4 - k.toInt.toNat) v = bhL cap wm to c s (4 - k'.toInt.toNat) v' := by
  rw [show 4 - k'.toInt.toNat = 4 - (k.toInt.toNat + 1) by omega, hv]
  have := bhL_go (cap := cap) (wm := wm) (to := to) (c := c) (s := s) (v := v) (x := 0) (k := k.toInt.toNat) (by omega) (fun h => by have := h.1; omega) (by unfold bhX; rw [if_pos (by omega)])
  rw [this, Int.add_zero]
theorem bh_g1 {cap w : Nat → Int32} {wm to c s v v' : Int} {k k' xw xc : Int32} (h0 : 0 ≤ k.toInt) (h4 : k.toInt < 4) (hk : k'.toInt = k.toInt + 1) (hd : ∀ k, k < 4 → (w k).toInt = dig s k) (ew : xw = w k.toNatClampNeg) (ec : xc = cap k.toNatClampNeg) (hwm : k.toInt < wm) (h1 : xw.toInt + c ≤ xc.toInt) (hc : 0 ≤ xc.toInt) (hto : k.toInt = to) (hv : v' = 9 * v) : bhL cap wm to c s (4 - k.toInt.toNat) v = bhL cap wm to c s (4 - k'.toInt.toNat) v' := by
  have e : k.toNatClampNeg = k.toInt.toNat := rfl
  rw [e] at ew ec
  rw [show 4 - k'.toInt.toNat = 4 - (k.toInt.toNat + 1) by omega, hv]
  have hX : bhX wm to c s k.toInt.toNat = 0 := by unfold bhX; rw [if_pos (by omega)]
  have := bhL_go (cap := cap) (wm := wm) (to := to) (c := c) (s := s) (v := v) (x := 0) (k := k.toInt.toNat) (by omega) (fun h => by
    rcases h.2 with h | h
    · rw [← hd _ (by omega), ← ew, ← ec] at h; omega
    · rw [hX, ← ec] at h; omega) hX.symm
  rw [this, Int.add_zero]
theorem bh_g2 {cap w : Nat → Int32} {wm to c s v v' : Int} {k k' xw xc : Int32} (h0 : 0 ≤ k.toInt) (h4 : k.toInt < 4) (hk : k'.toInt = k.toInt + 1) (hd : ∀ k, k < 4 → (w k).toInt = dig s k) (ew : xw = w k.toNatClampNeg) (ec : xc = cap k.toNatClampNeg) (hwm : k.toInt < wm) (h1 : xw.toInt + c + 1 ≤ xc.toInt) (hto : k.toInt ≠ to) (hv : v' = 9 * v + (xw.toInt + c + 1)) : bhL cap wm to c s (4 - k.toInt.toNat) v = bhL cap wm to c s (4 - k'.toInt.toNat) v' := by
  have e : k.toNatClampNeg = k.toInt.toNat := rfl
  rw [e] at ew ec
  rw [show 4 - k'.toInt.toNat = 4 - (k.toInt.toNat + 1) by omega, hv]
  have hX : bhX wm to c s k.toInt.toNat = xw.toInt + c + 1 := by unfold bhX; rw [if_neg (by omega), ← hd _ (by omega), ← ew]
  exact bhL_go (cap := cap) (wm := wm) (to := to) (c := c) (s := s) (v := v) (k := k.toInt.toNat) (by omega) (fun h => by
    rcases h.2 with h | h
    · rw [← hd _ (by omega), ← ew, ← ec] at h; omega
    · rw [hX, ← ec] at h; omega) hX.symm
/-- a step that may be gone -/
def stp (F : Nat → Nat → Int32) (mn who cap : Nat → Int32) (wm : Int) (hd : Nat → Int32) (s k : Int32) : Prop := bhZ F mn who cap wm s k ≠ -1 ∧ hd (bhZ F mn who cap wm s k).toNat ≠ 0
/-- how many of the first n are not 0 -/
def cntT (h : Nat → Int32) : Nat → Nat
  | 0 => 0
  | n + 1 => cntT h n + (if h n = 0 then 0 else 1)
theorem cntT_le (h : Nat → Int32) (n : Nat) : cntT h n ≤ n := by
  induction n with
  | zero => exact Nat.le_refl _
  | succ n ih => show cntT h n + _ ≤ n + 1; split <;> omega
theorem cntT_off {h : Nat → Int32} {v : Nat} {x : Int32} {n : Nat} (hv : n ≤ v) : cntT (upd h v x) n = cntT h n := by
  induction n with
  | zero => rfl
  | succ n ih =>
    show cntT (upd h v x) n + (if upd h v x n = 0 then 0 else 1) = cntT h n + _
    rw [ih (by omega), upd_off (show n ≠ v by omega)]
theorem cntT_on {h : Nat → Int32} {v : Nat} {x : Int32} {n : Nat} (hv : v < n) : cntT (upd h v x) n + (if h v = 0 then 0 else 1) = cntT h n + (if x = 0 then 0 else 1) := by
  induction n with
  | zero => omega
  | succ n ih =>
    show cntT (upd h v x) n + (if upd h v x n = 0 then 0 else 1) + _ = cntT h n + (if h n = 0 then 0 else 1) + _
    by_cases e : v = n
    · rw [cntT_off (by omega), e, upd_at]; omega
    · have := ih (by omega)
      rw [upd_off (show n ≠ v by omega)]; omega
theorem cntT_lt {h : Nat → Int32} {v n : Nat} (hv : v < n) (h0 : h v = 0) : cntT h n < n := by
  have h1 := cntT_on (h := h) (v := v) (x := 1) hv
  rw [if_pos h0, if_neg (show ¬ (1 : Int32) = 0 by decide)] at h1
  have h2 := cntT_le (upd h v 1) n
  omega
theorem cntT_one {h : Nat → Int32} {n : Nat} (hn : 0 < n) (h0 : ∀ j, j < n → h j = if j = 0 then 1 else 0) : cntT h n = 1 := by
  induction n with
  | zero => omega
  | succ n ih =>
    show cntT h n + (if h n = 0 then 0 else 1) = 1
    rw [h0 n (by omega)]
    by_cases e : n = 0
    · subst e; rfl
    · rw [ih (by omega) (fun j hj => h0 j (by omega)), if_neg e, if_pos rfl]
/-- what has come, and what is held -/
def hInv (n : Int) (h came : Nat → Int32) : Prop := (cntT h 26244 : Int) = n ∧ (∀ i : Nat, (i : Int) < n → 0 ≤ (came i).toInt ∧ (came i).toInt ≤ 26243) ∧ (∀ s : Nat, s < 26244 → h s ≠ 0 → ∃ i : Nat, (i : Int) < n ∧ (came i).toInt = s)
theorem hInv_le {n : Int} {h came : Nat → Int32} (H : hInv n h came) : n ≤ 26244 := by have := cntT_le h 26244; have := H.1; omega
theorem hInv_lt {n : Int} {h came : Nat → Int32} {v : Int32} (H : hInv n h came) (h0 : 0 ≤ v.toInt) (h1 : v.toInt ≤ 26243) (hv : h v.toNatClampNeg = 0) : n < 26244 := by
  have := cntT_lt (h := h) (v := v.toNatClampNeg) (n := 26244) (n_lt h0 (by omega)) hv
  have := H.1; omega
theorem hInv_nn {n : Int} {h came : Nat → Int32} (H : hInv n h came) : 0 ≤ n := by have := H.1; omega
theorem hInv_at {n : Int} {h came : Nat → Int32} {i x : Int32} (H : hInv n h came) (e : x = came i.toNatClampNeg) (h0 : 0 ≤ i.toInt) (h1 : i.toInt < n) : 0 ≤ x.toInt ∧ x.toInt ≤ 26243 := by
  rw [e]; exact H.2.1 _ (by rw [n_nat h0]; exact h1)
theorem hInv_add {n n' : Int32} {h came h' came' : Nat → Int32} {v : Int32} (H : hInv n.toInt h came) (h0 : 0 ≤ v.toInt) (h1 : v.toInt ≤ 26243) (hv : h v.toNatClampNeg = 0) (eh : upd h v.toNatClampNeg 1 = h') (ec : upd came n.toNatClampNeg v = came') (hn : n'.toInt = n.toInt + 1) : hInv n'.toInt h' came' := by
  have hn0 := hInv_nn H
  have en := n_nat hn0
  have ev := n_nat h0
  refine ⟨?_, fun i hi => ?_, fun s hs hh => ?_⟩
  · have h9 := cntT_on (h := h) (v := v.toNatClampNeg) (x := 1) (n := 26244) (n_lt h0 (by omega))
    rw [if_pos hv, if_neg (show ¬ (1 : Int32) = 0 by decide), eh] at h9
    have := H.1; omega
  · rw [← ec]
    by_cases e : i = n.toNatClampNeg
    · rw [e, upd_at]; exact ⟨h0, h1⟩
    · rw [upd_off e]; exact H.2.1 i (by omega)
  · rw [← ec]
    by_cases e : s = v.toNatClampNeg
    · exact ⟨n.toNatClampNeg, by omega, by rw [upd_at]; omega⟩
    · rw [← eh, upd_off e] at hh
      obtain ⟨i, hi, hc⟩ := H.2.2 s hs hh
      exact ⟨i, by omega, by rw [upd_off (by omega)]; exact hc⟩
theorem hInv_one {h came came' : Nat → Int32} (h0 : ∀ j : Nat, j < 26244 → h j = if j = 0 then 1 else 0) (ec : upd came 0 0 = came') : hInv 1 h came' := by
  refine ⟨by rw [cntT_one (by decide) h0]; rfl, fun i hi => ?_, fun s hs hh => ?_⟩
  · rw [show i = 0 by omega, ← ec, upd_at]; decide
  · by_cases e : s = 0
    · exact ⟨0, by decide, by rw [← ec, upd_at, e]; decide⟩
    · exact absurd (by rw [h0 s hs, if_neg e]) hh
/-- all that came, above i, and is held, has a step -/
def hSw (P : (Nat → Int32) → Int32 → Int32 → Prop) (wm n i : Int) (h came : Nat → Int32) : Prop := ∀ j : Nat, i < j → (j : Int) < n → h (came j).toNatClampNeg ≠ 0 → ∃ k : Int32, 0 ≤ k.toInt ∧ k.toInt < wm ∧ P h (came j) k
def hFin (P : (Nat → Int32) → Int32 → Int32 → Prop) (wm : Int) (h : Nat → Int32) : Prop := ∀ s : Int32, 0 ≤ s.toInt → s.toInt ≤ 26243 → h s.toNatClampNeg ≠ 0 → ∃ k : Int32, 0 ≤ k.toInt ∧ k.toInt < wm ∧ P h s k
/-- what the sweep keeps: the ones that came; what is held is among them -/
def hCov (n : Int) (h came : Nat → Int32) : Prop := (∀ i : Nat, (i : Int) < n → 0 ≤ (came i).toInt ∧ (came i).toInt ≤ 26243) ∧ (∀ s : Nat, s < 26244 → h s ≠ 0 → ∃ i : Nat, (i : Int) < n ∧ (came i).toInt = s)
theorem hCov_of {n : Int} {h came : Nat → Int32} (H : hInv n h came) : hCov n h came := H.2
theorem hCov_at {n : Int} {h came : Nat → Int32} {i x : Int32} (H : hCov n h came) (e : x = came i.toNatClampNeg) (h0 : 0 ≤ i.toInt) (h1 : i.toInt < n) : 0 ≤ x.toInt ∧ x.toInt ≤ 26243 := by
  rw [e]; exact H.1 _ (by rw [n_nat h0]; exact h1)
theorem hCov_off {n : Int} {h h' came : Nat → Int32} {v : Int32} (H : hCov n h came) (eh : upd h v.toNatClampNeg 0 = h') : hCov n h' came := by
  refine ⟨H.1, fun s hs hh => H.2 s hs ?_⟩
  rw [← eh] at hh
  by_cases e : s = v.toNatClampNeg
  · rw [e, upd_at] at hh; exact absurd rfl hh
  · rw [upd_off e] at hh; exact hh
theorem cnt_less {h h' : Nat → Int32} {v : Int32} (h0 : 0 ≤ v.toInt) (h1 : v.toInt ≤ 26243) (hv : h v.toNatClampNeg ≠ 0) (eh : upd h v.toNatClampNeg 0 = h') : (cntT h' 26244 : Int) + 1 = cntT h 26244 := by
  have h9 := cntT_on (h := h) (v := v.toNatClampNeg) (x := 0) (n := 26244) (n_lt h0 (by omega))
  rw [if_neg hv, if_pos rfl, eh] at h9
  omega
theorem hFin_of {P : (Nat → Int32) → Int32 → Int32 → Prop} {wm n i : Int} {h came : Nat → Int32} (H : hCov n h came) (hs : hSw P wm n i h came) (hi : i < 0) : hFin P wm h := by
  intro s h0 h1 hh
  obtain ⟨j, hj, hc⟩ := H.2 s.toNatClampNeg (n_lt h0 (by omega)) hh
  have es : came j = s := Int32.toInt_inj.mp (by rw [hc, n_nat h0])
  have := hs j (by omega) hj (by rw [es]; exact hh)
  rw [es] at this; exact this
theorem hSw_skip {P : (Nat → Int32) → Int32 → Int32 → Prop} {wm n : Int} {h came : Nat → Int32} {i i' x : Int32} (hs : hSw P wm n i.toInt h came) (e : x = came i.toNatClampNeg) (h0 : 0 ≤ i.toInt) (hi : i'.toInt = i.toInt - 1) (hx : h x.toNatClampNeg = 0 ∨ ∃ k : Int32, 0 ≤ k.toInt ∧ k.toInt < wm ∧ P h x k) : hSw P wm n i'.toInt h came := by
  intro j hj hn hh
  by_cases ej : j = i.toNatClampNeg
  · rw [ej, ← e] at hh ⊢
    rcases hx with hx | hx
    · exact absurd hx hh
    · exact hx
  · exact hs j (by have := n_nat h0; omega) hn hh
theorem hSw_top {P : (Nat → Int32) → Int32 → Int32 → Prop} {wm n i : Int} {h came : Nat → Int32} (hi : i = n - 1) : hSw P wm n i h came := fun j hj hn _ => by omega
theorem n_z {x : Int32} (h : x.toInt = 0) : x = 0 := Int32.toInt_inj.mp (h.trans (by decide))
theorem n_nz {x : Int32} (h : ¬ x.toInt = 0) : x ≠ 0 := fun e => h (by rw [e]; decide)
theorem hz_1 {h h' : Nat → Int32} {s s' : Int32} (hi : ∀ j : Nat, j < s.toInt.toNat → h j = if j = 0 then 1 else 0) (e : upd h s.toNatClampNeg 1 = h') (h0 : s.toInt = 0) (hs : s'.toInt = s.toInt + 1) : ∀ j : Nat, j < s'.toInt.toNat → h' j = if j = 0 then 1 else 0 := by
  intro j hj
  have es : s.toNatClampNeg = s.toInt.toNat := rfl
  rw [← e, es, show j = s.toInt.toNat by omega, upd_at, if_pos (by omega)]
theorem hz_0 {h h' : Nat → Int32} {s s' : Int32} (hi : ∀ j : Nat, j < s.toInt.toNat → h j = if j = 0 then 1 else 0) (e : upd h s.toNatClampNeg 0 = h') (h0 : 0 ≤ s.toInt) (hn : ¬ s.toInt = 0) (hs : s'.toInt = s.toInt + 1) : ∀ j : Nat, j < s'.toInt.toNat → h' j = if j = 0 then 1 else 0 := by
  intro j hj
  have es : s.toNatClampNeg = s.toInt.toNat := rfl
  rw [← e, es]
  by_cases e9 : j = s.toInt.toNat
  · rw [e9, upd_at, if_neg (by omega)]
  · rw [upd_off e9]; exact hi j (by omega)
/-- how many of the first n are -1 -/
def cntN (h : Nat → Int32) : Nat → Nat
  | 0 => 0
  | n + 1 => cntN h n + (if h n = -1 then 1 else 0)
theorem cntN_off {h : Nat → Int32} {v : Nat} {x : Int32} {n : Nat} (hv : n ≤ v) : cntN (upd h v x) n = cntN h n := by
  induction n with
  | zero => rfl
  | succ n ih =>
    show cntN (upd h v x) n + (if upd h v x n = -1 then 1 else 0) = cntN h n + _
    rw [ih (by omega), upd_off (show n ≠ v by omega)]
theorem cntN_on {h : Nat → Int32} {v : Nat} {x : Int32} {n : Nat} (hv : v < n) : cntN (upd h v x) n + (if h v = -1 then 1 else 0) = cntN h n + (if x = -1 then 1 else 0) := by
  induction n with
  | zero => omega
  | succ n ih =>
    show cntN (upd h v x) n + (if upd h v x n = -1 then 1 else 0) + _ = cntN h n + (if h n = -1 then 1 else 0) + _
    by_cases e : v = n
    · rw [cntN_off (by omega), e, upd_at]; omega
    · have := ih (by omega)
      rw [upd_off (show n ≠ v by omega)]; omega
theorem cntN_le (h : Nat → Int32) (n : Nat) : cntN h n ≤ n := by
  induction n with
  | zero => exact Nat.le_refl _
  | succ n ih => show cntN h n + _ ≤ n + 1; split <;> omega
theorem cntN_put {h h' : Nat → Int32} {s v : Int32} (h0 : 0 ≤ s.toInt) (h1 : s.toInt ≤ 26243) (e : upd h s.toNatClampNeg v = h') (hs : h s.toNatClampNeg = -1) (hv : 0 ≤ v.toInt) : cntN h' 26244 + 1 = cntN h 26244 := by
  have h9 := cntN_on (h := h) (v := s.toNatClampNeg) (x := v) (n := 26244) (n_lt h0 (by omega))
  rw [if_pos hs, if_neg (fun q => by rw [q] at hv; exact absurd hv (by decide)), e] at h9
  omega
theorem stp_val {F : Nat → Nat → Int32} {mn who cap h : Nat → Int32} {wm : Int} {s k v : Int32} (hs : stp F mn who cap wm h s k) (hv : v.toInt = bhZ F mn who cap wm s k) (hr : -1 ≤ v.toInt) : 0 ≤ v.toInt ∧ h v.toNatClampNeg ≠ 0 := by
  obtain ⟨h1, h2⟩ := hs
  rw [← hv] at h1 h2
  exact ⟨by omega, h2⟩
theorem stp_of {F : Nat → Nat → Int32} {mn who cap h : Nat → Int32} {wm : Int} {s k v x : Int32} (hv : v.toInt = bhZ F mn who cap wm s k) (h1 : ¬ v.toInt = -1) (ex : x = h v.toNatClampNeg) (hx : ¬ x.toInt = 0) : stp F mn who cap wm h s k := by
  refine ⟨by rw [← hv]; exact h1, ?_⟩
  rw [← hv]
  intro q
  exact hx (by rw [ex]; rw [show h v.toNatClampNeg = 0 from q]; decide)
theorem stp_no1 {F : Nat → Nat → Int32} {mn who cap h : Nat → Int32} {wm : Int} {s k v : Int32} (hv : v.toInt = bhZ F mn who cap wm s k) (h1 : v.toInt = -1) : ¬ stp F mn who cap wm h s k := fun q => q.1 (by rw [← hv]; exact h1)
theorem stp_no2 {F : Nat → Nat → Int32} {mn who cap h : Nat → Int32} {wm : Int} {s k v x : Int32} (hv : v.toInt = bhZ F mn who cap wm s k) (ex : x = h v.toNatClampNeg) (hx : x.toInt = 0) : ¬ stp F mn who cap wm h s k := fun q => q.2 (by rw [← hv]; show h v.toNatClampNeg = 0; rw [← ex]; exact n_z hx)
theorem nst_step {P : Int32 → Prop} {k k' : Int32} (hi : ∀ j : Int32, 0 ≤ j.toInt → j.toInt < k.toInt → ¬ P j) (hk : k'.toInt = k.toInt + 1) (h : ¬ P k) : ∀ j : Int32, 0 ≤ j.toInt → j.toInt < k'.toInt → ¬ P j := by
  intro j h0 h1
  by_cases e : j.toInt = k.toInt
  · rw [Int32.toInt_inj.mp e]; exact h
  · exact hi j h0 (by omega)
