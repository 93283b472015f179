set_option maxHeartbeats 4000000 in
set_option maxRecDepth 100000 in
/-- the law's loop from its start -/
theorem law_head {p : Program} {l : Launch} {e : Env} {s : State} {m : MethodId} {below : List Frame} {meth : Method} {c : Code} {D : va_G} {cy : Nat → ClassId} {sa : Nat → Nat} {b L : Nat} {xs : Nat → Int32} (hL : L ≤ 6) (hl0 : l.stackTraces = false) (E : kE yL_law cL_law 7 (some .boolean) #[Value.ref b] p s m meth c) (hX : va_X b L xs s s.heap) (hbl : b < s.heap.size) (hG : kG D cy sa (fun q => s.heap.size ≤ q) s) (u v : Nat → Nat) (o : Nat) (H : Heap) (locs : List Loc) (hP : va_P D vwCl (lmW cy u ++ (mdW cy v ++ [(o, .inl (cy 6, 1, .inr (.inl (fun _ => 0))))])) H) (hD : va_D (fun q => s.heap.size ≤ q) (lmW cy u ++ (mdW cy v ++ [(o, .inl (cy 6, 1, .inr (.inl (fun _ => 0))))]))) (hS : va_S (fun q => s.heap.size ≤ q) s.heap H locs) (ls : Array Slot) (hl : lv_has ls 7 [(0, .ref b), (1, .ref (u 0)), (2, .ref (v 0)), (3, .ref o), (4, .int 0)]) : W p l e room_1 s m #[Value.ref b] below meth c H locs 179 322202 (lw_Z below #[Value.ref b] s) (F0 m 23 ls []) := by
  have hbA : ¬ (s.heap.size ≤ b) := Nat.not_le.mpr hbl
  obtain ⟨hx, hb, hml, hown, hts, hr, hlk, hnm⟩ := id E
  by_cases h6 : L = 6
  · subst h6
    refine lv_iload hx hb dL_law_23 (lv_at hl 4 rfl) ?_
    refine lv_aload_n hx hb dL_law_25 rfl (lv_at hl 0 rfl) ?_
    refine va_slen (A := fun q => s.heap.size ≤ q) hx hb hX hbl hbA hS dL_law_26 ?_
    refine lv_bipush (v := 6) hx hb dL_law_27 (by decide) ?_
    refine lv_isub hx hb dL_law_29 ?_
    refine lv_icmp_gt (tgt := 2424) hx hb dL_law_30 (by decide) (fun h => absurd h (by decide)) (fun _ => ?_)
    refine lv_aload_n hx hb dL_law_33 rfl (lv_at hl 0 rfl) ?_
    refine lv_iload hx hb dL_law_34 (lv_at hl 4 rfl) ?_
    refine va_sld (A := fun q => s.heap.size ≤ q) hx hb hX hbl hbA hS (by unfold vp_in; decide) dL_law_36 ?_
    refine lv_bipush (v := 63) hx hb dL_law_37 (by decide) ?_
    refine lv_iand hx hb dL_law_39 ?_
    generalize xs (Int32.toNatClampNeg 0) &&& 63 = z
    by_cases hz : z.toInt < 0 ∨ 38 < z.toInt
    · refine lv_tableOut (tgt := 2418) hx hb dL_law_40 hz (by decide) ?_
      refine lv_iinc (v := 6) (lv' := [(4, .int 6), (0, .ref b), (1, .ref (u 0)), (2, .ref (v 0)), (3, .ref o)]) hx hb dL_law_2418 hl (k := 4) rfl (by decide) (by decide) rfl (fun ls hl => ?_)
      refine lv_goto (tgt := 23) hx hb dL_law_2421 (by decide) ?_
      exact law_exit E hX hbl hbA (fun _ h => h) hS (i := 6) (by decide) (lv_at hl 1 rfl) (lv_at hl 0 rfl) (by decide) (by decide)
    · rcases (show z.toInt = 0 ∨ z.toInt = 1 ∨ z.toInt = 2 ∨ z.toInt = 3 ∨ z.toInt = 4 ∨ z.toInt = 5 ∨ z.toInt = 6 ∨ z.toInt = 7 ∨ z.toInt = 8 ∨ z.toInt = 9 ∨ z.toInt = 10 ∨ z.toInt = 11 ∨ z.toInt = 12 ∨ z.toInt = 13 ∨ z.toInt = 14 ∨ z.toInt = 15 ∨ z.toInt = 16 ∨ z.toInt = 17 ∨ z.toInt = 18 ∨ z.toInt = 19 ∨ z.toInt = 20 ∨ z.toInt = 21 ∨ z.toInt = 22 ∨ z.toInt = 23 ∨ z.toInt = 24 ∨ z.toInt = 25 ∨ z.toInt = 26 ∨ z.toInt = 27 ∨ z.toInt = 28 ∨ z.toInt = 29 ∨ z.toInt = 30 ∨ z.toInt = 31 ∨ z.toInt = 32 ∨ z.toInt = 33 ∨ z.toInt = 34 ∨ z.toInt = 35 ∨ z.toInt = 36 ∨ z.toInt = 37 ∨ z.toInt = 38 by omega) with h | h | h | h | h | h | h | h | h | h | h | h | h | h | h | h | h | h | h | h | h | h | h | h | h | h | h | h | h | h | h | h | h | h | h | h | h | h | h
      · refine lv_tableIn (tgt := 212) hx hb dL_law_40 (by omega) (by omega) (by rw [h]; rfl) (by decide) ?_
        exact law_case_0 hl0 E hX hbl hG u v o H locs (hP.sub [0, 1, 95, 96, 178] rfl) (hD.sub [0, 1, 95, 96, 178] (by decide) rfl) hS ls hl
      · refine lv_tableIn (tgt := 285) hx hb dL_law_40 (by omega) (by omega) (by rw [h]; rfl) (by decide) ?_
        exact law_case_1 hl0 E hX hbl hG u v o H locs (hP.sub [0, 2, 1, 18, 95, 117, 178] rfl) (hD.sub [0, 2, 1, 18, 95, 117, 178] (by decide) rfl) hS ls hl
      · refine lv_tableIn (tgt := 341) hx hb dL_law_40 (by omega) (by omega) (by rw [h]; rfl) (by decide) ?_
        exact law_case_2 hl0 E hX hbl hG u v o H locs (hP.sub [0, 95, 178] rfl) (hD.sub [0, 95, 178] (by decide) rfl) hS ls hl
      · refine lv_tableIn (tgt := 354) hx hb dL_law_40 (by omega) (by omega) (by rw [h]; rfl) (by decide) ?_
        exact law_case_3 hl0 E hX hbl hG u v o H locs (hP.sub [0, 5, 95, 118, 178] rfl) (hD.sub [0, 5, 95, 118, 178] (by decide) rfl) hS ls hl
      · refine lv_tableIn (tgt := 410) hx hb dL_law_40 (by omega) (by omega) (by rw [h]; rfl) (by decide) ?_
        exact law_case_4 hl0 E hX hbl hG u v o H locs (hP.sub [0, 5, 95, 118, 178] rfl) (hD.sub [0, 5, 95, 118, 178] (by decide) rfl) hS ls hl
      · refine lv_tableIn (tgt := 478) hx hb dL_law_40 (by omega) (by omega) (by rw [h]; rfl) (by decide) ?_
        exact law_case_5 hl0 E hX hbl hG u v o H locs (hP.sub [0, 5, 95, 118, 178] rfl) (hD.sub [0, 5, 95, 118, 178] (by decide) rfl) hS ls hl
      · refine lv_tableIn (tgt := 546) hx hb dL_law_40 (by omega) (by omega) (by rw [h]; rfl) (by decide) ?_
        exact law_case_6 hl0 E hX hbl hG u v o H locs (hP.sub [0, 5, 95, 118, 178] rfl) (hD.sub [0, 5, 95, 118, 178] (by decide) rfl) hS ls hl
      · refine lv_tableIn (tgt := 614) hx hb dL_law_40 (by omega) (by omega) (by rw [h]; rfl) (by decide) ?_
        exact law_case_7 hl0 E hX hbl hG u v o H locs (hP.sub [0, 5, 95, 118, 178] rfl) (hD.sub [0, 5, 95, 118, 178] (by decide) rfl) hS ls hl
      · refine lv_tableIn (tgt := 670) hx hb dL_law_40 (by omega) (by omega) (by rw [h]; rfl) (by decide) ?_
        exact law_case_8 hl0 E hX hbl hG u v o H locs (hP.sub [0, 5, 95, 118, 178] rfl) (hD.sub [0, 5, 95, 118, 178] (by decide) rfl) hS ls hl
      · refine lv_tableIn (tgt := 683) hx hb dL_law_40 (by omega) (by omega) (by rw [h]; rfl) (by decide) ?_
        exact law_case_9 hl0 E hX hbl hG u v o H locs (hP.sub [0, 5, 95, 118, 178] rfl) (hD.sub [0, 5, 95, 118, 178] (by decide) rfl) hS ls hl
      · refine lv_tableIn (tgt := 774) hx hb dL_law_40 (by omega) (by omega) (by rw [h]; rfl) (by decide) ?_
        exact law_case_10 hl0 E hX hbl hG u v o H locs (hP.sub [0, 31, 5, 95, 118, 178] rfl) (hD.sub [0, 31, 5, 95, 118, 178] (by decide) rfl) hS ls hl
      · refine lv_tableIn (tgt := 830) hx hb dL_law_40 (by omega) (by omega) (by rw [h]; rfl) (by decide) ?_
        exact law_case_11 hl0 E hX hbl hG u v o H locs (hP.sub [0, 31, 95, 118, 178] rfl) (hD.sub [0, 31, 95, 118, 178] (by decide) rfl) hS ls hl
      · refine lv_tableIn (tgt := 886) hx hb dL_law_40 (by omega) (by omega) (by rw [h]; rfl) (by decide) ?_
        exact law_case_12 hl0 E hX hbl hG u v o H locs (hP.sub [0, 5, 95, 118, 178] rfl) (hD.sub [0, 5, 95, 118, 178] (by decide) rfl) hS ls hl
      · refine lv_tableIn (tgt := 954) hx hb dL_law_40 (by omega) (by omega) (by rw [h]; rfl) (by decide) ?_
        exact law_case_13 hl0 E hX hbl hG u v o H locs (hP.sub [0, 34, 95, 178] rfl) (hD.sub [0, 34, 95, 178] (by decide) rfl) hS ls hl
      · refine lv_tableIn (tgt := 967) hx hb dL_law_40 (by omega) (by omega) (by rw [h]; rfl) (by decide) ?_
        exact law_case_14 hl0 E hX hbl hG u v o H locs (hP.sub [0, 73, 74, 75, 76, 5, 31, 32, 33, 34, 95, 165, 166, 119, 120, 121, 122, 118, 178] rfl) (hD.sub [0, 73, 74, 75, 76, 5, 31, 32, 33, 34, 95, 165, 166, 119, 120, 121, 122, 118, 178] (by decide) rfl) hS ls hl
      · refine lv_tableIn (tgt := 1023) hx hb dL_law_40 (by omega) (by omega) (by rw [h]; rfl) (by decide) ?_
        exact law_case_15 hl0 E hX hbl hG u v o H locs (hP.sub [0, 69, 70, 71, 72, 31, 32, 33, 5, 95, 165, 166, 119, 120, 121, 122, 168, 118, 178] rfl) (hD.sub [0, 69, 70, 71, 72, 31, 32, 33, 5, 95, 165, 166, 119, 120, 121, 122, 168, 118, 178] (by decide) rfl) hS ls hl
      · refine lv_tableIn (tgt := 1115) hx hb dL_law_40 (by omega) (by omega) (by rw [h]; rfl) (by decide) ?_
        exact law_case_16 hl0 E hX hbl hG u v o H locs (hP.sub [0, 5, 95, 118, 178] rfl) (hD.sub [0, 5, 95, 118, 178] (by decide) rfl) hS ls hl
      · refine lv_tableIn (tgt := 1171) hx hb dL_law_40 (by omega) (by omega) (by rw [h]; rfl) (by decide) ?_
        exact law_case_17 hl0 E hX hbl hG u v o H locs (hP.sub [0, 69, 70, 71, 72, 31, 32, 33, 5, 95, 165, 166, 119, 120, 121, 122, 168, 118, 178] rfl) (hD.sub [0, 69, 70, 71, 72, 31, 32, 33, 5, 95, 165, 166, 119, 120, 121, 122, 168, 118, 178] (by decide) rfl) hS ls hl
      · refine lv_tableIn (tgt := 1227) hx hb dL_law_40 (by omega) (by omega) (by rw [h]; rfl) (by decide) ?_
        exact law_case_18 hl0 E hX hbl hG u v o H locs (hP.sub [0, 5, 95, 118, 178] rfl) (hD.sub [0, 5, 95, 118, 178] (by decide) rfl) hS ls hl
      · refine lv_tableIn (tgt := 1319) hx hb dL_law_40 (by omega) (by omega) (by rw [h]; rfl) (by decide) ?_
        exact law_case_19 hl0 E hX hbl hG u v o H locs (hP.sub [0, 5, 95, 118, 178] rfl) (hD.sub [0, 5, 95, 118, 178] (by decide) rfl) hS ls hl
      · refine lv_tableIn (tgt := 1399) hx hb dL_law_40 (by omega) (by omega) (by rw [h]; rfl) (by decide) ?_
        exact law_case_20 hl0 E hX hbl hG u v o H locs (hP.sub [0, 5, 95, 118, 178] rfl) (hD.sub [0, 5, 95, 118, 178] (by decide) rfl) hS ls hl
      · refine lv_tableIn (tgt := 1467) hx hb dL_law_40 (by omega) (by omega) (by rw [h]; rfl) (by decide) ?_
        exact law_case_21 hl0 E hX hbl hG u v o H locs (hP.sub [0, 5, 95, 118, 178] rfl) (hD.sub [0, 5, 95, 118, 178] (by decide) rfl) hS ls hl
      · refine lv_tableIn (tgt := 1566) hx hb dL_law_40 (by omega) (by omega) (by rw [h]; rfl) (by decide) ?_
        exact law_case_22 hl0 E hX hbl hG u v o H locs (hP.sub [0, 5, 95, 118, 178] rfl) (hD.sub [0, 5, 95, 118, 178] (by decide) rfl) hS ls hl
      · refine lv_tableIn (tgt := 1629) hx hb dL_law_40 (by omega) (by omega) (by rw [h]; rfl) (by decide) ?_
        exact law_case_23 hl0 E hX hbl hG u v o H locs (hP.sub [0, 5, 95, 118, 178] rfl) (hD.sub [0, 5, 95, 118, 178] (by decide) rfl) hS ls hl
      · refine lv_tableIn (tgt := 1697) hx hb dL_law_40 (by omega) (by omega) (by rw [h]; rfl) (by decide) ?_
        exact law_case_24 hl0 E hX hbl hG u v o H locs (hP.sub [0, 5, 95, 118, 178] rfl) (hD.sub [0, 5, 95, 118, 178] (by decide) rfl) hS ls hl
      · refine lv_tableIn (tgt := 1765) hx hb dL_law_40 (by omega) (by omega) (by rw [h]; rfl) (by decide) ?_
        exact law_case_25 hl0 E hX hbl hG u v o H locs (hP.sub [0, 5, 95, 118, 178] rfl) (hD.sub [0, 5, 95, 118, 178] (by decide) rfl) hS ls hl
      · refine lv_tableIn (tgt := 1821) hx hb dL_law_40 (by omega) (by omega) (by rw [h]; rfl) (by decide) ?_
        exact law_case_26 hl0 E hX hbl hG u v o H locs (hP.sub [0, 5, 95, 118, 178] rfl) (hD.sub [0, 5, 95, 118, 178] (by decide) rfl) hS ls hl
      · refine lv_tableIn (tgt := 1877) hx hb dL_law_40 (by omega) (by omega) (by rw [h]; rfl) (by decide) ?_
        exact law_case_27 hl0 E hX hbl hG u v o H locs (hP.sub [0, 5, 95, 118, 178] rfl) (hD.sub [0, 5, 95, 118, 178] (by decide) rfl) hS ls hl
      · refine lv_tableIn (tgt := 1957) hx hb dL_law_40 (by omega) (by omega) (by rw [h]; rfl) (by decide) ?_
        exact law_case_28 hl0 E hX hbl hG u v o H locs (hP.sub [0, 5, 95, 118, 178] rfl) (hD.sub [0, 5, 95, 118, 178] (by decide) rfl) hS ls hl
      · refine lv_tableIn (tgt := 2013) hx hb dL_law_40 (by omega) (by omega) (by rw [h]; rfl) (by decide) ?_
        exact law_case_29 hl0 E hX hbl hG u v o H locs (hP.sub [0, 95, 178] rfl) (hD.sub [0, 95, 178] (by decide) rfl) hS ls hl
      · refine lv_tableIn (tgt := 2081) hx hb dL_law_40 (by omega) (by omega) (by rw [h]; rfl) (by decide) ?_
        exact law_case_30 hl0 E hX hbl hG u v o H locs (hP.sub [0, 34, 37, 38, 95, 154, 155, 178] rfl) (hD.sub [0, 34, 37, 38, 95, 154, 155, 178] (by decide) rfl) hS ls hl
      · refine lv_tableIn (tgt := 2149) hx hb dL_law_40 (by omega) (by omega) (by rw [h]; rfl) (by decide) ?_
        exact law_case_31 hl0 E hX hbl hG u v o H locs (hP.sub [0, 34, 5, 95, 178] rfl) (hD.sub [0, 34, 5, 95, 178] (by decide) rfl) hS ls hl
      · refine lv_tableIn (tgt := 2205) hx hb dL_law_40 (by omega) (by omega) (by rw [h]; rfl) (by decide) ?_
        exact law_case_32 hl0 E hX hbl hG u v o H locs (hP.sub [0, 5, 95, 118, 178] rfl) (hD.sub [0, 5, 95, 118, 178] (by decide) rfl) hS ls hl
      · refine lv_tableIn (tgt := 2285) hx hb dL_law_40 (by omega) (by omega) (by rw [h]; rfl) (by decide) ?_
        exact law_case_33 hl0 E hX hbl hG u v o H locs (hP.sub [0, 5, 95, 118, 178] rfl) (hD.sub [0, 5, 95, 118, 178] (by decide) rfl) hS ls hl
      · refine lv_tableIn (tgt := 2298) hx hb dL_law_40 (by omega) (by omega) (by rw [h]; rfl) (by decide) ?_
        exact law_case_34 hl0 E hX hbl hG u v o H locs (hP.sub [0, 77, 78, 79, 80, 81, 5, 31, 32, 33, 95, 165, 166, 119, 120, 121, 122, 118, 178] rfl) (hD.sub [0, 77, 78, 79, 80, 81, 5, 31, 32, 33, 95, 165, 166, 119, 120, 121, 122, 118, 178] (by decide) rfl) hS ls hl
      · refine lv_tableIn (tgt := 2354) hx hb dL_law_40 (by omega) (by omega) (by rw [h]; rfl) (by decide) ?_
        exact law_case_35 hl0 E hX hbl hG u v o H locs (hP.sub [0, 5, 31, 95, 118, 178] rfl) (hD.sub [0, 5, 31, 95, 118, 178] (by decide) rfl) hS ls hl
      · refine lv_tableIn (tgt := 2367) hx hb dL_law_40 (by omega) (by omega) (by rw [h]; rfl) (by decide) ?_
        exact law_case_36 hl0 E hX hbl hG u v o H locs (hP.sub [0, 40, 41, 42, 43, 44, 31, 32, 33, 51, 52, 53, 54, 55, 34, 35, 36, 37, 38, 123, 124, 125, 126, 127, 128, 129, 130, 131, 132, 133, 134, 135, 136, 137, 138, 139, 140, 141, 142, 143, 144, 145, 146, 147, 148, 149, 150, 151, 152, 153, 154, 155, 156, 157, 158, 159, 160, 95, 161, 162, 119, 120, 121, 122, 178] rfl) (hD.sub [0, 40, 41, 42, 43, 44, 31, 32, 33, 51, 52, 53, 54, 55, 34, 35, 36, 37, 38, 123, 124, 125, 126, 127, 128, 129, 130, 131, 132, 133, 134, 135, 136, 137, 138, 139, 140, 141, 142, 143, 144, 145, 146, 147, 148, 149, 150, 151, 152, 153, 154, 155, 156, 157, 158, 159, 160, 95, 161, 162, 119, 120, 121, 122, 178] (by decide) rfl) hS ls hl
      · refine lv_tableIn (tgt := 2380) hx hb dL_law_40 (by omega) (by omega) (by rw [h]; rfl) (by decide) ?_
        exact law_case_37 hl0 E hX hbl hG u v o H locs (hP.sub [0, 95, 178] rfl) (hD.sub [0, 95, 178] (by decide) rfl) hS ls hl
      · refine lv_tableIn (tgt := 2393) hx hb dL_law_40 (by omega) (by omega) (by rw [h]; rfl) (by decide) ?_
        exact law_case_38 hl0 E hX hbl hG u v o H locs (hP.sub [0, 31, 34, 95, 118, 178] rfl) (hD.sub [0, 31, 34, 95, 118, 178] (by decide) rfl) hS ls hl
  · refine law_exit E hX hbl hbA (fun _ h => h) hS (i := 0) ?_ (lv_at hl 0 rfl) (lv_at hl 4 rfl) (by decide) (by decide)
    rcases (show L = 0 ∨ L = 1 ∨ L = 2 ∨ L = 3 ∨ L = 4 ∨ L = 5 by omega) with rfl | rfl | rfl | rfl | rfl | rfl <;> decide
