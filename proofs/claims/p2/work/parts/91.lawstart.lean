theorem k_arr {args : Array Value} {s : State} {ty : FieldType} (h : (Cond.arrayClass ty).before args s = true) : ∃ cA, ArrOfT s cA ty ∧ s.vm.findClass ("[" ++ ty.toString) = some cA := by
  obtain ⟨cA, kA, comp, h1, h2, h3⟩ := Cond.arrayClass_spec h
  exact ⟨cA, fun n z => ⟨fun k h => (by cases h), kA, h2, comp, h3⟩, h1⟩
theorem k_arrO {args : Array Value} {s : State} {n : String} (h : (Cond.arrayOver (.object n)).before args s = true) : ∃ cA, ArrOfT s cA (.object n) ∧ va_RA s cA (.object n) := by
  obtain ⟨comp, cA, kA, hcomp, hidx, hkA, hkind, hname⟩ := Cond.arrayOver_spec h
  exact ⟨cA, fun _ z => ⟨fun k h => (by cases h), kA, hkA, comp, hkind⟩, kA, comp, hkA, hkind, hcomp, hname⟩
theorem k_arrA {s : State} (h : kAO s) : ∃ cA, ArrOfT s cA (.array .int) ∧ va_RA s cA (.array .int) := by
  obtain ⟨comp, cA, kA, hcomp, hkA, hkind, hname⟩ := h
  exact ⟨cA, fun n z => ⟨fun k h => (by cases h), kA, hkA, comp, hkind⟩, hname⟩
theorem k_str {args : Array Value} {s : State} {k : Nat} (h : (Cond.exactly (.string "LentMinds" k) "java/lang/String").before args s = true) : ∃ a : Nat, (Term.string "LentMinds" k).eval args s none [] s = some (.ref a) := by
  obtain ⟨a, -, -, -, ha, -⟩ := Cond.exactly_spec h
  exact ⟨a, ha⟩
theorem kin_RJ0 : ∀ w ∈ u_ws RJ0 TJ0 4, w ∈ lw_tbl := by decide +kernel
theorem kin_RJ4 : ∀ w ∈ u_ws RJ4 TJ4 4, w ∈ lw_tbl := by decide +kernel
set_option maxHeartbeats 4000000 in
set_option maxRecDepth 100000 in
/-- what stays true all along, at the law's start -/
theorem law_kG {s : State} {args : Array Value} (hts : ∀ w ∈ lw_tbl, w.before args s = true) (hgv : (Jvm.Cond.and given_1 narrow_1).before args s = true) : ∃ (D : va_G) (cy : Nat → ClassId) (sa : Nat → Nat), kG D cy sa (fun q => s.heap.size ≤ q) s := by
  have hk : ∀ w ∈ kWS, w.before args s = true := fun w hw => hts w (List.mem_filter.mp hw).1
  have hs := flat_of_before _ hgv
  obtain ⟨aw, ak, av, tw, tl, tm, z1, z2, z3, z4, z5, z6, z7, z8, z9, z10, z11, z12⟩ := law_kSt hts hgv
  obtain ⟨c0, i0, k0⟩ := u_known hts kin_RJ0 (hts (Cond.instantiable RJ0 4) (by decide +kernel))
  obtain ⟨c1, i1, k1⟩ := u_known hts kin_RJ4 (hts (Cond.instantiable RJ4 4) (by decide +kernel))
  obtain ⟨c2, i2, k2⟩ := u_known hk kin_RX0 (hts (Cond.instantiable RX0 5) (by decide +kernel))
  obtain ⟨c3, i3, k3⟩ := u_known hk kin_RX1 (hts (Cond.instantiable RX1 5) (by decide +kernel))
  obtain ⟨c4, i4, k4⟩ := u_known hk kin_RX2 (hts (Cond.instantiable RX2 17) (by decide +kernel))
  obtain ⟨c5, i5, k5⟩ := u_known hk kin_RX3 (hts (Cond.instantiable RX3 3) (by decide +kernel))
  obtain ⟨c6, i6, k6⟩ := u_known hk kin_RX4 (hts (Cond.instantiable RX4 8) (by decide +kernel))
  obtain ⟨c7, i7, k7⟩ := u_known hk kin_RX5 (hts (Cond.instantiable RX5 10) (by decide +kernel))
  obtain ⟨c8, i8, k8⟩ := u_known hk kin_RX6 (hts (Cond.instantiable RX6 7) (by decide +kernel))
  obtain ⟨c9, i9, k9⟩ := u_known hk kin_RX7 (hts (Cond.instantiable RX7 6) (by decide +kernel))
  obtain ⟨c10, i10, k10⟩ := u_known hk kin_RX8 (hts (Cond.instantiable RX8 3) (by decide +kernel))
  obtain ⟨c11, i11, k11⟩ := u_known hk kin_RX9 (hts (Cond.instantiable RX9 5) (by decide +kernel))
  obtain ⟨c12, i12, k12⟩ := u_known hk kin_RX11 (hts (Cond.instantiable RX11 17) (by decide +kernel))
  obtain ⟨c13, i13, k13⟩ := u_known hk kin_RX12 (hts (Cond.instantiable RX12 48) (by decide +kernel))
  obtain ⟨y0, a0, n0⟩ := k_arr (hts (Cond.arrayClass .int) (by decide +kernel))
  obtain ⟨y1, a1, n1⟩ := k_arr (hts (Cond.arrayClass .byte) (by decide +kernel))
  obtain ⟨y2, a2, n2⟩ := k_arr (hts (Cond.arrayClass .boolean) (by decide +kernel))
  obtain ⟨y6, a6, n6⟩ := k_arr (hts (Cond.arrayClass .long) (by decide +kernel))
  obtain ⟨y3, a3, n3⟩ := k_arrO (hts (Cond.arrayOver (.object "LentMinds$Moment")) (by decide +kernel))
  obtain ⟨y4, a4, n4⟩ := k_arrO (hts (Cond.arrayOver (.object "LentMinds$Plan")) (by decide +kernel))
  have hao : kAO s := kAO.of (hts (Cond.arrayOver (.array .int)) (by decide +kernel))
  obtain ⟨y5, a5, n5⟩ := k_arrA hao
  obtain ⟨s112, e112⟩ := k_str (hs (Cond.exactly (.string "LentMinds" 112) "java/lang/String") (by decide +kernel))
  obtain ⟨s143, e143⟩ := k_str (hs (Cond.exactly (.string "LentMinds" 143) "java/lang/String") (by decide +kernel))
  obtain ⟨s181, e181⟩ := k_str (hs (Cond.exactly (.string "LentMinds" 181) "java/lang/String") (by decide +kernel))
  obtain ⟨s173, e173⟩ := k_str (hs (Cond.exactly (.string "LentMinds" 173) "java/lang/String") (by decide +kernel))
  obtain ⟨s184, e184⟩ := k_str (hs (Cond.exactly (.string "LentMinds" 184) "java/lang/String") (by decide +kernel))
  obtain ⟨s246, e246⟩ := k_str (hs (Cond.exactly (.string "LentMinds" 246) "java/lang/String") (by decide +kernel))
  obtain ⟨s269, e269⟩ := k_str (hs (Cond.exactly (.string "LentMinds" 269) "java/lang/String") (by decide +kernel))
  obtain ⟨sa, hsa⟩ : ∃ sa : Nat → Nat, sa = (fun k => if k = 112 then s112 else if k = 143 then s143 else if k = 181 then s181 else if k = 173 then s173 else if k = 184 then s184 else if k = 246 then s246 else if k = 269 then s269 else if k < 1000 then 0 else if k < 2000 then aw (k - 1000) else if k < 3000 then ak (k - 2000) else if k < 4000 then av (k - 3000) else if k = 4000 then tw else if k = 4001 then tl else tm) := ⟨_, rfl⟩
  have q1 : ∀ i, i < 8 → sa (1000 + i) = aw i := lt8 (by rw [hsa]; rfl) (by rw [hsa]; rfl) (by rw [hsa]; rfl) (by rw [hsa]; rfl) (by rw [hsa]; rfl) (by rw [hsa]; rfl) (by rw [hsa]; rfl) (by rw [hsa]; rfl)
  have q2 : ∀ i, i < 8 → sa (2000 + i) = ak i := lt8 (by rw [hsa]; rfl) (by rw [hsa]; rfl) (by rw [hsa]; rfl) (by rw [hsa]; rfl) (by rw [hsa]; rfl) (by rw [hsa]; rfl) (by rw [hsa]; rfl) (by rw [hsa]; rfl)
  have q3 : ∀ i, i < 8 → sa (3000 + i) = av i := lt8 (by rw [hsa]; rfl) (by rw [hsa]; rfl) (by rw [hsa]; rfl) (by rw [hsa]; rfl) (by rw [hsa]; rfl) (by rw [hsa]; rfl) (by rw [hsa]; rfl) (by rw [hsa]; rfl)
  have q4 : sa 4000 = tw := by rw [hsa]; rfl
  have q5 : sa 4001 = tl := by rw [hsa]; rfl
  have q6 : sa 4002 = tm := by rw [hsa]; rfl
  have w112 : sa 112 = s112 := by rw [hsa]; rfl
  have w143 : sa 143 = s143 := by rw [hsa]; rfl
  have w181 : sa 181 = s181 := by rw [hsa]; rfl
  have w173 : sa 173 = s173 := by rw [hsa]; rfl
  have w184 : sa 184 = s184 := by rw [hsa]; rfl
  have w246 : sa 246 = s246 := by rw [hsa]; rfl
  have w269 : sa 269 = s269 := by rw [hsa]; rfl
  have hst : kSt sa (fun q => s.heap.size ≤ q) s := ⟨En_congr z1 q1, Ef_congr z2 q1 (fun i hi => by rw [q2 i hi]), S_congr z3 q2 q3, by rw [q4]; exact z4, by rw [q4]; exact T_congr z5 (fun i hi => by rw [q1 i hi]), by rw [q5]; exact z6, by rw [q5]; exact z7, by rw [q6]; exact z8, by rw [q6]; exact z9, z10, z11, z12⟩
  clear hsa
  refine ⟨(fun c => [c0, c1, c2, c3, c4, c5, c6, c7, c8, c9, c10, c11, c12, c13].getD c c0, fun c => [i0, i1, i2, i3, i4, i5, i6, i7, i8, i9, i10, i11, i12, i13].getD c i0), fun c => [y0, y1, y2, y3, y4, y5, y6].getD c y0, sa, ⟨fun c q hq => ?_, fun k q hq => ?_⟩, fun q hq => va_Nw.of rfl (hts _ ?_), fun q hq => va_Nw.of rfl (hts _ ?_), fun q hq => va_Nw.of rfl (hts _ ?_), fun q hq => ?_, hts (Cond.arrayOver (.object "LentMinds$Moment")) (by decide +kernel), hts (Cond.arrayOver (.object "LentMinds$Plan")) (by decide +kernel), fun q hq => va_Nc.of (hs _ ?_), vx_Zqof (hts _ (by decide +kernel)) (hts _ (by decide +kernel)) (hs _ (by decide +kernel)) (fun a h => Nat.not_le.mpr h), vx_Zqof (hts _ (by decide +kernel)) (hts _ (by decide +kernel)) (hs _ (by decide +kernel)) (fun a h => Nat.not_le.mpr h), hao, hst⟩
  · have h9 : c < 14 := (List.getElem?_eq_some_iff.mp hq).1
    rcases (show c = 0 ∨ c = 1 ∨ c = 2 ∨ c = 3 ∨ c = 4 ∨ c = 5 ∨ c = 6 ∨ c = 7 ∨ c = 8 ∨ c = 9 ∨ c = 10 ∨ c = 11 ∨ c = 12 ∨ c = 13 by omega) with rfl | rfl | rfl | rfl | rfl | rfl | rfl | rfl | rfl | rfl | rfl | rfl | rfl | rfl
    · obtain rfl := Option.some.inj hq; exact k0
    · obtain rfl := Option.some.inj hq; exact k1
    · obtain rfl := Option.some.inj hq; exact k2
    · obtain rfl := Option.some.inj hq; exact k3
    · obtain rfl := Option.some.inj hq; exact k4
    · obtain rfl := Option.some.inj hq; exact k5
    · obtain rfl := Option.some.inj hq; exact k6
    · obtain rfl := Option.some.inj hq; exact k7
    · obtain rfl := Option.some.inj hq; exact k8
    · obtain rfl := Option.some.inj hq; exact k9
    · obtain rfl := Option.some.inj hq; exact k10
    · obtain rfl := Option.some.inj hq; exact k11
    · obtain rfl := Option.some.inj hq; exact k12
    · obtain rfl := Option.some.inj hq; exact k13
  · have h9 : k < 7 := (List.getElem?_eq_some_iff.mp hq).1
    rcases (show k = 0 ∨ k = 1 ∨ k = 2 ∨ k = 3 ∨ k = 4 ∨ k = 5 ∨ k = 6 by omega) with rfl | rfl | rfl | rfl | rfl | rfl | rfl
    · obtain rfl := Option.some.inj hq; exact ⟨a0, n0⟩
    · obtain rfl := Option.some.inj hq; exact ⟨a1, n1⟩
    · obtain rfl := Option.some.inj hq; exact ⟨a2, n2⟩
    · obtain rfl := Option.some.inj hq; exact ⟨a3, n3⟩
    · obtain rfl := Option.some.inj hq; exact ⟨a4, n4⟩
    · obtain rfl := Option.some.inj hq; exact ⟨a5, n5⟩
    · obtain rfl := Option.some.inj hq; exact ⟨a6, n6⟩
  · exact (show ∀ q ∈ kMN, (Cond.methodLinkNest q.1 q.2.1 q.2.2 "LentMinds") ∈ lw_tbl by decide +kernel) q hq
  · exact (show ∀ q ∈ kDC, (Cond.declares q) ∈ lw_tbl by decide +kernel) q hq
  · exact (show ∀ q ∈ kCA, (Cond.castable q.1 q.2) ∈ lw_tbl by decide +kernel) q hq
  · have h8 : ∀ q ∈ kST, Cond.stringRef "LentMinds" q.1 q.2 ∈ lw_tbl := by decide +kernel
    have h7 := hts _ (h8 q hq)
    rcases (show q = (112, "not so many bytes on the tape") ∨ q = (143, "what is 0 to 4") ∨ q = (181, "no such body") ∨ q = (173, "what is 0 to 7") ∨ q = (184, "a number is none such") ∨ q = (246, "no house, or the day is over") ∨ q = (269, "what is 0 to 3") by simpa [kST] using hq) with rfl | rfl | rfl | rfl | rfl | rfl | rfl
    · exact vk_R.of h7 (by rw [w112]; exact e112)
    · exact vk_R.of h7 (by rw [w143]; exact e143)
    · exact vk_R.of h7 (by rw [w181]; exact e181)
    · exact vk_R.of h7 (by rw [w173]; exact e173)
    · exact vk_R.of h7 (by rw [w184]; exact e184)
    · exact vk_R.of h7 (by rw [w246]; exact e246)
    · exact vk_R.of h7 (by rw [w269]; exact e269)
  · exact (show ∀ q ∈ kNC, (Cond.not (.castable q.1 q.2)) ∈ flatC (Jvm.Cond.and given_1 narrow_1) by decide +kernel) q hq
