/-! Where the law starts: all is 0; what the statics hold. -/
theorem cols0 {n c : Nat} {lo hi : Int} (h1 : lo ≤ 0) (h2 : 0 ≤ hi) : ∀ b, b < n → lo ≤ ((fun _ _ => 0 : Nat → Nat → Int32) b c).toInt ∧ ((fun _ _ => 0 : Nat → Nat → Int32) b c).toInt ≤ hi := fun _ _ => by
  show lo ≤ (0 : Int32).toInt ∧ (0 : Int32).toInt ≤ hi
  rw [show (0 : Int32).toInt = 0 by decide]; exact ⟨h1, h2⟩
theorem kpt0 : kpt (fun _ => 0) := by
  have h0 : (0 : Int32).toInt = 0 := by decide
  refine ⟨⟨fun j _ => ?_, ?_, ?_⟩, ?_, ?_, fun k _ => ?_, fun k _ => ?_⟩
  · show 0 ≤ (0 : Int32).toInt ∧ (0 : Int32).toInt ≤ 9 * (0 : Int32).toInt + 240; rw [h0]; decide
  · show 0 ≤ (0 : Int32).toInt ∧ (0 : Int32).toInt ≤ 480; rw [h0]; decide
  · show 0 ≤ (0 : Int32).toInt ∧ (0 : Int32).toInt ≤ 8; rw [h0]; decide
  · show 0 ≤ (0 : Int32).toInt ∧ (0 : Int32).toInt ≤ 30; rw [h0]; decide
  · show 0 ≤ (0 : Int32).toInt ∧ (0 : Int32).toInt ≤ 6; rw [h0]; decide
  · show 0 ≤ (0 : Int32).toInt ∧ (0 : Int32).toInt ≤ 8; rw [h0]; decide
  · show 0 ≤ (0 : Int32).toInt ∧ (0 : Int32).toInt ≤ 15; rw [h0]; decide
theorem En_congr {E d : String} {nm : List String} {F : List (String × String × String × List Int32)} {ad ad' : Nat → Nat} {A : Nat → Prop} {U : State} {H : Heap} (h : va_En E d nm F ad A U H) (e : ∀ i, i < nm.length → ad' i = ad i) : va_En E d nm F ad' A U H :=
  ⟨fun i hi => by rw [e i hi]; exact h.1 i hi, fun i j hi hj q => h.2 i j hi hj (by rw [e i hi, e j hj] at q; exact q)⟩
theorem Ef_congr {N : Nat} {o n d : String} {v v' : Nat → Value} {ad ad' : Nat → Nat} {A : Nat → Prop} {U : State} {H : Heap} (h : va_Ef N o n d v ad A U H) (e : ∀ i, i < N → ad' i = ad i) (ev : ∀ i, i < N → v' i = v i) : va_Ef N o n d v' ad' A U H := fun i hi => by rw [e i hi, ev i hi]; exact h i hi
theorem S_congr {N : Nat} {len : List Nat} {byt : List (List Int32)} {adK adV adK' adV' : Nat → Nat} {A : Nat → Prop} {U : State} {H : Heap} (h : vk_S N len byt adK adV A U H) (e : ∀ i, i < N → adK' i = adK i) (e' : ∀ i, i < N → adV' i = adV i) : vk_S N len byt adK' adV' A U H :=
  ⟨fun i hi => by rw [e i hi, e' i hi]; exact h.1 i hi, fun i j hi hj q => h.2 i j hi hj (by rw [e i hi, e j hj] at q; exact q)⟩
theorem T_congr {ty : FieldType} {t N : Nat} {f f' : Nat → Value} {A : Nat → Prop} {U : State} {H : Heap} (h : va_T ty t N f A U H) (e : ∀ i, i < N → f' i = f i) : va_T ty t N f' A U H := by
  obtain ⟨cell, h1, h2, h3, h4, h5, h6, h7⟩ := h
  exact ⟨cell, h1, h2, h3, h4, h5, fun j hj => by rw [e j hj]; exact h6 j hj, h7⟩
def kWi (i : Nat) : Nat := [59, 65, 68, 71, 74, 77, 80, 83].getD i 0
theorem lt8 {P : Nat → Prop} (h0 : P 0) (h1 : P 1) (h2 : P 2) (h3 : P 3) (h4 : P 4) (h5 : P 5) (h6 : P 6) (h7 : P 7) : ∀ i, i < 8 → P i := by
  intro i hi
  rcases (show i = 0 ∨ i = 1 ∨ i = 2 ∨ i = 3 ∨ i = 4 ∨ i = 5 ∨ i = 6 ∨ i = 7 by omega) with rfl | rfl | rfl | rfl | rfl | rfl | rfl | rfl <;> assumption
theorem sEl_0 : ∀ j, j < 4 → Cond.eq (.elem (.field (.string "LentMinds$Word" 59) "java/lang/String" "value" "[B") (.int (Int32.ofNat j))) (.int ((kSb.getD 0 []).getD j 0)) ∈ flatC (Jvm.Cond.and given_1 narrow_1) := by decide +kernel
theorem sEl_1 : ∀ j, j < 5 → Cond.eq (.elem (.field (.string "LentMinds$Word" 65) "java/lang/String" "value" "[B") (.int (Int32.ofNat j))) (.int ((kSb.getD 1 []).getD j 0)) ∈ flatC (Jvm.Cond.and given_1 narrow_1) := by decide +kernel
theorem sEl_2 : ∀ j, j < 5 → Cond.eq (.elem (.field (.string "LentMinds$Word" 68) "java/lang/String" "value" "[B") (.int (Int32.ofNat j))) (.int ((kSb.getD 2 []).getD j 0)) ∈ flatC (Jvm.Cond.and given_1 narrow_1) := by decide +kernel
theorem sEl_3 : ∀ j, j < 5 → Cond.eq (.elem (.field (.string "LentMinds$Word" 71) "java/lang/String" "value" "[B") (.int (Int32.ofNat j))) (.int ((kSb.getD 3 []).getD j 0)) ∈ flatC (Jvm.Cond.and given_1 narrow_1) := by decide +kernel
theorem sEl_4 : ∀ j, j < 5 → Cond.eq (.elem (.field (.string "LentMinds$Word" 74) "java/lang/String" "value" "[B") (.int (Int32.ofNat j))) (.int ((kSb.getD 4 []).getD j 0)) ∈ flatC (Jvm.Cond.and given_1 narrow_1) := by decide +kernel
theorem sEl_5 : ∀ j, j < 6 → Cond.eq (.elem (.field (.string "LentMinds$Word" 77) "java/lang/String" "value" "[B") (.int (Int32.ofNat j))) (.int ((kSb.getD 5 []).getD j 0)) ∈ flatC (Jvm.Cond.and given_1 narrow_1) := by decide +kernel
theorem sEl_6 : ∀ j, j < 6 → Cond.eq (.elem (.field (.string "LentMinds$Word" 80) "java/lang/String" "value" "[B") (.int (Int32.ofNat j))) (.int ((kSb.getD 6 []).getD j 0)) ∈ flatC (Jvm.Cond.and given_1 narrow_1) := by decide +kernel
theorem sEl_7 : ∀ j, j < 3 → Cond.eq (.elem (.field (.string "LentMinds$Word" 83) "java/lang/String" "value" "[B") (.int (Int32.ofNat j))) (.int ((kSb.getD 7 []).getD j 0)) ∈ flatC (Jvm.Cond.and given_1 narrow_1) := by decide +kernel
theorem sNe_0_1 : Cond.not (.eq (.string "LentMinds$Word" 59) (.string "LentMinds$Word" 65)) ∈ flatC (Jvm.Cond.and given_1 narrow_1) := by decide +kernel
theorem sNe_0_2 : Cond.not (.eq (.string "LentMinds$Word" 59) (.string "LentMinds$Word" 68)) ∈ flatC (Jvm.Cond.and given_1 narrow_1) := by decide +kernel
theorem sNe_0_3 : Cond.not (.eq (.string "LentMinds$Word" 59) (.string "LentMinds$Word" 71)) ∈ flatC (Jvm.Cond.and given_1 narrow_1) := by decide +kernel
theorem sNe_0_4 : Cond.not (.eq (.string "LentMinds$Word" 59) (.string "LentMinds$Word" 74)) ∈ flatC (Jvm.Cond.and given_1 narrow_1) := by decide +kernel
theorem sNe_0_5 : Cond.not (.eq (.string "LentMinds$Word" 59) (.string "LentMinds$Word" 77)) ∈ flatC (Jvm.Cond.and given_1 narrow_1) := by decide +kernel
theorem sNe_0_6 : Cond.not (.eq (.string "LentMinds$Word" 59) (.string "LentMinds$Word" 80)) ∈ flatC (Jvm.Cond.and given_1 narrow_1) := by decide +kernel
theorem sNe_0_7 : Cond.not (.eq (.string "LentMinds$Word" 59) (.string "LentMinds$Word" 83)) ∈ flatC (Jvm.Cond.and given_1 narrow_1) := by decide +kernel
theorem sNe_1_2 : Cond.not (.eq (.string "LentMinds$Word" 65) (.string "LentMinds$Word" 68)) ∈ flatC (Jvm.Cond.and given_1 narrow_1) := by decide +kernel
theorem sNe_1_3 : Cond.not (.eq (.string "LentMinds$Word" 65) (.string "LentMinds$Word" 71)) ∈ flatC (Jvm.Cond.and given_1 narrow_1) := by decide +kernel
theorem sNe_1_4 : Cond.not (.eq (.string "LentMinds$Word" 65) (.string "LentMinds$Word" 74)) ∈ flatC (Jvm.Cond.and given_1 narrow_1) := by decide +kernel
theorem sNe_1_5 : Cond.not (.eq (.string "LentMinds$Word" 65) (.string "LentMinds$Word" 77)) ∈ flatC (Jvm.Cond.and given_1 narrow_1) := by decide +kernel
theorem sNe_1_6 : Cond.not (.eq (.string "LentMinds$Word" 65) (.string "LentMinds$Word" 80)) ∈ flatC (Jvm.Cond.and given_1 narrow_1) := by decide +kernel
theorem sNe_1_7 : Cond.not (.eq (.string "LentMinds$Word" 65) (.string "LentMinds$Word" 83)) ∈ flatC (Jvm.Cond.and given_1 narrow_1) := by decide +kernel
theorem sNe_2_3 : Cond.not (.eq (.string "LentMinds$Word" 68) (.string "LentMinds$Word" 71)) ∈ flatC (Jvm.Cond.and given_1 narrow_1) := by decide +kernel
theorem sNe_2_4 : Cond.not (.eq (.string "LentMinds$Word" 68) (.string "LentMinds$Word" 74)) ∈ flatC (Jvm.Cond.and given_1 narrow_1) := by decide +kernel
theorem sNe_2_5 : Cond.not (.eq (.string "LentMinds$Word" 68) (.string "LentMinds$Word" 77)) ∈ flatC (Jvm.Cond.and given_1 narrow_1) := by decide +kernel
theorem sNe_2_6 : Cond.not (.eq (.string "LentMinds$Word" 68) (.string "LentMinds$Word" 80)) ∈ flatC (Jvm.Cond.and given_1 narrow_1) := by decide +kernel
theorem sNe_2_7 : Cond.not (.eq (.string "LentMinds$Word" 68) (.string "LentMinds$Word" 83)) ∈ flatC (Jvm.Cond.and given_1 narrow_1) := by decide +kernel
theorem sNe_3_4 : Cond.not (.eq (.string "LentMinds$Word" 71) (.string "LentMinds$Word" 74)) ∈ flatC (Jvm.Cond.and given_1 narrow_1) := by decide +kernel
theorem sNe_3_5 : Cond.not (.eq (.string "LentMinds$Word" 71) (.string "LentMinds$Word" 77)) ∈ flatC (Jvm.Cond.and given_1 narrow_1) := by decide +kernel
theorem sNe_3_6 : Cond.not (.eq (.string "LentMinds$Word" 71) (.string "LentMinds$Word" 80)) ∈ flatC (Jvm.Cond.and given_1 narrow_1) := by decide +kernel
theorem sNe_3_7 : Cond.not (.eq (.string "LentMinds$Word" 71) (.string "LentMinds$Word" 83)) ∈ flatC (Jvm.Cond.and given_1 narrow_1) := by decide +kernel
theorem sNe_4_5 : Cond.not (.eq (.string "LentMinds$Word" 74) (.string "LentMinds$Word" 77)) ∈ flatC (Jvm.Cond.and given_1 narrow_1) := by decide +kernel
theorem sNe_4_6 : Cond.not (.eq (.string "LentMinds$Word" 74) (.string "LentMinds$Word" 80)) ∈ flatC (Jvm.Cond.and given_1 narrow_1) := by decide +kernel
theorem sNe_4_7 : Cond.not (.eq (.string "LentMinds$Word" 74) (.string "LentMinds$Word" 83)) ∈ flatC (Jvm.Cond.and given_1 narrow_1) := by decide +kernel
theorem sNe_5_6 : Cond.not (.eq (.string "LentMinds$Word" 77) (.string "LentMinds$Word" 80)) ∈ flatC (Jvm.Cond.and given_1 narrow_1) := by decide +kernel
theorem sNe_5_7 : Cond.not (.eq (.string "LentMinds$Word" 77) (.string "LentMinds$Word" 83)) ∈ flatC (Jvm.Cond.and given_1 narrow_1) := by decide +kernel
theorem sNe_6_7 : Cond.not (.eq (.string "LentMinds$Word" 80) (.string "LentMinds$Word" 83)) ∈ flatC (Jvm.Cond.and given_1 narrow_1) := by decide +kernel
theorem sEl : ∀ i, i < 8 → ∀ j, j < kSl.getD i 0 → Cond.eq (.elem (.field (.string "LentMinds$Word" (kWi i)) "java/lang/String" "value" "[B") (.int (Int32.ofNat j))) (.int ((kSb.getD i []).getD j 0)) ∈ flatC (Jvm.Cond.and given_1 narrow_1) := lt8 sEl_0 sEl_1 sEl_2 sEl_3 sEl_4 sEl_5 sEl_6 sEl_7
theorem sNe : ∀ i, i < 8 → ∀ j, j < 8 → i ≠ j → Cond.not (.eq (.string "LentMinds$Word" (kWi i)) (.string "LentMinds$Word" (kWi j))) ∈ flatC (Jvm.Cond.and given_1 narrow_1) ∨ Cond.not (.eq (.string "LentMinds$Word" (kWi j)) (.string "LentMinds$Word" (kWi i))) ∈ flatC (Jvm.Cond.and given_1 narrow_1) := lt8 (lt8 (fun h => absurd rfl h) (fun _ => Or.inl sNe_0_1) (fun _ => Or.inl sNe_0_2) (fun _ => Or.inl sNe_0_3) (fun _ => Or.inl sNe_0_4) (fun _ => Or.inl sNe_0_5) (fun _ => Or.inl sNe_0_6) (fun _ => Or.inl sNe_0_7)) (lt8 (fun _ => Or.inr sNe_0_1) (fun h => absurd rfl h) (fun _ => Or.inl sNe_1_2) (fun _ => Or.inl sNe_1_3) (fun _ => Or.inl sNe_1_4) (fun _ => Or.inl sNe_1_5) (fun _ => Or.inl sNe_1_6) (fun _ => Or.inl sNe_1_7)) (lt8 (fun _ => Or.inr sNe_0_2) (fun _ => Or.inr sNe_1_2) (fun h => absurd rfl h) (fun _ => Or.inl sNe_2_3) (fun _ => Or.inl sNe_2_4) (fun _ => Or.inl sNe_2_5) (fun _ => Or.inl sNe_2_6) (fun _ => Or.inl sNe_2_7)) (lt8 (fun _ => Or.inr sNe_0_3) (fun _ => Or.inr sNe_1_3) (fun _ => Or.inr sNe_2_3) (fun h => absurd rfl h) (fun _ => Or.inl sNe_3_4) (fun _ => Or.inl sNe_3_5) (fun _ => Or.inl sNe_3_6) (fun _ => Or.inl sNe_3_7)) (lt8 (fun _ => Or.inr sNe_0_4) (fun _ => Or.inr sNe_1_4) (fun _ => Or.inr sNe_2_4) (fun _ => Or.inr sNe_3_4) (fun h => absurd rfl h) (fun _ => Or.inl sNe_4_5) (fun _ => Or.inl sNe_4_6) (fun _ => Or.inl sNe_4_7)) (lt8 (fun _ => Or.inr sNe_0_5) (fun _ => Or.inr sNe_1_5) (fun _ => Or.inr sNe_2_5) (fun _ => Or.inr sNe_3_5) (fun _ => Or.inr sNe_4_5) (fun h => absurd rfl h) (fun _ => Or.inl sNe_5_6) (fun _ => Or.inl sNe_5_7)) (lt8 (fun _ => Or.inr sNe_0_6) (fun _ => Or.inr sNe_1_6) (fun _ => Or.inr sNe_2_6) (fun _ => Or.inr sNe_3_6) (fun _ => Or.inr sNe_4_6) (fun _ => Or.inr sNe_5_6) (fun h => absurd rfl h) (fun _ => Or.inl sNe_6_7)) (lt8 (fun _ => Or.inr sNe_0_7) (fun _ => Or.inr sNe_1_7) (fun _ => Or.inr sNe_2_7) (fun _ => Or.inr sNe_3_7) (fun _ => Or.inr sNe_4_7) (fun _ => Or.inr sNe_5_7) (fun _ => Or.inr sNe_6_7) (fun h => absurd rfl h))
set_option maxHeartbeats 4000000 in
set_option maxRecDepth 100000 in
/-- what the statics hold, at the law's start -/
theorem law_kSt {s : State} {args : Array Value} (hts : ∀ w ∈ lw_tbl, w.before args s = true) (hgv : (Jvm.Cond.and given_1 narrow_1).before args s = true) : ∃ (aw ak av : Nat → Nat) (tw tl tm : Nat), va_En "LentMinds$Word" "LLentMinds$Word;" kWn kWF aw (fun q => s.heap.size ≤ q) s s.heap ∧ va_Ef 8 "LentMinds$Word" "spelling" "Ljava/lang/String;" (fun i => .ref (ak i)) aw (fun q => s.heap.size ≤ q) s s.heap ∧ vk_S 8 kSl kSb ak av (fun q => s.heap.size ≤ q) s s.heap ∧ va_Z "LentMinds" "WORDS" "[LLentMinds$Word;" (.ref tw) (fun q => s.heap.size ≤ q) s s.heap ∧ va_T (.object "LentMinds$Word") tw 8 (fun i => .ref (aw i)) (fun q => s.heap.size ≤ q) s s.heap ∧ va_Z "LentMinds" "LEAST" "[I" (.ref tl) (fun q => s.heap.size ≤ q) s s.heap ∧ va_T .int tl 19 (fun i => .int (kLeast.getD i 0)) (fun q => s.heap.size ≤ q) s s.heap ∧ va_Z "LentMinds" "MOST" "[I" (.ref tm) (fun q => s.heap.size ≤ q) s s.heap ∧ va_T .int tm 19 (fun i => .int (kMost.getD i 0)) (fun q => s.heap.size ≤ q) s s.heap ∧ va_Z "java/lang/String" "COMPACT_STRINGS" "Z" (.int 1) (fun q => s.heap.size ≤ q) s s.heap ∧ va_Zq "jdk/internal/util/Preconditions" "SIOOBE_FORMATTER" "Ljava/util/function/BiFunction;" (fun q => s.heap.size ≤ q) s s.heap ∧ (∀ q ∈ kFN, va_Nw (.fieldLinkNest q.1 q.2.1 q.2.2.1 q.2.2.2.1 q.2.2.2.2 "LentMinds") s) := by
  have hs := flat_of_before _ hgv
  have hA : ∀ a : Nat, a < s.heap.size → ¬ (s.heap.size ≤ a) := fun a h => Nat.not_le.mpr h
  obtain ⟨aw, hEn, hev⟩ := va_Enof2 (args := args) (s := s) (E := "LentMinds$Word") (d := "LLentMinds$Word;") (nm := kWn) (F := kWF) (A := fun q => s.heap.size ≤ q)
    (fun i hi => hts _ ((show ∀ i, i < kWn.length → Cond.laysStatic "LentMinds$Word" (kWn.getD i "") "LLentMinds$Word;" ∈ lw_tbl by decide +kernel) i hi)) (hts (Cond.initialized "LentMinds$Word") (by decide +kernel))
    (fun i hi => hs _ ((show ∀ i, i < kWn.length → Cond.exactly (.static "LentMinds$Word" (kWn.getD i "") "LLentMinds$Word;") "LentMinds$Word" ∈ flatC (Jvm.Cond.and given_1 narrow_1) by decide +kernel) i hi))
    (fun q hq i hi => hs _ ((show ∀ q ∈ kWF, ∀ i, i < kWn.length → Cond.eq (.field (.static "LentMinds$Word" (kWn.getD i "") "LLentMinds$Word;") q.1 q.2.1 q.2.2.1) (.int (q.2.2.2.getD i 0)) ∈ flatC (Jvm.Cond.and given_1 narrow_1) by decide +kernel) q hq i hi))
    (fun i j hi hj hij => by
      rcases (show ∀ i, i < kWn.length → ∀ j, j < kWn.length → i ≠ j → Cond.not (.eq (.static "LentMinds$Word" (kWn.getD i "") "LLentMinds$Word;") (.static "LentMinds$Word" (kWn.getD j "") "LLentMinds$Word;")) ∈ flatC (Jvm.Cond.and given_1 narrow_1) ∨ Cond.not (.eq (.static "LentMinds$Word" (kWn.getD j "") "LLentMinds$Word;") (.static "LentMinds$Word" (kWn.getD i "") "LLentMinds$Word;")) ∈ flatC (Jvm.Cond.and given_1 narrow_1) by decide +kernel) i hi j hj hij with h | h
      · exact Or.inl (hs _ h)
      · exact Or.inr (hs _ h)) hA
  obtain ⟨ak, av, hSt, hek⟩ := vk_Sof (args := args) (s := s) (N := 8) (tm := fun i => .string "LentMinds$Word" (kWi i)) (len := kSl) (byt := kSb) (A := fun q => s.heap.size ≤ q)
    (show ∀ i : Nat, i < 8 → kSl.getD i 0 < 2 ^ 31 by decide +kernel)
    (fun i hi => hs _ ((show ∀ i, i < 8 → Cond.exactly (.string "LentMinds$Word" (kWi i)) "java/lang/String" ∈ flatC (Jvm.Cond.and given_1 narrow_1) by decide +kernel) i hi))
    (fun i hi => hs _ ((show ∀ i, i < 8 → Cond.eq (.field (.string "LentMinds$Word" (kWi i)) "java/lang/String" "coder" "B") (.int 0) ∈ flatC (Jvm.Cond.and given_1 narrow_1) by decide +kernel) i hi))
    (fun i hi => hs _ ((show ∀ i, i < 8 → Cond.arrayOf (.field (.string "LentMinds$Word" (kWi i)) "java/lang/String" "value" "[B") .byte ∈ flatC (Jvm.Cond.and given_1 narrow_1) by decide +kernel) i hi))
    (fun i hi => hs _ ((show ∀ i, i < 8 → Cond.eq (.length (.field (.string "LentMinds$Word" (kWi i)) "java/lang/String" "value" "[B")) (.int (Int32.ofNat (kSl.getD i 0))) ∈ flatC (Jvm.Cond.and given_1 narrow_1) by decide +kernel) i hi))
    (fun i hi j hj => hs _ (sEl i hi j hj))
    (fun i j hi hj hij => by
      rcases sNe i hi j hj hij with h | h
      · exact Or.inl (hs _ h)
      · exact Or.inr (hs _ h)) hA
  have hEf : va_Ef 8 "LentMinds$Word" "spelling" "Ljava/lang/String;" (fun i => .ref (ak i)) aw (fun q => s.heap.size ≤ q) s s.heap := va_Efof (E := "LentMinds$Word") (d0 := "LLentMinds$Word;") (nm := kWn) (tm := fun i => .string "LentMinds$Word" (kWi i)) (fun i hi => hev i hi)
    (fun i hi => hs _ ((show ∀ i, i < 8 → Cond.eq (.field (.static "LentMinds$Word" (kWn.getD i "") "LLentMinds$Word;") "LentMinds$Word" "spelling" "Ljava/lang/String;") (.string "LentMinds$Word" (kWi i)) ∈ flatC (Jvm.Cond.and given_1 narrow_1) by decide +kernel) i hi)) (fun i hi => hek i hi) hA
  obtain ⟨tw, e1, hT1⟩ := va_Tof (args := args) (s := s) (tm := .static "LentMinds" "WORDS" "[LLentMinds$Word;") (ty := .object "LentMinds$Word") (N := 8) (f := fun i => .ref (aw i)) (A := fun q => s.heap.size ≤ q) (by decide) (hs _ (by decide +kernel)) (va_eqt (z := 8) (hs _ (by decide +kernel)))
    (fun j hj => va_eqv (hs _ ((show ∀ j, j < 8 → Cond.eq (.elem (.static "LentMinds" "WORDS" "[LLentMinds$Word;") (.int (Int32.ofNat j))) (.static "LentMinds$Word" (kWn.getD j "") "LLentMinds$Word;") ∈ flatC (Jvm.Cond.and given_1 narrow_1) by decide +kernel) j hj)) (hev j hj)) hA
  obtain ⟨tl, e2, hT2⟩ := va_Tof (args := args) (s := s) (tm := .static "LentMinds" "LEAST" "[I") (ty := .int) (N := 19) (f := fun i => .int (kLeast.getD i 0)) (A := fun q => s.heap.size ≤ q) (by decide) (hs _ (by decide +kernel)) (va_eqt (z := 19) (hs _ (by decide +kernel)))
    (fun j hj => va_eqt (hs _ ((show ∀ j, j < 19 → Cond.eq (.elem (.static "LentMinds" "LEAST" "[I") (.int (Int32.ofNat j))) (.int (kLeast.getD j 0)) ∈ flatC (Jvm.Cond.and given_1 narrow_1) by decide +kernel) j hj))) hA
  obtain ⟨tm, e3, hT3⟩ := va_Tof (args := args) (s := s) (tm := .static "LentMinds" "MOST" "[I") (ty := .int) (N := 19) (f := fun i => .int (kMost.getD i 0)) (A := fun q => s.heap.size ≤ q) (by decide) (hs _ (by decide +kernel)) (va_eqt (z := 19) (hs _ (by decide +kernel)))
    (fun j hj => va_eqt (hs _ ((show ∀ j, j < 19 → Cond.eq (.elem (.static "LentMinds" "MOST" "[I") (.int (Int32.ofNat j))) (.int (kMost.getD j 0)) ∈ flatC (Jvm.Cond.and given_1 narrow_1) by decide +kernel) j hj))) hA
  have hi0 := hts (Cond.initialized "LentMinds") (by decide +kernel)
  exact ⟨aw, ak, av, tw, tl, tm, hEn, hEf, hSt, va_Zref (hts _ (by decide +kernel)) hi0 e1 hA, hT1, va_Zref (hts _ (by decide +kernel)) hi0 e2 hA, hT2, va_Zref (hts _ (by decide +kernel)) hi0 e3 hA, hT3, va_Zof (hts _ (by decide +kernel)) (hts _ (by decide +kernel)) (va_eqi (hs _ (by decide +kernel))) hA, va_Zqof (hts _ (by decide +kernel)) (hts _ (by decide +kernel)) (hs _ (by decide +kernel)) hA, fun q hq => va_Nw.of rfl (hts _ ((show ∀ q ∈ kFN, Cond.fieldLinkNest q.1 q.2.1 q.2.2.1 q.2.2.2.1 q.2.2.2.2 "LentMinds" ∈ lw_tbl by decide +kernel) q hq))⟩
