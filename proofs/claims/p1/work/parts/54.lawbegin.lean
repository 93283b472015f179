theorem wm_33 : Cond.classLink RL 8 "LentMinds" ∈ kWS := kws_at 33 (by decide +kernel) (by decide +kernel)
theorem wm_34 : Cond.instantiable RX11 17 ∈ kWS := kws_at 34 (by decide +kernel) (by decide +kernel)
theorem wm_37 : Cond.code yX11_init cX11_init 2 none ∈ kWS := kws_at 37 (by decide +kernel) (by decide +kernel)
theorem wm_35 : Cond.methodLink RL 112 yX11_init ∈ kWS := kws_at 35 (by decide +kernel) (by decide +kernel)
theorem wm_36 : Cond.instanceMethod yX11_init ∈ kWS := kws_at 36 (by decide +kernel) (by decide +kernel)
theorem lk_IRL_112 : kLI RL 112 yX11_init (Cond.code yX11_init cX11_init 2 none) 0 := ⟨wm_35, wm_36, wm_1, wm_37, rfl, ⟨by decide +kernel, by decide +kernel, by decide +kernel⟩⟩
theorem wm_1510 : Cond.classLink RL 113 "LentMindsModel" ∈ kWS := kws_at 1510 (by decide +kernel) (by decide +kernel)
theorem wm_1511 : Cond.instantiable RX12 48 ∈ kWS := kws_at 1511 (by decide +kernel) (by decide +kernel)
theorem wm_1514 : Cond.code yX12_init cX12_init 1 none ∈ kWS := kws_at 1514 (by decide +kernel) (by decide +kernel)
theorem wm_1512 : Cond.methodLink RL 115 yX12_init ∈ kWS := kws_at 1512 (by decide +kernel) (by decide +kernel)
theorem wm_1513 : Cond.instanceMethod yX12_init ∈ kWS := kws_at 1513 (by decide +kernel) (by decide +kernel)
theorem lk_IRL_115 : kLI RL 115 yX12_init (Cond.code yX12_init cX12_init 1 none) 0 := ⟨wm_1512, wm_1513, wm_12, wm_1514, rfl, ⟨by decide +kernel, by decide +kernel, by decide +kernel⟩⟩
theorem wm_2062 : Cond.arrayClass .long ∈ kWS := kws_at 2062 (by decide +kernel) (by decide +kernel)

set_option maxHeartbeats 4000000 in
set_option maxRecDepth 100000 in
/-- the law from its entry -/
theorem law_start {p : Program} {l : Launch} {e : Env} {s : State} {m : MethodId} {below : List Frame} {meth : Method} {c : Code} {D : va_G} {cy : Nat → ClassId} {sa : Nat → Nat} {b L : Nat} {xs : Nat → Int32} (hL : L ≤ 6) (hl0 : l.stackTraces = false) (E : kE yL_law cL_law 7 (some .boolean) #[Value.ref b] p s m meth c) (hX : va_X b L xs s s.heap) (hbl : b < s.heap.size) (hG : kG D cy sa (fun q => s.heap.size ≤ q) s) (H : Heap) (hS : va_S (fun q => s.heap.size ≤ q) s.heap H []) (ls : Array Slot) (hl : lv_has ls 7 [(0, .ref b)]) : W p l e room_1 s m #[Value.ref b] below meth c H [] 0 0 (lw_Z below #[Value.ref b] s) (F0 m 0 ls []) := by
  obtain ⟨A, hAe⟩ : ∃ A : Nat → Prop, A = fun q => s.heap.size ≤ q := ⟨_, rfl⟩
  rw [← hAe] at hG hS
  have hA : ∀ q, s.heap.size ≤ q → A q := fun q h => by rw [hAe]; exact h
  have hP : va_P D vwCl [] H := fun k q h => by cases h
  have hD : va_D A [] := ⟨fun i j p q h => (by cases h), fun k q h => (by cases h)⟩
  obtain ⟨hx, hb, hml, hown, hts, hr, hlk, hnm⟩ := id E
  have hown : s.vm.findClass RL = some m.cls := hown
  refine va_new (ci := 12) (fs := [.null, .int 0, .int 0, .null, .null, .null, .null, .null, .null, .null, .int 0, .null, .null, .null, .null, .null, .null]) (C := RX11) (T := TX11) (N := 17) hx hb hts kin_RX11 tyX11 tyX11_ok hown (hts _ wm_33) (hts _ wm_34) (hts _ wm_1) hG.1 hP hD hS hA rfl (k_fs_RX11) (Nat.le_of_ble_eq_true rfl) (Nat.le_of_ble_eq_true rfl) dL_law_0 (fun q1 H hP hD hS => ?_)
  have hP : va_P D vwCl [(q1, .inr (12, [.null, .int 0, .int 0, .null, .null, .null, .null, .null, .null, .null, .int 0, .null, .null, .null, .null, .null, .null]))] H := hP
  have hD : va_D A [(q1, .inr (12, [.null, .int 0, .int 0, .null, .null, .null, .null, .null, .null, .null, .int 0, .null, .null, .null, .null, .null, .null]))] := hD
  refine lv_dup hx hb dL_law_3 rfl ?_
  refine k_calv [] (⟨hP, hD, hG, hS, hA, rfl, rfl⟩ : kAt D cy sa A s H _ _ [(q1, .inr (12, [.null, .int 0, .int 0, .null, .null, .null, .null, .null, .null, .null, .int 0, .null, .null, .null, .null, .null, .null]))] [0]) (wr := []) rfl rfl (by decide) (k_runI (As := []) (rest := [.ref q1]) E lk_IRL_112 (c_LM_init l hl0 D cy sa q1 H.size) (⟨hP, hD, hG, hS, hA, rfl, rfl⟩ : kAt D cy sa A s H _ _ [(q1, .inr (12, [.null, .int 0, .int 0, .null, .null, .null, .null, .null, .null, .null, .int 0, .null, .null, .null, .null, .null, .null]))] [0]) hl.1 rfl rfl ⟨rfl, rfl, ⟨Nat.le_of_ble_eq_true rfl, Nat.le_of_ble_eq_true rfl⟩, ⟨Nat.le_of_ble_eq_true rfl, Nat.le_of_ble_eq_true rfl⟩, Nat.le_of_ble_eq_true rfl⟩ dL_law_4) (fun u3 H locs hwu3 hP hD hS => ?_)
  have hP : va_P D vwCl (lmW cy u3) H := hP
  have hD : va_D A (lmW cy u3) := hD
  have hPn := hP
  have hDn := hD
  subst hwu3
  have hP := hPn
  have hD := hDn
  refine lv_astore_n (lv' := [(1, .ref (u3 0)), (0, .ref b)]) hx hb dL_law_7 rfl hl (by decide) rfl (fun ls hl => ?_)
  refine va_new (ci := 13) (fs := [.int 0, .int 0, .int 0, .int 0, .int 0, .int 0, .int 0, .int 0, .null, .null, .null, .null, .null, .null, .null, .null, .null, .int 0, .int 0, .int 0, .int 0, .int 0, .int 0, .int 0, .int 0, .int 0, .null, .null, .null, .null, .int 0, .null, .null, .null, .null, .null, .int 0, .int 0, .int 0, .null, .null, .null, .null, .null, .int 0, .int 0, .int 0, .int 0]) (C := RX12) (T := TX12) (N := 48) hx hb hts kin_RX12 tyX12 tyX12_ok hown (hts _ wm_1510) (hts _ wm_1511) (hts _ wm_12) hG.1 hP hD hS hA rfl (k_fs_RX12) (Nat.le_of_ble_eq_true rfl) (Nat.le_of_ble_eq_true rfl) dL_law_8 (fun q4 H hP hD hS => ?_)
  have hP : va_P D vwCl ((lmW cy u3) ++ [(q4, .inr (13, [.int 0, .int 0, .int 0, .int 0, .int 0, .int 0, .int 0, .int 0, .null, .null, .null, .null, .null, .null, .null, .null, .null, .int 0, .int 0, .int 0, .int 0, .int 0, .int 0, .int 0, .int 0, .int 0, .null, .null, .null, .null, .int 0, .null, .null, .null, .null, .null, .int 0, .int 0, .int 0, .null, .null, .null, .null, .null, .int 0, .int 0, .int 0, .int 0]))]) H := hP
  have hD : va_D A ((lmW cy u3) ++ [(q4, .inr (13, [.int 0, .int 0, .int 0, .int 0, .int 0, .int 0, .int 0, .int 0, .null, .null, .null, .null, .null, .null, .null, .null, .null, .int 0, .int 0, .int 0, .int 0, .int 0, .int 0, .int 0, .int 0, .int 0, .null, .null, .null, .null, .int 0, .null, .null, .null, .null, .null, .int 0, .int 0, .int 0, .null, .null, .null, .null, .null, .int 0, .int 0, .int 0, .int 0]))]) := hD
  refine lv_dup hx hb dL_law_11 rfl ?_
  refine k_calv [0, 1, 2, 3, 4, 5, 6, 7, 8, 9, 10, 11, 12, 13, 14, 15, 16, 17, 18, 19, 20, 21, 22, 23, 24, 25, 26, 27, 28, 29, 30, 31, 32, 33, 34, 35, 36, 37, 38, 39, 40, 41, 42, 43, 44, 45, 46, 47, 48, 49, 50, 51, 52, 53, 54, 55, 56, 57, 58, 59, 60, 61, 62, 63, 64, 65, 66, 67, 68, 69, 70, 71, 72, 73, 74, 75, 76, 77, 78, 79, 80, 81, 82, 83, 84, 85, 86, 87, 88, 89, 90, 91, 92, 93, 94] (⟨hP, hD, hG, hS, hA, rfl, rfl⟩ : kAt D cy sa A s H _ _ [(q4, .inr (13, [.int 0, .int 0, .int 0, .int 0, .int 0, .int 0, .int 0, .int 0, .null, .null, .null, .null, .null, .null, .null, .null, .null, .int 0, .int 0, .int 0, .int 0, .int 0, .int 0, .int 0, .int 0, .int 0, .null, .null, .null, .null, .int 0, .null, .null, .null, .null, .null, .int 0, .int 0, .int 0, .null, .null, .null, .null, .null, .int 0, .int 0, .int 0, .int 0]))] [95]) (wr := (lmW cy u3)) rfl rfl (by decide) (k_runI (As := []) (rest := [.ref q4]) E lk_IRL_115 (c_MD_init l hl0 D cy sa q4 H.size) (⟨hP, hD, hG, hS, hA, rfl, rfl⟩ : kAt D cy sa A s H _ _ [(q4, .inr (13, [.int 0, .int 0, .int 0, .int 0, .int 0, .int 0, .int 0, .int 0, .null, .null, .null, .null, .null, .null, .null, .null, .null, .int 0, .int 0, .int 0, .int 0, .int 0, .int 0, .int 0, .int 0, .int 0, .null, .null, .null, .null, .int 0, .null, .null, .null, .null, .null, .int 0, .int 0, .int 0, .null, .null, .null, .null, .null, .int 0, .int 0, .int 0, .int 0]))] [95]) hl.1 rfl rfl ⟨rfl, rfl, ⟨Nat.le_of_ble_eq_true rfl, Nat.le_of_ble_eq_true rfl⟩, ⟨Nat.le_of_ble_eq_true rfl, Nat.le_of_ble_eq_true rfl⟩, Nat.le_of_ble_eq_true rfl⟩ dL_law_12) (fun u6 H locs hwu6 hP hD hS => ?_)
  have hP : va_P D vwCl ((lmW cy u3) ++ mdW cy u6) H := hP
  have hD : va_D A ((lmW cy u3) ++ mdW cy u6) := hD
  have hPn := hP
  have hDn := hD
  subst hwu6
  have hP := hPn
  have hD := hDn
  refine lv_astore_n (lv' := [(2, .ref (u6 0)), (1, .ref (u3 0)), (0, .ref b)]) hx hb dL_law_15 rfl hl (by decide) rfl (fun ls hl => ?_)
  refine lv_iconst (v := 1) hx hb dL_law_16 (by decide) ?_
  refine k_newa 6 (atype := .long) hx hb (hts _ wm_2062) rfl rfl hG.1 hP hD hS hA (a0 := (1, .inr (.inl (fun _ => 0)))) trivial (fun _ => rfl) (by decide) (by decide) (by decide) (Nat.le_of_ble_eq_true rfl) (Nat.le_of_ble_eq_true rfl) dL_law_17 (fun q7 H hP hD hS => ?_)
  have hP : va_P D vwCl (((lmW cy u3) ++ mdW cy u6) ++ [(q7, .inl (cy 6, 1, .inr (.inl (fun _ => 0))))]) H := hP
  have hD : va_D A (((lmW cy u3) ++ mdW cy u6) ++ [(q7, .inl (cy 6, 1, .inr (.inl (fun _ => 0))))]) := hD
  refine lv_astore_n (lv' := [(3, .ref q7), (2, .ref (u6 0)), (1, .ref (u3 0)), (0, .ref b)]) hx hb dL_law_19 rfl hl (by decide) rfl (fun ls hl => ?_)
  refine lv_iconst (v := 0) hx hb dL_law_20 (by decide) ?_
  refine lv_istore (lv' := [(4, .int 0), (3, .ref q7), (2, .ref (u6 0)), (1, .ref (u3 0)), (0, .ref b)]) hx hb dL_law_21 hl (by decide) rfl (fun ls hl => ?_)
  rw [List.append_assoc] at hP hD
  subst hAe
  exact law_head hL hl0 E hX hbl hG u3 u6 q7 H locs hP hD hS ls (lv_sub hl [4, 3, 2, 1, 0] rfl)
set_option maxHeartbeats 4000000 in
/-- from the entry, for every script of at most 6 ints, the law comes to its end with true -/
theorem whole_start {p : Program} {e : Env} {s : State} {m : MethodId} {below : List Frame} {meth : Method} {c : Code} (l : Launch) (hl0 : l.stackTraces = false) {b L : Nat} {xs : Nat → Int32} (hL : L ≤ 6) (hnm : meth.name = "law") (C0 : lw_At p s m meth c b L xs) : W p l e room_1 s m #[Value.ref b] below meth c s.heap [] 0 0 (lw_Z below #[Value.ref b] s) (entryFrame m ([Value.ref b] : List Value).toArray 7) := by
  obtain ⟨hx, hb, hr, hml, hown, htbl, hX, hbl, hlk, hgv⟩ := C0
  obtain ⟨D, cy, sa, hG⟩ := law_kG htbl hgv
  have E : kE yL_law cL_law 7 (some .boolean) #[Value.ref b] p s m meth c := ⟨hx, hb, hml, hown, fun w hw => htbl w (List.mem_filter.mp hw).1, hr, hlk, hnm⟩
  have hl := lv_entry [Value.ref b] (n := 7) (Nat.le_of_ble_eq_true rfl)
  rw [lg_entry_eq]
  exact law_start hL hl0 E hX hbl hG s.heap va_S.rf _ hl
