/-! 'new int[n][k]' and a row out of it, over worlds. -/
theorem k_Dapp {D : va_G} {A : Nat → Prop} {ws L : va_W} {H : Heap} (hP : va_P D vwCl ws H) (hD : va_D A ws) (hL : ∀ (j : Nat) (x : Nat × va_E), L[j]? = some x → x.1 = H.size + j) (hA : ∀ q, H.size ≤ q → A q) : va_D A (ws ++ L) := by
  refine ⟨fun i j p q hi hj he => ?_, fun k q hk => ?_⟩
  · by_cases h1 : i < ws.length
    · rw [List.getElem?_append_left h1] at hi
      by_cases h2 : j < ws.length
      · rw [List.getElem?_append_left h2] at hj
        exact hD.1 i j p q hi hj he
      · rw [List.getElem?_append_right (by omega)] at hj
        have g1 := (hP i p hi).lt
        have g2 := hL _ _ hj
        omega
    · rw [List.getElem?_append_right (by omega)] at hi
      have g1 := hL _ _ hi
      by_cases h2 : j < ws.length
      · rw [List.getElem?_append_left h2] at hj
        have g2 := (hP j q hj).lt
        omega
      · rw [List.getElem?_append_right (by omega)] at hj
        have g2 := hL _ _ hj
        omega
  · by_cases h1 : k < ws.length
    · rw [List.getElem?_append_left h1] at hk
      exact hD.2 k q hk
    · rw [List.getElem?_append_right (by omega)] at hk
      exact hA _ (by rw [hL _ _ hk]; omega)
/-- the cells of new rows of rows -/
abbrev kGr (cy : Nat → ClassId) (q N K : Nat) : va_W := (q, .inl (cy 5, N, .inr (.inr (.inr (.inr (fun i => if i < N then some (q + 1 + i) else none)))))) :: (List.range N).map (fun i => (q + 1 + i, .inl (cy 0, K, .inl (fun _ => 0))))
section KGrid
variable {p : Program} {l : Launch} {e : Env} {R : Room} {s : State} {m : MethodId} {args : Array Value} {below : List Frame} {meth : Method} {c : Code} {H : Heap} {locs : List Loc} {cells slots : Nat} {Q : State → Prop}
variable {cc : ByteArray} {pc : Nat} {ls : Array Slot} {rest : List Value} {D : va_G} {cy : Nat → ClassId} {A : Nat → Prop} {ws : va_W}
theorem k_grid (hexec : p.tables.exec = Jvm.exec) (hb : c.code = cc) {own : String} {index : Nat} (hown : s.vm.findClass own = some m.cls) (hclink : (Cond.classLink own index "[[I").before args s = true) (hover : kAO s) (harr : (Cond.arrayClass .int).before args s = true) (hK : va_K D vwCl (kT cy) s) (hP : va_P D vwCl ws H) (hD : va_D A ws) (hS : va_S A s.heap H locs) (hA : ∀ q, s.heap.size ≤ q → A q)
    {n k : Int32} {N K : Nat} (hn : ¬ n < 0) (hk : ¬ k < 0) (hN : n.toNatClampNeg = N) (hM : k.toNatClampNeg = K) (hb1 : N * 4 ≤ 536870912) (hb2 : K * 4 ≤ 536870912) (hcells : cells + (1 + N) ≤ R.cells) (hslots : slots + (N + N * K) ≤ R.slots) (hdg : decode cc pc = .ok (.multianewarray index 2, 4))
    (kk : ∀ (q : Nat) (H1 : Heap), va_P D vwCl (ws ++ kGr cy q N K) H1 → va_D A (ws ++ kGr cy q N K) → va_S A s.heap H1 locs → W p l e R s m args below meth c H1 locs (cells + 1 + N) (slots + N + N * K) Q (F0 m (pc + 4) ls (.ref q :: rest))) : W p l e R s m args below meth c H locs cells slots Q (F0 m pc ls (.int k :: .int n :: rest)) := by
  subst hN
  subst hM
  intro T hT Xs
  obtain ⟨vm1, cA, comp, fA, fC, X', step⟩ := g_multi Xs hexec hown hclink hover harr (g := F0 m pc ls (.int k :: .int n :: rest)) rfl (by rw [hb]; exact hdg) rfl hn hk hb1 hb2 hcells hslots
  have r5 : s.vm.findClass "[[I" = some (cy 5) := (hK.2 5 (cy 5, .array .int) rfl).2
  have r0 : s.vm.findClass "[I" = some (cy 0) := (hK.2 0 (cy 0, .int) rfl).2
  cases Option.some.inj (fA.symm.trans r5)
  cases Option.some.inj (fC.symm.trans r0)
  generalize hF : gS (T.setVm vm1) (cy 5) (cy 0) n.toNatClampNeg k.toNatClampNeg n.toNatClampNeg = F at X' step
  have hTh : (T.setVm vm1).heap = H := hT
  obtain ⟨f1, f2, -, -⟩ := gS_facts (T.setVm vm1) (cy 5) (cy 0) n.toNatClampNeg k.toNatClampNeg n.toNatClampNeg
  rw [hF, hTh] at f1 f2
  have hold : ∀ x : Nat, x < H.size → F.heap[x]? = H[x]? := fun x hx => by
    have h9 := gS_old (T.setVm vm1) (cy 5) (cy 0) n.toNatClampNeg k.toNatClampNeg (a := x) (by rw [hTh]; exact hx) n.toNatClampNeg
    rw [hF, hTh] at h9
    exact h9
  have hrow : ∀ j : Nat, j < n.toNatClampNeg → F.heap[H.size + 1 + j]? = some (gI (cy 0) k.toNatClampNeg) := fun j hj => by
    have h9 := gS_in (T.setVm vm1) (cy 5) (cy 0) n.toNatClampNeg k.toNatClampNeg n.toNatClampNeg j hj
    rw [hF, hTh] at h9
    exact h9
  have hin : gI (cy 0) k.toNatClampNeg = vp_cell (cy 0) (k.toNatClampNeg, .inl (fun _ => 0)) := by
    show ({ cls := cy 0, slots := Array.replicate k.toNatClampNeg (.int 0), vm := .none } : Cell) = arrV (cy 0) k.toNatClampNeg (fun _ => .int 0)
    rw [arrV_new]
  have hL : ∀ (j : Nat) (x : Nat × va_E), (kGr cy H.size n.toNatClampNeg k.toNatClampNeg)[j]? = some x → x.1 = H.size + j ∧ va_at D vwCl x F.heap := by
    intro j x hx
    cases j with
    | zero =>
      cases hx
      refine ⟨rfl, ?_⟩
      show F.heap[H.size]? = some (vp_cell _ _)
      rw [f2, gO_row]
      rfl
    | succ j =>
      rw [List.getElem?_cons_succ, List.getElem?_map] at hx
      by_cases hj : j < n.toNatClampNeg
      · rw [List.getElem?_range hj] at hx
        cases hx
        refine ⟨by show H.size + 1 + j = H.size + (j + 1); omega, ?_⟩
        show F.heap[H.size + 1 + j]? = some (vp_cell _ _)
        rw [hrow j hj, hin]
      · rw [List.getElem?_eq_none (by rw [List.length_range]; omega)] at hx
        cases hx
  have hP1 : va_P D vwCl (ws ++ kGr cy H.size n.toNatClampNeg k.toNatClampNeg) F.heap := (hP.kept (fun k9 x hx => hold x.1 ((hP k9 x hx).lt))).app (fun j x hx => (hL j x hx).2)
  have hD1 := k_Dapp hP hD (fun j x hx => (hL j x hx).1) (fun q h => hA q (Nat.le_trans hS.1 h))
  obtain ⟨t, a1, b1⟩ := kk H.size F.heap hP1 hD1 ⟨Nat.le_trans hS.1 (by rw [f1]; omega), fun x h1 h2 => (hold x (Nat.lt_of_lt_of_le h1 hS.1)).trans (hS.2.1 x h1 h2), hS.2.2⟩ F rfl X'
  refine ⟨t, step _ ?_, b1⟩
  have e9 : T.heap.size = H.size := by rw [hT]
  rw [e9]
  exact a1
theorem k_aldA (hexec : p.tables.exec = Jvm.exec) (hb : c.code = cc) (hK : va_K D vwCl (kT cy) s) (hP : va_P D vwCl ws H) (q0 : Nat) {a n : Nat} {f : Nat → Option Nat} (ha : ws[q0]? = some (a, .inl (cy 5, n, .inr (.inr (.inr (.inr f)))))) {i : Int32} (hin : vp_in i n) (hdg : decode cc pc = .ok (.aaload, 1))
    (kk : W p l e R s m args below meth c H locs cells slots Q (F0 m (pc + 1) ls (va_rf (f i.toNatClampNeg) :: rest))) : W p l e R s m args below meth c H locs cells slots Q (F0 m pc ls (.int i :: .ref a :: rest)) := by
  have hlt : i.toNatClampNeg < n := Nat.not_le.mp fun q => hin (Or.inr q)
  exact W.aald (v := va_rf (f i.toNatClampNeg)) (ty := .array .int) hexec hb (hP q0 _ ha) ((hK.2 5 (cy 5, .array .int) rfl).1 n (fun j => va_rf (f j))) rfl (fun q => by cases q) (by show ¬ (i < 0 ∨ (arrV _ _ _).slots.size ≤ _); rw [arrV_size]; exact hin) (by show (arrV _ _ _).slots[_]? = _; rw [arrV_read _ _ hlt]) rfl rfl hdg kk
end KGrid
