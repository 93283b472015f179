/-! Rows of rows of ints: 'new int[n][k]', the outer row at the next address, the inner ones right behind it. -/
/-- an inner row -/
def gI (comp : ClassId) (K : Nat) : Cell := { cls := comp, slots := Array.replicate K (.int 0), vm := .none }
/-- the outer row, when i inner ones are made -/
def gO (c : ClassId) (N h : Nat) : Nat → Cell
  | 0 => { cls := c, slots := Array.replicate N .null, vm := .none }
  | i + 1 => (gO c N h i).setSlot i (.ref (h + 1 + i))
/-- the state then -/
def gS (s : State) (c comp : ClassId) (N K : Nat) : Nat → State
  | 0 => s.pushCell (gO c N s.heap.size 0)
  | i + 1 => ((gS s c comp N K i).pushCell (gI comp K)).setCell s.heap.size (gO c N s.heap.size (i + 1))
theorem gO_facts (c : ClassId) (N h : Nat) : ∀ i, (gO c N h i).cls = c ∧ (gO c N h i).vm = .none ∧ (gO c N h i).slots.size = N
  | 0 => ⟨rfl, rfl, by simp [gO]⟩
  | i + 1 => by
    obtain ⟨h1, h2, h3⟩ := gO_facts c N h i
    exact ⟨by simp [gO, Cell.setSlot, h1], by simp [gO, Cell.setSlot, h2], by simp [gO, Cell.setSlot, h3]⟩
theorem gS_facts (s : State) (c comp : ClassId) (N K : Nat) : ∀ i, (gS s c comp N K i).heap.size = s.heap.size + 1 + i ∧ (gS s c comp N K i).heap[s.heap.size]? = some (gO c N s.heap.size i) ∧ (gS s c comp N K i).vm = s.vm ∧ (gS s c comp N K i).slotsUsed = s.slotsUsed + N + i * K
  | 0 => ⟨by simp [gS], by simp [gS], rfl, by simp [gS, gO]⟩
  | i + 1 => by
    obtain ⟨h1, h2, h3, h4⟩ := gS_facts s c comp N K i
    have lt : s.heap.size < (gS s c comp N K i).heap.size := by omega
    have h5 : ((gS s c comp N K i).pushCell (gI comp K)).heap[s.heap.size]? = some (gO c N s.heap.size i) := by rw [State.heap_pushCell_of_lt (h := lt)]; exact h2
    refine ⟨?_, State.heap_setCell_self h5, by simp [gS, h3], ?_⟩
    · simp [gS, State.setCell, h1]; omega
    · simp [gS, h4, gI, Nat.succ_mul]; omega
theorem gS_top (s : State) (f : JFrame) (c comp : ClassId) (N K : Nat) : ∀ i, gS (s.setTop f) c comp N K i = (gS s c comp N K i).setTop f
  | 0 => rfl
  | i + 1 => by simp only [gS, gS_top s f c comp N K i, State.heap_setTop, State.pushCell_setTop, State.setCell_setTop]
theorem gS_old (s : State) (c comp : ClassId) (N K : Nat) {a : Addr} (ha : a < s.heap.size) : ∀ i, (gS s c comp N K i).heap[a]? = s.heap[a]?
  | 0 => State.heap_pushCell_of_lt _ _ ha
  | i + 1 => by
    have h1 := (gS_facts s c comp N K i).1
    have lt : a < (gS s c comp N K i).heap.size := Nat.lt_of_lt_of_le ha (by rw [h1]; omega)
    show (((gS s c comp N K i).pushCell (gI comp K)).setCell s.heap.size _).heap[a]? = _
    rw [State.heap_setCell_other (Nat.ne_of_gt ha), State.heap_pushCell_of_lt (h := lt)]
    exact gS_old s c comp N K ha i
theorem gS_in (s : State) (c comp : ClassId) (N K : Nat) : ∀ i j, j < i → (gS s c comp N K i).heap[s.heap.size + 1 + j]? = some (gI comp K)
  | 0, _, h => absurd h (Nat.not_lt_zero _)
  | i + 1, j, h => by
    have h1 := (gS_facts s c comp N K i).1
    show (((gS s c comp N K i).pushCell (gI comp K)).setCell s.heap.size _).heap[s.heap.size + 1 + j]? = _
    rw [State.heap_setCell_other (show s.heap.size ≠ s.heap.size + 1 + j by omega)]
    rcases Nat.lt_or_ge j i with hj | hj
    · have lt : s.heap.size + 1 + j < (gS s c comp N K i).heap.size := by rw [h1]; omega
      rw [State.heap_pushCell_of_lt (h := lt)]
      exact gS_in s c comp N K i j hj
    · have e : j = i := by omega
      subst e
      rw [← h1]
      exact State.heap_pushCell_size _ _
theorem gO_row (c : ClassId) (N h : Nat) : ∀ i : Nat, gO c N h i = arrV c N (fun j => va_rf (if j < i then some (h + 1 + j) else none))
  | 0 => by
    show ({ cls := c, slots := Array.replicate N .null, vm := .none } : Cell) = _
    rw [arrV_new]
    refine congrArg (arrV c N) (funext fun j => ?_)
    simp [va_rf]
  | i + 1 => by
    show (gO c N h i).setSlot i (.ref (h + 1 + i)) = _
    rw [gO_row c N h i, arrV_store]
    refine congrArg (arrV c N) (funext fun j => ?_)
    by_cases e : j = i
    · subst e
      simp [updV, va_rf]
    · by_cases hj : j < i
      · simp [updV, e, hj, Nat.lt_succ_of_lt hj]
      · simp [updV, e, hj, show ¬ j < i + 1 by omega]
section GW
variable {E : CtlPost} {e : Env} {d : Bool} {acts : List Action} {s : State}
theorem g_newArray {c comp : ClassId} {k : Class} {type : FieldType} {len : Nat} {init : Value} (hk : s.vm.classes[c]? = some k) (hkind : k.kind = .array comp type) (h1 : ¬ len > e.platform.arrayLengthLimit) (h2 : ¬ len * componentBytes type > e.platform.maxHeapBytes) (hfit : fits type init = true) (hdef : init.isDefault = true) {Q : Addr → Pre}
    (h3 : s.heap.size < e.platform.maxCells) (h4 : s.slotsUsed + len ≤ e.platform.maxSlots) (hq : Q s.heap.size d acts (s.pushCell { cls := c, slots := Array.replicate len init, vm := .none })) : wp (Jvm.newArray c len init) Q E e d acts s := by
  have f1 : ∀ i v, (Array.replicate len init)[i]? = some v → s.fitsSlot c .none i v = true := by
    intro i v hv
    simp only [Array.getElem?_replicate] at hv
    split at hv
    · cases hv; simp [State.fitsSlot, State.slotType?, hk, hkind, hfit]
    · cases hv
  have f2 : allocActs (Array.replicate len init) s.heap.size acts = acts := by
    have ha : ((Array.replicate len init).all (·.isDefault)) = true := by
      rw [Array.all_replicate]; split <;> simp [hdef]
    unfold allocActs; rw [if_pos ha]
  simp only [Jvm.newArray, Jvm.arrayFits, wp_bind', _root_.Jvm.W.ask, _root_.Jvm.W.ite, h1, if_false, wp_pure', _root_.Jvm.W.theClass, hk, hkind, h2, _root_.Jvm.W.alloc, _root_.Jvm.W.stop, Option.some.injEq, exists_eq_left', Array.size_replicate, f2]
  rw [if_neg (by omega)]
  exact ⟨h3, h4, f1, hq⟩
theorem g_make1 {comp cc : ClassId} {kc : Class} {m : Int32} (hkc : s.vm.classes[comp]? = some kc) (hkind : kc.kind = .array cc .int) (hm : ¬ m < 0) (h1 : ¬ m.toNatClampNeg > e.platform.arrayLengthLimit) (h2 : ¬ m.toNatClampNeg * componentBytes .int > e.platform.maxHeapBytes) (h3 : s.heap.size < e.platform.maxCells) (h4 : s.slotsUsed + m.toNatClampNeg ≤ e.platform.maxSlots)
    {Q : Addr → Pre} (hq : Q s.heap.size d acts (s.pushCell (gI comp m.toNatClampNeg))) : wp (multianewarray.make comp [m]) Q E e d acts s := by
  rw [multianewarray.make]
  simp only [wp_bind', _root_.Jvm.W.ite, hm, if_false, wp_pure', _root_.Jvm.W.theClass, hkc, hkind, Option.some.injEq, exists_eq_left']
  exact g_newArray hkc hkind h1 h2 rfl rfl h3 h4 hq
theorem g_make2 {c comp cc : ClassId} {k kc : Class} {n m : Int32} (hk : s.vm.classes[c]? = some k) (hkind : k.kind = .array comp (.array .int)) (hkc : s.vm.classes[comp]? = some kc) (hkindc : kc.kind = .array cc .int) (hn : ¬ n < 0) (hm : ¬ m < 0)
    (hl1 : ¬ n.toNatClampNeg > e.platform.arrayLengthLimit) (hh1 : ¬ n.toNatClampNeg * componentBytes (.array .int) > e.platform.maxHeapBytes) (hl2 : ¬ m.toNatClampNeg > e.platform.arrayLengthLimit) (hh2 : ¬ m.toNatClampNeg * componentBytes .int > e.platform.maxHeapBytes)
    (hc : s.heap.size + 1 + n.toNatClampNeg ≤ e.platform.maxCells) (hs : s.slotsUsed + n.toNatClampNeg + n.toNatClampNeg * m.toNatClampNeg ≤ e.platform.maxSlots)
    {Q : Addr → Pre} (hq : ∀ d' acts', Q s.heap.size d' acts' (gS s c comp n.toNatClampNeg m.toNatClampNeg n.toNatClampNeg)) : wp (multianewarray.make c [n, m]) Q E e d acts s := by
  have hfind : ([m].find? (· < 0)) = none := by simp [hm]
  rw [multianewarray.make]
  simp only [wp_bind', _root_.Jvm.W.ite, hn, if_false, wp_pure', _root_.Jvm.W.theClass, hk, hkind, Option.some.injEq, exists_eq_left']
  refine g_newArray hk hkind hl1 hh1 rfl rfl (by omega) (by have := Nat.zero_le (n.toNatClampNeg * m.toNatClampNeg); omega) ?_
  simp only [hfind]
  rw [ite_self, wp_bind', Std.Legacy.Range.forIn_eq_forIn_range']
  have hsz : ([:n.toNatClampNeg] : Std.Legacy.Range).size = n.toNatClampNeg := by simp [Std.Legacy.Range.size]
  rw [hsz]
  show wp (forIn (List.range' 0 n.toNatClampNeg 1) PUnit.unit _) _ E e d acts _
  refine wp_forIn_inv (fun rest s' => ∃ i, i ≤ n.toNatClampNeg ∧ rest = List.range' i (n.toNatClampNeg - i) ∧ s' = gS s c comp n.toNatClampNeg m.toNatClampNeg i) _ _ ⟨0, Nat.zero_le _, rfl, rfl⟩ ?_ ?_
  · rintro x rest s' d' acts' Q' ⟨i, hi, hl, rfl⟩ hnext
    have lt : i < n.toNatClampNeg := by
      rcases Nat.lt_or_ge i n.toNatClampNeg with h | h
      · exact h
      · rw [show n.toNatClampNeg - i = 0 from by omega] at hl; simp at hl
    obtain ⟨rfl, hrest⟩ : x = i ∧ rest = List.range' (i + 1) (n.toNatClampNeg - (i + 1)) := by
      rw [show n.toNatClampNeg - i = (n.toNatClampNeg - (i + 1)) + 1 from by omega, List.range'_succ] at hl
      exact ⟨(List.cons.inj hl).1, (List.cons.inj hl).2⟩
    obtain ⟨f1, f2, f3, f4⟩ := gS_facts s c comp n.toNatClampNeg m.toNatClampNeg x
    obtain ⟨o1, o2, o3⟩ := gO_facts c n.toNatClampNeg s.heap.size x
    have hmul : x * m.toNatClampNeg + m.toNatClampNeg ≤ n.toNatClampNeg * m.toNatClampNeg := by
      have h9 := Nat.mul_le_mul_right m.toNatClampNeg (show x + 1 ≤ n.toNatClampNeg from lt)
      rw [Nat.succ_mul] at h9; exact h9
    simp only [wp_bind']
    refine g_make1 (by rw [f3]; exact hkc) hkindc hm hl2 hh2 (by rw [f1]; omega) (by rw [f4]; omega) ?_
    have lt0 : s.heap.size < (gS s c comp n.toNatClampNeg m.toNatClampNeg x).heap.size := by rw [f1]; omega
    simp only [wp_bind', _root_.Jvm.W.writeLoc, wp_pure']
    refine ⟨gO c n.toNatClampNeg s.heap.size x, by rw [State.heap_pushCell_of_lt (h := lt0)]; exact f2, by rw [o2]; simp, by rw [o3]; exact lt, ?_, hnext _ _ _ ⟨x + 1, lt, hrest, ?_⟩⟩
    · rw [o1, o2]
      simp [State.fitsSlot, State.slotType?, f3, hk, hkind, fits]
    · rw [f1]; rfl
  · rintro s' d' acts' ⟨i, hi, hl, rfl⟩
    have e9 : i = n.toNatClampNeg := by
      rcases Nat.lt_or_ge i n.toNatClampNeg with h | h
      · rw [show n.toNatClampNeg - i = (n.toNatClampNeg - (i + 1)) + 1 from by omega, List.range'_succ] at hl; cases hl
      · omega
    subst e9
    simp only [wp_pure']
    exact hq _ _
end GW
/-- what the tables say of the class of rows of rows of ints -/
def kAO (U : State) : Prop := ∃ (comp c : ClassId) (k : Class), U.vm.findClass "[I" = some comp ∧ U.vm.classes[c]? = some k ∧ k.kind = .array comp (.array .int) ∧ U.vm.findClass "[[I" = some c
theorem kAO.moved {u U : State} (hvm : u.vm.Alike U.vm) (h : kAO u) : kAO U := by
  obtain ⟨comp, c, k, h1, h2, h3, h4⟩ := h
  obtain ⟨k', hk', he⟩ := hvm.2.2 _ _ h2
  exact ⟨comp, c, k', by rw [hvm.findClass]; exact h1, hk', by rw [he]; exact h3, by rw [hvm.findClass]; exact h4⟩
theorem kAO.of {A : Array Value} {U : State} (h : (Cond.arrayOver (.array .int)).before A U = true) : kAO U := by
  simp only [Cond.before, Cond.holds, Cond.value, beq_iff_eq] at h
  cases hc : U.vm.findClass (FieldType.array .int).toString with
  | none => simp [hc] at h
  | some comp =>
    simp only [hc, Option.bind_some, Option.bind_eq_some_iff, Option.map_eq_some_iff] at h
    obtain ⟨c, hi, k, hk, hb⟩ := h
    obtain ⟨hlt, hp, -⟩ := Array.findIdx?_eq_some_iff_getElem.mp hi
    have hkk : U.vm.classes[c] = k := (Array.getElem?_eq_some_iff.mp hk).2
    rw [hkk] at hp
    cases hkind : k.kind with
    | array component ty =>
      rw [hkind] at hb hp
      simp at hb hp
      exact ⟨comp, c, k, hc, hk, by rw [hkind, hp, hb.1], hb.2⟩
    | _ => rw [hkind] at hb; simp at hb
section GS
variable {p : Program} {l : Launch} {e : Env} {R : Room} {s : State} {m : MethodId} {args : Array Value} {below : List Frame} {meth : Method} {c : Code} {T : State} {locs : List Loc} {cells slots : Nat}
theorem g_filled (X : Stand p l e R s m args below meth c T locs cells slots) (cA comp : ClassId) (N K : Nat) :
    ∀ i, Stand p l e R s m args below meth c (gS T cA comp N K i) (locs ++ (List.range i).map fun j => ⟨T.heap.size, j⟩) (cells + 1 + i) (slots + N + i * K)
  | 0 => by
    have h := X.pushed (gO cA N T.heap.size 0)
    rw [(gO_facts cA N T.heap.size 0).2.2] at h
    simpa [gS] using h
  | i + 1 => by
    have Xi := g_filled X cA comp N K i
    obtain ⟨f1, f2, f3, f4⟩ := gS_facts T cA comp N K i
    have lt : T.heap.size < (gS T cA comp N K i).heap.size := by rw [f1]; omega
    have hcell : ((gS T cA comp N K i).pushCell (gI comp K)).heap[T.heap.size]? = some (gO cA N T.heap.size i) := by rw [State.heap_pushCell_of_lt (h := lt)]; exact f2
    have h := (Xi.pushed (gI comp K)).stored hcell i (.ref (T.heap.size + 1 + i))
    have e1 : (gI comp K).slots.size = K := by simp [gI]
    rw [e1] at h
    have e2 : (locs ++ (List.range (i + 1)).map fun j => (⟨T.heap.size, j⟩ : Loc)) = (locs ++ (List.range i).map fun j => (⟨T.heap.size, j⟩ : Loc)) ++ [⟨T.heap.size, i⟩] := by simp [List.range_succ, List.append_assoc]
    have e3 : slots + N + (i + 1) * K = slots + N + i * K + K := by rw [Nat.succ_mul]; omega
    rw [e2, e3]
    exact h
theorem g_multi (X : Stand p l e R s m args below meth c T locs cells slots) (hexec : p.tables.exec = Jvm.exec) {own : String} {index : Nat} (hown : s.vm.findClass own = some m.cls) (hclink : (Cond.classLink own index "[[I").before args s = true) (hover : kAO s) (harr : (Cond.arrayClass .int).before args s = true)
    {g : JFrame} (hg : g.method = m) (hdg : decode c.code g.pc = .ok (.multianewarray index 2, 4)) {n k : Int32} {rest : List Value} (hstack : g.stack = .int k :: .int n :: rest) (hn : ¬ n < 0) (hk : ¬ k < 0) (hb1 : n.toNatClampNeg * 4 ≤ 536870912) (hb2 : k.toNatClampNeg * 4 ≤ 536870912)
    (hcells : cells + (1 + n.toNatClampNeg) ≤ R.cells) (hslots : slots + (n.toNatClampNeg + n.toNatClampNeg * k.toNatClampNeg) ≤ R.slots) :
    ∃ (vm1 : Vm) (cA comp : ClassId), s.vm.findClass "[[I" = some cA ∧ s.vm.findClass "[I" = some comp ∧ Stand p l e R s m args below meth c (gS (T.setVm vm1) cA comp n.toNatClampNeg k.toNatClampNeg n.toNatClampNeg) locs (cells + 1 + n.toNatClampNeg) (slots + n.toNatClampNeg + n.toNatClampNeg * k.toNatClampNeg) ∧
      ∀ target, Steps p.tables e below ((gS (T.setVm vm1) cA comp n.toNatClampNeg k.toNatClampNeg n.toNatClampNeg).setTop { g with pc := g.pc + 4, stack := .ref T.heap.size :: rest }) target → Steps p.tables e below (T.setTop g) target := by
  subst hg
  have hpl : e.platform.magicAccessors = ({} : Platform).magicAccessors := by rw [X.admits.platform]
  obtain ⟨comp, cA, kA, hcomp, hkA, hkindA, hnameA⟩ := hover
  obtain ⟨comp', kC, cc, hcomp', hkC, hkindC⟩ := Cond.arrayClass_spec harr
  have ecomp : comp' = comp := Option.some.inj (hcomp'.symm.trans hcomp)
  subst ecomp
  obtain ⟨c0, hfc0, hcl⟩ := Cond.classLink_spec hown hclink e.platform hpl
  cases hnameA.symm.trans hfc0
  obtain ⟨hg1, hwarm1, hready1⟩ := State.classEntry (e := e) X.warmed hcl
  generalize T.vm.noted g.method.cls index (.cls cA) = vm1 at hg1 hwarm1 hready1
  obtain ⟨kA1, hkA1, heA⟩ := hwarm1.alike.2.2 _ _ hkA
  obtain ⟨kC1, hkC1, heC⟩ := hwarm1.alike.2.2 _ _ hkC
  have hkindA1 : kA1.kind = .array comp' (.array .int) := by rw [heA]; exact hkindA
  have hkindC1 : kC1.kind = .array cc .int := by rw [heC]; exact hkindC
  have X1 := X.noted hwarm1
  obtain ⟨hr1, hr2⟩ := X.roomAbove hcells hslots
  have XF := g_filled X1 cA comp' n.toNatClampNeg k.toNatClampNeg n.toNatClampNeg
  have XD := XF.dropFresh (locs := locs) (fun x hx => by
    obtain ⟨j, -, rfl⟩ := List.mem_map.mp hx
    exact X.heapGrown)
  refine ⟨vm1, cA, comp', hnameA, hcomp, XD, fun target hrest => ?_⟩
  have hl1 : ¬ n.toNatClampNeg > e.platform.arrayLengthLimit := by rw [Launch.admits_arrayLengthLimit X.admits]; omega
  have hh1 : ¬ n.toNatClampNeg * componentBytes (.array .int) > e.platform.maxHeapBytes := by
    rw [Launch.admits_maxHeapBytes X.admits]; show ¬ n.toNatClampNeg * 4 > 536870912; omega
  have hl2 : ¬ k.toNatClampNeg > e.platform.arrayLengthLimit := by rw [Launch.admits_arrayLengthLimit X.admits]; omega
  have hh2 : ¬ k.toNatClampNeg * componentBytes .int > e.platform.maxHeapBytes := by
    rw [Launch.admits_maxHeapBytes X.admits]; show ¬ k.toNatClampNeg * 4 > 536870912; omega
  jvm_step X.here [hexec, hdg]
  simp only [multianewarray.sem, wp_bind', _root_.Jvm.W.resolveClassAt_links (State.method?_setTop g X.here.top) hg1]
  rw [_root_.Jvm.W.popN, if_neg (by decide)]
  refine ⟨g, State.topJava?_setTop' (s := T.setVm vm1) g X.here.top, [.int n, .int k], rest, rfl, hstack, ?_⟩
  simp only [List.mapM_cons, List.mapM_nil, wp_bind', wp_pure']
  refine g_make2 (k := kA1) (kc := kC1) (comp := comp') (cc := cc) hkA1 hkindA1 hkC1 hkindC1 hn hk hl1 hh1 hl2 hh2 (by show T.heap.size + 1 + _ ≤ _; omega) (by show T.slotsUsed + _ + _ ≤ _; omega) (fun d' acts' => ?_)
  have eS : ((T.setTop g).setVm vm1).setTop { g with stack := rest } = (T.setVm vm1).setTop { g with stack := rest } := by
    show ((T.setVm vm1).setTop g).setTop _ = _
    rw [State.setTop_setTop]
  rw [eS, gS_top]
  simp only [wp_bind', _root_.Jvm.W.mark, _root_.Jvm.W.pushRef, State.topJava?_setTop' _ XF.here.top, Option.some.injEq, exists_eq_left', State.setTop_setTop, State.heap_setTop]
  intro acts
  simp [jvm, XF.here.top]
  exact hrest
end GS
