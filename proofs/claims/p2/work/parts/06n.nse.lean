/-! NoSuchElementException: its constructor names its superclass's at another place of its pool than the library's rows take. -/
def nB : ByteArray := ⟨#[0x2a, 0x2b, 0xb7, 0x00, 0x0d, 0xb1]⟩
theorem nB_0 : decode nB 0 = .ok (.aload_n 0, 1) := by decide +kernel
theorem nB_1 : decode nB 1 = .ok (.aload_n 1, 1) := by decide +kernel
theorem nB_2 : decode nB 2 = .ok (.invokespecial 13, 3) := by decide +kernel
theorem nB_5 : decode nB 5 = .ok (.return_, 1) := by decide +kernel
def nX : String := "java/util/NoSuchElementException"
def nR : String := "java/lang/RuntimeException"
/-- the words of its throw with a text -/
def nAt (own : String) (ic : Nat) : List Cond :=
  Bundle.throwableAtoms ++ (Bundle.throwableSAtoms ++ (Bundle.passSAtoms nX nR 13 nB ++ (Bundle.chainSAtoms nR ["java/lang/Exception"] ++
  [.methodLink own ic (Bundle.initS nX), .instantiable nX 6, .castable nX nX, .selects nX Bundle.tFill0 Bundle.tFill0, .selects nX Bundle.tFill Bundle.tFill,
   .lays nX Bundle.tN "cause" "Ljava/lang/Throwable;", .lays nX Bundle.tN "stackTrace" Bundle.steD, .lays nX Bundle.tN "suppressedExceptions" Bundle.listD, .lays nX Bundle.tN "detailMessage" "Ljava/lang/String;",
   .isRef (.static Bundle.tN "UNASSIGNED_STACK" Bundle.steD), .isRef (.static Bundle.tN "SUPPRESSED_SENTINEL" Bundle.listD),
   .fieldLink Bundle.tN 198 Bundle.tN "backtrace" "Ljava/lang/Object;", .lays Bundle.tN Bundle.tN "backtrace" "Ljava/lang/Object;", .lays nX Bundle.tN "backtrace" "Ljava/lang/Object;"])))
set_option maxHeartbeats 2000000 in
/-- the constructor runs through, and the throw behind it leaves the method -/
theorem n_ctor {p : Program} {l : Launch} {e : Env} {R : Room} {s : State} {m0 : MethodId} {args : Array Value} {below : List Frame} {meth : Method} {c : Code} {T1 : State} {locs : List Loc} {cells slots : Nat}
    (X : Stand p l e R s m0 args below meth c T1 locs cells slots) (hexec : p.tables.exec = Jvm.exec) (htr : e.platform.stackTraces = false) {own : String} {ic : Nat} (hown : s.vm.findClass own = some m0.cls) (h : ∀ w ∈ nAt own ic, w.before args s = true)
    (hlocs : ∀ x ∈ locs, ∀ cell, s.heap[x.base]? = some cell → cell.vm.isStatics = false) {a : Addr} {cX : ClassId} {kX : Class} (hfX : s.vm.findClass nX = some cX) (hkX : s.vm.classes[cX]? = some kX) (hcell : T1.heap[a]? = some (freshCell cX kX)) (hnew : s.heap.size ≤ a)
    {msg : Value} (hmsg : msg.isRef = true) {g : JFrame} (hg : g.method = m0) (hsize : g.locals.size = c.maxLocals) (hlocked : g.locked = none) (hent : g.entered = []) {rest : List Value} (hstack : g.stack = msg :: .ref a :: .ref a :: rest)
    (hd6 : decode c.code g.pc = .ok (.invokespecial ic, 3)) (hd9 : decode c.code (g.pc + 3) = .ok (.athrow, 1)) (hout : ∀ x ∈ c.exceptionTable.toList, covers x (g.pc + 3) = false)
    (hRf : 5 < R.frames) (hRl : 2 * g.monitorRoom + ((Value.ref a :: rest).map fun v => v.category).sum + 81 ≤ R.locals) (hlocks : meth.locks = false) :
    ∃ U : State, Steps p.tables e below (T1.setTop g) U ∧ U.status = .running ∧ Ended U below (.threw a) ∧ s.WarmedH U.vm ∧ s.sameButNew ({ U with vm := s.vm } : State) locs cells slots ∧ ∃ ce, U.heap[a]? = some ce ∧ ce.vm = .none ∧ s.vm.findClass nX = some ce.cls := by
  have o1 : e.platform.frameOwnsMonitors = true := by rw [X.admits.platform]
  have o2 : e.platform.finalization = false := by rw [X.admits.platform]
  have o3 : e.platform.magicAccessors = ({} : Platform).magicAccessors := by rw [X.admits.platform]
  have hh : ∀ w, w ∈ nAt own ic → w.holds args s none s [] = true := fun w hw => h w hw
  obtain ⟨Tc, Z0, L, -, Y⟩ := ThrowableC.of_atoms (args := args) o1 o2 o3 (fun x hx => h x (by simp [nAt, hx]))
  obtain ⟨Z, M, LZ, LM, hnZ⟩ := Init0T.ofS_atoms (args := args) o3 L Y (fun x hx => h x (by simp [nAt, hx]))
  obtain ⟨P2, Ps, hlen, L2, hLs, hP2m, hk2, hks⟩ := Bundle.chainS (args := args) o3 hnZ ["java/lang/Exception"] nR (by decide) (by decide) (fun x hx => h x (by simp [nAt, hx]))
  obtain ⟨P1, L1, hP1m, hP1s⟩ := PassC.ofS_atoms (args := args) (s := s) o3 (X := nX) (Y := nR) (by decide) (by decide) nB_0 nB_1 nB_2 nB_5 (fun x hx => h x (by simp [nAt, hx]))
  have hl12 := Option.some.inj (hP1s.symm.trans hP2m)
  have hfd : s.vm.findClass nX = some P1.m.cls := findClass_of_methodNamed hP1m
  cases Option.some.inj (hfX.symm.trans hfd)
  obtain ⟨c1, k1, hc1, hk1, hord, -, -, -⟩ := Cond.instantiable_spec (hh (.instantiable nX 6) (by simp [nAt]))
  cases Option.some.inj (hc1.symm.trans hfd)
  cases Option.some.inj (hkX.symm.trans hk1)
  have hs0 : selectMethod e.platform s.vm P1.m.cls Tc.fill0 = .method Tc.fill0 := by
    obtain ⟨c2, r2, m2, q1, q2, q3, q4, -⟩ := Cond.selects_spec (hh (.selects nX Bundle.tFill0 Bundle.tFill0) (by simp [nAt]))
    cases Option.some.inj (q1.symm.trans hfd)
    cases Option.some.inj (q2.symm.trans (State.methodFound?_of_named Y.fill0 (by decide)))
    cases Option.some.inj (q3.symm.trans Y.fill0)
    rw [Launch.admits_selectMethod X.admits]; exact q4
  have hsF : selectMethod e.platform s.vm P1.m.cls Tc.fill = .method Tc.fill := by
    obtain ⟨c2, r2, m2, q1, q2, q3, q4, -⟩ := Cond.selects_spec (hh (.selects nX Bundle.tFill Bundle.tFill) (by simp [nAt]))
    cases Option.some.inj (q1.symm.trans hfd)
    cases Option.some.inj (q2.symm.trans (State.methodFound?_of_named Y.fill (by decide)))
    cases Option.some.inj (q3.symm.trans Y.fill)
    rw [Launch.admits_selectMethod X.admits]; exact q4
  obtain ⟨cs0, hcs0, hiss⟩ := Y.statics
  obtain ⟨u0, hu0⟩ := Cond.staticRefV Y.unassigned L.unassignedStatic L.statics hcs0 hiss (hh (.isRef (.static Bundle.tN "UNASSIGNED_STACK" Bundle.steD)) (by simp [nAt]))
  obtain ⟨sen, hsen⟩ := Cond.staticRefV Y.sentinel L.sentinelStatic L.statics hcs0 hiss (hh (.isRef (.static Bundle.tN "SUPPRESSED_SENTINEL" Bundle.listD)) (by simp [nAt]))
  obtain ⟨ci8, i8, fB, hk8, hg8, ha8, hsB, -, hnB, htB, hffB⟩ := Cond.ownField (t := .object "java/lang/Object") Y.found L.cls (by decide +kernel) (hh (.fieldLink Bundle.tN 198 Bundle.tN "backtrace" "Ljava/lang/Object;") (by simp [nAt])) (hh (.lays Bundle.tN Bundle.tN "backtrace" "Ljava/lang/Object;") (by simp [nAt])) e.platform o3
  obtain ⟨cs1, hcs1, hes, -, hkp⟩ := X.same.2.2.2.2.2 Tc.aS cs0 hcs0
  have hcs1 : T1.heap[Tc.aS]? = some cs1 := hcs1
  have hno : ∀ i, (⟨Tc.aS, i⟩ : Loc) ∉ locs := fun i hm => by
    have h9 := hlocs _ hm cs0 hcs0
    rw [hiss] at h9; cases h9
  have hkn : cs1.vm ≠ .unknown := by
    rw [hes]; intro hu
    rw [show cs0.vm = .unknown from hu] at hiss
    cases hiss
  have hne : Tc.aS ≠ a := Nat.ne_of_lt (Nat.lt_of_lt_of_le (Array.getElem?_eq_some_iff.mp hcs0).1 hnew)
  obtain ⟨iM, hffM⟩ := Y.msg
  obtain ⟨tC, dC, hdC, hdnC⟩ := Cond.laysAt hfd hk1 Y.cause (hh (.lays nX Bundle.tN "cause" "Ljava/lang/Throwable;") (by simp [nAt]))
  obtain ⟨tS, dS, hdS, hdnS⟩ := Cond.laysAt hfd hk1 Y.stack (hh (.lays nX Bundle.tN "stackTrace" Bundle.steD) (by simp [nAt]))
  obtain ⟨tP, dP, hdP, hdnP⟩ := Cond.laysAt hfd hk1 Y.supp (hh (.lays nX Bundle.tN "suppressedExceptions" Bundle.listD) (by simp [nAt]))
  obtain ⟨tM, dM, hdM, hdnM⟩ := Cond.laysAt hfd hk1 hffM (hh (.lays nX Bundle.tN "detailMessage" "Ljava/lang/String;") (by simp [nAt]))
  obtain ⟨tB, dB, hdB, hdnB⟩ := Cond.laysAt hfd hk1 hffB (hh (.lays nX Bundle.tN "backtrace" "Ljava/lang/Object;") (by simp [nAt]))
  have bC := Cond.laysApart hdB hdC hdnB hdnC (by rw [hnB, Y.causeName]; decide)
  have bS := Cond.laysApart hdB hdS hdnB hdnS (by rw [hnB, Y.stackName]; decide)
  have bP := Cond.laysApart hdB hdP hdnB hdnP (by rw [hnB, Y.suppName]; decide)
  have hskip : SkipFacts Tc e.platform s (fun u => u) u0 ((preparedCellV Tc.toThrowableT (freshCell P1.m.cls kX) a u0 sen).withEntry T1.cur) :=
    ⟨{ ci198 := ci8, i198 := i8, fBack := fB }, ⟨hk8, hg8, ha8, hsB⟩, by
      have h9 := fresh_default (c := P1.m.cls) tB
      rw [htB] at h9
      simpa [preparedCellV, Cell.setSlot, Cell.withEntry, Array.getElem?_setIfInBounds, bC, bS, bP, bC.symm, bS.symm, bP.symm, defaultValue] using h9, fun _ _ => rfl⟩
  obtain ⟨tm, mC, cdC, kC, vm1, hnC, -, -, -, -, -, -, -, hW1, st1⟩ := Steps.initColdS (tb := p.tables) (e := e) (below := below) (s := s) (U := T1) X.here hexec X.warmed o3 hown (t := Bundle.initS nX) rfl rfl (by decide)
    (hh (.methodLink own ic (Bundle.initS nX)) (by simp [nAt])) (h (.instanceMethod (Bundle.initS nX)) (by simp [nAt, Bundle.passSAtoms])) (bytes := nB) (maxL := 2) (h (.code (Bundle.initS nX) nB 2 none) (by simp [nAt, Bundle.passSAtoms]))
    (f := g) hg (a := a) (msg := msg) (rest := .ref a :: rest) hstack hd6
  cases Option.some.inj (hnC.symm.trans hP1m)
  have X1 := X.noted hW1
  obtain ⟨vm2, X2, st2⟩ := X1.ctorMessageOffV hexec (g := { g with stack := .ref a :: rest }) hg hsize Tc L Z LZ M LM (P1 :: P2 :: Ps)
    (fun P hP => by
      rcases List.mem_cons.mp hP with rfl | hP
      · exact L1
      · rcases List.mem_cons.mp hP with rfl | hP
        · exact L2
        · exact hLs P hP) ⟨hl12, hk2, hks⟩ (u0 := u0) (sen := sen) (self := a) hmsg (cell := freshCell P1.m.cls kX) (cellS := cs1)
    hcell (fun _ => by simp) (by simp) rfl rfl hs0 hsF hcs1 hne hkn (by rw [hkp _ (hno _)]; exact hu0) (by rw [hkp _ (hno _)]; exact hsen)
    (Takes.of_laid hk1 hord tC (by rw [Y.causeType]; rfl)) (Takes.of_laid hk1 hord tS (by rw [Y.stackType]; exact fits_refV_array _ u0)) (Takes.of_laid hk1 hord tP (by rw [Y.suppType]; exact fits_refV_object _ sen))
    (Takes.of_laid hk1 hord tM (by rw [Y.msgType]; exact fits_refV_object _ ⟨msg, hmsg⟩)) Y.objLocals hskip htr [] hd6
    (by simp only [List.length_cons, hlen, List.length_nil]; omega) (by simp only [List.length_cons, hlen, List.length_nil]; omega)
  obtain ⟨hwalk, hrun, hended, hWU, hsame⟩ := X2.athrowLeaves hexec (g := { g with stack := .ref a :: rest, pc := g.pc + 3 }) hg hlocked hent hout (a := a) (rest := rest) rfl hd9
  have hlt : a < ((T1.setVm vm1).setVm vm2).heap.size := (Array.getElem?_eq_some_iff.mp hcell).1
  have hU := heapAt_setCell_self (s := (T1.setVm vm1).setVm vm2) (plainBareV Tc.toThrowableT (freshCell P1.m.cls kX) a u0 sen msg) hlt
  refine ⟨_, st1 _ (fun acts => ?_), hrun, hended, hWU, hsame.weaken (fun y hy hlt' => ?_) (Nat.le_refl _) (Nat.le_refl _), _, hU, rfl, hfd⟩
  · rw [doInvoke_state]
    exact st2 _ hwalk
  · rcases List.mem_append.mp hy with h1 | h1
    · exact h1
    · exfalso
      have hb : y.base = a := by
        simp only [List.mem_cons, List.not_mem_nil, or_false] at h1
        rcases h1 with rfl | rfl | rfl | rfl | rfl <;> rfl
      rw [hb] at hlt'
      exact Nat.not_lt.mpr hnew hlt'
