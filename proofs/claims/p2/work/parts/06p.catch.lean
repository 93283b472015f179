/-! Catching: a table all of whose rows cover the call, each naming a class; the first that takes the thrown object. -/
/-- the search of a table ends at the handler h -/
def kCat (pl : Platform) (s0 : State) (d : ClassId) (pc : Nat) (thrown : ClassId) (h : Nat) : List ExceptionTableEntry → Prop
  | [] => False
  | x :: t => covers x pc = true ∧ x.catchType ≠ 0 ∧ ∃ cc : ClassId, s0.vm.ClassLinks pl d x.catchType cc ∧ ((s0.vm.assignable thrown cc = true ∧ x.handlerPc = h) ∨ (s0.vm.assignable thrown cc = false ∧ kCat pl s0 d pc thrown h t))
theorem kc_yes {Q : Handler → Pre} {E : CtlPost} {e : Env} {d : Bool} {acts : List Action} {s : State} {f : JFrame} {a : Addr} {x : ExceptionTableEntry} {t : List ExceptionTableEntry} {cc : ClassId} {cell : Cell} (hx : covers x f.pc = true) (h0 : x.catchType ≠ 0)
    (hl : s.vm.ClassLinks e.platform f.method.cls x.catchType cc) (hcell : s.heap[a]? = some cell) (hobj : ∀ k, cell.vm ≠ .statics k) (k1 : ∃ k, s.vm.classes[cell.cls]? = some k) (k2 : ∃ k, s.vm.classes[cc]? = some k) (hb : s.vm.assignable cell.cls cc = true) :
    wp (findHandler.go f a (x :: t)) Q E e d acts s ↔ Q (.found x.handlerPc) d acts (s.setVm (s.vm.noted f.method.cls x.catchType (.cls cc))) := by
  simp only [covers] at hx
  obtain ⟨g1, g2⟩ := (resolveClass_links e.toSetting hl).op (op := VmOp.resolveClass f.method.cls x.catchType) rfl
  have al : s.vm.Alike (s.vm.noted f.method.cls x.catchType (.cls cc)) := (Vm.Alike.refl s.vm).noted _ _ _
  obtain ⟨_, k1⟩ := k1
  obtain ⟨_, k2⟩ := k2
  obtain ⟨_, k1, -⟩ := al.2.2 _ _ k1
  obtain ⟨_, k2, -⟩ := al.2.2 _ _ k2
  have hb2 : (s.vm.noted f.method.cls x.catchType (.cls cc)).assignable cell.cls cc = true := by rw [al.assignable]; exact hb
  simp [findHandler.go, hx, h0, g1, g2, hcell, hobj, k1, k2, hb2, VmOp.dirties, VmOp.acts]
theorem kc_no {Q : Handler → Pre} {E : CtlPost} {e : Env} {d : Bool} {acts : List Action} {s : State} {f : JFrame} {a : Addr} {x : ExceptionTableEntry} {t : List ExceptionTableEntry} {cc : ClassId} {cell : Cell} (hx : covers x f.pc = true) (h0 : x.catchType ≠ 0)
    (hl : s.vm.ClassLinks e.platform f.method.cls x.catchType cc) (hcell : s.heap[a]? = some cell) (hobj : ∀ k, cell.vm ≠ .statics k) (k1 : ∃ k, s.vm.classes[cell.cls]? = some k) (k2 : ∃ k, s.vm.classes[cc]? = some k) (hb : s.vm.assignable cell.cls cc = false) :
    wp (findHandler.go f a (x :: t)) Q E e d acts s ↔ wp (findHandler.go f a t) Q E e d acts (s.setVm (s.vm.noted f.method.cls x.catchType (.cls cc))) := by
  simp only [covers] at hx
  obtain ⟨g1, g2⟩ := (resolveClass_links e.toSetting hl).op (op := VmOp.resolveClass f.method.cls x.catchType) rfl
  have al : s.vm.Alike (s.vm.noted f.method.cls x.catchType (.cls cc)) := (Vm.Alike.refl s.vm).noted _ _ _
  obtain ⟨_, k1⟩ := k1
  obtain ⟨_, k2⟩ := k2
  obtain ⟨_, k1, -⟩ := al.2.2 _ _ k1
  obtain ⟨_, k2, -⟩ := al.2.2 _ _ k2
  have hb2 : (s.vm.noted f.method.cls x.catchType (.cls cc)).assignable cell.cls cc = false := by rw [al.assignable]; exact hb
  simp [findHandler.go, hx, h0, g1, g2, hcell, hobj, k1, k2, hb2, VmOp.dirties, VmOp.acts]
theorem kc_go {e : Env} {s0 : State} {f : JFrame} {a : Addr} {cell : Cell} {h : Nat} (hobj : ∀ k, cell.vm ≠ .statics k) (hk0 : ∃ k, s0.vm.classes[cell.cls]? = some k) :
    ∀ (L : List ExceptionTableEntry) (S : State), s0.WarmedH S.vm → S.heap[a]? = some cell → kCat e.platform s0 f.method.cls f.pc cell.cls h L →
      ∃ vm', s0.WarmedH vm' ∧ ∀ (Q : Handler → Pre) (E : CtlPost) (d : Bool) (acts : List Action), wp (findHandler.go f a L) Q E e d acts S ↔ Q (.found h) d acts (S.setVm vm')
  | [], _, _, _, hc => hc.elim
  | x :: t, S, hW, hcell, hc => by
    obtain ⟨k0, hk⟩ := hk0
    obtain ⟨hx, h0, cc, hl, hor⟩ := hc
    obtain ⟨k0', hk', -⟩ := hW.alike.2.2 _ _ hk
    obtain ⟨dk, _, _, kt, hd, _, _, _, _, hkt, _, hopen⟩ := hl.here
    obtain ⟨kt', hkt', -⟩ := hW.alike.2.2 _ _ hkt
    have hW2 := hW.noted hd hopen (State.rightAt_cls hl)
    rcases hor with ⟨hb, rfl⟩ | ⟨hb, ht⟩
    · exact ⟨_, hW2, fun Q E d acts => kc_yes hx h0 (hW.classLinks hl) hcell hobj ⟨k0', hk'⟩ ⟨kt', hkt'⟩ (by rw [hW.alike.assignable]; exact hb)⟩
    · obtain ⟨vm', hW', hq⟩ := kc_go hobj ⟨k0, hk⟩ t (S.setVm (S.vm.noted f.method.cls x.catchType (.cls cc))) hW2 hcell ht
      exact ⟨vm', hW', fun Q E d acts => (kc_no hx h0 (hW.classLinks hl) hcell hobj ⟨k0', hk'⟩ ⟨kt', hkt'⟩ (by rw [hW.alike.assignable]; exact hb)).trans (hq Q E d acts)⟩
theorem kc_frames (u : State) (vm' : Vm) (F G : List Frame) : ((u.setFrames F).setVm vm').setFrames G = (u.setVm vm').setFrames G := by
  show ((u.setVm vm').setFrames F).setFrames G = _
  rw [State.setFrames_setFrames]
/-- one step of the unwinding, into the handler -/
theorem kc_steps {tb : Tables} {e : Env} {s target : State} {g : JFrame} {c : Code} {below : List Frame} {a : Addr} (h : At s g.method c below) {pc : Nat} {vm' : Vm}
    (hf : ∀ (Q : Handler → Pre) (E : CtlPost) (d : Bool) (acts : List Action), wp (findHandler g a) Q E e d acts ((s.setTop g).pushFrame (.throwing a)) ↔ Q (.found pc) d acts (((s.setTop g).pushFrame (.throwing a)).setVm vm'))
    (hr : Steps tb e below ((s.setVm vm').setTop { g with pc := pc, stack := [.ref a] }) target) : Steps tb e below ((s.setTop g).pushFrame (.throwing a)) target := by
  obtain ⟨hgo, hw⟩ := h.throwing a
  refine Steps.head hgo hw ?_
  have hone : ∀ r : List Frame, (stepThrowing e ((s.setTop g).pushFrame (.throwing a)) a (.java g :: r)).Is ((((s.setTop g).pushFrame (.throwing a)).setVm vm').setFrames (.java { g with pc := pc, stack := [.ref a] } :: r)) [] := by
    intro r
    simp only [stepThrowing, searchFrame, vmDo]
    generalize hq : Sem.go _ e false [] _ = res
    obtain ⟨as, rfl, ha⟩ := Sem.eq_ok_of hq (a := Handler.found pc) (s' := ((s.setTop g).pushFrame (.throwing a)).setVm vm') (acts' := []) (by simp [hf _ _ _ _])
    exact ⟨rfl, ha⟩
  rw [stepThread_throwing (frames_entered h.top _), (hone _).1]
  obtain ⟨g0, hg⟩ := Option.isSome_iff_exists.mp h.top
  obtain ⟨r, hr0⟩ := State.topJava?_eq_some.mp hg
  have hr1 : (s.setVm vm').frames = .java g0 :: r := hr0
  rw [State.setTop_of_frames _ hr1] at hr
  rw [hr0, List.tail_cons, State.pushFrame, kc_frames, State.setTop_of_frames _ hr0, kc_frames]
  exact hr
/-- a callee's throw, caught here -/
theorem k_catch {p : Program} {l : Launch} {e : Env} {R : Room} {s : State} {m : MethodId} {args : Array Value} {below : List Frame} {meth : Method} {c : Code} {H : Heap} {locs : List Loc} {cells slots : Nat} {Q : State → Prop} {pc : Nat} {ls : Array Slot} {rest : List Value} {ce : Cell} {q : Addr} {h : Nat}
    (hcell : H[q]? = some ce) (hv : ce.vm = .none) (hk0 : ∃ k, s.vm.classes[ce.cls]? = some k) (hcat : ∀ pl : Platform, pl.magicAccessors = ({} : Platform).magicAccessors → kCat pl s m.cls pc ce.cls h c.exceptionTable.toList)
    (kk : W p l e R s m args below meth c H locs cells slots Q (F0 m h ls [.ref q])) : vx_W p l e R s m args below meth c H locs cells slots Q (F0 m pc ls rest) q := by
  intro T hT X
  have hpl : e.platform.magicAccessors = ({} : Platform).magicAccessors := by rw [X.admits.platform]
  have hobj : ∀ k, ce.vm ≠ .statics k := fun k hk => by rw [hv] at hk; cases hk
  have hcellT : ((T.setTop (F0 m pc ls rest)).pushFrame (.throwing q)).heap[q]? = some ce := by
    show T.heap[q]? = some ce
    rw [hT]; exact hcell
  obtain ⟨vm', hW', hq⟩ := kc_go (e := e) (s0 := s) (f := F0 m pc ls rest) (a := q) (h := h) hobj hk0 c.exceptionTable.toList ((T.setTop (F0 m pc ls rest)).pushFrame (.throwing q)) X.warmed hcellT (hcat _ hpl)
  have hm : ((T.setTop (F0 m pc ls rest)).pushFrame (.throwing q)).vm.method? (F0 m pc ls rest).method = some meth := X.method'
  obtain ⟨t, a1, b1⟩ := kk (T.setVm vm') hT (X.noted hW')
  exact ⟨t, kc_steps X.here (fun Q E d acts => by rw [_root_.Jvm.W.findHandler_eq hm X.code]; exact hq Q E d acts) a1, b1⟩
