/-! The law's own methods: each calls one method of the class and catches what it may throw. -/
theorem k_ofH {l : Launch} {y : MethodName} {rm : Room} {cc : ByteArray} {maxL : Nat} {ret : Option FieldType} {hh : List (Nat × Nat × Nat × Nat)} {D : va_G} {cy : Nat → ClassId} {sa : Nat → Nat} {av : List Value} {ws : va_W} {sz mc ms : Nat} {Qc : (Nat → Prop) → Array Value → State → Outcome → State → Prop} {XC : (Nat → Prop) → String → State → State → Prop}
    (hy : plainName y.cls = true) (hn : (lg_sl av).length ≤ maxL)
    (body : ∀ (p : Program) (e : Env) (s : State) (m : MethodId) (below : List Frame) (meth : Method) (c : Code) (ls : Array Slot) (A : Nat → Prop), kE y cc maxL ret av.toArray p s m meth c → c.exceptionTable.toList = tableOf hh → (∀ q, s.heap.size ≤ q → A q) → va_P D vwCl ws s.heap → va_D A ws → kG D cy sa A s → va_S A s.heap s.heap [] → lv_has ls maxL (lv_args 0 av) →
      W p l e rm s m av.toArray below meth c s.heap [] 0 0 (vx_MQ below (Qc A) (XC A) av.toArray s mc ms A) (F0 m 0 ls [])) :
    vx_Met l y (Cond.codeWith y cc maxL ret hh :: kWS) rm (kPre D cy sa av ws sz) (Qc (va_A ws sz)) (XC (va_A ws sz)) mc ms (va_A ws sz) := by
  refine vx_ofWH (cc := cc) (maxL := maxL) (ret := ret) (hh := hh) hy rfl ?_
  intro p e s m args below meth c s₁ B hml hv
  obtain ⟨rfl, hsz, hP, hD0, hG⟩ := hv
  subst hsz
  have hts := atoms_spec (ws := Cond.codeWith y cc maxL ret hh :: kWS) B.pre
  have htab := vx_table (x := y) B (hts _ List.mem_cons_self)
  have hl := lv_entry av (n := maxL) hn
  rw [lg_entry_eq]
  exact body p e s m below meth c _ _ ⟨B.exec, B.bytes, hml, findClass_of_methodNamed B.named, fun w hw => hts w (List.mem_cons_of_mem _ hw), B.returns, B.notSynchronized, (name_of_methodNamed B.named B.method).1⟩ htab (fun q h => Or.inr h) hP (hD0.self (sz := s.heap.size)) hG va_S.rf hl
theorem kcat_hit {s : State} {args : Array Value} {d : ClassId} {pc h : Nat} {thrown : ClassId} {own nm E : String} {x : ExceptionTableEntry} {t : List ExceptionTableEntry} (hown : s.vm.findClass own = some d) (hl : (Cond.classLink own x.catchType nm).before args s = true) (hc : va_Nw (.castable E nm) s) (hE : s.vm.findClass E = some thrown) (hx : covers x pc = true) (h0 : x.catchType ≠ 0) (hh : x.handlerPc = h) (pl : Platform) (hpl : pl.magicAccessors = ({} : Platform).magicAccessors) : kCat pl s d pc thrown h (x :: t) := by
  obtain ⟨c1, h1, hcl⟩ := Cond.classLink_spec hown hl pl hpl
  obtain ⟨c3, c4, h3, h4, has⟩ := Cond.castable_spec (args := #[]) hc
  cases Option.some.inj (h3.symm.trans hE)
  cases Option.some.inj (h4.symm.trans h1)
  exact ⟨hx, h0, _, hcl, Or.inl ⟨has, hh⟩⟩
theorem kcat_miss {s : State} {args : Array Value} {d : ClassId} {pc h : Nat} {thrown : ClassId} {own nm E : String} {x : ExceptionTableEntry} {t : List ExceptionTableEntry} (hown : s.vm.findClass own = some d) (hl : (Cond.classLink own x.catchType nm).before args s = true) (hc : va_Nc E nm s) (hE : s.vm.findClass E = some thrown) (hx : covers x pc = true) (h0 : x.catchType ≠ 0) (pl : Platform) (hpl : pl.magicAccessors = ({} : Platform).magicAccessors) (ht : kCat pl s d pc thrown h t) : kCat pl s d pc thrown h (x :: t) := by
  obtain ⟨c1, h1, hcl⟩ := Cond.classLink_spec hown hl pl hpl
  obtain ⟨c3, c4, h3, h4, has⟩ := hc
  cases Option.some.inj (h3.symm.trans hE)
  cases Option.some.inj (h4.symm.trans h1)
  exact ⟨hx, h0, _, hcl, Or.inr ⟨has, ht⟩⟩
theorem k_cls {s : State} {args : Array Value} {d thrown : ClassId} {own nm E : String} {ct : Nat} (hown : s.vm.findClass own = some d) (hl : (Cond.classLink own ct nm).before args s = true) (hc : va_Nw (.castable E nm) s) (hE : s.vm.findClass E = some thrown) : ∃ k, s.vm.classes[thrown]? = some k := by
  obtain ⟨c1, h1, hcl⟩ := Cond.classLink_spec hown hl ({} : Platform) rfl
  obtain ⟨c3, c4, h3, h4, has⟩ := Cond.castable_spec (args := #[]) hc
  cases Option.some.inj (h3.symm.trans hE)
  cases Option.some.inj (h4.symm.trans h1)
  obtain ⟨_, _, _, kt, _, _, _, _, _, hkt, _, _⟩ := hcl.here
  exact Vm.classAt_of_assignable has ⟨kt, hkt⟩
theorem k_uL0 (f : Nat → Int64) (v : Int64) : vp_updL f (0 : Int32).toNatClampNeg v 0 = v := if_pos (by decide)
