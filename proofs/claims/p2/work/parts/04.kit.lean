/-! Words, worlds and calls in one form for all contracts of this claim. -/
/-- the words that all contracts share -/
def kWS : List Cond := lw_tbl.filter goodWord
theorem kws_of {w : Cond} (h : w ∈ lw_tbl) (g : goodWord w = true) : w ∈ kWS := List.mem_filter.mpr ⟨h, g⟩
theorem kws_at {w : Cond} (i : Nat) (h : tables_1[i]? = some w) (g : goodWord w = true) : w ∈ kWS := kws_of (List.mem_append_right _ (List.mem_of_getElem? h)) g
theorem kws_sel {w : Cond} (i : Nat) (h : (k2_sels lw_privs)[i]? = some w) (g : goodWord w = true) : w ∈ kWS := kws_of (List.mem_append_left _ (List.mem_of_getElem? h)) g
theorem kws_good {w : Cond} (h : w ∈ kWS) : goodWord w = true := (List.mem_filter.mp h).2
theorem kws_in {y : Cond} (h : y ∈ kWS) : GoodIn kWS (y :: kWS) := fun w hw => (List.mem_cons.mp hw).elim (fun e => by rw [e]; exact ⟨h, good_of_word (kws_good h)⟩) (fun hw => ⟨hw, good_of_word (kws_good hw)⟩)
/-- the array classes: int, byte, boolean, Moment, Plan, int[], long -/
abbrev kT (cy : Nat → ClassId) : List (ClassId × FieldType) := [(cy 0, .int), (cy 1, .byte), (cy 2, .boolean), (cy 3, .object "LentMinds$Moment"), (cy 4, .object "LentMinds$Plan"), (cy 5, .array .int), (cy 6, .long)]
/-- links that only nest mates have -/
def kMN : List (String × Nat × MethodName) := [("LentMinds", 22, ⟨"LentMinds$Reader", "<init>", "()V"⟩), ("LentMinds", 29, ⟨"LentMinds$House", "<init>", "()V"⟩), ("LentMinds", 39, ⟨"LentMinds$Moment", "<init>", "()V"⟩), ("LentMinds", 46, ⟨"LentMinds$Plan", "<init>", "()V"⟩), ("LentMinds", 64, ⟨"LentMinds$Trial", "<init>", "()V"⟩), ("LentMinds$Trial", 11, ⟨"LentMinds$Moment", "<init>", "()V"⟩), ("LentMinds", 71, ⟨"LentMinds$Judge", "<init>", "()V"⟩), ("LentMinds$Judge", 11, ⟨"LentMinds$Moment", "<init>", "()V"⟩), ("LentMinds", 78, ⟨"LentMinds$Watch", "<init>", "()V"⟩), ("LentMinds$Watch", 11, ⟨"LentMinds$Moment", "<init>", "()V"⟩), ("LentMinds", 85, ⟨"LentMinds$Few", "<init>", "()V"⟩)]
def kDC : List MethodName := [⟨"java/lang/RuntimeException", "<init>", "()V"⟩, ⟨"java/lang/RuntimeException", "<init>", "(Ljava/lang/String;)V"⟩, ⟨"java/lang/Exception", "<init>", "()V"⟩, ⟨"java/lang/Exception", "<init>", "(Ljava/lang/String;)V"⟩, ⟨"java/lang/Throwable", "<init>", "()V"⟩, ⟨"java/lang/Throwable", "<init>", "(Ljava/lang/String;)V"⟩]
def kCA : List (String × String) := [("java/lang/IllegalArgumentException", "java/lang/IllegalArgumentException"), ("java/util/NoSuchElementException", "java/util/NoSuchElementException"), ("java/lang/IllegalStateException", "java/lang/IllegalStateException")]
/-- the messages of the class's exceptions, by their places in its pool -/
def kST : List (Nat × String) := [(112, "not so many bytes on the tape"), (143, "what is 0 to 4"), (181, "no such body"), (173, "what is 0 to 7"), (184, "a number is none such"), (246, "no house, or the day is over"), (269, "what is 0 to 3")]
/-- pairs of exception classes of which none is the other's -/
def kNC : List (String × String) := [("java/lang/IllegalArgumentException", "java/util/NoSuchElementException"), ("java/lang/IllegalStateException", "java/lang/IllegalArgumentException")]
/-! What the class's statics hold: its words, their spellings, the bounds of numbers. -/
def kWn : List String := ["BODY", "JOINT", "SLEEP", "HABIT", "CRIES", "BREATH", "STRIDE", "DAY"]
def kWF : List (String × String × String × List Int32) := [("LentMinds$Word", "numbers", "I", [6, 2, 3, 2, 3, 1, 1, 1]), ("LentMinds$Word", "limits", "I", [0, 6, 8, 11, 13, 16, 17, 18])]
def kSl : List Nat := [4, 5, 5, 5, 5, 6, 6, 3]
def kSb : List (List Int32) := [[98, 111, 100, 121], [106, 111, 105, 110, 116], [115, 108, 101, 101, 112], [104, 97, 98, 105, 116], [99, 114, 105, 101, 115], [98, 114, 101, 97, 116, 104], [115, 116, 114, 105, 100, 101], [100, 97, 121]]
def kLeast : List Int32 := [0, 0, 1, 1, 0, 0, 0, 0, 0, 0, 0, 0, 1, 0, 1, 0, 0, 1, 30]
def kMost : List Int32 := [15, 15, 60, 240, 99, 99, 8, 8, 8, 479, 479, 8, 60, 8, 20, 20, 9, 30, 480]
def kFN : List (String × Nat × String × String × String) := [("LentMinds$Reader", 77, "LentMinds", "WORDS", "[LLentMinds$Word;"), ("LentMinds$Reader", 105, "LentMinds", "LEAST", "[I"), ("LentMinds$Reader", 108, "LentMinds", "MOST", "[I")]
def kSt (sa : Nat → Nat) (A : Nat → Prop) (U : State) : Prop :=
  va_En "LentMinds$Word" "LLentMinds$Word;" kWn kWF (fun i => sa (1000 + i)) A U U.heap ∧ va_Ef 8 "LentMinds$Word" "spelling" "Ljava/lang/String;" (fun i => .ref (sa (2000 + i))) (fun i => sa (1000 + i)) A U U.heap ∧ vk_S 8 kSl kSb (fun i => sa (2000 + i)) (fun i => sa (3000 + i)) A U U.heap ∧ va_Z "LentMinds" "WORDS" "[LLentMinds$Word;" (.ref (sa 4000)) A U U.heap ∧ va_T (.object "LentMinds$Word") (sa 4000) 8 (fun i => .ref (sa (1000 + i))) A U U.heap ∧ va_Z "LentMinds" "LEAST" "[I" (.ref (sa 4001)) A U U.heap ∧ va_T .int (sa 4001) 19 (fun i => .int (kLeast.getD i 0)) A U U.heap ∧ va_Z "LentMinds" "MOST" "[I" (.ref (sa 4002)) A U U.heap ∧ va_T .int (sa 4002) 19 (fun i => .int (kMost.getD i 0)) A U U.heap ∧ va_Z "java/lang/String" "COMPACT_STRINGS" "Z" (.int 1) A U U.heap ∧ va_Zq "jdk/internal/util/Preconditions" "SIOOBE_FORMATTER" "Ljava/util/function/BiFunction;" A U U.heap ∧ (∀ q ∈ kFN, va_Nw (.fieldLinkNest q.1 q.2.1 q.2.2.1 q.2.2.2.1 q.2.2.2.2 "LentMinds") U)
theorem kSt.call {sa : Nat → Nat} {A A' : Nat → Prop} {s U : State} {locs : List Loc} (h : kSt sa A s) (hS : va_S A s.heap U.heap locs) (hA : ∀ q, A' q → A q) (hW : s.WarmedH U.vm) : kSt sa A' U := by
  obtain ⟨h1, h2, h3, h4, h5, h6, h7, h8, h9, h10, h11, h12⟩ := h
  exact ⟨(va_En.kept (va_En.moved hW.alike h1) hS.2.1).narrow hA, (va_Ef.kept (va_Ef.moved hW.alike h2) hS.2.1).narrow hA, (vk_S.kept (vk_S.moved hW.alike h3) hS.2.1).narrow hA, (va_Z.kept (va_Z.moved hW.alike h4) hS.2.1).narrow hA, (va_T.kept (va_T.moved hW.alike h5) hS.2.1).narrow hA, (va_Z.kept (va_Z.moved hW.alike h6) hS.2.1).narrow hA, (va_T.kept (va_T.moved hW.alike h7) hS.2.1).narrow hA, (va_Z.kept (va_Z.moved hW.alike h8) hS.2.1).narrow hA, (va_T.kept (va_T.moved hW.alike h9) hS.2.1).narrow hA, (va_Z.kept (va_Z.moved hW.alike h10) hS.2.1).narrow hA, (va_Zq.kept (va_Zq.moved hW.alike h11) hS.2.1).narrow hA, fun q hq => va_Nw.warmF hW (h12 q hq)⟩
/-- what stays true of the machine's tables and statics all along -/
def kG (D : va_G) (cy : Nat → ClassId) (sa : Nat → Nat) (A : Nat → Prop) (U : State) : Prop :=
  va_K D vwCl (kT cy) U ∧ (∀ q ∈ kMN, va_Nw (.methodLinkNest q.1 q.2.1 q.2.2 "LentMinds") U) ∧ (∀ x ∈ kDC, va_Nw (.declares x) U) ∧ (∀ q ∈ kCA, va_Nw (.castable q.1 q.2) U) ∧ (∀ q ∈ kST, vk_R "LentMinds" q.1 q.2 (sa q.1) U) ∧ va_AO "LentMinds$Moment" U ∧ va_AO "LentMinds$Plan" U ∧ (∀ q ∈ kNC, va_Nc q.1 q.2 U) ∧ vx_Zq Bundle.tN "UNASSIGNED_STACK" Bundle.steD A U U.heap ∧ vx_Zq Bundle.tN "SUPPRESSED_SENTINEL" Bundle.listD A U U.heap ∧ kAO U ∧ kSt sa A U
theorem kG.call {D : va_G} {cy : Nat → ClassId} {sa : Nat → Nat} {A A' : Nat → Prop} {s U : State} {locs : List Loc} (h : kG D cy sa A s) (hS : va_S A s.heap U.heap locs) (hA : ∀ q, A' q → A q) (hW : s.WarmedH U.vm) : kG D cy sa A' U := by
  obtain ⟨h1, h2, h3, h4, h5, h6, h7, h8, h9, h10, h11, h12⟩ := h
  exact ⟨va_K.moved hW.alike h1, fun q hq => va_Nw.warmM hW (h2 q hq), fun q hq => va_Nw.warmD hW (h3 q hq), fun q hq => va_Nw.warmC hW (h4 q hq), fun q hq => vk_R.warm hW (h5 q hq), va_AO.moved hW.alike h6, va_AO.moved hW.alike h7, fun q hq => va_Nc.moved hW.alike (h8 q hq), vx_Zq.narrow (vx_Zq.kept (vx_Zq.moved hW.alike h9) hS.2.1) hA, vx_Zq.narrow (vx_Zq.kept (vx_Zq.moved hW.alike h10) hS.2.1) hA, kAO.moved hW.alike h11, kSt.call h12 hS hA hW⟩
/-- a contract's start: its arguments, its cells -/
abbrev kPre (D : va_G) (cy : Nat → ClassId) (sa : Nat → Nat) (av : List Value) (ws : va_W) (sz : Nat) : Array Value → State → Prop := va_Pc av (fun U => U.heap.size = sz ∧ va_P D vwCl ws U.heap ∧ va_D (fun _ => True) ws ∧ kG D cy sa (va_A ws sz) U)
theorem kPre.blind {D : va_G} {cy : Nat → ClassId} {sa : Nat → Nat} {av : List Value} {ws : va_W} {sz : Nat} : FrameBlind (kPre D cy sa av ws sz) := fun a U g mk q => by
  obtain ⟨q0, q1, q2, q3, q4⟩ := q
  exact ⟨q0, q1, q2, q3, kG.call (U := U.calling g mk a) (locs := []) q4 va_S.rf (fun _ h => h) (State.WarmedH.refl U)⟩
/-- a contract's end: its cells then -/
abbrev kB {S : Type} (D : va_G) (A : Nat → Prop) (wp : S → va_W) (u : S) (t : State) : Prop := va_P D vwCl (wp u) t.heap ∧ va_D A (wp u)
/-- and where it throws: the class, the cells then -/
abbrev kBX {S : Type} (D : va_G) (A : Nat → Prop) (wp : S → va_W) (En : S → String) (E : String) (u : S) (t : State) : Prop := E = En u ∧ va_P D vwCl (wp u) t.heap ∧ va_D A (wp u)
/-- what a method's body stands on -/
def kE (y : MethodName) (cc : ByteArray) (maxL : Nat) (ret : Option FieldType) (args : Array Value) (p : Program) (s : State) (m : MethodId) (meth : Method) (c : Code) : Prop :=
  p.tables.exec = Jvm.exec ∧ c.code = cc ∧ c.maxLocals = maxL ∧ s.vm.findClass y.cls = some m.cls ∧ (∀ w ∈ kWS, w.before args s = true) ∧ meth.sig.returnType = ret ∧ meth.locks = false ∧ meth.name = y.name
theorem k_ofW {l : Launch} {y : MethodName} {rm : Room} {cc : ByteArray} {maxL : Nat} {ret : Option FieldType} {D : va_G} {cy : Nat → ClassId} {sa : Nat → Nat} {av : List Value} {ws : va_W} {sz mc ms : Nat} {Qc : (Nat → Prop) → Array Value → State → Outcome → State → Prop}
    (hy : plainName y.cls = true) (hn : (lg_sl av).length ≤ maxL)
    (body : ∀ (p : Program) (e : Env) (s : State) (m : MethodId) (below : List Frame) (meth : Method) (c : Code) (ls : Array Slot) (A : Nat → Prop), kE y cc maxL ret av.toArray p s m meth c → (∀ q, s.heap.size ≤ q → A q) → va_P D vwCl ws s.heap → va_D A ws → kG D cy sa A s → va_S A s.heap s.heap [] → lv_has ls maxL (lv_args 0 av) →
      W p l e rm s m av.toArray below meth c s.heap [] 0 0 (MQ below (Qc A) av.toArray s mc ms A) (F0 m 0 ls [])) :
    Met l y (Cond.code y cc maxL ret :: kWS) rm (kPre D cy sa av ws sz) (Qc (va_A ws sz)) mc ms (va_A ws sz) := by
  refine Met.ofW (cc := cc) (maxL := maxL) (ret := ret) hy rfl ?_
  intro p e s m args below meth c s₁ B hml hv
  obtain ⟨rfl, hsz, hP, hD0, hG⟩ := hv
  subst hsz
  have hts := atoms_spec (ws := Cond.code y cc maxL ret :: kWS) B.pre
  have hl := lv_entry av (n := maxL) hn
  rw [lg_entry_eq]
  exact body p e s m below meth c _ _ ⟨B.exec, B.bytes, hml, findClass_of_methodNamed B.named, fun w hw => hts w (List.mem_cons_of_mem _ hw), B.returns, B.notSynchronized, (name_of_methodNamed B.named B.method).1⟩ (fun q h => Or.inr h) hP (hD0.self (sz := s.heap.size)) hG va_S.rf hl
theorem k_ofX {l : Launch} {y : MethodName} {rm : Room} {cc : ByteArray} {maxL : Nat} {ret : Option FieldType} {D : va_G} {cy : Nat → ClassId} {sa : Nat → Nat} {av : List Value} {ws : va_W} {sz mc ms : Nat} {Qc : (Nat → Prop) → Array Value → State → Outcome → State → Prop} {XC : (Nat → Prop) → String → State → State → Prop}
    (hy : plainName y.cls = true) (hn : (lg_sl av).length ≤ maxL)
    (body : ∀ (p : Program) (e : Env) (s : State) (m : MethodId) (below : List Frame) (meth : Method) (c : Code) (ls : Array Slot) (A : Nat → Prop), kE y cc maxL ret av.toArray p s m meth c → (∀ x ∈ c.exceptionTable.toList, False) → (∀ q, s.heap.size ≤ q → A q) → va_P D vwCl ws s.heap → va_D A ws → kG D cy sa A s → va_S A s.heap s.heap [] → lv_has ls maxL (lv_args 0 av) →
      W p l e rm s m av.toArray below meth c s.heap [] 0 0 (vx_MQ below (Qc A) (XC A) av.toArray s mc ms A) (F0 m 0 ls [])) :
    vx_Met l y (Cond.code y cc maxL ret :: kWS) rm (kPre D cy sa av ws sz) (Qc (va_A ws sz)) (XC (va_A ws sz)) mc ms (va_A ws sz) := by
  refine vx_ofW (cc := cc) (maxL := maxL) (ret := ret) hy rfl ?_
  intro p e s m args below meth c s₁ B hml hxt hv
  obtain ⟨rfl, hsz, hP, hD0, hG⟩ := hv
  subst hsz
  have hts := atoms_spec (ws := Cond.code y cc maxL ret :: kWS) B.pre
  have hl := lv_entry av (n := maxL) hn
  rw [lg_entry_eq]
  exact body p e s m below meth c _ _ ⟨B.exec, B.bytes, hml, findClass_of_methodNamed B.named, fun w hw => hts w (List.mem_cons_of_mem _ hw), B.returns, B.notSynchronized, (name_of_methodNamed B.named B.method).1⟩ hxt (fun q h => Or.inr h) hP (hD0.self (sz := s.heap.size)) hG va_S.rf hl
section KRet
variable {p : Program} {l : Launch} {e : Env} {R : Room} {s : State} {m : MethodId} {args : Array Value} {below : List Frame} {meth : Method} {c : Code} {H : Heap} {locs : List Loc} {cells slots mc ms : Nat} {cc : ByteArray} {pc : Nat} {ls : Array Slot} {D : va_G} {A : Nat → Prop}
theorem k_iret {S : Type} {post : Int32 → S → Prop} {wp : S → va_W} {v : Int32} (u : S) (hx : p.tables.exec = Jvm.exec) (hb : c.code = cc) (hr : meth.sig.returnType = some .int) (hlocks : meth.locks = false) (hpost : post v u) (hP : va_P D vwCl (wp u) H) (hD : va_D A (wp u)) (hS : va_S A s.heap H locs) (hc : cells ≤ mc) (hs : slots ≤ ms) (hdg : decode cc pc = .ok (.ireturn, 1)) :
    W p l e R s m args below meth c H locs cells slots (MQ below (va_Qi post (kB D A wp) A) args s mc ms A) (F0 m pc ls [.int v]) :=
  W.widen hc hs (W.iret hx hb hr (fun t ht _ => ⟨⟨v, u, rfl, hpost, by rw [ht]; exact hP, hD⟩, hS.F ht⟩) hS.2.2 hdg hlocks)
theorem k_zret {S : Type} {post : Int32 → S → Prop} {wp : S → va_W} {v : Int32} (u : S) (hx : p.tables.exec = Jvm.exec) (hb : c.code = cc) (hr : meth.sig.returnType = some .boolean) (hlocks : meth.locks = false) (hn : narrow .boolean (.int v) = .int v) (hpost : post v u) (hP : va_P D vwCl (wp u) H) (hD : va_D A (wp u)) (hS : va_S A s.heap H locs) (hc : cells ≤ mc) (hs : slots ≤ ms) (hdg : decode cc pc = .ok (.ireturn, 1)) :
    W p l e R s m args below meth c H locs cells slots (MQ below (va_Qi post (kB D A wp) A) args s mc ms A) (F0 m pc ls [.int v]) :=
  W.widen hc hs (W.zret hx hb hr hn (fun t ht _ => ⟨⟨v, u, rfl, hpost, by rw [ht]; exact hP, hD⟩, hS.F ht⟩) hS.2.2 hdg hlocks)
theorem k_vret {S : Type} {post : S → Prop} {wp : S → va_W} (u : S) (hx : p.tables.exec = Jvm.exec) (hb : c.code = cc) (hr : meth.sig.returnType = none) (hlocks : meth.locks = false) (hpost : post u) (hP : va_P D vwCl (wp u) H) (hD : va_D A (wp u)) (hS : va_S A s.heap H locs) (hc : cells ≤ mc) (hs : slots ≤ ms) (hdg : decode cc pc = .ok (.return_, 1)) :
    W p l e R s m args below meth c H locs cells slots (MQ below (va_Qv post (kB D A wp) A) args s mc ms A) (F0 m pc ls []) :=
  W.widen hc hs (W.vret hx hb hr (fun t ht _ => ⟨⟨u, rfl, hpost, by rw [ht]; exact hP, hD⟩, hS.F ht⟩) hS.2.2 hdg hlocks)
end KRet
