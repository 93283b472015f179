/-! Calls: the callee's cells by their places, what comes back beside the rest. -/
/-- the link of an instance call: its words -/
def kLV (own : String) (idx : Nat) (y : MethodName) (hd : Cond) (n : Nat) : Prop :=
  Cond.methodLink own idx y ∈ kWS ∧ Cond.instanceMethod y ∈ kWS ∧ Cond.selects y.cls y y ∈ kWS ∧ Cond.initialized y.cls ∈ kWS ∧ hd ∈ kWS ∧ (y.cls ≠ "java/lang/invoke/MethodHandle" ∧ y.cls ≠ "java/lang/invoke/VarHandle" ∧ (parseMethodDescriptor y.desc).map (fun d => d.parameters.length) = some n)
/-- the link of a static call -/
def kLS (own : String) (idx : Nat) (y : MethodName) (hd : Cond) (n : Nat) : Prop :=
  Cond.methodLink own idx y ∈ kWS ∧ Cond.static y ∈ kWS ∧ Cond.initialized y.cls ∈ kWS ∧ hd ∈ kWS ∧ (y.cls ≠ "java/lang/invoke/MethodHandle" ∧ y.cls ≠ "java/lang/invoke/VarHandle" ∧ (parseMethodDescriptor y.desc).map (fun d => d.parameters.length) = some n)
/-- the link of a constructor's call -/
def kLI (own : String) (idx : Nat) (y : MethodName) (hd : Cond) (n : Nat) : Prop :=
  Cond.methodLink own idx y ∈ kWS ∧ Cond.instanceMethod y ∈ kWS ∧ Cond.initialized y.cls ∈ kWS ∧ hd ∈ kWS ∧ y.name = "<init>" ∧ (y.cls ≠ "java/lang/invoke/MethodHandle" ∧ y.cls ≠ "java/lang/invoke/VarHandle" ∧ (parseMethodDescriptor y.desc).map (fun d => d.parameters.length) = some n)
/-- the same, of a nest mate's -/
def kLN (own : String) (idx : Nat) (y : MethodName) (hd : Cond) (n : Nat) : Prop :=
  (own, idx, y) ∈ kMN ∧ Cond.instanceMethod y ∈ kWS ∧ Cond.initialized y.cls ∈ kWS ∧ hd ∈ kWS ∧ y.name = "<init>" ∧ (y.cls ≠ "java/lang/invoke/MethodHandle" ∧ y.cls ≠ "java/lang/invoke/VarHandle" ∧ (parseMethodDescriptor y.desc).map (fun d => d.parameters.length) = some n)
/-- room for a call -/
def kRm (rm R : Room) (maxL mc ms cells slots : Nat) (rest : List Value) : Prop := rm.cells = mc ∧ rm.slots = ms ∧ (rm.frames + 1 ≤ R.frames ∧ 8 + (maxL + 11) + rm.locals ≤ R.locals) ∧ (cells + mc ≤ R.cells ∧ slots + ms ≤ R.slots) ∧ (rest.map fun v => v.category).sum ≤ 8
theorem k_pick {D : va_G} {ws wc : va_W} {H : Heap} (hP : va_P D vwCl ws H) (isC : List Nat) (hC : isC.map (fun i => ws[i]?) = wc.map some) : va_P D vwCl wc H := by
  refine hP.sub isC ?_
  have h : isC.filterMap (fun i => ws[i]?) = (isC.map (fun i => ws[i]?)).filterMap id := by rw [List.filterMap_map]; rfl
  rw [h, hC, List.filterMap_map]
  exact List.filterMap_some
section KCall
variable {p : Program} {l : Launch} {e : Env} {R : Room} {s : State} {m : MethodId} {args : Array Value} {below : List Frame} {meth : Method} {c : Code} {H : Heap} {locs : List Loc} {cells slots : Nat} {Q : State → Prop}
variable {cc : ByteArray} {pc : Nat} {ls : Array Slot} {rest st0 : List Value} {D : va_G} {cy : Nat → ClassId} {sa : Nat → Nat} {A : Nat → Prop} {ws wc wr : va_W} {y y0 : MethodName} {bytes : ByteArray} {maxL nL n idx mc ms : Nat} {ret ret0 : Option FieldType} {rm : Room} {As : List Value} {b : Nat} {Qc : Array Value → State → Outcome → State → Prop} {XC : String → State → State → Prop}
/-- what stands at a call: the world, and the callee's part of it by its places -/
def kAt (D : va_G) (cy : Nat → ClassId) (sa : Nat → Nat) (A : Nat → Prop) (s : State) (H : Heap) (locs : List Loc) (ws wc : va_W) (isC : List Nat) : Prop :=
  va_P D vwCl ws H ∧ va_D A ws ∧ kG D cy sa A s ∧ va_S A s.heap H locs ∧ (∀ q, s.heap.size ≤ q → A q) ∧ isC.map (fun i => ws[i]?) = wc.map some ∧ va_nd isC = true
theorem kAt.free {isC : List Nat} (K : kAt D cy sa A s H locs ws wc isC) : ∀ q, va_A wc H.size q → A q := by
  obtain ⟨hP, hD, hG, hS, hA, hC, hcn⟩ := K
  exact va_free (wc := wc) hD hS hA isC hC
theorem kAt.pre {isC : List Nat} {av : List Value} (K : kAt D cy sa A s H locs ws wc isC) : ∀ U : State, U.heap = H → s.WarmedH U.vm → kPre D cy sa av wc H.size av.toArray U := by
  have hF := K.free
  obtain ⟨hP, hD, hG, hS, hA, hC, hcn⟩ := K
  intro U hU hW
  subst hU
  exact ⟨rfl, rfl, k_pick hP isC hC, (hD.sub isC hcn hC).weaken (fun _ _ _ _ => trivial), kG.call hG hS hF hW⟩
theorem kAt.recv {isC : List Nat} {ci q0 : Nat} {q : vw_C} {fs : List Value} {C : String} (K : kAt D cy sa A s H locs ws wc isC) (hc : vwCl[ci]? = some q) (hq : q.1 = C) (he : ws[q0]? = some (b, .inr (ci, fs))) : ∃ cellB : Cell, H[b]? = some cellB ∧ cellB.vm.isStatics = false ∧ s.vm.findClass C = some cellB.cls := by
  rw [← hq]
  exact va_recv K.2.2.1.1 K.1 hc he
theorem k_runV {isC : List Nat} (ci q0 : Nat) {q : vw_C} {fs : List Value} (E : kE y0 cc nL ret0 args p s m meth c) (lk : kLV y0.cls idx y (Cond.code y bytes maxL ret) n) (hc : vwCl[ci]? = some q) (hq : q.1 = y.cls) (he : ws[q0]? = some (b, .inr (ci, fs)))
    (hM : Met l y (Cond.code y bytes maxL ret :: kWS) rm (kPre D cy sa (.ref b :: As) wc H.size) Qc mc ms (va_A wc H.size)) (K : kAt D cy sa A s H locs ws wc isC) (hl : ls.size = nL) (hn : As.length = n) (hst : st0 = As.reverse ++ .ref b :: rest) (hr : kRm rm R maxL mc ms cells slots rest) (hdg : decode cc pc = .ok (.invokevirtual idx, 3)) :
    va_Run p l e R s m args below meth c H locs cells slots mc ms (F0 m pc ls st0) rest (Qc (Value.ref b :: As).toArray) (va_A wc H.size) := by
  obtain ⟨hx, hb, hml, hown, hts, -, -, -⟩ := E
  obtain ⟨k1, k2, k3, k4, k5, k6⟩ := lk
  obtain ⟨r1, r2, r3, r4, r5⟩ := hr
  subst hst
  exact va_runV (As := As) (rest := rest) (C := y.cls) (Ts := kWS) ⟨hx, hb, hml, hown, hts⟩ hM ⟨callB_of n hts (kws_in k5) rfl r1 r2 (hts _ k4) (hts _ k1) k6 r3, hts _ k2, hts _ k3⟩ ⟨kPre.blind, K.recv hc hq he, K.pre⟩ rfl hn hl rfl (lv_room r5) hdg r4
theorem k_runS {isC : List Nat} (E : kE y0 cc nL ret0 args p s m meth c) (lk : kLS y0.cls idx y (Cond.code y bytes maxL ret) n)
    (hM : Met l y (Cond.code y bytes maxL ret :: kWS) rm (kPre D cy sa As wc H.size) Qc mc ms (va_A wc H.size)) (K : kAt D cy sa A s H locs ws wc isC) (hl : ls.size = nL) (hn : As.length = n) (hst : st0 = As.reverse ++ rest) (hr : kRm rm R maxL mc ms cells slots rest) (hdg : decode cc pc = .ok (.invokestatic idx, 3)) :
    va_Run p l e R s m args below meth c H locs cells slots mc ms (F0 m pc ls st0) rest (Qc As.toArray) (va_A wc H.size) := by
  obtain ⟨hx, hb, hml, hown, hts, -, -, -⟩ := E
  obtain ⟨k1, k2, k4, k5, k6⟩ := lk
  obtain ⟨r1, r2, r3, r4, r5⟩ := hr
  subst hst
  exact va_runS (As := As) (rest := rest) (Ts := kWS) ⟨hx, hb, hml, hown, hts⟩ hM ⟨callB_of n hts (kws_in k5) rfl r1 r2 (hts _ k4) (hts _ k1) k6 r3, hts _ k2⟩ ⟨kPre.blind, K.pre⟩ rfl hn hl rfl (lv_room r5) hdg r4
theorem k_runI {isC : List Nat} (E : kE y0 cc nL ret0 args p s m meth c) (lk : kLI y0.cls idx y (Cond.code y bytes maxL none) n)
    (hM : Met l y (Cond.code y bytes maxL none :: kWS) rm (kPre D cy sa (.ref b :: As) wc H.size) Qc mc ms (va_A wc H.size)) (K : kAt D cy sa A s H locs ws wc isC) (hl : ls.size = nL) (hn : As.length = n) (hst : st0 = As.reverse ++ .ref b :: rest) (hr : kRm rm R maxL mc ms cells slots rest) (hdg : decode cc pc = .ok (.invokespecial idx, 3)) :
    va_Run p l e R s m args below meth c H locs cells slots mc ms (F0 m pc ls st0) rest (Qc (Value.ref b :: As).toArray) (va_A wc H.size) := by
  obtain ⟨hx, hb, hml, hown, hts, -, -, -⟩ := E
  obtain ⟨k1, k2, k4, k5, k7, k6⟩ := lk
  obtain ⟨r1, r2, r3, r4, r5⟩ := hr
  subst hst
  exact va_runI (As := As) (rest := rest) (Ts := kWS) ⟨hx, hb, hml, hown, hts⟩ hM ⟨callB_of n hts (kws_in k5) rfl r1 r2 (hts _ k4) (hts _ k1) k6 r3, k7, hts _ k2⟩ ⟨kPre.blind, K.pre⟩ rfl hn hl rfl (lv_room r5) hdg r4
theorem k_runN {isC : List Nat} (E : kE y0 cc nL ret0 args p s m meth c) (lk : kLN y0.cls idx y (Cond.code y bytes maxL none) n)
    (hM : Met l y (Cond.code y bytes maxL none :: kWS) rm (kPre D cy sa (.ref b :: As) wc H.size) Qc mc ms (va_A wc H.size)) (K : kAt D cy sa A s H locs ws wc isC) (hl : ls.size = nL) (hn : As.length = n) (hst : st0 = As.reverse ++ .ref b :: rest) (hr : kRm rm R maxL mc ms cells slots rest) (hdg : decode cc pc = .ok (.invokespecial idx, 3)) :
    va_Run p l e R s m args below meth c H locs cells slots mc ms (F0 m pc ls st0) rest (Qc (Value.ref b :: As).toArray) (va_A wc H.size) := by
  obtain ⟨hx, hb, hml, hown, hts, -, -, -⟩ := E
  obtain ⟨k1, k2, k4, k5, k7, k6⟩ := lk
  obtain ⟨r1, r2, r3, r4, r5⟩ := hr
  have hnl := K.2.2.1.2.1 _ k1
  subst hst
  exact va_runIN (As := As) (rest := rest) (Ts := kWS) ⟨hx, hb, hml, hown, hts⟩ hM ⟨va_cnB (host := "LentMinds") n hts (kws_in k5) rfl r1 r2 hnl (hts _ k4) k6 r3, k7, hts _ k2⟩ ⟨kPre.blind, K.pre⟩ rfl hn hl rfl (lv_room r5) hdg r4
theorem x_runV {isC : List Nat} (ci q0 : Nat) {q : vw_C} {fs : List Value} (E : kE y0 cc nL ret0 args p s m meth c) (lk : kLV y0.cls idx y (Cond.code y bytes maxL ret) n) (hc : vwCl[ci]? = some q) (hq : q.1 = y.cls) (he : ws[q0]? = some (b, .inr (ci, fs)))
    (hM : vx_Met l y (Cond.code y bytes maxL ret :: kWS) rm (kPre D cy sa (.ref b :: As) wc H.size) Qc XC mc ms (va_A wc H.size)) (K : kAt D cy sa A s H locs ws wc isC) (hl : ls.size = nL) (hn : As.length = n) (hst : st0 = As.reverse ++ .ref b :: rest) (hr : kRm rm R maxL mc ms cells slots rest) (hdg : decode cc pc = .ok (.invokevirtual idx, 3)) :
    vx_Run p l e R s m args below meth c H locs cells slots mc ms (F0 m pc ls st0) rest (Qc (Value.ref b :: As).toArray) XC (va_A wc H.size) := by
  obtain ⟨hx, hb, hml, hown, hts, -, -, -⟩ := E
  obtain ⟨k1, k2, k3, k4, k5, k6⟩ := lk
  obtain ⟨r1, r2, r3, r4, r5⟩ := hr
  subst hst
  exact vx_runV (As := As) (rest := rest) (C := y.cls) (Ts := kWS) ⟨hx, hb, hml, hown, hts⟩ hM ⟨callB_of n hts (kws_in k5) rfl r1 r2 (hts _ k4) (hts _ k1) k6 r3, hts _ k2, hts _ k3⟩ ⟨kPre.blind, K.recv hc hq he, K.pre⟩ rfl hn hl rfl (lv_room r5) hdg r4
theorem x_runS {isC : List Nat} (E : kE y0 cc nL ret0 args p s m meth c) (lk : kLS y0.cls idx y (Cond.code y bytes maxL ret) n)
    (hM : vx_Met l y (Cond.code y bytes maxL ret :: kWS) rm (kPre D cy sa As wc H.size) Qc XC mc ms (va_A wc H.size)) (K : kAt D cy sa A s H locs ws wc isC) (hl : ls.size = nL) (hn : As.length = n) (hst : st0 = As.reverse ++ rest) (hr : kRm rm R maxL mc ms cells slots rest) (hdg : decode cc pc = .ok (.invokestatic idx, 3)) :
    vx_Run p l e R s m args below meth c H locs cells slots mc ms (F0 m pc ls st0) rest (Qc As.toArray) XC (va_A wc H.size) := by
  obtain ⟨hx, hb, hml, hown, hts, -, -, -⟩ := E
  obtain ⟨k1, k2, k4, k5, k6⟩ := lk
  obtain ⟨r1, r2, r3, r4, r5⟩ := hr
  subst hst
  exact vx_runS (As := As) (rest := rest) (Ts := kWS) ⟨hx, hb, hml, hown, hts⟩ hM ⟨callB_of n hts (kws_in k5) rfl r1 r2 (hts _ k4) (hts _ k1) k6 r3, hts _ k2⟩ ⟨kPre.blind, K.pre⟩ rfl hn hl rfl (lv_room r5) hdg r4
/-- a static call of a method with a table of its own -/
theorem x_runW {isC : List Nat} {hh : List (Nat × Nat × Nat × Nat)} (E : kE y0 cc nL ret0 args p s m meth c) (lk : kLS y0.cls idx y (Cond.codeWith y bytes maxL ret hh) n)
    (hM : vx_Met l y (Cond.codeWith y bytes maxL ret hh :: kWS) rm (kPre D cy sa As wc H.size) Qc XC mc ms (va_A wc H.size)) (K : kAt D cy sa A s H locs ws wc isC) (hl : ls.size = nL) (hn : As.length = n) (hst : st0 = As.reverse ++ rest) (hr : kRm rm R maxL mc ms cells slots rest) (hdg : decode cc pc = .ok (.invokestatic idx, 3)) :
    vx_Run p l e R s m args below meth c H locs cells slots mc ms (F0 m pc ls st0) rest (Qc As.toArray) XC (va_A wc H.size) := by
  obtain ⟨hx, hb, hml, hown, hts, -, -, -⟩ := E
  obtain ⟨k1, k2, k4, k5, k6⟩ := lk
  obtain ⟨r1, r2, r3, r4, r5⟩ := hr
  subst hst
  have hg : GoodIn kWS (va_wsS y0.cls idx y (Cond.codeWith y bytes maxL ret hh :: kWS)) := fun w hw => by
    rcases List.mem_append.mp hw with h | h
    · rcases List.mem_cons.mp h with rfl | h
      · exact ⟨k1, good_of_word (kws_good k1)⟩
      · rcases List.mem_cons.mp h with rfl | h
        · exact ⟨k2, good_of_word (kws_good k2)⟩
        · rcases List.mem_cons.mp h with rfl | h
          · exact ⟨k4, good_of_word (kws_good k4)⟩
          · exact absurd h List.not_mem_nil
    · exact kws_in k5 w h
  exact vx_runSX (As := As) (rest := rest) (Ts := kWS) (hh := hh) ⟨hx, hb, hml, hown, hts⟩ hM (vx_cwSW n hts hg rfl r1 r2 k6 r3) ⟨kPre.blind, K.pre⟩ rfl hn hl rfl (lv_room r5) hdg r4
/-- behind a call: the rest, and what came back -/
theorem k_cali {S : Type} {post : Int32 → S → Prop} {wp : S → va_W} {isC : List Nat} (isR : List Nat) {av : Array Value} (K : kAt D cy sa A s H locs ws wc isC) (hR : isR.map (fun i => ws[i]?) = wr.map some) (hn : va_nd isR = true) (hdis : ∀ i ∈ isR, i ∉ isC)
    (hr : va_Run p l e R s m args below meth c H locs cells slots mc ms (F0 m pc ls st0) rest (va_Qi post (kB D (va_A wc H.size) wp) (va_A wc H.size) av) (va_A wc H.size))
    (kk : ∀ (r : Int32) (u : S) (H1 : Heap) (locs1 : List Loc), post r u → va_P D vwCl (wr ++ wp u) H1 → va_D A (wr ++ wp u) → va_S A s.heap H1 locs1 → W p l e R s m args below meth c H1 locs1 (cells + mc) (slots + ms) Q (F0 m (pc + 3) ls (.int r :: rest))) : W p l e R s m args below meth c H locs cells slots Q (F0 m pc ls st0) := by
  have hF := K.free
  obtain ⟨hP, hD, hG, hS, hA, hC, hcn⟩ := K
  refine va_calli hr hS (fun q _ h => hF q h) hF (fun r u t H1 locs1 ht _ hw hB _ hk1 hS1 => ?_)
  obtain ⟨hP1, hD1⟩ := hB
  rw [ht] at hP1
  obtain ⟨hP2, hD2⟩ := va_join hP hD isC isR hC hR hn hdis hk1 hF hP1 hD1
  exact kk r u H1 locs1 hw hP2 hD2 hS1
theorem k_calv {S : Type} {post : S → Prop} {wp : S → va_W} {isC : List Nat} (isR : List Nat) {av : Array Value} (K : kAt D cy sa A s H locs ws wc isC) (hR : isR.map (fun i => ws[i]?) = wr.map some) (hn : va_nd isR = true) (hdis : ∀ i ∈ isR, i ∉ isC)
    (hr : va_Run p l e R s m args below meth c H locs cells slots mc ms (F0 m pc ls st0) rest (va_Qv post (kB D (va_A wc H.size) wp) (va_A wc H.size) av) (va_A wc H.size))
    (kk : ∀ (u : S) (H1 : Heap) (locs1 : List Loc), post u → va_P D vwCl (wr ++ wp u) H1 → va_D A (wr ++ wp u) → va_S A s.heap H1 locs1 → W p l e R s m args below meth c H1 locs1 (cells + mc) (slots + ms) Q (F0 m (pc + 3) ls rest)) : W p l e R s m args below meth c H locs cells slots Q (F0 m pc ls st0) := by
  have hF := K.free
  obtain ⟨hP, hD, hG, hS, hA, hC, hcn⟩ := K
  refine va_callv hr hS (fun q _ h => hF q h) hF (fun u t H1 locs1 ht _ hw hB _ hk1 hS1 => ?_)
  obtain ⟨hP1, hD1⟩ := hB
  rw [ht] at hP1
  obtain ⟨hP2, hD2⟩ := va_join hP hD isC isR hC hR hn hdis hk1 hF hP1 hD1
  exact kk u H1 locs1 hw hP2 hD2 hS1
theorem x_cali {S SX : Type} {post : Int32 → S → Prop} {wp : S → va_W} {px : SX → Prop} {wpX : SX → va_W} {En : SX → String} {isC : List Nat} (isR : List Nat) {av : Array Value} (K : kAt D cy sa A s H locs ws wc isC) (hR : isR.map (fun i => ws[i]?) = wr.map some) (hn : va_nd isR = true) (hdis : ∀ i ∈ isR, i ∉ isC)
    (hr : vx_Run p l e R s m args below meth c H locs cells slots mc ms (F0 m pc ls st0) rest (va_Qi post (kB D (va_A wc H.size) wp) (va_A wc H.size) av) (vx_X px (kBX D (va_A wc H.size) wpX En) (va_A wc H.size)) (va_A wc H.size))
    (kx : ∀ (ce : Cell) (q9 : Addr) (u : SX) (H1 : Heap) (locs1 : List Loc), px u → va_P D vwCl (wr ++ wpX u) H1 → va_D A (wr ++ wpX u) → va_S A s.heap H1 locs1 → H1[q9]? = some ce → ce.vm = .none → s.vm.findClass (En u) = some ce.cls → vx_W p l e R s m args below meth c H1 locs1 (cells + mc) (slots + ms) Q (F0 m pc ls rest) q9)
    (kk : ∀ (r : Int32) (u : S) (H1 : Heap) (locs1 : List Loc), post r u → va_P D vwCl (wr ++ wp u) H1 → va_D A (wr ++ wp u) → va_S A s.heap H1 locs1 → W p l e R s m args below meth c H1 locs1 (cells + mc) (slots + ms) Q (F0 m (pc + 3) ls (.int r :: rest))) : W p l e R s m args below meth c H locs cells slots Q (F0 m pc ls st0) := by
  have hF := K.free
  obtain ⟨hP, hD, hG, hS, hA, hC, hcn⟩ := K
  refine vx_calli hr hS (fun q _ h => hF q h) hF (fun q _ h => hF q h) (fun E ce q9 u t H1 locs1 ht _ hw hB _ hk1 hS1 h1 h2 h3 => ?_) (fun r u t H1 locs1 ht _ hw hB _ hk1 hS1 => ?_)
  · obtain ⟨rfl, hP1, hD1⟩ := hB
    rw [ht] at hP1
    obtain ⟨hP2, hD2⟩ := va_join hP hD isC isR hC hR hn hdis hk1 hF hP1 hD1
    exact kx ce q9 u H1 locs1 hw hP2 hD2 hS1 h1 h2 h3
  · obtain ⟨hP1, hD1⟩ := hB
    rw [ht] at hP1
    obtain ⟨hP2, hD2⟩ := va_join hP hD isC isR hC hR hn hdis hk1 hF hP1 hD1
    exact kk r u H1 locs1 hw hP2 hD2 hS1
theorem x_calv {S SX : Type} {post : S → Prop} {wp : S → va_W} {px : SX → Prop} {wpX : SX → va_W} {En : SX → String} {isC : List Nat} (isR : List Nat) {av : Array Value} (K : kAt D cy sa A s H locs ws wc isC) (hR : isR.map (fun i => ws[i]?) = wr.map some) (hn : va_nd isR = true) (hdis : ∀ i ∈ isR, i ∉ isC)
    (hr : vx_Run p l e R s m args below meth c H locs cells slots mc ms (F0 m pc ls st0) rest (va_Qv post (kB D (va_A wc H.size) wp) (va_A wc H.size) av) (vx_X px (kBX D (va_A wc H.size) wpX En) (va_A wc H.size)) (va_A wc H.size))
    (kx : ∀ (ce : Cell) (q9 : Addr) (u : SX) (H1 : Heap) (locs1 : List Loc), px u → va_P D vwCl (wr ++ wpX u) H1 → va_D A (wr ++ wpX u) → va_S A s.heap H1 locs1 → H1[q9]? = some ce → ce.vm = .none → s.vm.findClass (En u) = some ce.cls → vx_W p l e R s m args below meth c H1 locs1 (cells + mc) (slots + ms) Q (F0 m pc ls rest) q9)
    (kk : ∀ (u : S) (H1 : Heap) (locs1 : List Loc), post u → va_P D vwCl (wr ++ wp u) H1 → va_D A (wr ++ wp u) → va_S A s.heap H1 locs1 → W p l e R s m args below meth c H1 locs1 (cells + mc) (slots + ms) Q (F0 m (pc + 3) ls rest)) : W p l e R s m args below meth c H locs cells slots Q (F0 m pc ls st0) := by
  have hF := K.free
  obtain ⟨hP, hD, hG, hS, hA, hC, hcn⟩ := K
  refine vx_callv hr hS (fun q _ h => hF q h) hF (fun q _ h => hF q h) (fun E ce q9 u t H1 locs1 ht _ hw hB _ hk1 hS1 h1 h2 h3 => ?_) (fun u t H1 locs1 ht _ hw hB _ hk1 hS1 => ?_)
  · obtain ⟨rfl, hP1, hD1⟩ := hB
    rw [ht] at hP1
    obtain ⟨hP2, hD2⟩ := va_join hP hD isC isR hC hR hn hdis hk1 hF hP1 hD1
    exact kx ce q9 u H1 locs1 hw hP2 hD2 hS1 h1 h2 h3
  · obtain ⟨hP1, hD1⟩ := hB
    rw [ht] at hP1
    obtain ⟨hP2, hD2⟩ := va_join hP hD isC isR hC hR hn hdis hk1 hF hP1 hD1
    exact kk u H1 locs1 hw hP2 hD2 hS1
/-- a throw that goes on to the caller -/
theorem x_out {SX : Type} {px : SX → Prop} {wpX : SX → va_W} {En : SX → String} {ce : Cell} {q9 : Addr} (u : SX) (hxt : ∀ x ∈ c.exceptionTable.toList, False) (hlocks : meth.locks = false) (h1 : H[q9]? = some ce) (h2 : ce.vm = .none) (h3 : s.vm.findClass (En u) = some ce.cls) (hpx : px u) (hP : va_P D vwCl (wpX u) H) (hD : va_D A (wpX u)) (hS : va_S A s.heap H locs) (hc : cells ≤ mc) (hs : slots ≤ ms) :
    vx_W p l e R s m args below meth c H locs cells slots (vx_MQ below Qc (vx_X px (kBX D A wpX En) A) args s mc ms A) (F0 m pc ls rest) q9 :=
  vx_out (fun x hx => (hxt x hx).elim) hlocks h1 h2 h3 (fun t ht _ => ⟨u, hpx, ⟨rfl, by rw [ht]; exact hP, hD⟩, hS.F ht⟩) hS.2.2 hc hs
end KCall
section KNew
variable {p : Program} {l : Launch} {e : Env} {R : Room} {s : State} {m : MethodId} {args : Array Value} {below : List Frame} {meth : Method} {c : Code} {H : Heap} {locs : List Loc} {cells slots : Nat} {Q : State → Prop}
variable {cc : ByteArray} {pc : Nat} {ls : Array Slot} {rest : List Value} {D : va_G} {cy : Nat → ClassId} {A : Nat → Prop} {ws : va_W}
/-- a new array of a primitive type is of the class that the tables name -/
theorem k_newa (t0 : Nat) (hexec : p.tables.exec = Jvm.exec) (hb : c.code = cc) {atype : ArrayType} (harr : (Cond.arrayClass (newarray.typeOf atype)).before args s = true) {ty : FieldType} {cA0 : ClassId} (hty : newarray.typeOf atype = ty) (ht0 : (kT cy)[t0]? = some (cA0, ty)) (hK : va_K D vwCl (kT cy) s) (hP : va_P D vwCl ws H) (hD : va_D A ws) (hS : va_S A s.heap H locs) (hA : ∀ q, s.heap.size ≤ q → A q)
    {n : Int32} {N' : Nat} {a0 : vp_A} (hno : match ty with | .object _ => False | _ => True) (ha : ∀ cA : ClassId, vp_cell cA a0 = arrV cA N' (fun _ => defaultValue ty)) (hn : ¬ n < 0) (hN : n.toNatClampNeg = N') (hbytes : N' * componentBytes ty ≤ 536870912) (hcells : cells + 1 ≤ R.cells) (hslots : slots + N' ≤ R.slots) (hdg : decode cc pc = .ok (.newarray atype, 2))
    (kk : ∀ (q : Nat) (H1 : Heap), va_P D vwCl (ws ++ [(q, .inl (cA0, a0))]) H1 → va_D A (ws ++ [(q, .inl (cA0, a0))]) → va_S A s.heap H1 locs →
      W p l e R s m args below meth c H1 locs (cells + 1) (slots + N') Q (F0 m (pc + 2) ls (.ref q :: rest))) : W p l e R s m args below meth c H locs cells slots Q (F0 m pc ls (.int n :: rest)) := by
  refine va_newa hexec hb harr hty hK hP hD hS hA ha hn hN hbytes hcells hslots hdg (fun q cA H1 hK1 hP1 hD1 hS1 => ?_)
  have e1 := (hK1.2 t0 (cA0, ty) (by rw [List.getElem?_append_left (List.getElem?_eq_some_iff.mp ht0).1]; exact ht0)).2
  have e2 := (hK1.2 (kT cy).length (cA, ty) (by rw [List.getElem?_append_right (Nat.le_refl _), Nat.sub_self]; rfl)).2
  have e3 : cA = cA0 := by
    cases ty <;> first | exact Option.some.inj (Eq.trans (Eq.symm e2) e1) | exact hno.elim
  subst e3
  exact kk q H1 hP1 hD1 hS1
/-- a new array of references -/
theorem k_newq (t0 : Nat) (hexec : p.tables.exec = Jvm.exec) (hb : c.code = cc) {own C : String} {index : Nat} {cA0 : ClassId} (hown : s.vm.findClass own = some m.cls) (hclink : (Cond.classLink own index C).before args s = true) (hover : va_AO C s) (ht0 : (kT cy)[t0]? = some (cA0, .object C)) (hK : va_K D vwCl (kT cy) s) (hP : va_P D vwCl ws H) (hD : va_D A ws) (hS : va_S A s.heap H locs) (hA : ∀ q, s.heap.size ≤ q → A q)
    {n : Int32} {N' : Nat} (hn : ¬ n < 0) (hN : n.toNatClampNeg = N') (hbytes : N' * 4 ≤ 536870912) (hcells : cells + 1 ≤ R.cells) (hslots : slots + N' ≤ R.slots) (hdg : decode cc pc = .ok (.anewarray index, 3))
    (kk : ∀ (q : Nat) (H1 : Heap), va_P D vwCl (ws ++ [(q, .inl (cA0, N', .inr (.inr (.inr (.inr (fun _ => none))))))]) H1 → va_D A (ws ++ [(q, .inl (cA0, N', .inr (.inr (.inr (.inr (fun _ => none))))))]) → va_S A s.heap H1 locs →
      W p l e R s m args below meth c H1 locs (cells + 1) (slots + N') Q (F0 m (pc + 3) ls (.ref q :: rest))) : W p l e R s m args below meth c H locs cells slots Q (F0 m pc ls (.int n :: rest)) := by
  refine va_newq hexec hb hown hclink hover hK hP hD hS hA hn hN hbytes hcells hslots hdg (fun q cA H1 hK1 hP1 hD1 hS1 => ?_)
  have e1 := (hK1.2 t0 (cA0, .object C) (by rw [List.getElem?_append_left (List.getElem?_eq_some_iff.mp ht0).1]; exact ht0)).2
  have e2 := (hK1.2 (kT cy).length (cA, .object C) (by rw [List.getElem?_append_right (Nat.le_refl _), Nat.sub_self]; rfl)).2
  have e3 : cA = cA0 := by
    obtain ⟨_, _, _, _, _, f1⟩ := e1
    obtain ⟨_, _, _, _, _, f2⟩ := e2
    exact Option.some.inj (f2.symm.trans f1)
  subst e3
  exact kk q H1 hP1 hD1 hS1
end KNew
