/-! Calls on constants, answers that are words or narrow numbers. -/
section KRead
variable {p : Program} {l : Launch} {e : Env} {R : Room} {s : State} {m : MethodId} {args : Array Value} {below : List Frame} {meth : Method} {c : Code} {H : Heap} {locs : List Loc} {cells slots : Nat} {Q : State → Prop}
variable {cc : ByteArray} {pc : Nat} {ls : Array Slot} {rest st0 : List Value} {D : va_G} {cy : Nat → ClassId} {sa : Nat → Nat} {A : Nat → Prop} {ws wc wr : va_W} {y y0 : MethodName} {bytes : ByteArray} {maxL nL n idx mc ms : Nat} {ret ret0 : Option FieldType} {rm : Room} {As : List Value} {b : Nat} {Qc : Array Value → State → Outcome → State → Prop} {XC : String → State → State → Prop}
theorem k_runK {isC : List Nat} (hre : ∃ cellB : Cell, H[b]? = some cellB ∧ cellB.vm.isStatics = false ∧ s.vm.findClass y.cls = some cellB.cls) (E : kE y0 cc nL ret0 args p s m meth c) (lk : kLV y0.cls idx y (Cond.code y bytes maxL ret) n)
    (hM : Met l y (Cond.code y bytes maxL ret :: kWS) rm (kPre D cy sa (.ref b :: As) wc H.size) Qc mc ms (va_A wc H.size)) (K : kAt D cy sa A s H locs ws wc isC) (hl : ls.size = nL) (hn : As.length = n) (hst : st0 = As.reverse ++ .ref b :: rest) (hr : kRm rm R maxL mc ms cells slots rest) (hdg : decode cc pc = .ok (.invokevirtual idx, 3)) :
    va_Run p l e R s m args below meth c H locs cells slots mc ms (F0 m pc ls st0) rest (Qc (Value.ref b :: As).toArray) (va_A wc H.size) := by
  obtain ⟨hx, hb, hml, hown, hts, -, -, -⟩ := E
  obtain ⟨k1, k2, k3, k4, k5, k6⟩ := lk
  obtain ⟨r1, r2, r3, r4, r5⟩ := hr
  subst hst
  exact va_runV (As := As) (rest := rest) (C := y.cls) (Ts := kWS) ⟨hx, hb, hml, hown, hts⟩ hM ⟨callB_of n hts (kws_in k5) rfl r1 r2 (hts _ k4) (hts _ k1) k6 r3, hts _ k2, hts _ k3⟩ ⟨kPre.blind, hre, K.pre⟩ rfl hn hl rfl (lv_room r5) hdg r4
theorem k_cale {S : Type} {ad : Nat → Nat} {post : Option Nat → S → Prop} {wp : S → va_W} {isC : List Nat} (isR : List Nat) {av : Array Value} (K : kAt D cy sa A s H locs ws wc isC) (hR : isR.map (fun i => ws[i]?) = wr.map some) (hn : va_nd isR = true) (hdis : ∀ i ∈ isR, i ∉ isC)
    (hr : va_Run p l e R s m args below meth c H locs cells slots mc ms (F0 m pc ls st0) rest (va_Qe ad post (kB D (va_A wc H.size) wp) (va_A wc H.size) av) (va_A wc H.size))
    (kk : ∀ (r : Option Nat) (u : S) (H1 : Heap) (locs1 : List Loc), post r u → va_P D vwCl (wr ++ wp u) H1 → va_D A (wr ++ wp u) → va_S A s.heap H1 locs1 → W p l e R s m args below meth c H1 locs1 (cells + mc) (slots + ms) Q (F0 m (pc + 3) ls (va_re ad r :: rest))) : W p l e R s m args below meth c H locs cells slots Q (F0 m pc ls st0) := by
  have hF := K.free
  obtain ⟨hP, hD, hG, hS, hA, hC, hcn⟩ := K
  refine va_calle hr hS (fun q _ h => hF q h) hF (fun r u t H1 locs1 ht _ hw hB _ hk1 hS1 => ?_)
  obtain ⟨hP1, hD1⟩ := hB
  rw [ht] at hP1
  obtain ⟨hP2, hD2⟩ := va_join hP hD isC isR hC hR hn hdis hk1 hF hP1 hD1
  exact kk r u H1 locs1 hw hP2 hD2 hS1
theorem k_nret {S : Type} {post : Int32 → S → Prop} {wp : S → va_W} {v : Int32} {ty : FieldType} (u : S) (hx : p.tables.exec = Jvm.exec) (hb : c.code = cc) (hr : meth.sig.returnType = some ty) (hlocks : meth.locks = false) (hn : narrow ty (.int v) = .int v) (hpost : post v u) (hP : va_P D vwCl (wp u) H) (hD : va_D A (wp u)) (hS : va_S A s.heap H locs) (hc : cells ≤ mc) (hs : slots ≤ ms) (hdg : decode cc pc = .ok (.ireturn, 1)) :
    W p l e R s m args below meth c H locs cells slots (MQ below (va_Qi post (kB D A wp) A) args s mc ms A) (F0 m pc ls [.int v]) :=
  W.widen hc hs (W.zret hx hb hr hn (fun t ht _ => ⟨⟨v, u, rfl, hpost, by rw [ht]; exact hP, hD⟩, hS.F ht⟩) hS.2.2 hdg hlocks)
theorem k_eret {S : Type} {ad : Nat → Nat} {post : Option Nat → S → Prop} {wp : S → va_W} {cl : String} (r : Option Nat) (u : S) (hx : p.tables.exec = Jvm.exec) (hb : c.code = cc) (hr : meth.sig.returnType = some (.object cl)) (hlocks : meth.locks = false) (hpost : post r u) (hP : va_P D vwCl (wp u) H) (hD : va_D A (wp u)) (hS : va_S A s.heap H locs) (hc : cells ≤ mc) (hs : slots ≤ ms) (hdg : decode cc pc = .ok (.areturn, 1)) :
    W p l e R s m args below meth c H locs cells slots (MQ below (va_Qe ad post (kB D A wp) A) args s mc ms A) (F0 m pc ls [va_re ad r]) :=
  W.widen hc hs (W.aret hx hb hr (Or.inl ⟨cl, rfl⟩) (va_re_or ad r) (fun t ht _ => ⟨⟨r, u, rfl, hpost, by rw [ht]; exact hP, hD⟩, hS.F ht⟩) hS.2.2 hdg hlocks)
end KRead
theorem kSl_rng {k : Nat} (h : k < 8) : 3 ≤ kSl.getD k 0 ∧ kSl.getD k 0 ≤ 6 := by
  rcases (show k = 0 ∨ k = 1 ∨ k = 2 ∨ k = 3 ∨ k = 4 ∨ k = 5 ∨ k = 6 ∨ k = 7 by omega) with rfl | rfl | rfl | rfl | rfl | rfl | rfl | rfl <;> decide
theorem kSl_toInt {k : Nat} (h : k < 8) {x : Int32} (e : x = Int32.ofNat (kSl.getD k 0)) : x.toInt = (kSl.getD k 0 : Int) := by
  subst e
  rcases (show k = 0 ∨ k = 1 ∨ k = 2 ∨ k = 3 ∨ k = 4 ∨ k = 5 ∨ k = 6 ∨ k = 7 by omega) with rfl | rfl | rfl | rfl | rfl | rfl | rfl | rfl <;> decide
theorem n_z9 {x : Int32} (h : x.toInt = 0) : x = 0 := Int32.toInt_inj.mp (h.trans (by decide))
theorem n_shr0 {x z : Int32} (e : z = x >>> ((0 : Int32) &&& 31)) : z = x := by
  rw [e, show (0 : Int32) &&& 31 = 0 by decide]
  exact Int32.shiftRight_zero
