/-! Throws: 'new X(text)' and athrow in the class; the words that they need. -/
def kEN : List String := ["java/lang/RuntimeException", "java/lang/Exception"]
def kXB : List Cond := kDC.map Cond.declares ++ kCA.map (fun q => Cond.castable q.1 q.2)
theorem kG.xb {D : va_G} {cy : Nat → ClassId} {sa : Nat → Nat} {A : Nat → Prop} {s : State} {args : Array Value} (hG : kG D cy sa A s) : ∀ w ∈ kXB, w.before args s = true := by
  intro w hw
  rcases List.mem_append.mp hw with h | h
  · obtain ⟨x, hx, rfl⟩ := List.mem_map.mp h
    exact va_Nw.use rfl (hG.2.2.1 x hx)
  · obtain ⟨x, hx, rfl⟩ := List.mem_map.mp h
    exact va_Nw.use rfl (hG.2.2.2.1 x hx)
/-- what the tables say of an exception class that the class LentMinds throws with a text -/
def kTH (cls : String) (ik ic is : Nat) (text : String) : Prop :=
  Bundle.fit cls = true ∧ Cond.classLink "LentMinds" ik cls ∈ kWS ∧ Cond.initialized cls ∈ kWS ∧ (is, text) ∈ kST ∧ (∀ w ∈ (vx_atS "LentMinds" ic cls kEN).filter goodWord, w ∈ kWS) ∧ (∀ w ∈ (vx_atS "LentMinds" ic cls kEN).filter (fun w => !goodWord w), w ∈ kXB) ∧ (∀ w ∈ Cond.classLink "LentMinds" ik cls :: Cond.initialized cls :: vx_atS "LentMinds" ic cls kEN, vx_ot w = true)
theorem k_throwS {p : Program} {l : Launch} {e : Env} {R : Room} {s : State} {m : MethodId} {args : Array Value} {below : List Frame} {meth : Method} {c : Code} {H : Heap} {locs : List Loc} {cells slots mc ms : Nat} {cc : ByteArray} {pc : Nat} {ls : Array Slot} {rest : List Value} {D : va_G} {cy : Nat → ClassId} {sa : Nat → Nat} {A : Nat → Prop} {y0 : MethodName} {nL : Nat} {ret0 : Option FieldType} {Qc : Array Value → State → Outcome → State → Prop} {SX : Type} {px : SX → Prop} {wpX : SX → va_W} {En : SX → String} {cls text : String} {ik ic is : Nat}
    (u : SX) (hl0 : l.stackTraces = false) (E : kE y0 cc nL ret0 args p s m meth c) (hy : y0.cls = "LentMinds") (hxt : ∀ x ∈ c.exceptionTable.toList, False) (th : kTH cls ik ic is text) (hl : ls.size = nL) (hP : va_P D vwCl (wpX u) H) (hD : va_D A (wpX u)) (hG : kG D cy sa A s) (hS : va_S A s.heap H locs) (hpx : px u) (hEn : cls = En u)
    (d0 : decode cc pc = .ok (.new ik, 3)) (d3 : decode cc (pc + 3) = .ok (.dup, 1)) (d4 : decode cc (pc + 4) = .ok (.ldc is, 2)) (d6 : decode cc (pc + 6) = .ok (.invokespecial ic, 3)) (d9 : decode cc (pc + 9) = .ok (.athrow, 1))
    (hRf : 5 < R.frames) (hRl : (rest.map fun v => v.category).sum + 82 ≤ R.locals) (hRc : cells + 1 ≤ R.cells) (hRs : slots + 6 ≤ R.slots) (hc : cells + 1 ≤ mc) (hs : slots + 6 ≤ ms) :
    W p l e R s m args below meth c H locs cells slots (vx_MQ below Qc (vx_X px (kBX D A wpX En) A) args s mc ms A) (F0 m pc ls rest) := by
  obtain ⟨hx, hb, hml, hown, hts, -, hlk, -⟩ := E
  obtain ⟨t1, t2, t3, t4, t5, t6, t7⟩ := th
  rw [hy] at hown
  refine vx_throwS (names := kEN) hx hb hl0 hown t1 (by decide +kernel) (hts _ t2) (hts _ t3) (hG.2.2.2.2.1 _ t4) (vx_hat (fun w hw => hts _ (t5 w hw)) t6 hG.xb) t7 hG.2.2.2.2.2.2.2.2.1 hG.2.2.2.2.2.2.2.2.2.1 hS (hl.trans hml.symm) d0 d3 d4 d6 d9 (fun x hx => (hxt x hx).elim) (by show 2 + 3 < R.frames; omega) (by show (rest.map fun v => v.category).sum + (13 * (2 + 1) + 43) ≤ R.locals; omega) hRc hRs hlk (fun t _ h1 h2 => ⟨u, hpx, ⟨hEn, hP.kept (fun k x hk => h2 x.1 (hP k x hk).lt), hD⟩, Nat.le_trans hS.1 h1, fun q h3 h4 => (h2 q (Nat.lt_of_lt_of_le h3 hS.1)).trans (hS.2.1 q h3 h4)⟩) hS.2.2 hc hs
theorem k_throwSW {p : Program} {l : Launch} {e : Env} {R : Room} {s : State} {m : MethodId} {args : Array Value} {below : List Frame} {meth : Method} {c : Code} {H : Heap} {locs : List Loc} {cells slots mc ms : Nat} {cc : ByteArray} {pc : Nat} {ls : Array Slot} {rest : List Value} {D : va_G} {cy : Nat → ClassId} {sa : Nat → Nat} {A : Nat → Prop} {y0 : MethodName} {nL : Nat} {ret0 : Option FieldType} {Qc : Array Value → State → Outcome → State → Prop} {SX : Type} {px : SX → Prop} {wpX : SX → va_W} {En : SX → String} {cls text : String} {ik ic is : Nat}
    (u : SX) (hl0 : l.stackTraces = false) (E : kE y0 cc nL ret0 args p s m meth c) (hy : y0.cls = "LentMinds") (hxt : ∀ x ∈ c.exceptionTable.toList, False) (th : kTH cls ik ic is text) (hl : ls.size = nL) (hP : va_P D vwCl (wpX u) H) (hD : va_D A (wpX u)) (hG : kG D cy sa A s) (hS : va_S A s.heap H locs) (hpx : px u) (hEn : cls = En u)
    (d0 : decode cc pc = .ok (.new ik, 3)) (d3 : decode cc (pc + 3) = .ok (.dup, 1)) (d4 : decode cc (pc + 4) = .ok (.ldc_w is, 3)) (d6 : decode cc (pc + 7) = .ok (.invokespecial ic, 3)) (d9 : decode cc (pc + 10) = .ok (.athrow, 1))
    (hRf : 5 < R.frames) (hRl : (rest.map fun v => v.category).sum + 82 ≤ R.locals) (hRc : cells + 1 ≤ R.cells) (hRs : slots + 6 ≤ R.slots) (hc : cells + 1 ≤ mc) (hs : slots + 6 ≤ ms) :
    W p l e R s m args below meth c H locs cells slots (vx_MQ below Qc (vx_X px (kBX D A wpX En) A) args s mc ms A) (F0 m pc ls rest) := by
  obtain ⟨hx, hb, hml, hown, hts, -, hlk, -⟩ := E
  obtain ⟨t1, t2, t3, t4, t5, t6, t7⟩ := th
  rw [hy] at hown
  refine vx_throwSW (names := kEN) hx hb hl0 hown t1 (by decide +kernel) (hts _ t2) (hts _ t3) (hG.2.2.2.2.1 _ t4) (vx_hat (fun w hw => hts _ (t5 w hw)) t6 hG.xb) t7 hG.2.2.2.2.2.2.2.2.1 hG.2.2.2.2.2.2.2.2.2.1 hS (hl.trans hml.symm) d0 d3 d4 d6 d9 (fun x hx => (hxt x hx).elim) (by show 2 + 3 < R.frames; omega) (by show (rest.map fun v => v.category).sum + (13 * (2 + 1) + 43) ≤ R.locals; omega) hRc hRs hlk (fun t _ h1 h2 => ⟨u, hpx, ⟨hEn, hP.kept (fun k x hk => h2 x.1 (hP k x hk).lt), hD⟩, Nat.le_trans hS.1 h1, fun q h3 h4 => (h2 q (Nat.lt_of_lt_of_le h3 hS.1)).trans (hS.2.1 q h3 h4)⟩) hS.2.2 hc hs
theorem th_110_114_112 : kTH "java/lang/IllegalArgumentException" 110 114 112 "not so many bytes on the tape" := ⟨by decide +kernel, kws_at 921 (by decide +kernel) (by decide +kernel), kws_at 16 (by decide +kernel) (by decide +kernel), by decide +kernel, by decide +kernel, by decide +kernel, by decide +kernel⟩
theorem th_110_114_143 : kTH "java/lang/IllegalArgumentException" 110 114 143 "what is 0 to 4" := ⟨by decide +kernel, kws_at 921 (by decide +kernel) (by decide +kernel), kws_at 16 (by decide +kernel) (by decide +kernel), by decide +kernel, by decide +kernel, by decide +kernel, by decide +kernel⟩
theorem th_110_114_173 : kTH "java/lang/IllegalArgumentException" 110 114 173 "what is 0 to 7" := ⟨by decide +kernel, kws_at 921 (by decide +kernel) (by decide +kernel), kws_at 16 (by decide +kernel) (by decide +kernel), by decide +kernel, by decide +kernel, by decide +kernel, by decide +kernel⟩
theorem th_110_114_184 : kTH "java/lang/IllegalArgumentException" 110 114 184 "a number is none such" := ⟨by decide +kernel, kws_at 921 (by decide +kernel) (by decide +kernel), kws_at 16 (by decide +kernel) (by decide +kernel), by decide +kernel, by decide +kernel, by decide +kernel, by decide +kernel⟩
theorem th_244_248_246 : kTH "java/lang/IllegalStateException" 244 248 246 "no house, or the day is over" := ⟨by decide +kernel, kws_at 1147 (by decide +kernel) (by decide +kernel), kws_at 26 (by decide +kernel) (by decide +kernel), by decide +kernel, by decide +kernel, by decide +kernel, by decide +kernel⟩
theorem th_110_114_269 : kTH "java/lang/IllegalArgumentException" 110 114 269 "what is 0 to 3" := ⟨by decide +kernel, kws_at 921 (by decide +kernel) (by decide +kernel), kws_at 16 (by decide +kernel) (by decide +kernel), by decide +kernel, by decide +kernel, by decide +kernel, by decide +kernel⟩
