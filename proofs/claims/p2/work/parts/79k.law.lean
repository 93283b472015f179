/-! The law: calls beside all the rest. -/
theorem sw_at (a b c : va_W) (i : Nat) : (b ++ (a ++ c))[i]? = (a ++ (b ++ c))[if i < b.length then i + a.length else if i < b.length + a.length then i - b.length else i]? := by
  by_cases h1 : i < b.length
  · rw [if_pos h1, List.getElem?_append_left h1, List.getElem?_append_right (by omega), List.getElem?_append_left (by omega)]
    congr 1; omega
  · rw [if_neg h1, List.getElem?_append_right (by omega)]
    by_cases h2 : i < b.length + a.length
    · rw [if_pos h2, List.getElem?_append_left (by omega), List.getElem?_append_left (by omega)]
    · rw [if_neg h2, List.getElem?_append_right (by omega), List.getElem?_append_right (by omega), List.getElem?_append_right (by omega)]
      congr 1; omega
theorem va_P.sw {D : va_G} {cl : List vw_C} {a b c : va_W} {H : Heap} (h : va_P D cl (a ++ (b ++ c)) H) : va_P D cl (b ++ (a ++ c)) H := fun k q hk => h _ q (by rw [← sw_at]; exact hk)
theorem va_D.sw {A : Nat → Prop} {a b c : va_W} (h : va_D A (a ++ (b ++ c))) : va_D A (b ++ (a ++ c)) := by
  refine ⟨fun i j p q hi hj e => ?_, fun k q hk => h.2 _ q (by rw [← sw_at]; exact hk)⟩
  have hi' := hi; have hj' := hj
  rw [sw_at] at hi hj
  have h9 := h.1 _ _ p q hi hj e
  have li : i < b.length + (a.length + c.length) := by
    have := (List.getElem?_eq_some_iff.mp hi').1
    rw [List.length_append, List.length_append] at this; exact this
  have lj : j < b.length + (a.length + c.length) := by
    have := (List.getElem?_eq_some_iff.mp hj').1
    rw [List.length_append, List.length_append] at this; exact this
  by_cases a1 : i < b.length <;> by_cases a2 : j < b.length <;> simp only [a1, a2, if_true, if_false, ite_true, ite_false] at h9
  · omega
  · by_cases a3 : j < b.length + a.length <;> simp only [a3, if_true, if_false, ite_true, ite_false] at h9 <;> omega
  · by_cases a3 : i < b.length + a.length <;> simp only [a3, if_true, if_false, ite_true, ite_false] at h9 <;> omega
  · by_cases a3 : i < b.length + a.length <;> by_cases a4 : j < b.length + a.length <;> simp only [a3, a4, if_true, if_false, ite_true, ite_false] at h9 <;> omega
theorem va_P.cm {D : va_G} {cl : List vw_C} {a b : va_W} {H : Heap} (h : va_P D cl (a ++ b) H) : va_P D cl (b ++ a) H := by
  have := va_P.sw (D := D) (cl := cl) (a := a) (b := b) (c := []) (H := H) (by rw [List.append_nil]; exact h)
  rw [List.append_nil] at this; exact this
theorem va_D.cm {A : Nat → Prop} {a b : va_W} (h : va_D A (a ++ b)) : va_D A (b ++ a) := by
  have := va_D.sw (A := A) (a := a) (b := b) (c := []) (by rw [List.append_nil]; exact h)
  rw [List.append_nil] at this; exact this
theorem va_nd_of {l : List Nat} (h : l.Nodup) : va_nd l = true := by
  induction l with
  | nil => rfl
  | cons a l ih =>
    rw [List.nodup_cons] at h
    simp [va_nd, ih h.2, h.1]
theorem app_C (wc R : va_W) : (List.range wc.length).map (fun i => (wc ++ R)[i]?) = wc.map some := by
  apply List.ext_getElem
  · simp
  · intro i h1 h2
    simp at h1 h2
    simp [List.getElem?_append_left h2]
theorem app_R (wc R : va_W) : ((List.range R.length).map (· + wc.length)).map (fun i => (wc ++ R)[i]?) = R.map some := by
  apply List.ext_getElem
  · simp
  · intro i h1 h2
    simp at h1 h2
    simp [List.getElem?_append_right]
section KLaw
variable {p : Program} {l : Launch} {e : Env} {R : Room} {s : State} {m : MethodId} {args : Array Value} {below : List Frame} {meth : Method} {c : Code} {H : Heap} {locs : List Loc} {cells slots : Nat} {Q : State → Prop}
variable {cc : ByteArray} {pc : Nat} {ls : Array Slot} {rest st0 : List Value} {D : va_G} {cy : Nat → ClassId} {sa : Nat → Nat} {A : Nat → Prop} {wc wr : va_W} {mc ms : Nat}
theorem kAt.app (hP : va_P D vwCl (wc ++ wr) H) (hD : va_D A (wc ++ wr)) (hG : kG D cy sa A s) (hS : va_S A s.heap H locs) (hA : ∀ q, s.heap.size ≤ q → A q) : kAt D cy sa A s H locs (wc ++ wr) wc (List.range wc.length) := ⟨hP, hD, hG, hS, hA, app_C wc wr, va_nd_of List.nodup_range⟩
theorem app_nd (wc wr : va_W) : va_nd ((List.range wr.length).map (· + wc.length)) = true := va_nd_of (List.Pairwise.map _ (fun a b h => by omega) List.nodup_range)
theorem app_dis (wc wr : va_W) : ∀ i ∈ (List.range wr.length).map (· + wc.length), i ∉ List.range wc.length := by
  intro i hi
  obtain ⟨j, -, rfl⟩ := List.mem_map.mp hi
  rw [List.mem_range]; omega
theorem k_caliA {S : Type} {post : Int32 → S → Prop} {wp : S → va_W} {av : Array Value} (hP : va_P D vwCl (wc ++ wr) H) (hD : va_D A (wc ++ wr)) (hG : kG D cy sa A s) (hS : va_S A s.heap H locs) (hA : ∀ q, s.heap.size ≤ q → A q)
    (hr : va_Run p l e R s m args below meth c H locs cells slots mc ms (F0 m pc ls st0) rest (va_Qi post (kB D (va_A wc H.size) wp) (va_A wc H.size) av) (va_A wc H.size))
    (kk : ∀ (r : Int32) (u : S) (H1 : Heap) (locs1 : List Loc), post r u → va_P D vwCl (wp u ++ wr) H1 → va_D A (wp u ++ wr) → va_S A s.heap H1 locs1 → W p l e R s m args below meth c H1 locs1 (cells + mc) (slots + ms) Q (F0 m (pc + 3) ls (.int r :: rest))) : W p l e R s m args below meth c H locs cells slots Q (F0 m pc ls st0) :=
  k_cali _ (kAt.app hP hD hG hS hA) (app_R wc wr) (app_nd wc wr) (app_dis wc wr) hr (fun r u H1 l1 hw h1 h2 h3 => kk r u H1 l1 hw h1.cm h2.cm h3)
theorem x_caliA {S SX : Type} {post : Int32 → S → Prop} {wp : S → va_W} {px : SX → Prop} {wpX : SX → va_W} {En : SX → String} {av : Array Value} (hP : va_P D vwCl (wc ++ wr) H) (hD : va_D A (wc ++ wr)) (hG : kG D cy sa A s) (hS : va_S A s.heap H locs) (hA : ∀ q, s.heap.size ≤ q → A q)
    (hr : vx_Run p l e R s m args below meth c H locs cells slots mc ms (F0 m pc ls st0) rest (va_Qi post (kB D (va_A wc H.size) wp) (va_A wc H.size) av) (vx_X px (kBX D (va_A wc H.size) wpX En) (va_A wc H.size)) (va_A wc H.size)) (hno : ∀ u, ¬ px u)
    (kk : ∀ (r : Int32) (u : S) (H1 : Heap) (locs1 : List Loc), post r u → va_P D vwCl (wp u ++ wr) H1 → va_D A (wp u ++ wr) → va_S A s.heap H1 locs1 → W p l e R s m args below meth c H1 locs1 (cells + mc) (slots + ms) Q (F0 m (pc + 3) ls (.int r :: rest))) : W p l e R s m args below meth c H locs cells slots Q (F0 m pc ls st0) :=
  x_cali _ (kAt.app hP hD hG hS hA) (app_R wc wr) (app_nd wc wr) (app_dis wc wr) hr (fun _ _ u _ _ hpx _ _ _ _ _ _ => absurd hpx (hno u)) (fun r u H1 l1 hw h1 h2 h3 => kk r u H1 l1 hw h1.cm h2.cm h3)
end KLaw
