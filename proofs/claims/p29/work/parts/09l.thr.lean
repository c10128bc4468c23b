/-! throwing: what a throw rests on, and calls that throw -/
def thN : List String := ["java/lang/RuntimeException", "java/lang/Exception"]
def ZXT : List (Nat × String) := [(303, "there is a reason against the promise"), (307, "there is none with this number"), (310, "the value is out of range"), (312, "a change is not 0"), (62, "the counter could leave these bounds"), (95, "a transfer goes to another counter"), (133, "time ends there"), (163, "there is no saved state")]
def ZB : List Cond := [.castable "java/lang/IndexOutOfBoundsException" "java/lang/IndexOutOfBoundsException", .castable "java/lang/IllegalArgumentException" "java/lang/IllegalArgumentException", .castable "java/lang/IllegalStateException" "java/lang/IllegalStateException", .declares ⟨"java/lang/RuntimeException", "<init>", "(Ljava/lang/String;)V"⟩, .declares ⟨"java/lang/Exception", "<init>", "(Ljava/lang/String;)V"⟩, .declares ⟨"java/lang/Throwable", "<init>", "(Ljava/lang/String;)V"⟩]
theorem ZB_tabs : ∀ w ∈ ZB, w.onTables = true := by decide +kernel
def ZNc (_ : State) : Prop := True
def ZP (A : Nat → Prop) (U : State) (H : Heap) : Prop :=
  (vx_Zq Bundle.tN "UNASSIGNED_STACK" Bundle.steD A U H ∧ vx_Zq Bundle.tN "SUPPRESSED_SENTINEL" Bundle.listD A U H) ∧ (∀ q ∈ ZXT, ∃ a : Nat, vk_R "PromisedCounters" q.1 q.2 a U) ∧ (∀ w ∈ ZB, va_Nw w U) ∧ ZNc U
theorem ZB_warm {s U : State} (hW : s.WarmedH U.vm) (h : ∀ w ∈ ZB, va_Nw w s) : ∀ w ∈ ZB, va_Nw w U := by
  have hh : ∀ w ∈ ZB, (∃ C T, w = .castable C T) ∨ ∃ x, w = .declares x := by
    intro w hw
    simp only [ZB, List.mem_cons, List.not_mem_nil, or_false] at hw
    rcases hw with rfl | rfl | rfl | rfl | rfl | rfl
    · exact Or.inl ⟨_, _, rfl⟩
    · exact Or.inl ⟨_, _, rfl⟩
    · exact Or.inl ⟨_, _, rfl⟩
    · exact Or.inr ⟨_, rfl⟩
    · exact Or.inr ⟨_, rfl⟩
    · exact Or.inr ⟨_, rfl⟩
  intro w hw
  rcases hh w hw with ⟨C, T, rfl⟩ | ⟨x, rfl⟩
  · exact va_Nw.warmC hW (h _ hw)
  · exact va_Nw.warmD hW (h _ hw)
theorem ZNc.moved {u U : State} (hvm : u.vm.Alike U.vm) (_ : ZNc u) : ZNc U := trivial
theorem ZP.warm {A : Nat → Prop} {s U : State} {H : Heap} (hW : s.WarmedH U.vm) (h : ZP A s H) : ZP A U H :=
  ⟨⟨h.1.1.moved hW.alike, h.1.2.moved hW.alike⟩, fun q hq => by obtain ⟨a, ha⟩ := h.2.1 q hq; exact ⟨a, ha.warm hW⟩, ZB_warm hW h.2.2.1, h.2.2.2.moved hW.alike⟩
theorem ZP.same {A : Nat → Prop} {u U : State} {H : Heap} (hv : U.vm = u.vm) (h : ZP A u H) : ZP A U H :=
  ⟨⟨h.1.1.moved (by rw [hv]; exact Vm.Alike.refl _), h.1.2.moved (by rw [hv]; exact Vm.Alike.refl _)⟩, fun q hq => by obtain ⟨a, ha⟩ := h.2.1 q hq; exact ⟨a, ha.same hv⟩, fun w hw => (h.2.2.1 w hw).same (ZB_tabs w hw) hv.symm, h.2.2.2.moved (by rw [hv]; exact Vm.Alike.refl _)⟩
theorem ZP.kept {A : Nat → Prop} {U : State} {H H1 : Heap} (h : ZP A U H) (hq : ∀ a : Nat, a < H.size → ¬ A a → H1[a]? = H[a]?) : ZP A U H1 := ⟨⟨h.1.1.kept hq, h.1.2.kept hq⟩, h.2⟩
theorem ZP.narrow {A B : Nat → Prop} {U : State} {H : Heap} (h : ZP A U H) (hAB : ∀ q, B q → A q) : ZP B U H := ⟨⟨h.1.1.narrow hAB, h.1.2.narrow hAB⟩, h.2⟩
/-- nothing is forbidden -/
abbrev noA : Nat → Prop := fun _ => False
def QX : Array Value → State → Outcome → State → Prop := fun _ _ _ _ => False
def XN (N : String) : String → State → State → Prop := fun E st t => E = N ∧ va_F noA st t
def xnA (k : Int) : String := if k = 1 then "java/lang/IndexOutOfBoundsException" else if k = 2 then "java/lang/IllegalArgumentException" else "java/lang/IllegalStateException"
def xnB (k : Int) : String := if k = 1 then "java/lang/IllegalArgumentException" else "java/lang/IllegalStateException"
def xnC (k : Int) : String := if k = 1 then "java/lang/IllegalStateException" else ""
def pcX (D : va_G) (tys : List (ClassId × FieldType)) (av : List Value) (w : va_W) : Array Value → State → Prop := va_Pc av (fun U => va_P D vwCl w U.heap ∧ va_K D vwCl tys U ∧ ZP noA U U.heap)
theorem pcX_blind {D : va_G} {tys : List (ClassId × FieldType)} {av : List Value} {w : va_W} : FrameBlind (pcX D tys av w) := fun a U g mk q => ⟨q.1, q.2.1, va_K.moved (u := U) (U := U.calling g mk a) (Vm.Alike.refl U.vm) q.2.2.1, ZP.same (u := U) (U := U.calling g mk a) rfl q.2.2.2⟩
theorem pcX_of {D : va_G} {tys : List (ClassId × FieldType)} {av : List Value} {w : va_W} {s : State} {H : Heap} {A : Nat → Prop} (hP : va_P D vwCl w H) (hK : va_K D vwCl tys s) (hZ : ZP A s H) : ∀ U : State, U.heap = H → s.WarmedH U.vm → pcX D tys av w av.toArray U := fun U hU hW => ⟨rfl, by rw [hU]; exact hP, va_K.moved hW.alike hK, by rw [hU]; exact ZP.warm hW (hZ.narrow (fun _ h => h.elim))⟩
def pcX0 (av : List Value) : Array Value → State → Prop := va_Pc av (fun U => ZP noA U U.heap)
theorem pcX0_blind {av : List Value} : FrameBlind (pcX0 av) := fun a U g mk q => ⟨q.1, ZP.same (u := U) (U := U.calling g mk a) rfl q.2⟩
theorem pcX0_of {av : List Value} {s : State} {H : Heap} {A : Nat → Prop} (hZ : ZP A s H) : ∀ U : State, U.heap = H → s.WarmedH U.vm → pcX0 av av.toArray U := fun U hU hW => ⟨rfl, by show ZP noA U U.heap; rw [hU]; exact ZP.warm hW (hZ.narrow (fun _ h => h.elim))⟩
theorem hgIX : ∀ w ∈ Cond.classLink RX4 305 "java/lang/IndexOutOfBoundsException" :: Cond.initialized "java/lang/IndexOutOfBoundsException" :: vx_atS RX4 309 "java/lang/IndexOutOfBoundsException" thN, vx_ot w = true := by decide +kernel
theorem hgIA : ∀ w ∈ Cond.classLink RX4 93 "java/lang/IllegalArgumentException" :: Cond.initialized "java/lang/IllegalArgumentException" :: vx_atS RX4 97 "java/lang/IllegalArgumentException" thN, vx_ot w = true := by decide +kernel
theorem hgIS : ∀ w ∈ Cond.classLink RX4 60 "java/lang/IllegalStateException" :: Cond.initialized "java/lang/IllegalStateException" :: vx_atS RX4 64 "java/lang/IllegalStateException" thN, vx_ot w = true := by decide +kernel
theorem hbIX : ∀ w ∈ (vx_atS RX4 309 "java/lang/IndexOutOfBoundsException" thN).filter (fun w => !goodWord w), w ∈ ZB := by decide +kernel
theorem hbIA : ∀ w ∈ (vx_atS RX4 97 "java/lang/IllegalArgumentException" thN).filter (fun w => !goodWord w), w ∈ ZB := by decide +kernel
theorem hbIS : ∀ w ∈ (vx_atS RX4 64 "java/lang/IllegalStateException" thN).filter (fun w => !goodWord w), w ∈ ZB := by decide +kernel
section WX
variable {p : Program} {l : Launch} {e : Env} {R : Room} {s : State} {m : MethodId} {args : Array Value} {below : List Frame} {meth : Method} {c : Code} {H : Heap} {locs : List Loc} {cells slots : Nat} {Q : State → Prop}
variable {pc : Nat} {ls : Array Slot} {rest st0 : List Value} {H0 : Heap} {cc : ByteArray}
theorem hatX {own : String} {ic : Nat} {E : String} (h1 : ∀ w ∈ (vx_atS own ic E thN).filter goodWord, w.before args s = true) (h2 : ∀ w ∈ (vx_atS own ic E thN).filter (fun w => !goodWord w), w ∈ ZB) (hZ : ZP noA s s.heap) : ∀ w ∈ vx_atS own ic E thN, w.before args s = true :=
  vx_hat h1 h2 (fun w hw => va_Nw.use (ZB_tabs w hw) (hZ.2.2.1 w hw))
/-- a throw of the method's own, in a heap as it was -/
theorem thrX (hexec : p.tables.exec = Jvm.exec) (hb : c.code = cc) (hl9 : l.stackTraces = false) {E text N : String} {ik is ic : Nat} (hown : s.vm.findClass RX4 = some m.cls) (hcls : Bundle.fit E = true)
    (hk : (Cond.classLink RX4 ik E).before args s = true) (hini : (Cond.initialized E).before args s = true) (h1 : ∀ w ∈ (vx_atS RX4 ic E thN).filter goodWord, w.before args s = true) (h2 : ∀ w ∈ (vx_atS RX4 ic E thN).filter (fun w => !goodWord w), w ∈ ZB)
    (hgood : ∀ w ∈ Cond.classLink RX4 ik E :: Cond.initialized E :: vx_atS RX4 ic E thN, vx_ot w = true) (hZ : ZP noA s s.heap) (htx : (is, text) ∈ ZXT) (hsize : ls.size = c.maxLocals)
    (d0 : decode cc pc = .ok (.new ik, 3)) (d3 : decode cc (pc + 3) = .ok (.dup, 1)) (d4 : decode cc (pc + 4) = .ok (.ldc is, 2)) (d6 : decode cc (pc + 6) = .ok (.invokespecial ic, 3)) (d9 : decode cc (pc + 9) = .ok (.athrow, 1))
    (hexc : ∀ x ∈ c.exceptionTable.toList, False) (hRf : 5 < R.frames) (hRl : (rest.map fun v => v.category).sum + 82 ≤ R.locals) (hRc : 1 ≤ R.cells) (hRs : 6 ≤ R.slots) (hlocks : meth.locks = false) (hN : E = N) :
    W p l e R s m args below meth c s.heap [] 0 0 (vx_MQ below QX (XN N) args s 1 6 noA) (F0 m pc ls rest) := by
  obtain ⟨sa, hstr⟩ := hZ.2.1 (is, text) htx
  exact vx_throwS (names := thN) (mc := 1) (ms := 6) (A := noA) hexec hb hl9 hown hcls (by decide +kernel) hk hini hstr (hatX h1 h2 hZ) hgood hZ.1.1 hZ.1.2 va_S.rf hsize d0 d3 d4 d6 d9 (fun x hx => (hexc x hx).elim) hRf hRl (by omega) (by omega) hlocks (fun t _ z1 z2 => ⟨hN, z1, fun q hq _ => z2 q hq⟩) (fun _ h => nomatch h) (Nat.le_refl _) (Nat.le_refl _)
theorem thrXW (hexec : p.tables.exec = Jvm.exec) (hb : c.code = cc) (hl9 : l.stackTraces = false) {E text N : String} {ik is ic : Nat} (hown : s.vm.findClass RX4 = some m.cls) (hcls : Bundle.fit E = true)
    (hk : (Cond.classLink RX4 ik E).before args s = true) (hini : (Cond.initialized E).before args s = true) (h1 : ∀ w ∈ (vx_atS RX4 ic E thN).filter goodWord, w.before args s = true) (h2 : ∀ w ∈ (vx_atS RX4 ic E thN).filter (fun w => !goodWord w), w ∈ ZB)
    (hgood : ∀ w ∈ Cond.classLink RX4 ik E :: Cond.initialized E :: vx_atS RX4 ic E thN, vx_ot w = true) (hZ : ZP noA s s.heap) (htx : (is, text) ∈ ZXT) (hsize : ls.size = c.maxLocals)
    (d0 : decode cc pc = .ok (.new ik, 3)) (d3 : decode cc (pc + 3) = .ok (.dup, 1)) (d4 : decode cc (pc + 4) = .ok (.ldc_w is, 3)) (d7 : decode cc (pc + 7) = .ok (.invokespecial ic, 3)) (d10 : decode cc (pc + 10) = .ok (.athrow, 1))
    (hexc : ∀ x ∈ c.exceptionTable.toList, False) (hRf : 5 < R.frames) (hRl : (rest.map fun v => v.category).sum + 82 ≤ R.locals) (hRc : 1 ≤ R.cells) (hRs : 6 ≤ R.slots) (hlocks : meth.locks = false) (hN : E = N) :
    W p l e R s m args below meth c s.heap [] 0 0 (vx_MQ below QX (XN N) args s 1 6 noA) (F0 m pc ls rest) := by
  obtain ⟨sa, hstr⟩ := hZ.2.1 (is, text) htx
  exact vx_throwSW (names := thN) (mc := 1) (ms := 6) (A := noA) hexec hb hl9 hown hcls (by decide +kernel) hk hini hstr (hatX h1 h2 hZ) hgood hZ.1.1 hZ.1.2 va_S.rf hsize d0 d3 d4 d7 d10 (fun x hx => (hexc x hx).elim) hRf hRl (by omega) (by omega) hlocks (fun t _ z1 z2 => ⟨hN, z1, fun q hq _ => z2 q hq⟩) (fun _ h => nomatch h) (Nat.le_refl _) (Nat.le_refl _)
/-- a call that throws: it goes on to this method's caller -/
theorem passX {N N' : String} {a : Array Value} (hr : vx_Run p l e R s m args below meth c s.heap [] 0 0 1 6 (F0 m pc ls st0) rest (QX a) (XN N) noA) (hexc : ∀ x ∈ c.exceptionTable.toList, False) (hlocks : meth.locks = false) (hN : N = N') :
    W p l e R s m args below meth c s.heap [] 0 0 (vx_MQ below QX (XN N') args s 1 6 noA) (F0 m pc ls st0) := by
  intro T hT X
  rcases hr T hT X with ⟨v, st₀, t, T', L, h0, X', hL, e1, e2, hq, st⟩ | ⟨q, st₀, t, T', L, E, ce, h0, X', hL, e1, e2, ⟨hE, hF⟩, hce, hcv, hcl, st⟩
  · exact hq.elim
  · have hH : T'.heap = t.heap := e1
    have hF' : va_F noA s T' := by
      refine ⟨?_, fun z z1 z2 => ?_⟩
      · rw [← h0, hH]; exact hF.1
      · rw [hH]; rw [← h0] at z1 ⊢; exact hF.2 z z1 z2
    obtain ⟨t2, a1, b1⟩ := vx_out (p := p) (l := l) (e := e) (R := R) (s := s) (m := m) (args := args) (below := below) (meth := meth) (c := c) (H := T'.heap) (locs := [] ++ L) (cells := 0 + 1) (slots := 0 + 6) (pc := pc) (ls := ls) (rest := rest) (Qc := QX) (XC := XN N') (free := noA) (E := E) (ce := ce) (q := q) (mc := 1) (ms := 6)
      (fun x hx => (hexc x hx).elim) hlocks (by rw [e1]; exact hce) hcv hcl (fun u hu _ => ⟨hE.trans hN, by rw [hu]; exact hF'.1, fun z z1 z2 => by rw [hu]; exact hF'.2 z z1 z2⟩) (fun z hz => (hL z (by simpa using hz)).elim) (by omega) (by omega) T' rfl X'
    exact ⟨t2, st.trans a1, b1⟩
/-- a call that throws, caught here by the row x -/
theorem catchX {D : va_G} {cl : List vw_C} {ws : va_W} {A : Nat → Prop} {E own : String} {a : Array Value} (hr : vx_Run p l e R s m args below meth c H locs cells slots 1 6 (F0 m pc ls st0) rest (QX a) (XN E) noA) (hP : va_P D cl ws H) (hS : va_S A H0 H locs) (hown : s.vm.findClass own = some m.cls) (pre : List ExceptionTableEntry) (x : ExceptionTableEntry) (suf : List ExceptionTableEntry) (hsplit : c.exceptionTable.toList = pre ++ x :: suf)
    (hpass : ∀ z ∈ pre, covers z pc = false ∨ (z.catchType ≠ 0 ∧ ∃ nm : String, (Cond.classLink own z.catchType nm).before args s = true ∧ va_Nc E nm s)) (hx : covers x pc = true) (h0 : x.catchType ≠ 0)
    (hlink : (Cond.classLink own x.catchType E).before args s = true) (hcast : (Cond.castable E E).before args s = true)
    (kk : ∀ (H : Heap) (locs : List Loc) (q : Nat), va_P D cl ws H → va_S A H0 H locs → W p l e R s m args below meth c H locs (cells + 1) (slots + 6) Q (F0 m x.handlerPc ls [.ref q])) : W p l e R s m args below meth c H locs cells slots Q (F0 m pc ls st0) := by
  intro T hT X
  rcases hr T hT X with ⟨v, st₀, t, T', L, h0', X', hL, e1, e2, hq, st⟩ | ⟨q, st₀, t, T', L, E', ce, h0', X', hL, e1, e2, ⟨hE, hF⟩, hce, hcv, hcl, st⟩
  · exact hq.elim
  · subst hE
    have hz : H.size ≤ T'.heap.size := by rw [← h0', e1]; exact hF.1
    have hk : ∀ z : Nat, z < H.size → T'.heap[z]? = H[z]? := fun z z1 => by rw [e1, ← h0']; exact hF.2 z (by rw [h0']; exact z1) (fun w => w)
    have hP' : va_P D cl ws T'.heap := va_P_mem.mpr (fun y hy => ((va_P_mem.mp hP) y hy).kept (hk y.1 ((va_P_mem.mp hP) y hy).lt))
    have hS' : va_S A H0 T'.heap (locs ++ L) := ⟨Nat.le_trans hS.1 hz, fun z z1 z2 => by rw [hk z (Nat.lt_of_lt_of_le z1 hS.1)]; exact hS.2.1 z z1 z2, fun z hz9 => by
      rcases List.mem_append.mp hz9 with h | h
      · exact hS.2.2 z h
      · exact (hL z h).elim⟩
    obtain ⟨t2, a1, b1⟩ := vx_catch (p := p) (l := l) (e := e) (R := R) (s := s) (m := m) (args := args) (below := below) (meth := meth) (c := c) (H := T'.heap) (locs := locs ++ L) (cells := cells + 1) (slots := slots + 6) (Q := Q) (pc := pc) (ls := ls) (rest := rest) (ce := ce) (q := q) hown pre x suf hsplit hpass hx h0 hlink hcast (by rw [e1]; exact hce) hcv hcl (kk T'.heap (locs ++ L) q hP' hS') T' rfl X'
    exact ⟨t2, st.trans a1, b1⟩
end WX
