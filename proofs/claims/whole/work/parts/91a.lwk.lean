/-! the law's own methods: what a step of the script leaves -/
abbrev LwS : Type := (Nat → Int → Int) × (Nat → Int → Int) × (Nat → Int → Int) × (Nat → Nat → Nat) × (Nat → Nat → Int → Int) × (Nat → Int → Int) × (Nat → Int → Int) × (Nat → Int → Int) × (Nat → Int64)
abbrev LwS.ln (u : LwS) : (Nat → Int → Int) := u.1
abbrev LwS.σ (u : LwS) : (Nat → Int → Int) := u.2.1
abbrev LwS.κ (u : LwS) : (Nat → Int → Int) := u.2.2.1
abbrev LwS.sa (u : LwS) : (Nat → Nat → Nat) := u.2.2.2.1
abbrev LwS.ss (u : LwS) : (Nat → Nat → Int → Int) := u.2.2.2.2.1
abbrev LwS.φ (u : LwS) : (Nat → Int → Int) := u.2.2.2.2.2.1
abbrev LwS.ρ (u : LwS) : (Nat → Int → Int) := u.2.2.2.2.2.2.1
abbrev LwS.β (u : LwS) : (Nat → Int → Int) := u.2.2.2.2.2.2.2.1
abbrev LwS.f (u : LwS) : (Nat → Int64) := u.2.2.2.2.2.2.2.2
def LwQ (u : LwS) (s : Nat → Int → Int) (k : Int) (q : Nat → Nat → Int → Int) (n : Int) (b : Int → Int) : Prop := LwS.σ u = s ∧ LwS.κ u 0 0 = k ∧ LwS.ss u = q ∧ LwS.ln u 0 0 = n ∧ LwS.β u 1 = b
def OPL (cd r ans : Int) (f : Nat → Int64) (R0 R1 : Prop) : Prop := r = cd ∧ (cd ≠ 0 → R0) ∧ (cd = 0 → f = (fun _ => iL ans) ∧ R1)
theorem OPL.bad {cd r ans k : Int} {f : Nat → Int64} {R0 R1 : Prop} (h : cd = k) (hk : k ≠ 0) (hr : r = k) (h0 : R0) : OPL cd r ans f R0 R1 := ⟨hr.trans h.symm, fun _ => h0, fun h9 => absurd (h.symm.trans h9) hk⟩
theorem OPL.good {cd r ans : Int} {f : Nat → Int64} {R0 R1 : Prop} (h : cd = 0) (hr : r = 0) (hf : f = fun _ => iL ans) (h1 : R1) : OPL cd r ans f R0 R1 := ⟨hr.trans h.symm, fun h9 => absurd h h9, fun _ => ⟨hf, h1⟩⟩
def LI (u : LwS) (μ : Nat → Int → Int) : Prop := LwS.κ u 0 0 = μ 0 0 ∧ LwS.ln u 0 0 = μ 0 1 ∧ RelM (LwS.σ u) (μ 0 0) (LwS.ss u) (μ 0 1) (LwS.β u 1) μ ∧ GI (LwS.σ u) (μ 0 0) (LwS.ss u) (μ 0 1) (LwS.β u 1)
theorem LI.of {u : LwS} {μ : Nat → Int → Int} {s : Nat → Int → Int} {k n : Int} {q : Nat → Nat → Int → Int} {b : Int → Int} (h : LwQ u s k q n b) (hM : RelM s k q n b μ) (hG : GI s k q n b) : LI u μ := by
  obtain ⟨h1, h2, h3, h4, h5⟩ := h
  have e1 : μ 0 0 = k := hM.2.1
  have e2 : μ 0 1 = n := hM.2.2.2.1
  refine ⟨h2.trans e1.symm, h4.trans e2.symm, ?_, ?_⟩
  · rw [e1, e2, h1, h3, h5]; exact hM
  · rw [e1, e2, h1, h3, h5]; exact hG
theorem LI.step {u : LwS} {μ : Nat → Int → Int} {s s' : Nat → Int → Int} {k n k' n' : Int} {q q' : Nat → Nat → Int → Int} {b b' : Int → Int} {cd r1 r2 ans : Int}
    (h1 : OPL cd r1 ans (LwS.f u) (LwQ u s k q n b) (LwQ u s' k' q' n' b')) (h2 : OPQ cd r2 ans (μ 0 2) (RelM s k q n b μ) (RelM s' k' q' n' b' μ)) (hG : GI s k q n b) (hG' : cd = 0 → GI s' k' q' n' b') :
    r1 = μ 0 2 ∧ (r1 = 0 → LwS.f u = fun _ => iL r2) ∧ LI u μ := by
  refine ⟨h1.1.trans h2.1.symm, fun h => ?_, ?_⟩
  · have hc : cd = 0 := h1.1.symm.trans h
    rw [(h2.2.2 hc).1]
    exact (h1.2.2 hc).1
  · by_cases hc : cd = 0
    · exact LI.of (h1.2.2 hc).2 (h2.2.2 hc).2 (hG' hc)
    · exact LI.of (h1.2.1 hc) (h2.2.1 hc) hG
theorem cd1_c {a : Prop} [Decidable a] : (cd1 a = 0 ∧ a) ∨ cd1 a = 1 := by
  unfold cd1
  by_cases h : a
  · rw [if_neg (fun q => q h)]; exact Or.inl ⟨rfl, h⟩
  · rw [if_pos h]; exact Or.inr rfl
theorem cd2_c {a b : Prop} [Decidable a] [Decidable b] : (cd2 a b = 0 ∧ a ∧ b) ∨ cd2 a b = 1 ∨ cd2 a b = 2 := by
  unfold cd2
  by_cases h : a
  · rw [if_neg (fun q => q h)]
    by_cases h2 : b
    · rw [if_neg (fun q => q h2)]; exact Or.inl ⟨rfl, h, h2⟩
    · rw [if_pos h2]; exact Or.inr (Or.inr rfl)
  · rw [if_pos h]; exact Or.inr (Or.inl rfl)
theorem cd3_c {a b c : Prop} [Decidable a] [Decidable b] [Decidable c] : (cd3 a b c = 0 ∧ a ∧ b ∧ c) ∨ cd3 a b c = 1 ∨ cd3 a b c = 2 ∨ cd3 a b c = 3 := by
  unfold cd3
  by_cases h : a
  · rw [if_neg (fun q => q h)]
    by_cases h2 : b
    · rw [if_neg (fun q => q h2)]
      by_cases h3 : c
      · rw [if_neg (fun q => q h3)]; exact Or.inl ⟨rfl, h, h2, h3⟩
      · rw [if_pos h3]; exact Or.inr (Or.inr (Or.inr rfl))
    · rw [if_pos h2]; exact Or.inr (Or.inr (Or.inl rfl))
  · rw [if_pos h]; exact Or.inr (Or.inl rfl)
theorem cd1_0 {a : Prop} [Decidable a] (h : cd1 a = 0) : a := by
  rcases cd1_c (a := a) with q | q
  · exact q.2
  · omega
theorem cd2_0 {a b : Prop} [Decidable a] [Decidable b] (h : cd2 a b = 0) : a ∧ b := by
  rcases cd2_c (a := a) (b := b) with q | q | q
  · exact q.2
  · omega
  · omega
theorem cd3_0 {a b c : Prop} [Decidable a] [Decidable b] [Decidable c] (h : cd3 a b c = 0) : a ∧ b ∧ c := by
  rcases cd3_c (a := a) (b := b) (c := c) with q | q | q | q
  · exact q.2
  · omega
  · omega
  · omega
theorem cd1_b {a : Prop} [Decidable a] : 0 ≤ cd1 a ∧ cd1 a ≤ 3 := by rcases cd1_c (a := a) with h | h <;> omega
theorem cd2_b {a b : Prop} [Decidable a] [Decidable b] : 0 ≤ cd2 a b ∧ cd2 a b ≤ 3 := by rcases cd2_c (a := a) (b := b) with h | h | h <;> omega
theorem cd3_b {a b c : Prop} [Decidable a] [Decidable b] [Decidable c] : 0 ≤ cd3 a b c ∧ cd3 a b c ≤ 3 := by rcases cd3_c (a := a) (b := b) (c := c) with h | h | h | h <;> omega
theorem metH {l : Launch} {y : MethodName} {ws ws' : List Cond} {rm : Room} {Pc : Array Value → State → Prop} {Qc : Array Value → State → Outcome → State → Prop} {mc ms : Nat} {free : Addr → Prop} {cc : ByteArray} {maxL : Nat} {ret : Option FieldType} (hh : List (Nat × Nat × Nat × Nat))
    (hy : plainName y.cls = true) (hw : ws = Cond.codeWith y cc maxL ret hh :: ws')
    (body : ∀ p e s m args below meth c s₁, BodyLoose p l y (headSpec ws rm) cc maxL ret e s m args below meth c s₁ → c.maxLocals = maxL → c.exceptionTable.toList = tableOf hh → Pc args s →
      W p l e (headSpec ws rm).room s m args below meth c s.heap [] 0 0 (MQ below Qc args s mc ms free) (entryFrame m args maxL)) : Met l y ws rm Pc Qc mc ms free := by
  refine MetFree.of_bodyS (code := cc) (maxLocals := maxL) (ret := ret) hy ?_ ?_
  · intro args s m h hn
    obtain ⟨m9, meth, c, hn9, h1, h2, h3, h4, -, h5, h6, -⟩ := Cond.codeWith_spec (atoms_spec (ws := ws) h _ (by rw [hw]; exact List.mem_cons_self))
    cases hn.symm.trans hn9
    exact ⟨meth, c, h1, h2, h3, h4, h5, h6⟩
  · intro p e s m args below meth c s₁ B hml hP _
    have hh0 : s₁.heap = s.heap := by rw [B.state]; rfl
    have ht := vx_table (x := y) B (atoms_spec (ws := ws) B.pre _ (by rw [hw]; exact List.mem_cons_self))
    obtain ⟨t, a1, o, b1, b2, b3⟩ := body p e s m args below meth c s₁ B hml ht hP s₁ hh0 (Stand.of_body B)
    exact ⟨t, o, a1, b1, b2, ⟨b3.1, b3.2⟩⟩
theorem cell_l {cA : ClassId} {n : Nat} {f g : Nat → Int64} (h : ∀ j, j < n → f j = g j) : vp_cell cA (n, .inr (.inl f)) = vp_cell cA (n, .inr (.inl g)) := by
  show arrV cA n (fun j => .long (f j)) = arrV cA n (fun j => .long (g j))
  unfold arrV
  congr 1
  congr 1
  funext j
  exact congrArg Value.long (h j.val j.isLt)
theorem rd_any (b : Nat → Nat) (ρ : Nat → Int → Int) : ∃ ρ9 : Nat → Int → Int, rdW b ρ = rdW b ρ9 ∧ R32 (ρ9 0 3) := by
  have ht : ∀ x : Int, iI x = iI (iI x).toInt := fun x => (Int32.ofInt_toInt (iI x)).symm
  refine ⟨fun k j => (iI (ρ k j)).toInt, ?_, ?_⟩
  · show [((b 0, .inr (0, [.int (iI (ρ 0 0)), .int (iI (ρ 0 1)), .int (iI (ρ 0 2)), .int (iI (ρ 0 3)), .int (iI (ρ 0 4)), .int (iI (ρ 0 5))])) : Nat × va_E)] = [(b 0, .inr (0, [.int (iI (iI (ρ 0 0)).toInt), .int (iI (iI (ρ 0 1)).toInt), .int (iI (iI (ρ 0 2)).toInt), .int (iI (iI (ρ 0 3)).toInt), .int (iI (iI (ρ 0 4)).toInt), .int (iI (iI (ρ 0 5)).toInt)]))]
    rw [← ht, ← ht, ← ht, ← ht, ← ht, ← ht]
  · have h1 := (iI (ρ 0 3)).le_toInt
    have h2 := (iI (ρ 0 3)).toInt_lt
    show R32 (iI (ρ 0 3)).toInt
    exact ⟨by omega, by omega⟩
section WL
variable {p : Program} {l : Launch} {e : Env} {R : Room} {s : State} {m : MethodId} {args : Array Value} {below : List Frame} {meth : Method} {c : Code} {H : Heap} {locs : List Loc} {cells slots : Nat} {Q : State → Prop}
variable {cc : ByteArray} {pc : Nat} {ls : Array Slot} {rest : List Value}
variable {D : va_G} {cl : List vw_C} {ws : va_W} {tys : List (ClassId × FieldType)} {a : Nat} {A : Nat → Prop} {H0 : Heap}
theorem wi_last (hexec : p.tables.exec = Jvm.exec) (hb : c.code = cc) (hK : va_K D cl tys s) (hP : va_P D cl ws H) (hD : va_D A ws) (hS : va_S A H0 H locs) (q0 t0 : Nat) {cA : ClassId} {f : Nat → Int64} (ha : ws[q0]? = some (a, .inl (cA, 1, .inr (.inl f)))) (ht : tys[t0]? = some (cA, .long)) {x : Int64} (hdg : decode cc pc = .ok (.lastore, 1))
    (kk : ∀ (H1 : Heap) (locs1 : List Loc), va_P D cl (ws.set q0 (a, .inl (cA, 1, .inr (.inl (fun _ => x))))) H1 → va_D A (ws.set q0 (a, .inl (cA, 1, .inr (.inl (fun _ => x))))) → va_S A H0 H1 locs1 → W p l e R s m args below meth c H1 locs1 cells slots Q (F0 m (pc + 1) ls rest)) : W p l e R s m args below meth c H locs cells slots Q (F0 m pc ls (.long x :: .int (iI 0) :: .ref a :: rest)) := by
  refine va_last hexec hb hK hP hD hS q0 t0 ha ht (iI_in (by omega) (by decide)) hdg (fun H1 locs1 z1 z2 z3 => kk H1 locs1 (z1.cellEq (cell_l (fun j hj => ?_))) z2.cellEq z3)
  have e0 : (iI 0).toNatClampNeg = 0 := by decide
  have e1 : j = 0 := by omega
  rw [e0, e1]
  exact if_pos rfl
theorem wi_lald (hexec : p.tables.exec = Jvm.exec) (hb : c.code = cc) (hK : va_K D cl tys s) (hP : va_P D cl ws H) (q0 t0 : Nat) {cA : ClassId} {f : Nat → Int64} (ha : ws[q0]? = some (a, .inl (cA, 1, .inr (.inl f)))) (ht : tys[t0]? = some (cA, .long)) (hdg : decode cc pc = .ok (.laload, 1))
    (kk : W p l e R s m args below meth c H locs cells slots Q (F0 m (pc + 1) ls (.long (f 0) :: rest))) : W p l e R s m args below meth c H locs cells slots Q (F0 m pc ls (.int (iI 0) :: .ref a :: rest)) := by
  have e0 : (iI 0).toNatClampNeg = 0 := by decide
  refine va_lald hexec hb hK hP q0 t0 ha ht (i := iI 0) (iI_in (by omega) (by decide)) hdg ?_
  rw [e0]
  exact kk
theorem wi_lcmp0 (hexec : p.tables.exec = Jvm.exec) (hb : c.code = cc) {x y : Int64} (hxy : x = y) (hdg : decode cc pc = .ok (.lcmp, 1))
    (k : W p l e R s m args below meth c H locs cells slots Q (F0 m (pc + 1) ls (.int (iI 0) :: rest))) : W p l e R s m args below meth c H locs cells slots Q (F0 m pc ls (.long y :: .long x :: rest)) := by
  subst hxy
  refine W.lcmp hexec hb hdg ?_
  have h : lg_cmp x x = iI 0 := by
    unfold lg_cmp
    rw [if_neg (Int64.lt_irrefl), if_pos rfl]
    rfl
  rw [h]
  exact k
theorem wi_dcmp (hexec : p.tables.exec = Jvm.exec) (hb : c.code = cc) {x y : UInt64} {op : CmpOp} {z : Int} (hz : Op.cmpValue (FP.dcmp x y) op = iI z) (hdg : decode cc pc = .ok (.dcmp op, 1))
    (k : W p l e R s m args below meth c H locs cells slots Q (F0 m (pc + 1) ls (.int (iI z) :: rest))) : W p l e R s m args below meth c H locs cells slots Q (F0 m pc ls (.double y :: .double x :: rest)) := by
  refine lv_dcmp hexec hb hdg ?_
  rw [hz]
  exact k
theorem wi_iand (hexec : p.tables.exec = Jvm.exec) (hb : c.code = cc) {x y : Int32} {z : Int} (hz : x &&& y = iI z) (hdg : decode cc pc = .ok (.iand, 1))
    (k : W p l e R s m args below meth c H locs cells slots Q (F0 m (pc + 1) ls (.int (iI z) :: rest))) : W p l e R s m args below meth c H locs cells slots Q (F0 m pc ls (.int y :: .int x :: rest)) := by
  refine lv_iand hexec hb hdg ?_
  rw [hz]
  exact k
theorem scrP {cI : ClassId} {sc n9 : Nat} {g : Int → Int} (hPs : va_P D cl (fl [rwW cI sc n9 g]) H0) (hS : va_S A H0 H locs) (hsc : ¬ A sc) : va_P D cl (fl [rwW cI sc n9 g]) H := va_P_mem.mpr (fun y hy => by
  have h1 : y.1 = sc := by
    have h2 : y ∈ [((sc, .inl (cI, n9, .inl (rI g))) : Nat × va_E)] := hy
    rw [List.mem_singleton.mp h2]
  exact ((va_P_mem.mp hPs) y hy).kept (hS.2.1 y.1 ((va_P_mem.mp hPs) y hy).lt (by rw [h1]; exact hsc)))
theorem len_ii (n : Nat) : Int32.ofNat n = iI (n : Int) := by first | rfl | exact (Int32.ofInt_eq_ofNat).symm | simp [iI]
end WL
