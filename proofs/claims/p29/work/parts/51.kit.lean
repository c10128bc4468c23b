/-! p29's own rows: the law's methods, what a turn leaves -/
theorem cd1_c {a : Prop} [Decidable a] : (cd1 a = 0 ∧ a) ∨ cd1 a = 1 := by
  unfold cd1
  by_cases h : a
  · rw [if_neg (fun q => q h)]; exact Or.inl ⟨rfl, h⟩
  · rw [if_pos h]; exact Or.inr rfl
theorem cd2_c {a b : Prop} [Decidable a] [Decidable b] : (cd2 a b = 0 ∧ a ∧ b) ∨ cd2 a b = 1 ∨ cd2 a b = 2 := by
  unfold cd2
  by_cases h : a
  · rw [if_neg (fun q => q h)]
    by_cases h2 : b
    · rw [if_neg (fun q => q h2)]; exact Or.inl ⟨rfl, h, h2⟩
    · rw [if_pos h2]; exact Or.inr (Or.inr rfl)
  · rw [if_pos h]; exact Or.inr (Or.inl rfl)
theorem cd3_c {a b c : Prop} [Decidable a] [Decidable b] [Decidable c] : (cd3 a b c = 0 ∧ a ∧ b ∧ c) ∨ cd3 a b c = 1 ∨ cd3 a b c = 2 ∨ cd3 a b c = 3 := by
  unfold cd3
  by_cases h : a
  · rw [if_neg (fun q => q h)]
    by_cases h2 : b
    · rw [if_neg (fun q => q h2)]
      by_cases h3 : c
      · rw [if_neg (fun q => q h3)]; exact Or.inl ⟨rfl, h, h2, h3⟩
      · rw [if_pos h3]; exact Or.inr (Or.inr (Or.inr rfl))
    · rw [if_pos h2]; exact Or.inr (Or.inr (Or.inl rfl))
  · rw [if_pos h]; exact Or.inr (Or.inl rfl)
theorem metH {l : Launch} {y : MethodName} {ws ws' : List Cond} {rm : Room} {Pc : Array Value → State → Prop} {Qc : Array Value → State → Outcome → State → Prop} {mc ms : Nat} {free : Addr → Prop} {cc : ByteArray} {maxL : Nat} {ret : Option FieldType} (hh : List (Nat × Nat × Nat × Nat))
    (hy : plainName y.cls = true) (hw : ws = Cond.codeWith y cc maxL ret hh :: ws')
    (body : ∀ p e s m args below meth c s₁, BodyLoose p l y (headSpec ws rm) cc maxL ret e s m args below meth c s₁ → c.maxLocals = maxL → c.exceptionTable.toList = tableOf hh → Pc args s →
      W p l e (headSpec ws rm).room s m args below meth c s.heap [] 0 0 (MQ below Qc args s mc ms free) (entryFrame m args maxL)) : Met l y ws rm Pc Qc mc ms free := by
  refine MetFree.of_bodyS (code := cc) (maxLocals := maxL) (ret := ret) hy ?_ ?_
  · intro args s m h hn
    obtain ⟨m9, meth, c, hn9, h1, h2, h3, h4, -, h5, h6, -⟩ := Cond.codeWith_spec (atoms_spec (ws := ws) h _ (by rw [hw]; exact List.mem_cons_self))
    cases hn.symm.trans hn9
    exact ⟨meth, c, h1, h2, h3, h4, h5, h6⟩
  · intro p e s m args below meth c s₁ B hml hP _
    have hh0 : s₁.heap = s.heap := by rw [B.state]; rfl
    have ht := vx_table (x := y) B (atoms_spec (ws := ws) B.pre _ (by rw [hw]; exact List.mem_cons_self))
    obtain ⟨t, a1, o, b1, b2, b3⟩ := body p e s m args below meth c s₁ B hml ht hP s₁ hh0 (Stand.of_body B)
    exact ⟨t, o, a1, b1, b2, ⟨b3.1, b3.2⟩⟩
theorem cd1_1 {a : Prop} [Decidable a] (h : ¬ a) : cd1 a = 1 := by unfold cd1; rw [if_pos h]
theorem cd2_2 {a b : Prop} [Decidable a] [Decidable b] (h : a) (h2 : ¬ b) : cd2 a b = 2 := by unfold cd2; rw [if_neg (fun q => q h), if_pos h2]
theorem cd3_3 {a b c : Prop} [Decidable a] [Decidable b] [Decidable c] (h : a) (h2 : b) (h3 : ¬ c) : cd3 a b c = 3 := by unfold cd3; rw [if_neg (fun q => q h), if_neg (fun q => q h2), if_pos h3]
/-! numbers -/
def andF (v : Int) : Int := (iI v &&& iI 2147483647).toInt
theorem andF_i (v : Int) : iI v &&& iI 2147483647 = iI (andF v) := (Int32.ofInt_toInt _).symm
theorem andF_r (v : Int) : 0 ≤ andF v ∧ andF v ≤ 2147483647 := by
  unfold andF
  have h1 : (iI v &&& iI 2147483647).toInt = ((iI v).toBitVec &&& (iI 2147483647).toBitVec).toInt := rfl
  rw [h1]
  generalize (iI v).toBitVec = x
  have h2 : (iI 2147483647).toBitVec = 2147483647#32 := by decide +kernel
  rw [h2]
  have h3 : (x &&& 2147483647#32).toNat ≤ 2147483647 := by
    rw [BitVec.toNat_and]
    exact Nat.and_le_right
  have h4 := BitVec.toInt_eq_toNat_cond (x &&& 2147483647#32)
  rw [if_pos (by omega)] at h4
  rw [h4]
  omega
theorem div_ii {x y : Int} (hx : 0 ≤ x ∧ x ≤ 2147483647) (hy : 0 < y ∧ y ≤ 2147483647) : iI x / iI y = iI (x / y) := by
  have m1 : Int32.minValue.toInt = -2147483648 := by decide +kernel
  have m2 : Int32.maxValue.toInt = 2147483647 := by decide +kernel
  have h := Int32.ofInt_tdiv (a := x) (b := y) (by omega) (by omega) (by omega) (by omega)
  rw [Int.tdiv_eq_ediv_of_nonneg hx.1] at h
  exact h.symm
def lowF (v n : Int) : Int := andF v % n
theorem lowF_r (v : Int) {n : Int} (hn : 1 ≤ n) : 0 ≤ lowF v n ∧ lowF v n < n := ⟨Int.emod_nonneg _ (by omega), Int.emod_lt_of_pos _ (by omega)⟩
theorem rem_ii {x y : Int} (hx : 0 ≤ x ∧ x ≤ 2147483647) (hy : 0 < y ∧ y ≤ 2147483647) : iI x - iI x / iI y * iI y = iI (x % y) := by
  rw [div_ii hx hy, iI_mul, iI_sub, Int.emod_def, Int.mul_comm]
theorem nz_ii {y : Int} (hy : 0 < y ∧ y ≤ 2147483647) : ¬ iI y = 0 := fun h => by
  have h2 := (iI_eq (a := y) (b := 0) ⟨by omega, by omega⟩ ⟨by omega, by omega⟩).mp h
  omega
theorem shl_ii {n : Int} (h0 : 0 ≤ n) (h1 : n ≤ 16) : iI 1 <<< (iI n &&& 31) = iI (pw2 n) := by
  rcases (show n = 0 ∨ n = 1 ∨ n = 2 ∨ n = 3 ∨ n = 4 ∨ n = 5 ∨ n = 6 ∨ n = 7 ∨ n = 8 ∨ n = 9 ∨ n = 10 ∨ n = 11 ∨ n = 12 ∨ n = 13 ∨ n = 14 ∨ n = 15 ∨ n = 16 by omega) with rfl | rfl | rfl | rfl | rfl | rfl | rfl | rfl | rfl | rfl | rfl | rfl | rfl | rfl | rfl | rfl | rfl <;> decide +kernel
def pcWX (D : va_G) (tys : List (ClassId × FieldType)) (av : List Value) (w : va_W) (sz : Nat) : Array Value → State → Prop := va_Pc av (fun U => U.heap.size = sz ∧ va_P D vwCl w U.heap ∧ va_K D vwCl tys U ∧ va_D (fun _ => True) w ∧ ZP (va_A w sz) U U.heap)
theorem pcWX_blind {D : va_G} {tys : List (ClassId × FieldType)} {av : List Value} {w : va_W} {sz : Nat} : FrameBlind (pcWX D tys av w sz) := fun a U g mk q => ⟨q.1, q.2.1, q.2.2.1, va_K.moved (u := U) (U := U.calling g mk a) (Vm.Alike.refl U.vm) q.2.2.2.1, q.2.2.2.2.1, ZP.same (u := U) (U := U.calling g mk a) rfl q.2.2.2.2.2⟩
theorem pcWX_of {D : va_G} {tys : List (ClassId × FieldType)} {av : List Value} {w : va_W} {s : State} {H : Heap} {A A' : Nat → Prop} (hP : va_P D vwCl w H) (hK : va_K D vwCl tys s) (hD : va_D A w) (hZ : ZP A' s H) (hA : ∀ q, va_A w H.size q → A' q) : ∀ U : State, U.heap = H → s.WarmedH U.vm → pcWX D tys av w H.size av.toArray U := fun U hU hW => ⟨rfl, by rw [hU], by rw [hU]; exact hP, va_K.moved hW.alike hK, hD.weaken (fun _ _ _ _ => trivial), by rw [hU]; exact ZP.warm hW (hZ.narrow hA)⟩
/-- the script, and what a method that gets it begins with -/
def pcSc (av : List Value) (sc n9 : Nat) (g : Int → Int) : Array Value → State → Prop := va_Pc av (fun U => va_X sc n9 (rI g) U U.heap ∧ sc < U.heap.size)
theorem pcSc_blind {av : List Value} {sc n9 : Nat} {g : Int → Int} : FrameBlind (pcSc av sc n9 g) := fun a U g9 mk q => ⟨q.1, va_X.moved (u := U) (U := U.calling g9 mk a) (Vm.Alike.refl U.vm) q.2.1, q.2.2⟩
theorem pcSc_of {av : List Value} {sc n9 : Nat} {g : Int → Int} {s : State} {H : Heap} (hX : va_X sc n9 (rI g) s H) (hbl : sc < H.size) : ∀ U : State, U.heap = H → s.WarmedH U.vm → pcSc av sc n9 g av.toArray U := fun U hU hW => ⟨rfl, by rw [hU]; exact va_X.moved hW.alike hX, by rw [hU]; exact hbl⟩
def pcAX (D : va_G) (tys : List (ClassId × FieldType)) (av : List Value) (w : va_W) (sz sc n9 : Nat) (g : Int → Int) : Array Value → State → Prop := fun a U => pcWX D tys av w sz a U ∧ va_X sc n9 (rI g) U U.heap ∧ sc < U.heap.size ∧ ¬ va_A w sz sc
theorem pcAX_blind {D : va_G} {tys : List (ClassId × FieldType)} {av : List Value} {w : va_W} {sz sc n9 : Nat} {g : Int → Int} : FrameBlind (pcAX D tys av w sz sc n9 g) := fun a U g9 mk q => ⟨pcWX_blind a U g9 mk q.1, va_X.moved (u := U) (U := U.calling g9 mk a) (Vm.Alike.refl U.vm) q.2.1, q.2.2⟩
theorem pcAX_of {D : va_G} {tys : List (ClassId × FieldType)} {av : List Value} {w : va_W} {s : State} {H : Heap} {A : Nat → Prop} {sc n9 : Nat} {g : Int → Int} (hP : va_P D vwCl w H) (hK : va_K D vwCl tys s) (hD : va_D A w) (hZ : ZP A s H) (hF : ∀ q, va_A w H.size q → A q) (hX : va_X sc n9 (rI g) s H) (hbl : sc < H.size) (hsc : ¬ A sc) : ∀ U : State, U.heap = H → s.WarmedH U.vm → pcAX D tys av w H.size sc n9 g av.toArray U := fun U hU hW => ⟨pcWX_of hP hK hD hZ hF U hU hW, by rw [hU]; exact va_X.moved hW.alike hX, by rw [hU]; exact hbl, fun h => hsc (hF _ h)⟩
/-- what a turn leaves -/
abbrev PS : Type := (Nat → Int → Int) × (Nat → Int → Int) × (Nat → Nat → Nat) × (Nat → Nat → Int → Int)
abbrev PS.σ (u : PS) : Nat → Int → Int := u.1
abbrev PS.κ (u : PS) : Nat → Int → Int := u.2.1
abbrev PS.sa (u : PS) : Nat → Nat → Nat := u.2.2.1
abbrev PS.ss (u : PS) : Nat → Nat → Int → Int := u.2.2.2
def AQ (T r : Int) (u : PS) (σ : Nat → Int → Int) (k : Int) : Prop := G2 T (PS.σ u) (PS.κ u 0 0) (PS.ss u) ∧ (-1000 ≤ r ∧ r ≤ 100000) ∧ (0 ≤ r ∨ (PS.σ u = σ ∧ PS.κ u 0 0 = k))
theorem AQ.mk {T r k : Int} {u : PS} {σ s : Nat → Int → Int} {k' : Int} {q : Nat → Nat → Int → Int} (h : G2 T s k' q) (h1 : PS.σ u = s) (h2 : PS.κ u 0 0 = k') (h3 : PS.ss u = q) (hr : 0 ≤ r ∧ r ≤ 100000) : AQ T r u σ k := ⟨by rw [h1, h2, h3]; exact h, by omega, Or.inl hr.1⟩
theorem AQ.no {T r k : Int} {u : PS} {σ : Nat → Int → Int} {q : Nat → Nat → Int → Int} (h : G2 T σ k q) (h1 : PS.σ u = σ) (h2 : PS.κ u 0 0 = k) (h3 : PS.ss u = q) (hr : -1000 ≤ r ∧ r ≤ 100000) : AQ T r u σ k := ⟨by rw [h1, h2, h3]; exact h, hr, Or.inr ⟨h1, h2⟩⟩
theorem AQ.mono {T T' r k : Int} {u : PS} {σ : Nat → Int → Int} (h : AQ T r u σ k) (ht : T ≤ T') : AQ T' r u σ k := ⟨h.1.mono ht, h.2⟩
section WP
variable {p : Program} {l : Launch} {e : Env} {R : Room} {s : State} {m : MethodId} {args : Array Value} {below : List Frame} {meth : Method} {c : Code} {H : Heap} {locs : List Loc} {cells slots : Nat} {Q : State → Prop}
variable {cc : ByteArray} {pc : Nat} {ls : Array Slot} {rest : List Value}
variable {D : va_G} {cl : List vw_C} {ws : va_W} {tys : List (ClassId × FieldType)} {a : Nat} {A : Nat → Prop} {H0 : Heap}
/-- equal numbers, in range or not -/
theorem wi_icmp_ne_e (hexec : p.tables.exec = Jvm.exec) (hb : c.code = cc) {x y : Int} {off : Int} {tgt : Nat} (hdg : decode cc pc = .ok (.if_icmp .ne off, 3)) (ht : (pc : Int) + off = (tgt : Int)) (hxy : x = y)
    (kf : W p l e R s m args below meth c H locs cells slots Q (F0 m (pc + 3) ls rest)) : W p l e R s m args below meth c H locs cells slots Q (F0 m pc ls (.int (iI y) :: .int (iI x) :: rest)) := lv_icmp_ne hexec hb hdg ht (fun q => absurd (congrArg iI hxy) q) (fun _ => kf)
theorem wi_idiv (hexec : p.tables.exec = Jvm.exec) (hb : c.code = cc) {x y : Int} (hx : 0 ≤ x ∧ x ≤ 2147483647) (hy : 0 < y ∧ y ≤ 2147483647) (hdg : decode cc pc = .ok (.idiv, 1))
    (k : W p l e R s m args below meth c H locs cells slots Q (F0 m (pc + 1) ls (.int (iI (x / y)) :: rest))) : W p l e R s m args below meth c H locs cells slots Q (F0 m pc ls (.int (iI y) :: .int (iI x) :: rest)) := lv_idiv hexec hb hdg (nz_ii hy) (by rw [div_ii hx hy]; exact k)
theorem wi_irem (hexec : p.tables.exec = Jvm.exec) (hb : c.code = cc) {x y : Int} (hx : 0 ≤ x ∧ x ≤ 2147483647) (hy : 0 < y ∧ y ≤ 2147483647) (hdg : decode cc pc = .ok (.irem, 1))
    (k : W p l e R s m args below meth c H locs cells slots Q (F0 m (pc + 1) ls (.int (iI (x % y)) :: rest))) : W p l e R s m args below meth c H locs cells slots Q (F0 m pc ls (.int (iI y) :: .int (iI x) :: rest)) := lv_irem hexec hb hdg (nz_ii hy) (by rw [rem_ii hx hy]; exact k)
theorem wi_iandM (hexec : p.tables.exec = Jvm.exec) (hb : c.code = cc) {v : Int} (hdg : decode cc pc = .ok (.iand, 1))
    (k : W p l e R s m args below meth c H locs cells slots Q (F0 m (pc + 1) ls (.int (iI (andF v)) :: rest))) : W p l e R s m args below meth c H locs cells slots Q (F0 m pc ls (.int (iI 2147483647) :: .int (iI v) :: rest)) := lv_iand hexec hb hdg (by rw [andF_i]; exact k)
theorem wi_shl1 (hexec : p.tables.exec = Jvm.exec) (hb : c.code = cc) {n : Int} (h : 0 ≤ n ∧ n ≤ 16) (hdg : decode cc pc = .ok (.ishl, 1))
    (k : W p l e R s m args below meth c H locs cells slots Q (F0 m (pc + 1) ls (.int (iI (pw2 n)) :: rest))) : W p l e R s m args below meth c H locs cells slots Q (F0 m pc ls (.int (iI n) :: .int (iI 1) :: rest)) := lv_ishl hexec hb hdg (by rw [shl_ii h.1 h.2]; exact k)
theorem wi_dcmp (hexec : p.tables.exec = Jvm.exec) (hb : c.code = cc) {x y : UInt64} {op : CmpOp} {z : Int} (hz : Op.cmpValue (FP.dcmp x y) op = iI z) (hdg : decode cc pc = .ok (.dcmp op, 1))
    (k : W p l e R s m args below meth c H locs cells slots Q (F0 m (pc + 1) ls (.int (iI z) :: rest))) : W p l e R s m args below meth c H locs cells slots Q (F0 m pc ls (.double y :: .double x :: rest)) := by
  refine lv_dcmp hexec hb hdg ?_
  rw [hz]
  exact k
theorem len_ii (n : Nat) : Int32.ofNat n = iI (n : Int) := by first | rfl | exact (Int32.ofInt_eq_ofNat).symm | simp [iI]
theorem wi_sld (hexec : p.tables.exec = Jvm.exec) (hb : c.code = cc) {sc n9 : Nat} {g : Int → Int} (hX : va_X sc n9 (rI g) s H0) (hbl : sc < H0.size) (hsc : ¬ A sc) (hS : va_S A H0 H locs) {i : Int} (hin : 0 ≤ i ∧ i < (n9 : Int)) (hn : n9 ≤ 2147483647) (hdg : decode cc pc = .ok (.iaload, 1))
    (kk : W p l e R s m args below meth c H locs cells slots Q (F0 m (pc + 1) ls (.int (iI (g i)) :: rest))) : W p l e R s m args below meth c H locs cells slots Q (F0 m pc ls (.int (iI i) :: .ref sc :: rest)) :=
  va_sld hexec hb hX hbl hsc hS (iI_in hin (by omega)) hdg (by rw [rI_get hin.1 (by omega)]; exact kk)
theorem wi_slen (hexec : p.tables.exec = Jvm.exec) (hb : c.code = cc) {sc n9 : Nat} {g : Int → Int} (hX : va_X sc n9 (rI g) s H0) (hbl : sc < H0.size) (hsc : ¬ A sc) (hS : va_S A H0 H locs) (hdg : decode cc pc = .ok (.arraylength, 1))
    (kk : W p l e R s m args below meth c H locs cells slots Q (F0 m (pc + 1) ls (.int (iI (n9 : Int)) :: rest))) : W p l e R s m args below meth c H locs cells slots Q (F0 m pc ls (.ref sc :: rest)) :=
  va_slen hexec hb hX hbl hsc hS hdg (by rw [len_ii]; exact kk)
end WP
