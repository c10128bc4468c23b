/-! the class's promiseAll where the text is not complete: it throws, the reader's numbers are others -/
theorem feR_le (β : Int → Int) : ∀ (n : Nat) (δ : Int → Int) (i : Int), feR β n δ i ≤ i + (n : Int)
  | 0, δ, i => by show i ≤ i + ((0 : Nat) : Int); omega
  | n + 1, δ, i => by
    show (if dOk δ (β i) then feR β n (dNx δ (β i)) (i + 1) else i) ≤ i + ((n + 1 : Nat) : Int)
    by_cases z : dOk δ (β i)
    · rw [if_pos z]
      have h := feR_le β n (dNx δ (β i)) (i + 1)
      clear z
      omega
    · rw [if_neg z]; clear z; omega
theorem feR_ge (β : Int → Int) : ∀ (n : Nat) (δ : Int → Int) (i : Int), i ≤ feR β n δ i
  | 0, δ, i => by show i ≤ i; omega
  | n + 1, δ, i => by
    show i ≤ (if dOk δ (β i) then feR β n (dNx δ (β i)) (i + 1) else i)
    by_cases z : dOk δ (β i)
    · rw [if_pos z]
      have h := feR_ge β n (dNx δ (β i)) (i + 1)
      clear z
      omega
    · rw [if_neg z]; clear z; omega
def pcWX (D : va_G) (tys : List (ClassId × FieldType)) (av : List Value) (w : va_W) (sz : Nat) : Array Value → State → Prop := va_Pc av (fun U => U.heap.size = sz ∧ va_P D vwCl w U.heap ∧ va_K D vwCl tys U ∧ va_D (fun _ => True) w ∧ ZP (va_A w sz) U U.heap)
theorem pcWX_blind {D : va_G} {tys : List (ClassId × FieldType)} {av : List Value} {w : va_W} {sz : Nat} : FrameBlind (pcWX D tys av w sz) := fun a U g mk q => ⟨q.1, q.2.1, q.2.2.1, va_K.moved (u := U) (U := U.calling g mk a) (Vm.Alike.refl U.vm) q.2.2.2.1, q.2.2.2.2.1, ZP.same (u := U) (U := U.calling g mk a) rfl q.2.2.2.2.2⟩
theorem pcWX_of {D : va_G} {tys : List (ClassId × FieldType)} {av : List Value} {w : va_W} {s : State} {H : Heap} {A A' : Nat → Prop} (hP : va_P D vwCl w H) (hK : va_K D vwCl tys s) (hD : va_D A w) (hZ : ZP A' s H) (hA : ∀ q, va_A w H.size q → A' q) : ∀ U : State, U.heap = H → s.WarmedH U.vm → pcWX D tys av w H.size av.toArray U := fun U hU hW => ⟨rfl, by rw [hU], by rw [hU]; exact hP, va_K.moved hW.alike hK, hD.weaken (fun _ _ _ _ => trivial), by rw [hU]; exact ZP.warm hW (hZ.narrow hA)⟩
def XNW (D : va_G) (Wf : (Int → Int) → va_W) (A : Nat → Prop) : String → State → State → Prop := fun E st t => ∃ η : Int → Int, E = "java/lang/IllegalArgumentException" ∧ va_P D vwCl (Wf η) t.heap ∧ va_D A (Wf η) ∧ va_F A st t
section WY
variable {p : Program} {l : Launch} {e : Env} {R : Room} {s : State} {m : MethodId} {args : Array Value} {below : List Frame} {meth : Method} {c : Code} {H : Heap} {locs : List Loc} {cells slots : Nat} {Q : State → Prop}
variable {pc : Nat} {ls : Array Slot} {rest st0 : List Value} {H0 : Heap} {cc : ByteArray}
theorem catchXW {D : va_G} {Wf : (Int → Int) → va_W} {A A1 : Nat → Prop} {own : String} {a : Array Value} (hr : vx_Run p l e R s m args below meth c H locs cells slots 1 6 (F0 m pc ls st0) rest (QX a) (XNW D Wf A1) A1) (hS : va_S A H0 H locs) (hA : ∀ q, A1 q → A q) (hown : s.vm.findClass own = some m.cls) (pre : List ExceptionTableEntry) (x : ExceptionTableEntry) (suf : List ExceptionTableEntry) (hsplit : c.exceptionTable.toList = pre ++ x :: suf)
    (hpass : ∀ z ∈ pre, covers z pc = false ∨ (z.catchType ≠ 0 ∧ ∃ nm : String, (Cond.classLink own z.catchType nm).before args s = true ∧ va_Nc "java/lang/IllegalArgumentException" nm s)) (hx : covers x pc = true) (h0 : x.catchType ≠ 0)
    (hlink : (Cond.classLink own x.catchType "java/lang/IllegalArgumentException").before args s = true) (hcast : (Cond.castable "java/lang/IllegalArgumentException" "java/lang/IllegalArgumentException").before args s = true)
    (kk : ∀ (η : Int → Int) (H1 : Heap) (locs : List Loc) (q : Nat), va_P D vwCl (Wf η) H1 → va_D A1 (Wf η) → (∀ z : Nat, z < H.size → ¬ A1 z → H1[z]? = H[z]?) → va_S A H0 H1 locs → W p l e R s m args below meth c H1 locs (cells + 1) (slots + 6) Q (F0 m x.handlerPc ls [.ref q])) : W p l e R s m args below meth c H locs cells slots Q (F0 m pc ls st0) := by
  intro T hT X
  rcases hr T hT X with ⟨v, st₀, t, T', L, h0', X', hL, e1, e2, hq, st⟩ | ⟨q, st₀, t, T', L, E', ce, h0', X', hL, e1, e2, ⟨η, hE, hP1, hD1, hF⟩, hce, hcv, hcl, st⟩
  · exact hq.elim
  · subst hE
    have hz : H.size ≤ T'.heap.size := by rw [← h0', e1]; exact hF.1
    have hk : ∀ z : Nat, z < H.size → ¬ A1 z → T'.heap[z]? = H[z]? := fun z z1 z2 => by rw [e1, ← h0']; exact hF.2 z (by rw [h0']; exact z1) z2
    have hS' : va_S A H0 T'.heap (locs ++ L) := ⟨Nat.le_trans hS.1 hz, fun z z1 z2 => by rw [hk z (Nat.lt_of_lt_of_le z1 hS.1) (fun w => z2 (hA z w))]; exact hS.2.1 z z1 z2, fun z hz9 => by
      rcases List.mem_append.mp hz9 with h | h
      · exact hS.2.2 z h
      · exact hA _ (hL z h)⟩
    obtain ⟨t2, a1, b1⟩ := vx_catch (p := p) (l := l) (e := e) (R := R) (s := s) (m := m) (args := args) (below := below) (meth := meth) (c := c) (H := T'.heap) (locs := locs ++ L) (cells := cells + 1) (slots := slots + 6) (Q := Q) (pc := pc) (ls := ls) (rest := rest) (ce := ce) (q := q) hown pre x suf hsplit hpass hx h0 hlink hcast (by rw [e1]; exact hce) hcv hcl (kk η T'.heap (locs ++ L) q (by rw [e1]; exact hP1) hD1 hk hS') T' rfl X'
    exact ⟨t2, st.trans a1, b1⟩
end WY
