theorem cell_c {cA : ClassId} {n : Nat} {f g : Nat → Int32} (h : ∀ j, j < n → f j = g j) : vp_cell cA (n, .inl f) = vp_cell cA (n, .inl g) := by
  show arrV cA n (fun j => .int (f j)) = arrV cA n (fun j => .int (g j))
  unfold arrV
  congr 1
  congr 1
  funext j
  exact congrArg Value.int (h j.val j.isLt)
theorem cell_q {cA : ClassId} {n : Nat} {f g : Nat → Option Nat} (h : ∀ j, j < n → f j = g j) : vp_cell cA (n, .inr (.inr (.inr (.inr f)))) = vp_cell cA (n, .inr (.inr (.inr (.inr g)))) := by
  show arrV cA n (fun j => va_rf (f j)) = arrV cA n (fun j => va_rf (g j))
  unfold arrV
  congr 1
  congr 1
  funext j
  exact congrArg va_rf (h j.val j.isLt)
/-- another writing of one cell of a world -/
theorem va_P.cellEq {D : va_G} {cl : List vw_C} {ws : va_W} {H : Heap} {q0 a : Nat} {c : ClassId} {x y : vp_A} (hP : va_P D cl (ws.set q0 (a, .inl (c, x))) H) (h : vp_cell c x = vp_cell c y) : va_P D cl (ws.set q0 (a, .inl (c, y))) H := by
  intro k q hk
  rw [List.getElem?_set] at hk
  by_cases e : q0 = k
  · rw [if_pos e] at hk
    by_cases e2 : q0 < ws.length
    · rw [if_pos e2] at hk
      cases hk
      have h1 := hP k (a, .inl (c, x)) (by rw [List.getElem?_set, if_pos e, if_pos e2])
      show H[a]? = some (vp_cell c y)
      rw [← h]
      exact h1
    · rw [if_neg e2] at hk; cases hk
  · rw [if_neg e] at hk
    exact hP k q (by rw [List.getElem?_set, if_neg e]; exact hk)
theorem va_D.cellEq {A : Nat → Prop} {ws : va_W} {q0 a : Nat} {e e' : va_E} (hD : va_D A (ws.set q0 (a, e))) : va_D A (ws.set q0 (a, e')) := by
  have key : ∀ (k : Nat) (q : Nat × va_E), (ws.set q0 (a, e'))[k]? = some q → ∃ q' : Nat × va_E, (ws.set q0 (a, e))[k]? = some q' ∧ q'.1 = q.1 := by
    intro k q hk
    rw [List.getElem?_set] at hk
    by_cases e1 : q0 = k
    · rw [if_pos e1] at hk
      by_cases e2 : q0 < ws.length
      · rw [if_pos e2] at hk
        cases hk
        exact ⟨(a, e), by rw [List.getElem?_set, if_pos e1, if_pos e2], rfl⟩
      · rw [if_neg e2] at hk; cases hk
    · rw [if_neg e1] at hk
      exact ⟨q, by rw [List.getElem?_set, if_neg e1]; exact hk, rfl⟩
  refine ⟨fun i j p q hp hq hpq => ?_, fun k q hk => ?_⟩
  · obtain ⟨p', h1, h2⟩ := key i p hp
    obtain ⟨q', h3, h4⟩ := key j q hq
    exact hD.1 i j p' q' h1 h3 (by rw [h2, h4]; exact hpq)
  · obtain ⟨q', h1, h2⟩ := key k q hk
    rw [← h2]
    exact hD.2 k q' h1
section WK
variable {p : Program} {l : Launch} {e : Env} {R : Room} {s : State} {m : MethodId} {args : Array Value} {below : List Frame} {meth : Method} {c : Code} {H : Heap} {locs : List Loc} {cells slots : Nat} {Q : State → Prop}
variable {pc : Nat} {ls : Array Slot} {rest : List Value} {A : Nat → Prop} {H0 : Heap} {D : va_G} {cl : List vw_C} {ws : va_W} {tys : List (ClassId × FieldType)} {a : Nat}
theorem wi_copy {cc : ByteArray} (hexec : p.tables.exec = Jvm.exec) (hb : c.code = cc) (hml : c.maxLocals = ls.size) {own : String} {index : Nat} (hown : s.vm.findClass own = some m.cls) (hlink : (Cond.methodLink own index arraycopyName).before args s = true) (hnat : (Cond.native arraycopyName).before args s = true) (hstat : (Cond.static arraycopyName).before args s = true) (hini : (Cond.initialized "java/lang/System").before args s = true)
    (hK : va_K D cl tys s) (hP : va_P D cl ws H) (hD : va_D A ws) (hS : va_S A H0 H locs) (q0 q1 : Nat) {a0 : Nat} {c0 c1 : ClassId} {n : Nat} {f g : Nat → Int32} (ha0 : ws[q0]? = some (a0, .inl (c0, n, .inl f))) (ha1 : ws[q1]? = some (a, .inl (c1, n, .inl g))) (ht0 : tys[0]? = some (c0, .int)) (ht1 : tys[0]? = some (c1, .int))
    (hnb : n ≤ 2147483647) (hframes : 1 ≤ R.frames) (hlocals : (rest.map fun v => v.category).sum + (nativeFrameWords "java/lang/System" "arraycopy" 5 + 11) ≤ R.locals) (hdg : decode cc pc = .ok (.invokestatic index, 3))
    (kk : ∀ (H1 : Heap) (locs1 : List Loc), va_P D cl (ws.set q1 (a, .inl (c1, n, .inl f))) H1 → va_D A (ws.set q1 (a, .inl (c1, n, .inl f))) → va_S A H0 H1 locs1 → W p l e R s m args below meth c H1 locs1 cells slots Q (F0 m (pc + 3) ls rest)) : W p l e R s m args below meth c H locs cells slots Q (F0 m pc ls (.int (iI (n : Int)) :: .int (iI 0) :: .ref a :: .int (iI 0) :: .ref a0 :: rest)) := by
  have e0 : (iI 0).toNatClampNeg = 0 := iI_clamp (z := 0) ⟨by omega, by omega⟩
  have en : (iI (n : Int)).toNatClampNeg = n := by rw [iI_clamp ⟨by omega, by omega⟩]; rfl
  have hz : ¬ iI 0 < 0 := fun h => by have h2 := (iI_lt (a := 0) (b := 0) ⟨by omega, by omega⟩ ⟨by omega, by omega⟩).mp h; omega
  have hz2 : ¬ iI (n : Int) < 0 := fun h => by have h2 := (iI_lt (a := (n : Int)) (b := 0) ⟨by omega, by omega⟩ ⟨by omega, by omega⟩).mp h; omega
  refine va_copyi hexec hb hml hown hlink hnat hstat hini hK hP hD hS q0 q1 0 0 ha0 ha1 ht0 ht1 rfl hz hz hz2 (by rw [e0, en]; omega) (by rw [e0, en]; omega) (fun _ _ => rfl) hframes hlocals hdg (fun H1 locs1 h1 h2 h3 => ?_)
  rw [e0, en] at h1 h2
  exact kk H1 locs1 (h1.cellEq (cell_c (fun j hj => by unfold va_cpy; rw [if_pos ⟨Nat.zero_le _, by omega⟩]; simp))) h2.cellEq h3
theorem wi_aldq {cc : ByteArray} (hexec : p.tables.exec = Jvm.exec) (hb : c.code = cc) (hK : va_K D cl tys s) (hP : va_P D cl ws H) (q0 t0 : Nat) {cA : ClassId} {C : String} {n v : Nat} {f : Nat → Option Nat} (ha : ws[q0]? = some (a, .inl (cA, n, .inr (.inr (.inr (.inr f)))))) (ht : tys[t0]? = some (cA, .object C)) {i : Int} (hin : 0 ≤ i ∧ i < (n : Int)) (hn : n ≤ 2147483647) (hv : f i.toNat = some v) (hdg : decode cc pc = .ok (.aaload, 1))
    (kk : W p l e R s m args below meth c H locs cells slots Q (F0 m (pc + 1) ls (.ref v :: rest))) : W p l e R s m args below meth c H locs cells slots Q (F0 m pc ls (.int (iI i) :: .ref a :: rest)) :=
  va_aldq hexec hb hK hP q0 t0 ha ht (iI_in hin (by omega)) hdg (by rw [iI_clamp ⟨by omega, by omega⟩, hv]; exact kk)
theorem wi_astq {cc : ByteArray} (hexec : p.tables.exec = Jvm.exec) (hb : c.code = cc) (hK : va_K D cl tys s) (hP : va_P D cl ws H) (hD : va_D A ws) (hS : va_S A H0 H locs) (q0 t0 qk ci : Nat) {cA : ClassId} {r : vw_C} {n v : Nat} {vs : List Value} {f : Nat → Option Nat} (ha : ws[q0]? = some (a, .inl (cA, n, .inr (.inr (.inr (.inr f)))))) (ht : tys[t0]? = some (cA, .object r.1)) (hv : ws[qk]? = some (v, .inr (ci, vs))) (hc : cl[ci]? = some r) {i : Int} (hin : 0 ≤ i ∧ i < (n : Int)) (hn : n ≤ 2147483647) (hdg : decode cc pc = .ok (.aastore, 1))
    (kk : ∀ (H1 : Heap) (locs1 : List Loc), va_P D cl (ws.set q0 (a, .inl (cA, n, .inr (.inr (.inr (.inr (va_up f i.toNat (some v)))))))) H1 → va_D A (ws.set q0 (a, .inl (cA, n, .inr (.inr (.inr (.inr (va_up f i.toNat (some v)))))))) → va_S A H0 H1 locs1 → W p l e R s m args below meth c H1 locs1 cells slots Q (F0 m (pc + 1) ls rest)) : W p l e R s m args below meth c H locs cells slots Q (F0 m pc ls (.ref v :: .int (iI i) :: .ref a :: rest)) := by
  refine va_astq hexec hb hK hP hD hS q0 t0 qk ci ha ht hv hc (iI_in hin (by omega)) hdg ?_
  rw [iI_clamp ⟨by omega, by omega⟩]
  exact kk
end WK
/-- the saved states' object and its row; the states themselves are State cells beside -/
def svO (cO : ClassId) (b : Nat → Nat) (f : Nat → Option Nat) (κ : Nat → Int → Int) : va_W := [(b 0, .inr (2, [.ref (b 1), .int (iI (κ 0 0))])), (b 1, .inl (cO, 6, .inr (.inr (.inr (.inr f)))))]
def ocW (cI : ClassId) (b : Nat → Nat) (φ : Nat → Int → Int) : va_W := [(b 0, .inr (1, [.ref (b 1)])), (b 1, .inl (cI, 1585, .inl (rI (φ 1))))]
def rdW (b : Nat → Nat) (ρ : Nat → Int → Int) : va_W := [(b 0, .inr (0, [.int (iI (ρ 0 0)), .int (iI (ρ 0 1)), .int (iI (ρ 0 2)), .int (iI (ρ 0 3)), .int (iI (ρ 0 4)), .int (iI (ρ 0 5))]))]
def bfW (cC : ClassId) (b : Nat → Nat) (β : Nat → Int → Int) : va_W := [(b 0, .inl (cC, 60, .inl (rI (β 1))))]
def mnW (b : Nat → Nat) (a sv o rd bu : Nat → Nat) (ln : Nat → Int → Int) : va_W := [(b 0, .inr (4, [.ref (a 0), .ref (sv 0), .ref (o 0), .ref (rd 0), .ref (bu 0), .int (iI (ln 0 0))]))]
def ouW (cL : ClassId) (b : Nat → Nat) (f : Nat → Int64) : va_W := [(b 0, .inl (cL, 1, .inr (.inl f)))]
/-- the rows of saved states, by their addresses -/
def saF (sa : Nat → Nat → Nat) : Nat → Option Nat := fun j => some (sa j 0)
def rotA (sa : Nat → Nat → Nat) : Nat → Nat → Nat := fun k => if k = 5 then sa 0 else if k < 5 then sa (k + 1) else sa k
def pushA (κ : Int) (sa : Nat → Nat → Nat) : Nat → Nat → Nat := if κ = 6 then rotA sa else sa
def pushS (κ : Int) (ss : Nat → Nat → Int → Int) (σ : Nat → Int → Int) : Nat → Nat → Int → Int := if κ = 6 then (fun k => if k = 5 then σ else ss (k + 1)) else (fun k => if (k : Int) = κ then σ else ss k)
def pushK (κ : Int) : Int := if κ = 6 then 6 else κ + 1
theorem rot_f (sa : Nat → Nat → Nat) : va_up (va_up (va_up (va_up (va_up (va_up (saF sa) (0 : Int).toNat (some (sa 1 0))) (1 : Int).toNat (some (sa 2 0))) (2 : Int).toNat (some (sa 3 0))) (3 : Int).toNat (some (sa 4 0))) (4 : Int).toNat (some (sa 5 0))) (5 : Int).toNat (some (sa 0 0)) = saF (rotA sa) := by
  funext j
  have e : ∀ z : Nat, ((z : Int)).toNat = z := fun z => rfl
  show va_up (va_up (va_up (va_up (va_up (va_up (saF sa) 0 (some (sa 1 0))) 1 (some (sa 2 0))) 2 (some (sa 3 0))) 3 (some (sa 4 0))) 4 (some (sa 5 0))) 5 (some (sa 0 0)) j = _
  match j with
  | 0 => rfl
  | 1 => rfl
  | 2 => rfl
  | 3 => rfl
  | 4 => rfl
  | 5 => rfl
  | j + 6 =>
    unfold saF rotA va_up
    simp only [show ¬ j + 6 = 5 by omega, show ¬ j + 6 = 4 by omega, show ¬ j + 6 = 3 by omega, show ¬ j + 6 = 2 by omega, show ¬ j + 6 = 1 by omega, show ¬ j + 6 = 0 by omega, show ¬ j + 6 < 5 by omega, if_false]
theorem pushS_lt {κ : Int} (h : κ ≠ 6) (ss : Nat → Nat → Int → Int) (σ : Nat → Int → Int) (k : Nat) : pushS κ ss σ k = if (k : Int) = κ then σ else ss k := by unfold pushS; rw [if_neg h]
theorem pushS_6 {κ : Int} (h : κ = 6) (ss : Nat → Nat → Int → Int) (σ : Nat → Int → Int) (k : Nat) : pushS κ ss σ k = if k = 5 then σ else ss (k + 1) := by unfold pushS; rw [if_pos h]
theorem pushA_lt {κ : Int} (h : κ ≠ 6) (sa : Nat → Nat → Nat) : pushA κ sa = sa := if_neg h
theorem pushA_6 {κ : Int} (h : κ = 6) (sa : Nat → Nat → Nat) : pushA κ sa = rotA sa := if_pos h
theorem pushK_lt {κ : Int} (h : κ ≠ 6) : pushK κ = κ + 1 := if_neg h
theorem pushK_6 {κ : Int} (h : κ = 6) : pushK κ = 6 := if_pos h
theorem svO_eq {cO : ClassId} {b : Nat → Nat} {f : Nat → Option Nat} {X Y : Nat → Int → Int} (h : X 0 0 = Y 0 0) : svO cO b f X = svO cO b f Y := by unfold svO; rw [h]
/-- one row alone -/
def rwW (cI : ClassId) (r : Nat) (n : Nat) (f : Int → Int) : va_W := [(r, .inl (cI, n, .inl (rI f)))]
theorem iI_nat {z : Int} (h : 0 ≤ z ∧ z ≤ 65535) : (iI z).toUInt32.toNat = z.toNat := by
  obtain ⟨n, rfl⟩ := Int.eq_ofNat_of_zero_le h.1
  have e : iI (n : Int) = Int32.ofNat n := Int32.ofInt_eq_ofNat
  rw [e]
  show (Int32.ofNat n).toUInt32.toNat = n
  have h2 : (Int32.ofNat n).toUInt32 = UInt32.ofNat n := rfl
  rw [h2, UInt32.toNat_ofNat_of_lt' (by show n < 4294967296; omega)]
theorem i2c_ii {z : Int} (h : 0 ≤ z ∧ z ≤ 65535) : ((iI z).toUInt32 % 65536).toInt32 = iI z := by
  have e : (iI z).toUInt32 % 65536 = (iI z).toUInt32 := by
    apply UInt32.toNat_inj.mp
    rw [UInt32.toNat_mod, iI_nat h]
    show z.toNat % 65536 = z.toNat
    omega
  rw [e]
  rfl
theorem char_ii {z : Int} (h : 0 ≤ z ∧ z ≤ 65535) : vp_nar .char (iI z) = iI z := by
  rw [vp_nar_char]
  have e : (iI z).toUInt32.toUInt16.toUInt32 = (iI z).toUInt32 := by
    apply UInt32.toNat_inj.mp
    rw [UInt16.toNat_toUInt32, UInt32.toNat_toUInt16, iI_nat h]
    show z.toNat % 65536 = z.toNat
    omega
  rw [e]
  rfl
section WC
variable {p : Program} {l : Launch} {e : Env} {R : Room} {s : State} {m : MethodId} {args : Array Value} {below : List Frame} {meth : Method} {c : Code} {H : Heap} {locs : List Loc} {cells slots : Nat} {Q : State → Prop}
variable {pc : Nat} {ls : Array Slot} {rest : List Value} {A : Nat → Prop} {H0 : Heap} {D : va_G} {cl : List vw_C} {ws : va_W} {tys : List (ClassId × FieldType)} {a : Nat} {cc : ByteArray}
theorem wi_cast (hexec : p.tables.exec = Jvm.exec) (hb : c.code = cc) (hK : va_K D cl tys s) (hP : va_P D cl ws H) (hD : va_D A ws) (hS : va_S A H0 H locs) (q0 t0 : Nat) {cA : ClassId} {n : Nat} {f : Int → Int} (ha : ws[q0]? = some (a, .inl (cA, n, .inl (rI f)))) (ht : tys[t0]? = some (cA, .char)) {i x : Int} (hin : 0 ≤ i ∧ i < (n : Int)) (hn : n ≤ 2147483647) (hx : 0 ≤ x ∧ x ≤ 65535) (hdg : decode cc pc = .ok (.castore, 1))
    (kk : ∀ (H1 : Heap) (locs1 : List Loc), va_P D cl (ws.set q0 (a, .inl (cA, n, .inl (rI (uI f i x))))) H1 → va_D A (ws.set q0 (a, .inl (cA, n, .inl (rI (uI f i x))))) → va_S A H0 H1 locs1 → W p l e R s m args below meth c H1 locs1 cells slots Q (F0 m (pc + 1) ls rest)) : W p l e R s m args below meth c H locs cells slots Q (F0 m pc ls (.int (iI x) :: .int (iI i) :: .ref a :: rest)) :=
  va_cast hexec hb hK hP hD hS q0 t0 ha ht (iI_in hin (by omega)) hdg (by rw [char_ii hx, rI_upd hin.1 (by omega)]; exact kk)
end WC
