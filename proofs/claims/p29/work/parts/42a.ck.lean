/-! new objects and rows -/
def adr (L : List Nat) (k : Nat) : Nat := L.getD k 0
def adF (L : List (Nat → Nat)) (k : Nat) : Nat → Nat := L.getD k (fun _ => 0)
def CPl : List Cond := [.methodLinkNest RX4 9 yX3_init RX4, .methodLinkNest RX4 18 yX2_init RX4, .methodLinkNest RX2 11 yX3_init RX4, .methodLinkNest RX4 25 yX1_init RX4, .methodLinkNest RX4 32 yX0_init RX4]
theorem CPl_tabs : ∀ w ∈ CPl, w.onTables = true := by decide +kernel
def CPW (U : State) : Prop := (∀ w ∈ CPl, va_Nw w U) ∧ va_AO "PromisedCounters$State" U
theorem CPW.warm {s U : State} (hW : s.WarmedH U.vm) (h : CPW s) : CPW U := by
  refine ⟨?_, h.2.moved hW.alike⟩
  have hh : ∀ w ∈ CPl, ∃ a i x g, w = .methodLinkNest a i x g := by
    intro w hw
    simp only [CPl, List.mem_cons, List.not_mem_nil, or_false] at hw
    rcases hw with rfl | rfl | rfl | rfl | rfl <;> exact ⟨_, _, _, _, rfl⟩
  intro w hw
  obtain ⟨a, i, x, g, rfl⟩ := hh w hw
  exact va_Nw.warmM hW (h.1 _ hw)
theorem CPW.same {u U : State} (hv : U.vm = u.vm) (h : CPW u) : CPW U := ⟨fun w hw => (h.1 w hw).same (CPl_tabs w hw) hv.symm, h.2.moved (by rw [hv]; exact Vm.Alike.refl _)⟩
def pcC (D : va_G) (tys : List (ClassId × FieldType)) (av : List Value) (w : va_W) (sz : Nat) : Array Value → State → Prop := va_Pc av (fun U => U.heap.size = sz ∧ va_P D vwCl w U.heap ∧ va_K D vwCl tys U ∧ va_D (fun _ => True) w ∧ CPW U)
theorem pcC_blind {D : va_G} {tys : List (ClassId × FieldType)} {av : List Value} {w : va_W} {sz : Nat} : FrameBlind (pcC D tys av w sz) := fun a U g mk q => ⟨q.1, q.2.1, q.2.2.1, va_K.moved (u := U) (U := U.calling g mk a) (Vm.Alike.refl U.vm) q.2.2.2.1, q.2.2.2.2.1, CPW.same (u := U) (U := U.calling g mk a) rfl q.2.2.2.2.2⟩
theorem pcC_of {D : va_G} {tys : List (ClassId × FieldType)} {av : List Value} {w : va_W} {s : State} {H : Heap} {A : Nat → Prop} (hP : va_P D vwCl w H) (hK : va_K D vwCl tys s) (hD : va_D A w) (hC : CPW s) : ∀ U : State, U.heap = H → s.WarmedH U.vm → pcC D tys av w H.size av.toArray U := fun U hU hW => ⟨rfl, by rw [hU], by rw [hU]; exact hP, va_K.moved hW.alike hK, hD.weaken (fun _ _ _ _ => trivial), hC.warm hW⟩
section WN
variable {p : Program} {l : Launch} {e : Env} {R : Room} {s : State} {m : MethodId} {args : Array Value} {below : List Frame} {meth : Method} {c : Code} {H : Heap} {locs : List Loc} {cells slots : Nat} {Q : State → Prop}
variable {cc : ByteArray} {pc : Nat} {ls : Array Slot} {rest : List Value} {D : va_G} {cl : List vw_C} {A : Nat → Prop} {tys : List (ClassId × FieldType)} {ws : va_W} {H0 : Heap}
theorem va_K.last {cA cB : ClassId} {ty : FieldType} {t0 : Nat} (hK : va_K D cl (tys ++ [(cB, ty)]) s) (ht : tys[t0]? = some (cA, ty)) (hi : ∀ x y : ClassId, va_RA s x ty → va_RA s y ty → x = y) : cB = cA := by
  have h1 := (hK.2 tys.length (cB, ty) (by simp)).2
  have hlt : t0 < tys.length := (List.getElem?_eq_some_iff.mp ht).1
  have h2 := (hK.2 t0 (cA, ty) (by rw [List.getElem?_append_left hlt]; exact ht)).2
  exact hi _ _ h1 h2
theorem wn_newa (hexec : p.tables.exec = Jvm.exec) (hb : c.code = cc) {atype : ArrayType} {ty : FieldType} (harr : (Cond.arrayClass (newarray.typeOf atype)).before args s = true) (hty : newarray.typeOf atype = ty) (hd : defaultValue ty = .int 0) (hK : va_K D cl tys s) (hP : va_P D cl ws H) (hD : va_D A ws) (hS : va_S A H0 H locs) (hA : ∀ q, H0.size ≤ q → A q) (t0 : Nat) {cA : ClassId} (ht : tys[t0]? = some (cA, ty)) (hi : ∀ x y : ClassId, va_RA s x ty → va_RA s y ty → x = y)
    {n : Int} {N : Nat} (hn : n = (N : Int)) (hN : N ≤ 100000) (hbytes : N * componentBytes ty ≤ 536870912) (hcells : cells + 1 ≤ R.cells) (hslots : slots + N ≤ R.slots) (hdg : decode cc pc = .ok (.newarray atype, 2))
    (kk : ∀ (q : Nat) (H1 : Heap), va_P D cl (ws ++ [(q, .inl (cA, N, .inl (rI (fun _ => 0))))]) H1 → va_D A (ws ++ [(q, .inl (cA, N, .inl (rI (fun _ => 0))))]) → va_S A H0 H1 locs → W p l e R s m args below meth c H1 locs (cells + 1) (slots + N) Q (F0 m (pc + 2) ls (.ref q :: rest))) : W p l e R s m args below meth c H locs cells slots Q (F0 m pc ls (.int (iI n) :: rest)) := by
  have R0 : R32 0 := ⟨by omega, by omega⟩
  subst hn
  refine va_newa (atype := atype) (a0 := (N, .inl (rI (fun _ => 0)))) (N' := N) hexec hb harr hty hK hP hD hS hA (fun cA => by rw [hd]; rfl) (fun h => by have h2 := (iI_lt (a := (N : Int)) (b := 0) ⟨by omega, by omega⟩ R0).mp h; omega) (by rw [iI_clamp ⟨by omega, by omega⟩]; rfl) hbytes hcells hslots hdg (fun q cB H1 k1 k2 k3 k4 => ?_)
  have e := va_K.last k1 ht hi
  subst e
  exact kk q H1 k2 k3 k4
theorem wn_newL (hexec : p.tables.exec = Jvm.exec) (hb : c.code = cc) (harr : (Cond.arrayClass .long).before args s = true) (hK : va_K D cl tys s) (hP : va_P D cl ws H) (hD : va_D A ws) (hS : va_S A H0 H locs) (hA : ∀ q, H0.size ≤ q → A q) (t0 : Nat) {cA : ClassId} (ht : tys[t0]? = some (cA, .long))
    {n : Int} {N : Nat} (hn : n = (N : Int)) (hN : N ≤ 100000) (hbytes : N * componentBytes .long ≤ 536870912) (hcells : cells + 1 ≤ R.cells) (hslots : slots + N ≤ R.slots) (hdg : decode cc pc = .ok (.newarray .long, 2))
    (kk : ∀ (q : Nat) (H1 : Heap), va_P D cl (ws ++ [(q, .inl (cA, N, .inr (.inl (fun _ => 0))))]) H1 → va_D A (ws ++ [(q, .inl (cA, N, .inr (.inl (fun _ => 0))))]) → va_S A H0 H1 locs → W p l e R s m args below meth c H1 locs (cells + 1) (slots + N) Q (F0 m (pc + 2) ls (.ref q :: rest))) : W p l e R s m args below meth c H locs cells slots Q (F0 m pc ls (.int (iI n) :: rest)) := by
  have R0 : R32 0 := ⟨by omega, by omega⟩
  subst hn
  refine va_newa (atype := .long) (a0 := (N, .inr (.inl (fun _ => 0)))) (N' := N) (ty := .long) hexec hb harr rfl hK hP hD hS hA (fun cA => rfl) (fun h => by have h2 := (iI_lt (a := (N : Int)) (b := 0) ⟨by omega, by omega⟩ R0).mp h; omega) (by rw [iI_clamp ⟨by omega, by omega⟩]; rfl) hbytes hcells hslots hdg (fun q cB H1 k1 k2 k3 k4 => ?_)
  have e := va_K.last k1 ht (fun _ _ z1 z2 => Option.some.inj (z1.symm.trans z2))
  subst e
  exact kk q H1 k2 k3 k4
theorem wn_newq (hexec : p.tables.exec = Jvm.exec) (hb : c.code = cc) {own C : String} {index : Nat} (hown : s.vm.findClass own = some m.cls) (hclink : (Cond.classLink own index C).before args s = true) (hover : va_AO C s) (hK : va_K D cl tys s) (hP : va_P D cl ws H) (hD : va_D A ws) (hS : va_S A H0 H locs) (hA : ∀ q, H0.size ≤ q → A q) (t0 : Nat) {cA : ClassId} (ht : tys[t0]? = some (cA, .object C))
    {n : Int} {N : Nat} (hn : n = (N : Int)) (hN : N ≤ 100000) (hbytes : N * 4 ≤ 536870912) (hcells : cells + 1 ≤ R.cells) (hslots : slots + N ≤ R.slots) (hdg : decode cc pc = .ok (.anewarray index, 3))
    (kk : ∀ (q : Nat) (H1 : Heap), va_P D cl (ws ++ [(q, .inl (cA, N, .inr (.inr (.inr (.inr (fun _ => none))))))]) H1 → va_D A (ws ++ [(q, .inl (cA, N, .inr (.inr (.inr (.inr (fun _ => none))))))]) → va_S A H0 H1 locs → W p l e R s m args below meth c H1 locs (cells + 1) (slots + N) Q (F0 m (pc + 3) ls (.ref q :: rest))) : W p l e R s m args below meth c H locs cells slots Q (F0 m pc ls (.int (iI n) :: rest)) := by
  have R0 : R32 0 := ⟨by omega, by omega⟩
  subst hn
  refine va_newq (N' := N) hexec hb hown hclink hover hK hP hD hS hA (fun h => by have h2 := (iI_lt (a := (N : Int)) (b := 0) ⟨by omega, by omega⟩ R0).mp h; omega) (by rw [iI_clamp ⟨by omega, by omega⟩]; rfl) hbytes hcells hslots hdg (fun q cB H1 k1 k2 k3 k4 => ?_)
  have e := va_K.last k1 ht (fun x y z1 z2 => by
    obtain ⟨kA, cp, h1, h2, h3, h4⟩ := z1
    obtain ⟨kA', cp', h1', h2', h3', h4'⟩ := z2
    exact Option.some.inj (h4.symm.trans h4'))
  subst e
  exact kk q H1 k2 k3 k4
end WN
/-- what the new ones hold -/
def s0S : Nat → Int → Int := fun k => if k = 1 then uI (uI (fun _ => 0) 0 6) 1 10 else if k = 4 then uI (uI (uI (uI (fun _ => 0) 0 100) 1 100) 2 100) 3 100 else fun _ => 0
def s0M : Nat → Int → Int := fun k => if k = 1 then uI (uI (uI (uI (uI (uI (fun _ => 0) 1 6) 2 10) 13 100) 14 100) 15 100) 16 100 else fun _ => 0
def z0S : Nat → Int → Int := fun _ _ => 0
theorem RelN_0 : RelN s0S (s0M 1) := by
  refine ⟨⟨rfl, rfl, rfl, rfl, rfl⟩, fun c c0 c1 => ?_, fun o o0 o1 => ?_, fun p p0 p1 => ?_⟩
  · rcases (show c = 0 ∨ c = 1 ∨ c = 2 ∨ c = 3 by omega) with rfl | rfl | rfl | rfl <;> exact ⟨rfl, rfl, rfl⟩
  · rcases (show o = 0 ∨ o = 1 ∨ o = 2 ∨ o = 3 ∨ o = 4 ∨ o = 5 by omega) with rfl | rfl | rfl | rfl | rfl | rfl <;> exact ⟨rfl, rfl, rfl⟩
  · have p2 : p < 0 := p1
    omega
theorem Inv_0 : Inv s0S := by
  refine ⟨⟨by decide, by decide⟩, ⟨by decide, by decide⟩, ⟨by decide, by decide⟩, ⟨by decide, by decide⟩, fun c c0 c1 => ?_, fun p p0 p1 => ?_⟩
  · rcases (show c = 0 ∨ c = 1 ∨ c = 2 ∨ c = 3 by omega) with rfl | rfl | rfl | rfl <;> exact ⟨⟨by decide, by decide⟩, by decide, by decide⟩
  · have p2 : p < 0 := p1
    omega
theorem GI_0 (ss : Nat → Nat → Int → Int) : GI s0S 0 ss 0 (fun _ => 0) := ⟨Inv_0, by omega, fun k h => by omega, by omega, fun j j0 j1 => by omega⟩
theorem RelM_0 (ss : Nat → Nat → Int → Int) : RelM s0S 0 ss 0 (fun _ => 0) s0M := ⟨RelN_0, rfl, fun k h => by omega, rfl, fun j j0 j1 => by omega⟩
