set_option maxHeartbeats 4000000 in
set_option maxRecDepth 100000 in
theorem c_X3_addPromise (l : Launch) (D : va_G) (cI cO cC cL : ClassId) (sz : Nat) (a : Nat → Nat) (σ : Nat → Int → Int) (o c y to : Int) (hn : 0 ≤ σ 0 1 ∧ σ 0 1 < 16) : Met l yX3_addPromise wsX3_addPromise ({ frames := 0, cells := 0, slots := 0, locals := 0 } : Room) (pcW D [(cI, FieldType.int)] [.ref (a 0), .int (iI (o)), .int (iI (c)), .int (iI (y)), .int (iI (to))] (fl [stW cI a σ]) sz) (wq_i (fun (r : Int) (_ : Unit) => r = σ 0 1) (fun (_ : Unit) => (bW D [(cI, FieldType.int)] (fl [stW cI a (addS σ o c y to)]) (va_A (fl [stW cI a σ]) sz))) (va_A (fl [stW cI a σ]) sz)) 0 0 (va_A (fl [stW cI a σ]) sz) := by
  refine Met.ofW (cc := cX3_addPromise) (maxL := 6) (ret := (some .int)) (by decide) rfl ?_
  intro p9 e9 s m args9 below9 meth9 c9 s₁ B hml hv
  obtain ⟨rfl, hsz, hP, hK, hD0⟩ := hv
  have hx := B.exec
  have hb := B.bytes
  have hr := B.returns
  have hts := atoms_spec (ws := wsX3_addPromise) B.pre
  have hown : s.vm.findClass RX3 = some m.cls := findClass_of_methodNamed B.named
  have hlocks := B.notSynchronized
  subst hsz
  have hD := hD0.self (sz := s.heap.size)
  generalize hAe : va_A (fl [stW cI a σ]) s.heap.size = A at hD ⊢
  have hA : ∀ q : Nat, s.heap.size ≤ q → A q := fun q h => by rw [← hAe]; exact Or.inr h
  have hS : va_S A s.heap s.heap [] := va_S.rf
  have hP : va_P D vwCl (fl [stW cI a σ]) s.heap := hP
  have hl := lv_entry ([.ref (a 0), .int (iI (o)), .int (iI (c)), .int (iI (y)), .int (iI (to))]) (n := 6) (Nat.le_of_ble_eq_true rfl)
  rw [lg_entry_eq]
  generalize (lg_sl ([.ref (a 0), .int (iI (o)), .int (iI (c)), .int (iI (y)), .int (iI (to))]) ++ List.replicate (6 - (lg_sl ([.ref (a 0), .int (iI (o)), .int (iI (c)), .int (iI (y)), .int (iI (to))])).length) Slot.unset).toArray = ls at hl ⊢
  have hl : lv_has ls 6 [(0, .ref (a 0)), (1, .int (iI (o))), (2, .int (iI (c))), (3, .int (iI (y))), (4, .int (iI (to)))] := hl
  have hw_0 := hts (.fieldLink RX3 15 "PromisedCounters$State" "promises" "I") (by decide +kernel)
  have hin_X3 : ∀ w ∈ u_ws RX3 TX3 15, w ∈ wsX3_addPromise := by decide +kernel
  have hw_1 := hts (.fieldLink RX3 34 "PromisedCounters$State" "owner" "[I") (by decide +kernel)
  have hw_2 := hts (.fieldLink RX3 37 "PromisedCounters$State" "counter" "[I") (by decide +kernel)
  have hw_3 := hts (.fieldLink RX3 40 "PromisedCounters$State" "change" "[I") (by decide +kernel)
  have hw_4 := hts (.fieldLink RX3 43 "PromisedCounters$State" "other" "[I") (by decide +kernel)
  have hw_5 := hts (.fieldLink RX3 46 "PromisedCounters$State" "until" "[I") (by decide +kernel)
  have hw_6 := hts (.fieldLink RX3 9 "PromisedCounters$State" "time" "I") (by decide +kernel)
  have hw_7 := hts (.fieldLink RX3 21 "PromisedCounters$State" "settings" "[I") (by decide +kernel)
  have hw_8 := hts (.fieldLink RX3 18 "PromisedCounters$State" "made" "I") (by decide +kernel)
  refine lv_aload_n hx hb dX3_addPromise_0 rfl (lv_at hl 0 rfl) ?_
  refine va_get (D := D) (ci := 3) (v := .int (iI ((σ 0 1)))) (C := RX3) (T := TX3) (N := 15) hx hb hts hin_X3 hown hK hP 0 rfl rfl 1 (by decide) hw_0 (fun _ h9 => h9) rfl dX3_addPromise_1 ?_
  refine lv_istore (lv' := [(5, .int (iI ((σ 0 1)))), (0, .ref (a 0)), (1, .int (iI (o))), (2, .int (iI (c))), (3, .int (iI (y))), (4, .int (iI (to)))]) hx hb dX3_addPromise_4 hl (by decide) rfl (fun ls hl => ?_)
  refine lv_aload_n hx hb dX3_addPromise_6 rfl (lv_at hl 1 rfl) ?_
  refine va_get (D := D) (ci := 3) (v := .ref (a 5)) (C := RX3) (T := TX3) (N := 15) hx hb hts hin_X3 hown hK hP 0 rfl rfl 7 (by decide) hw_1 (fun _ h9 => h9) rfl dX3_addPromise_7 ?_
  refine lv_iload hx hb dX3_addPromise_10 (lv_at hl 0 rfl) ?_
  refine lv_iload_n hx hb dX3_addPromise_12 rfl (lv_at hl 2 rfl) ?_
  refine wi_iast hx hb hK hP hD hS 5 0 (n := 16) (f := σ 5) rfl rfl (i := (σ 0 1)) (by omega) (by decide) dX3_addPromise_13 (fun H locs hP hD hS => ?_)
  have hP : va_P D vwCl (fl [stW cI a (sU σ 5 ((σ 0 1)) (o))]) H := hP
  have hD : va_D A (fl [stW cI a (sU σ 5 ((σ 0 1)) (o))]) := hD
  refine lv_aload_n hx hb dX3_addPromise_14 rfl (lv_at hl 1 rfl) ?_
  refine va_get (D := D) (ci := 3) (v := .ref (a 6)) (C := RX3) (T := TX3) (N := 15) hx hb hts hin_X3 hown hK hP 0 rfl rfl 8 (by decide) hw_2 (fun _ h9 => h9) rfl dX3_addPromise_15 ?_
  refine lv_iload hx hb dX3_addPromise_18 (lv_at hl 0 rfl) ?_
  refine lv_iload_n hx hb dX3_addPromise_20 rfl (lv_at hl 3 rfl) ?_
  refine wi_iast hx hb hK hP hD hS 6 0 (n := 16) (f := σ 6) rfl rfl (i := (σ 0 1)) (by omega) (by decide) dX3_addPromise_21 (fun H locs hP hD hS => ?_)
  have hP : va_P D vwCl (fl [stW cI a (sU (sU σ 5 ((σ 0 1)) (o)) 6 ((σ 0 1)) (c))]) H := hP
  have hD : va_D A (fl [stW cI a (sU (sU σ 5 ((σ 0 1)) (o)) 6 ((σ 0 1)) (c))]) := hD
  refine lv_aload_n hx hb dX3_addPromise_22 rfl (lv_at hl 1 rfl) ?_
  refine va_get (D := D) (ci := 3) (v := .ref (a 7)) (C := RX3) (T := TX3) (N := 15) hx hb hts hin_X3 hown hK hP 0 rfl rfl 9 (by decide) hw_3 (fun _ h9 => h9) rfl dX3_addPromise_23 ?_
  refine lv_iload hx hb dX3_addPromise_26 (lv_at hl 0 rfl) ?_
  refine lv_iload_n hx hb dX3_addPromise_28 rfl (lv_at hl 4 rfl) ?_
  refine wi_iast hx hb hK hP hD hS 7 0 (n := 16) (f := σ 7) rfl rfl (i := (σ 0 1)) (by omega) (by decide) dX3_addPromise_29 (fun H locs hP hD hS => ?_)
  have hP : va_P D vwCl (fl [stW cI a (sU (sU (sU σ 5 ((σ 0 1)) (o)) 6 ((σ 0 1)) (c)) 7 ((σ 0 1)) (y))]) H := hP
  have hD : va_D A (fl [stW cI a (sU (sU (sU σ 5 ((σ 0 1)) (o)) 6 ((σ 0 1)) (c)) 7 ((σ 0 1)) (y))]) := hD
  refine lv_aload_n hx hb dX3_addPromise_30 rfl (lv_at hl 1 rfl) ?_
  refine va_get (D := D) (ci := 3) (v := .ref (a 8)) (C := RX3) (T := TX3) (N := 15) hx hb hts hin_X3 hown hK hP 0 rfl rfl 10 (by decide) hw_4 (fun _ h9 => h9) rfl dX3_addPromise_31 ?_
  refine lv_iload hx hb dX3_addPromise_34 (lv_at hl 0 rfl) ?_
  refine lv_iload hx hb dX3_addPromise_36 (lv_at hl 5 rfl) ?_
  refine wi_iast hx hb hK hP hD hS 8 0 (n := 16) (f := σ 8) rfl rfl (i := (σ 0 1)) (by omega) (by decide) dX3_addPromise_38 (fun H locs hP hD hS => ?_)
  have hP : va_P D vwCl (fl [stW cI a (sU (sU (sU (sU σ 5 ((σ 0 1)) (o)) 6 ((σ 0 1)) (c)) 7 ((σ 0 1)) (y)) 8 ((σ 0 1)) (to))]) H := hP
  have hD : va_D A (fl [stW cI a (sU (sU (sU (sU σ 5 ((σ 0 1)) (o)) 6 ((σ 0 1)) (c)) 7 ((σ 0 1)) (y)) 8 ((σ 0 1)) (to))]) := hD
  refine lv_aload_n hx hb dX3_addPromise_39 rfl (lv_at hl 1 rfl) ?_
  refine va_get (D := D) (ci := 3) (v := .ref (a 9)) (C := RX3) (T := TX3) (N := 15) hx hb hts hin_X3 hown hK hP 0 rfl rfl 11 (by decide) hw_5 (fun _ h9 => h9) rfl dX3_addPromise_40 ?_
  refine lv_iload hx hb dX3_addPromise_43 (lv_at hl 0 rfl) ?_
  refine lv_aload_n hx hb dX3_addPromise_45 rfl (lv_at hl 1 rfl) ?_
  refine va_get (D := D) (ci := 3) (v := .int (iI ((σ 0 0)))) (C := RX3) (T := TX3) (N := 15) hx hb hts hin_X3 hown hK hP 0 rfl rfl 0 (by decide) hw_6 (fun _ h9 => h9) rfl dX3_addPromise_46 ?_
  refine lv_aload_n hx hb dX3_addPromise_49 rfl (lv_at hl 1 rfl) ?_
  refine va_get (D := D) (ci := 3) (v := .ref (a 1)) (C := RX3) (T := TX3) (N := 15) hx hb hts hin_X3 hown hK hP 0 rfl rfl 3 (by decide) hw_7 (fun _ h9 => h9) rfl dX3_addPromise_50 ?_
  refine wi_iconst hx hb dX3_addPromise_53 ?_
  refine wi_iald hx hb hK hP 1 0 (n := 2) (f := σ 1) rfl rfl (i := 1) (by omega) (by decide) dX3_addPromise_54 ?_
  refine wi_iadd hx hb dX3_addPromise_55 ?_
  refine wi_iast hx hb hK hP hD hS 9 0 (n := 16) (f := σ 9) rfl rfl (i := (σ 0 1)) (by omega) (by decide) dX3_addPromise_56 (fun H locs hP hD hS => ?_)
  have hP : va_P D vwCl (fl [stW cI a (sU (sU (sU (sU (sU σ 5 ((σ 0 1)) (o)) 6 ((σ 0 1)) (c)) 7 ((σ 0 1)) (y)) 8 ((σ 0 1)) (to)) 9 ((σ 0 1)) (((σ 0 0) + (σ 1 (1)))))]) H := hP
  have hD : va_D A (fl [stW cI a (sU (sU (sU (sU (sU σ 5 ((σ 0 1)) (o)) 6 ((σ 0 1)) (c)) 7 ((σ 0 1)) (y)) 8 ((σ 0 1)) (to)) 9 ((σ 0 1)) (((σ 0 0) + (σ 1 (1)))))]) := hD
  refine lv_aload_n hx hb dX3_addPromise_57 rfl (lv_at hl 1 rfl) ?_
  refine lv_dup hx hb dX3_addPromise_58 rfl ?_
  refine va_get (D := D) (ci := 3) (v := .int (iI ((σ 0 1)))) (C := RX3) (T := TX3) (N := 15) hx hb hts hin_X3 hown hK hP 0 rfl rfl 1 (by decide) hw_0 (fun _ h9 => h9) rfl dX3_addPromise_59 ?_
  refine wi_iconst hx hb dX3_addPromise_62 ?_
  refine wi_iadd hx hb dX3_addPromise_63 ?_
  refine va_put (D := D) (ci := 3) (v := .int (iI (((σ 0 1) + 1)))) (ty := .int) (C := RX3) (T := TX3) (N := 15) hx hb hts hin_X3 tyX3 tyX3_ok nmX3 hown hK hP hD hS 0 rfl rfl 1 (by decide) hw_0 (fun _ h9 => h9) rfl (by decide +kernel) rfl rfl (Nat.le_of_ble_eq_true rfl) dX3_addPromise_64 (fun H locs hP hD hS => ?_)
  have hP : va_P D vwCl (fl [stW cI a (sU (sU (sU (sU (sU (sU σ 5 ((σ 0 1)) (o)) 6 ((σ 0 1)) (c)) 7 ((σ 0 1)) (y)) 8 ((σ 0 1)) (to)) 9 ((σ 0 1)) (((σ 0 0) + (σ 1 (1))))) 0 (1) (((σ 0 1) + 1)))]) H := hP
  have hD : va_D A (fl [stW cI a (sU (sU (sU (sU (sU (sU σ 5 ((σ 0 1)) (o)) 6 ((σ 0 1)) (c)) 7 ((σ 0 1)) (y)) 8 ((σ 0 1)) (to)) 9 ((σ 0 1)) (((σ 0 0) + (σ 1 (1))))) 0 (1) (((σ 0 1) + 1)))]) := hD
  refine lv_aload_n hx hb dX3_addPromise_67 rfl (lv_at hl 1 rfl) ?_
  refine lv_dup hx hb dX3_addPromise_68 rfl ?_
  refine va_get (D := D) (ci := 3) (v := .int (iI (((uI (σ 0) (1) (((σ 0 1) + 1))) 2)))) (C := RX3) (T := TX3) (N := 15) hx hb hts hin_X3 hown hK hP 0 rfl rfl 2 (by decide) hw_8 (fun _ h9 => h9) rfl dX3_addPromise_69 ?_
  refine wi_iconst hx hb dX3_addPromise_72 ?_
  refine wi_iadd hx hb dX3_addPromise_73 ?_
  refine va_put (D := D) (ci := 3) (v := .int (iI ((((uI (σ 0) (1) (((σ 0 1) + 1))) 2) + 1)))) (ty := .int) (C := RX3) (T := TX3) (N := 15) hx hb hts hin_X3 tyX3 tyX3_ok nmX3 hown hK hP hD hS 0 rfl rfl 2 (by decide) hw_8 (fun _ h9 => h9) rfl (by decide +kernel) rfl rfl (Nat.le_of_ble_eq_true rfl) dX3_addPromise_74 (fun H locs hP hD hS => ?_)
  have hP : va_P D vwCl (fl [stW cI a (sU (sU (sU (sU (sU (sU (sU σ 5 ((σ 0 1)) (o)) 6 ((σ 0 1)) (c)) 7 ((σ 0 1)) (y)) 8 ((σ 0 1)) (to)) 9 ((σ 0 1)) (((σ 0 0) + (σ 1 (1))))) 0 (1) (((σ 0 1) + 1))) 0 (2) ((((uI (σ 0) (1) (((σ 0 1) + 1))) 2) + 1)))]) H := hP
  have hD : va_D A (fl [stW cI a (sU (sU (sU (sU (sU (sU (sU σ 5 ((σ 0 1)) (o)) 6 ((σ 0 1)) (c)) 7 ((σ 0 1)) (y)) 8 ((σ 0 1)) (to)) 9 ((σ 0 1)) (((σ 0 0) + (σ 1 (1))))) 0 (1) (((σ 0 1) + 1))) 0 (2) ((((uI (σ 0) (1) (((σ 0 1) + 1))) 2) + 1)))]) := hD
  refine lv_iload hx hb dX3_addPromise_77 (lv_at hl 0 rfl) ?_
  have hP : va_P D vwCl (fl [stW cI a (addS σ o c y to)]) H := hP
  have hD : va_D A (fl [stW cI a (addS σ o c y to)]) := hD
  exact W.iret (v := iI ((σ 0 1))) hx hb hr (fun t9 ht9 hW9 => ⟨⟨((σ 0 1)), (), rfl, (rfl), ⟨by rw [ht9]; exact hP, va_K.moved hW9.alike hK, hD⟩⟩, hS.F ht9⟩) hS.2.2 dX3_addPromise_79 hlocks
set_option maxHeartbeats 4000000 in
set_option maxRecDepth 100000 in
theorem c_X3_addToCounters (l : Launch) (D : va_G) (cI cO cC cL : ClassId) (sz : Nat) (a : Nat → Nat) (σ : Nat → Int → Int) (p x : Int) (hp0 : 0 ≤ p ∧ p < 16) (hpr : PR0 σ p) : Met l yX3_addToCounters wsX3_addToCounters ({ frames := 0, cells := 0, slots := 0, locals := 0 } : Room) (pcW D [(cI, FieldType.int)] [.ref (a 0), .int (iI (p)), .int (iI (x))] (fl [stW cI a σ]) sz) (va_Qv (fun (_ : Unit) => True) (fun (_ : Unit) => (bW D [(cI, FieldType.int)] (fl [stW cI a (addC σ p x)]) (va_A (fl [stW cI a σ]) sz))) (va_A (fl [stW cI a σ]) sz)) 0 0 (va_A (fl [stW cI a σ]) sz) := by
  refine Met.ofW (cc := cX3_addToCounters) (maxL := 3) (ret := none) (by decide) rfl ?_
  intro p9 e9 s m args9 below9 meth9 c9 s₁ B hml hv
  obtain ⟨rfl, hsz, hP, hK, hD0⟩ := hv
  have hx := B.exec
  have hb := B.bytes
  have hr := B.returns
  have hts := atoms_spec (ws := wsX3_addToCounters) B.pre
  have hown : s.vm.findClass RX3 = some m.cls := findClass_of_methodNamed B.named
  have hlocks := B.notSynchronized
  subst hsz
  have hD := hD0.self (sz := s.heap.size)
  generalize hAe : va_A (fl [stW cI a σ]) s.heap.size = A at hD ⊢
  have hA : ∀ q : Nat, s.heap.size ≤ q → A q := fun q h => by rw [← hAe]; exact Or.inr h
  have hS : va_S A s.heap s.heap [] := va_S.rf
  have hP : va_P D vwCl (fl [stW cI a σ]) s.heap := hP
  have hl := lv_entry ([.ref (a 0), .int (iI (p)), .int (iI (x))]) (n := 3) (Nat.le_of_ble_eq_true rfl)
  rw [lg_entry_eq]
  generalize (lg_sl ([.ref (a 0), .int (iI (p)), .int (iI (x))]) ++ List.replicate (3 - (lg_sl ([.ref (a 0), .int (iI (p)), .int (iI (x))])).length) Slot.unset).toArray = ls at hl ⊢
  have hl : lv_has ls 3 [(0, .ref (a 0)), (1, .int (iI (p))), (2, .int (iI (x)))] := hl
  have hw_0 := hts (.fieldLink RX3 25 "PromisedCounters$State" "value" "[I") (by decide +kernel)
  have hin_X3 : ∀ w ∈ u_ws RX3 TX3 15, w ∈ wsX3_addToCounters := by decide +kernel
  have hw_1 := hts (.fieldLink RX3 37 "PromisedCounters$State" "counter" "[I") (by decide +kernel)
  have hw_2 := hts (.fieldLink RX3 43 "PromisedCounters$State" "other" "[I") (by decide +kernel)
  obtain ⟨hp1, hp2, hp3, hp4⟩ := id hpr
  refine lv_aload_n hx hb dX3_addToCounters_0 rfl (lv_at hl 0 rfl) ?_
  refine va_get (D := D) (ci := 3) (v := .ref (a 2)) (C := RX3) (T := TX3) (N := 15) hx hb hts hin_X3 hown hK hP 0 rfl rfl 4 (by decide) hw_0 (fun _ h9 => h9) rfl dX3_addToCounters_1 ?_
  refine lv_aload_n hx hb dX3_addToCounters_4 rfl (lv_at hl 0 rfl) ?_
  refine va_get (D := D) (ci := 3) (v := .ref (a 6)) (C := RX3) (T := TX3) (N := 15) hx hb hts hin_X3 hown hK hP 0 rfl rfl 8 (by decide) hw_1 (fun _ h9 => h9) rfl dX3_addToCounters_5 ?_
  refine lv_iload_n hx hb dX3_addToCounters_8 rfl (lv_at hl 1 rfl) ?_
  refine wi_iald hx hb hK hP 6 0 (n := 16) (f := σ 6) rfl rfl (i := p) (by omega) (by decide) dX3_addToCounters_9 ?_
  refine lv_dup2_11 hx hb dX3_addToCounters_10 rfl rfl ?_
  refine wi_iald hx hb hK hP 2 0 (n := 4) (f := σ 2) rfl rfl (i := (σ 6 (p))) (by omega) (by decide) dX3_addToCounters_11 ?_
  refine lv_iload_n hx hb dX3_addToCounters_12 rfl (lv_at hl 2 rfl) ?_
  refine wi_iadd hx hb dX3_addToCounters_13 ?_
  refine wi_iast hx hb hK hP hD hS 2 0 (n := 4) (f := σ 2) rfl rfl (i := (σ 6 (p))) (by omega) (by decide) dX3_addToCounters_14 (fun H locs hP hD hS => ?_)
  have hP : va_P D vwCl (fl [stW cI a (sU σ 2 ((σ 6 (p))) (((σ 2 ((σ 6 (p)))) + x)))]) H := hP
  have hD : va_D A (fl [stW cI a (sU σ 2 ((σ 6 (p))) (((σ 2 ((σ 6 (p)))) + x)))]) := hD
  refine lv_aload_n hx hb dX3_addToCounters_15 rfl (lv_at hl 0 rfl) ?_
  refine va_get (D := D) (ci := 3) (v := .ref (a 8)) (C := RX3) (T := TX3) (N := 15) hx hb hts hin_X3 hown hK hP 0 rfl rfl 10 (by decide) hw_2 (fun _ h9 => h9) rfl dX3_addToCounters_16 ?_
  refine lv_iload_n hx hb dX3_addToCounters_19 rfl (lv_at hl 1 rfl) ?_
  refine wi_iald hx hb hK hP 8 0 (n := 16) (f := σ 8) rfl rfl (i := p) (by omega) (by decide) dX3_addToCounters_20 ?_
  refine wi_iconst hx hb dX3_addToCounters_21 ?_
  refine wi_icmp_eq (tgt := 40) hx hb dX3_addToCounters_22 (by decide) (by omega) (fun c_22 => ?_) (fun c_22 => ?_)
  · skip
    have hE := addR_def σ p x
    first | rw [if_pos (by omega)] at hE | rw [if_neg (by omega)] at hE
    have hP : va_P D vwCl (fl [stW cI a (addC σ p x)]) H := by unfold addC; rw [hE]; exact hP
    have hD : va_D A (fl [stW cI a (addC σ p x)]) := by unfold addC; rw [hE]; exact hD
    exact W.vret hx hb hr (fun t9 ht9 hW9 => ⟨⟨(), rfl, (trivial), ⟨by rw [ht9]; exact hP, va_K.moved hW9.alike hK, hD⟩⟩, hS.F ht9⟩) hS.2.2 dX3_addToCounters_40 hlocks
  · skip
    refine lv_aload_n hx hb dX3_addToCounters_25 rfl (lv_at hl 0 rfl) ?_
    refine va_get (D := D) (ci := 3) (v := .ref (a 2)) (C := RX3) (T := TX3) (N := 15) hx hb hts hin_X3 hown hK hP 0 rfl rfl 4 (by decide) hw_0 (fun _ h9 => h9) rfl dX3_addToCounters_26 ?_
    refine lv_aload_n hx hb dX3_addToCounters_29 rfl (lv_at hl 0 rfl) ?_
    refine va_get (D := D) (ci := 3) (v := .ref (a 8)) (C := RX3) (T := TX3) (N := 15) hx hb hts hin_X3 hown hK hP 0 rfl rfl 10 (by decide) hw_2 (fun _ h9 => h9) rfl dX3_addToCounters_30 ?_
    refine lv_iload_n hx hb dX3_addToCounters_33 rfl (lv_at hl 1 rfl) ?_
    refine wi_iald hx hb hK hP 8 0 (n := 16) (f := σ 8) rfl rfl (i := p) (by omega) (by decide) dX3_addToCounters_34 ?_
    refine lv_dup2_11 hx hb dX3_addToCounters_35 rfl rfl ?_
    refine wi_iald hx hb hK hP 2 0 (n := 4) (f := (uI (σ 2) ((σ 6 (p))) (((σ 2 ((σ 6 (p)))) + x)))) rfl rfl (i := (σ 8 (p))) (by omega) (by decide) dX3_addToCounters_36 ?_
    refine lv_iload_n hx hb dX3_addToCounters_37 rfl (lv_at hl 2 rfl) ?_
    refine wi_isub hx hb dX3_addToCounters_38 ?_
    refine wi_iast hx hb hK hP hD hS 2 0 (n := 4) (f := (uI (σ 2) ((σ 6 (p))) (((σ 2 ((σ 6 (p)))) + x)))) rfl rfl (i := (σ 8 (p))) (by omega) (by decide) dX3_addToCounters_39 (fun H locs hP hD hS => ?_)
    have hP : va_P D vwCl (fl [stW cI a (sU (sU σ 2 ((σ 6 (p))) (((σ 2 ((σ 6 (p)))) + x))) 2 ((σ 8 (p))) ((((uI (σ 2) ((σ 6 (p))) (((σ 2 ((σ 6 (p)))) + x))) ((σ 8 (p)))) - x)))]) H := hP
    have hD : va_D A (fl [stW cI a (sU (sU σ 2 ((σ 6 (p))) (((σ 2 ((σ 6 (p)))) + x))) 2 ((σ 8 (p))) ((((uI (σ 2) ((σ 6 (p))) (((σ 2 ((σ 6 (p)))) + x))) ((σ 8 (p)))) - x)))]) := hD
    have hE := addR_def σ p x
    first | rw [if_pos (by omega)] at hE | rw [if_neg (by omega)] at hE
    have hP : va_P D vwCl (fl [stW cI a (addC σ p x)]) H := by unfold addC; rw [hE]; exact hP
    have hD : va_D A (fl [stW cI a (addC σ p x)]) := by unfold addC; rw [hE]; exact hD
    exact W.vret hx hb hr (fun t9 ht9 hW9 => ⟨⟨(), rfl, (trivial), ⟨by rw [ht9]; exact hP, va_K.moved hW9.alike hK, hD⟩⟩, hS.F ht9⟩) hS.2.2 dX3_addToCounters_40 hlocks
set_option maxHeartbeats 4000000 in
set_option maxRecDepth 100000 in
theorem c_X3_removeRow (l : Launch) (D : va_G) (cI cO cC cL : ClassId) (sz : Nat) (a : Nat → Nat) (σ : Nat → Int → Int) (p : Int) (hp0 : 0 ≤ p ∧ p < 16) (hpn : p < σ 0 1 ∧ σ 0 1 ≤ 16) : Met l yX3_removeRow wsX3_removeRow ({ frames := 0, cells := 0, slots := 0, locals := 0 } : Room) (pcW D [(cI, FieldType.int)] [.ref (a 0), .int (iI (p))] (fl [stW cI a σ]) sz) (va_Qv (fun (_ : Unit) => True) (fun (_ : Unit) => (bW D [(cI, FieldType.int)] (fl [stW cI a (remS σ p)]) (va_A (fl [stW cI a σ]) sz))) (va_A (fl [stW cI a σ]) sz)) 0 0 (va_A (fl [stW cI a σ]) sz) := by
  refine Met.ofW (cc := cX3_removeRow) (maxL := 3) (ret := none) (by decide) rfl ?_
  intro p9 e9 s m args9 below9 meth9 c9 s₁ B hml hv
  obtain ⟨rfl, hsz, hP, hK, hD0⟩ := hv
  have hx := B.exec
  have hb := B.bytes
  have hr := B.returns
  have hts := atoms_spec (ws := wsX3_removeRow) B.pre
  have hown : s.vm.findClass RX3 = some m.cls := findClass_of_methodNamed B.named
  have hlocks := B.notSynchronized
  subst hsz
  have hD := hD0.self (sz := s.heap.size)
  generalize hAe : va_A (fl [stW cI a σ]) s.heap.size = A at hD ⊢
  have hA : ∀ q : Nat, s.heap.size ≤ q → A q := fun q h => by rw [← hAe]; exact Or.inr h
  have hS : va_S A s.heap s.heap [] := va_S.rf
  have hP : va_P D vwCl (fl [stW cI a σ]) s.heap := hP
  have hl := lv_entry ([.ref (a 0), .int (iI (p))]) (n := 3) (Nat.le_of_ble_eq_true rfl)
  rw [lg_entry_eq]
  generalize (lg_sl ([.ref (a 0), .int (iI (p))]) ++ List.replicate (3 - (lg_sl ([.ref (a 0), .int (iI (p))])).length) Slot.unset).toArray = ls at hl ⊢
  have hl : lv_has ls 3 [(0, .ref (a 0)), (1, .int (iI (p)))] := hl
  have hw_0 := hts (.fieldLink RX3 15 "PromisedCounters$State" "promises" "I") (by decide +kernel)
  have hin_X3 : ∀ w ∈ u_ws RX3 TX3 15, w ∈ wsX3_removeRow := by decide +kernel
  have hw_1 := hts (.fieldLink RX3 34 "PromisedCounters$State" "owner" "[I") (by decide +kernel)
  have hw_2 := hts (.fieldLink RX3 37 "PromisedCounters$State" "counter" "[I") (by decide +kernel)
  have hw_3 := hts (.fieldLink RX3 40 "PromisedCounters$State" "change" "[I") (by decide +kernel)
  have hw_4 := hts (.fieldLink RX3 43 "PromisedCounters$State" "other" "[I") (by decide +kernel)
  have hw_5 := hts (.fieldLink RX3 46 "PromisedCounters$State" "until" "[I") (by decide +kernel)
  refine lv_aload_n hx hb dX3_removeRow_0 rfl (lv_at hl 0 rfl) ?_
  refine lv_dup hx hb dX3_removeRow_1 rfl ?_
  refine va_get (D := D) (ci := 3) (v := .int (iI ((σ 0 1)))) (C := RX3) (T := TX3) (N := 15) hx hb hts hin_X3 hown hK hP 0 rfl rfl 1 (by decide) hw_0 (fun _ h9 => h9) rfl dX3_removeRow_2 ?_
  refine wi_iconst hx hb dX3_removeRow_5 ?_
  refine wi_isub hx hb dX3_removeRow_6 ?_
  refine va_put (D := D) (ci := 3) (v := .int (iI (((σ 0 1) - 1)))) (ty := .int) (C := RX3) (T := TX3) (N := 15) hx hb hts hin_X3 tyX3 tyX3_ok nmX3 hown hK hP hD hS 0 rfl rfl 1 (by decide) hw_0 (fun _ h9 => h9) rfl (by decide +kernel) rfl rfl (Nat.le_of_ble_eq_true rfl) dX3_removeRow_7 (fun H locs hP hD hS => ?_)
  have hP : va_P D vwCl (fl [stW cI a (sU σ 0 (1) (((σ 0 1) - 1)))]) H := hP
  have hD : va_D A (fl [stW cI a (sU σ 0 (1) (((σ 0 1) - 1)))]) := hD
  refine lv_iload_n hx hb dX3_removeRow_10 rfl (lv_at hl 1 rfl) ?_
  refine lv_istore_n (lv' := [(2, .int (iI (p))), (0, .ref (a 0)), (1, .int (iI (p)))]) hx hb dX3_removeRow_11 rfl hl (by decide) rfl (fun ls hl => ?_)
  have L12 : ∀ (k12 : Nat), ∀ (τ : Nat → Int → Int) (q : Int), (σ 0 1 - q).toNat < k12 → (p ≤ q ∧ q ≤ σ 0 1 - 1) → (τ = shP σ p q) → ∀ (H : Heap) (locs : List Loc), va_P D vwCl (fl [stW cI a τ]) H → va_D A (fl [stW cI a τ]) → va_S A s.heap H locs → ∀ (ls : Array Slot), lv_has ls 3 [(2, .int (iI (q))), (0, .ref (a 0)), (1, .int (iI (p)))] → W p9 l e9 ({ frames := 0, cells := 0, slots := 0, locals := 0 } : Room) s m ([.ref (a 0), .int (iI (p))] : List Value).toArray below9 meth9 c9 H locs 0 0 (MQ below9 (va_Qv (fun (_ : Unit) => True) (fun (_ : Unit) => (bW D [(cI, FieldType.int)] (fl [stW cI a (remS σ p)]) A)) A) ([.ref (a 0), .int (iI (p))] : List Value).toArray s 0 0 A) (F0 m 12 ls []) := by
    intro k12
    induction k12 with
    | zero =>
      intro τ q hm
      exact absurd hm (Nat.not_lt_zero _)
    | succ k12 ih12 =>
      intro τ q hm12 hq hτ H locs hP hD hS ls hl
      have hτ0 : τ 0 1 = σ 0 1 - 1 := by rw [hτ]; rfl
      refine lv_iload_n hx hb dX3_removeRow_12 rfl (lv_at hl 0 rfl) ?_
      refine lv_aload_n hx hb dX3_removeRow_13 rfl (lv_at hl 1 rfl) ?_
      refine va_get (D := D) (ci := 3) (v := .int (iI ((τ 0 1)))) (C := RX3) (T := TX3) (N := 15) hx hb hts hin_X3 hown hK hP 0 rfl rfl 1 (by decide) hw_0 (fun _ h9 => h9) rfl dX3_removeRow_14 ?_
      refine wi_icmp_ge (tgt := 96) hx hb dX3_removeRow_17 (by decide) (by omega) (fun c_17 => ?_) (fun c_17 => ?_)
      · skip
        have hE : τ = remS σ p := by rw [hτ, show q = σ 0 1 - 1 by omega]; rfl
        rw [hE] at hP hD
        exact W.vret hx hb hr (fun t9 ht9 hW9 => ⟨⟨(), rfl, (trivial), ⟨by rw [ht9]; exact hP, va_K.moved hW9.alike hK, hD⟩⟩, hS.F ht9⟩) hS.2.2 dX3_removeRow_96 hlocks
      · skip
        refine lv_aload_n hx hb dX3_removeRow_20 rfl (lv_at hl 1 rfl) ?_
        refine va_get (D := D) (ci := 3) (v := .ref (a 5)) (C := RX3) (T := TX3) (N := 15) hx hb hts hin_X3 hown hK hP 0 rfl rfl 7 (by decide) hw_1 (fun _ h9 => h9) rfl dX3_removeRow_21 ?_
        refine lv_iload_n hx hb dX3_removeRow_24 rfl (lv_at hl 0 rfl) ?_
        refine lv_aload_n hx hb dX3_removeRow_25 rfl (lv_at hl 1 rfl) ?_
        refine va_get (D := D) (ci := 3) (v := .ref (a 5)) (C := RX3) (T := TX3) (N := 15) hx hb hts hin_X3 hown hK hP 0 rfl rfl 7 (by decide) hw_1 (fun _ h9 => h9) rfl dX3_removeRow_26 ?_
        refine lv_iload_n hx hb dX3_removeRow_29 rfl (lv_at hl 0 rfl) ?_
        refine wi_iconst hx hb dX3_removeRow_30 ?_
        refine wi_iadd hx hb dX3_removeRow_31 ?_
        refine wi_iald hx hb hK hP 5 0 (n := 16) (f := τ 5) rfl rfl (i := (q + 1)) (by omega) (by decide) dX3_removeRow_32 ?_
        refine wi_iast hx hb hK hP hD hS 5 0 (n := 16) (f := τ 5) rfl rfl (i := q) (by omega) (by decide) dX3_removeRow_33 (fun H locs hP hD hS => ?_)
        have hP : va_P D vwCl (fl [stW cI a (sU τ 5 (q) ((τ 5 ((q + 1)))))]) H := hP
        have hD : va_D A (fl [stW cI a (sU τ 5 (q) ((τ 5 ((q + 1)))))]) := hD
        refine lv_aload_n hx hb dX3_removeRow_34 rfl (lv_at hl 1 rfl) ?_
        refine va_get (D := D) (ci := 3) (v := .ref (a 6)) (C := RX3) (T := TX3) (N := 15) hx hb hts hin_X3 hown hK hP 0 rfl rfl 8 (by decide) hw_2 (fun _ h9 => h9) rfl dX3_removeRow_35 ?_
        refine lv_iload_n hx hb dX3_removeRow_38 rfl (lv_at hl 0 rfl) ?_
        refine lv_aload_n hx hb dX3_removeRow_39 rfl (lv_at hl 1 rfl) ?_
        refine va_get (D := D) (ci := 3) (v := .ref (a 6)) (C := RX3) (T := TX3) (N := 15) hx hb hts hin_X3 hown hK hP 0 rfl rfl 8 (by decide) hw_2 (fun _ h9 => h9) rfl dX3_removeRow_40 ?_
        refine lv_iload_n hx hb dX3_removeRow_43 rfl (lv_at hl 0 rfl) ?_
        refine wi_iconst hx hb dX3_removeRow_44 ?_
        refine wi_iadd hx hb dX3_removeRow_45 ?_
        refine wi_iald hx hb hK hP 6 0 (n := 16) (f := τ 6) rfl rfl (i := (q + 1)) (by omega) (by decide) dX3_removeRow_46 ?_
        refine wi_iast hx hb hK hP hD hS 6 0 (n := 16) (f := τ 6) rfl rfl (i := q) (by omega) (by decide) dX3_removeRow_47 (fun H locs hP hD hS => ?_)
        have hP : va_P D vwCl (fl [stW cI a (sU (sU τ 5 (q) ((τ 5 ((q + 1))))) 6 (q) ((τ 6 ((q + 1)))))]) H := hP
        have hD : va_D A (fl [stW cI a (sU (sU τ 5 (q) ((τ 5 ((q + 1))))) 6 (q) ((τ 6 ((q + 1)))))]) := hD
        refine lv_aload_n hx hb dX3_removeRow_48 rfl (lv_at hl 1 rfl) ?_
        refine va_get (D := D) (ci := 3) (v := .ref (a 7)) (C := RX3) (T := TX3) (N := 15) hx hb hts hin_X3 hown hK hP 0 rfl rfl 9 (by decide) hw_3 (fun _ h9 => h9) rfl dX3_removeRow_49 ?_
        refine lv_iload_n hx hb dX3_removeRow_52 rfl (lv_at hl 0 rfl) ?_
        refine lv_aload_n hx hb dX3_removeRow_53 rfl (lv_at hl 1 rfl) ?_
        refine va_get (D := D) (ci := 3) (v := .ref (a 7)) (C := RX3) (T := TX3) (N := 15) hx hb hts hin_X3 hown hK hP 0 rfl rfl 9 (by decide) hw_3 (fun _ h9 => h9) rfl dX3_removeRow_54 ?_
        refine lv_iload_n hx hb dX3_removeRow_57 rfl (lv_at hl 0 rfl) ?_
        refine wi_iconst hx hb dX3_removeRow_58 ?_
        refine wi_iadd hx hb dX3_removeRow_59 ?_
        refine wi_iald hx hb hK hP 7 0 (n := 16) (f := τ 7) rfl rfl (i := (q + 1)) (by omega) (by decide) dX3_removeRow_60 ?_
        refine wi_iast hx hb hK hP hD hS 7 0 (n := 16) (f := τ 7) rfl rfl (i := q) (by omega) (by decide) dX3_removeRow_61 (fun H locs hP hD hS => ?_)
        have hP : va_P D vwCl (fl [stW cI a (sU (sU (sU τ 5 (q) ((τ 5 ((q + 1))))) 6 (q) ((τ 6 ((q + 1))))) 7 (q) ((τ 7 ((q + 1)))))]) H := hP
        have hD : va_D A (fl [stW cI a (sU (sU (sU τ 5 (q) ((τ 5 ((q + 1))))) 6 (q) ((τ 6 ((q + 1))))) 7 (q) ((τ 7 ((q + 1)))))]) := hD
        refine lv_aload_n hx hb dX3_removeRow_62 rfl (lv_at hl 1 rfl) ?_
        refine va_get (D := D) (ci := 3) (v := .ref (a 8)) (C := RX3) (T := TX3) (N := 15) hx hb hts hin_X3 hown hK hP 0 rfl rfl 10 (by decide) hw_4 (fun _ h9 => h9) rfl dX3_removeRow_63 ?_
        refine lv_iload_n hx hb dX3_removeRow_66 rfl (lv_at hl 0 rfl) ?_
        refine lv_aload_n hx hb dX3_removeRow_67 rfl (lv_at hl 1 rfl) ?_
        refine va_get (D := D) (ci := 3) (v := .ref (a 8)) (C := RX3) (T := TX3) (N := 15) hx hb hts hin_X3 hown hK hP 0 rfl rfl 10 (by decide) hw_4 (fun _ h9 => h9) rfl dX3_removeRow_68 ?_
        refine lv_iload_n hx hb dX3_removeRow_71 rfl (lv_at hl 0 rfl) ?_
        refine wi_iconst hx hb dX3_removeRow_72 ?_
        refine wi_iadd hx hb dX3_removeRow_73 ?_
        refine wi_iald hx hb hK hP 8 0 (n := 16) (f := τ 8) rfl rfl (i := (q + 1)) (by omega) (by decide) dX3_removeRow_74 ?_
        refine wi_iast hx hb hK hP hD hS 8 0 (n := 16) (f := τ 8) rfl rfl (i := q) (by omega) (by decide) dX3_removeRow_75 (fun H locs hP hD hS => ?_)
        have hP : va_P D vwCl (fl [stW cI a (sU (sU (sU (sU τ 5 (q) ((τ 5 ((q + 1))))) 6 (q) ((τ 6 ((q + 1))))) 7 (q) ((τ 7 ((q + 1))))) 8 (q) ((τ 8 ((q + 1)))))]) H := hP
        have hD : va_D A (fl [stW cI a (sU (sU (sU (sU τ 5 (q) ((τ 5 ((q + 1))))) 6 (q) ((τ 6 ((q + 1))))) 7 (q) ((τ 7 ((q + 1))))) 8 (q) ((τ 8 ((q + 1)))))]) := hD
        refine lv_aload_n hx hb dX3_removeRow_76 rfl (lv_at hl 1 rfl) ?_
        refine va_get (D := D) (ci := 3) (v := .ref (a 9)) (C := RX3) (T := TX3) (N := 15) hx hb hts hin_X3 hown hK hP 0 rfl rfl 11 (by decide) hw_5 (fun _ h9 => h9) rfl dX3_removeRow_77 ?_
        refine lv_iload_n hx hb dX3_removeRow_80 rfl (lv_at hl 0 rfl) ?_
        refine lv_aload_n hx hb dX3_removeRow_81 rfl (lv_at hl 1 rfl) ?_
        refine va_get (D := D) (ci := 3) (v := .ref (a 9)) (C := RX3) (T := TX3) (N := 15) hx hb hts hin_X3 hown hK hP 0 rfl rfl 11 (by decide) hw_5 (fun _ h9 => h9) rfl dX3_removeRow_82 ?_
        refine lv_iload_n hx hb dX3_removeRow_85 rfl (lv_at hl 0 rfl) ?_
        refine wi_iconst hx hb dX3_removeRow_86 ?_
        refine wi_iadd hx hb dX3_removeRow_87 ?_
        refine wi_iald hx hb hK hP 9 0 (n := 16) (f := τ 9) rfl rfl (i := (q + 1)) (by omega) (by decide) dX3_removeRow_88 ?_
        refine wi_iast hx hb hK hP hD hS 9 0 (n := 16) (f := τ 9) rfl rfl (i := q) (by omega) (by decide) dX3_removeRow_89 (fun H locs hP hD hS => ?_)
        have hP : va_P D vwCl (fl [stW cI a (sU (sU (sU (sU (sU τ 5 (q) ((τ 5 ((q + 1))))) 6 (q) ((τ 6 ((q + 1))))) 7 (q) ((τ 7 ((q + 1))))) 8 (q) ((τ 8 ((q + 1))))) 9 (q) ((τ 9 ((q + 1)))))]) H := hP
        have hD : va_D A (fl [stW cI a (sU (sU (sU (sU (sU τ 5 (q) ((τ 5 ((q + 1))))) 6 (q) ((τ 6 ((q + 1))))) 7 (q) ((τ 7 ((q + 1))))) 8 (q) ((τ 8 ((q + 1))))) 9 (q) ((τ 9 ((q + 1)))))]) := hD
        refine wi_iinc (lv' := [(2, .int (iI ((q + 1)))), (0, .ref (a 0)), (1, .int (iI (p)))]) hx hb dX3_removeRow_90 hl (k := 0) rfl (by decide) rfl (fun ls hl => ?_)
        refine lv_goto (tgt := 12) hx hb dX3_removeRow_93 (by decide) ?_
        exact ih12 ((sU (sU (sU (sU (sU τ 5 (q) ((τ 5 ((q + 1))))) 6 (q) ((τ 6 ((q + 1))))) 7 (q) ((τ 7 ((q + 1))))) 8 (q) ((τ 8 ((q + 1))))) 9 (q) ((τ 9 ((q + 1)))))) ((q + 1)) (by omega) (by omega) (by rw [hτ]; exact shP_s σ (by omega)) _ _ hP hD hS ls (lv_sub hl [0, 1, 2] rfl)
  exact L12 _ ((sU σ 0 (1) (((σ 0 1) - 1)))) (p) (Nat.lt_succ_self _) (by omega) (shP_0 σ p) _ _ hP hD hS ls (lv_sub hl [0, 1, 2] rfl)
set_option maxHeartbeats 4000000 in
set_option maxRecDepth 100000 in
theorem c_X3_settleWhole (l : Launch) (D : va_G) (cI cO cC cL : ClassId) (sz : Nat) (a : Nat → Nat) (σ : Nat → Int → Int) (p : Int) (hp0 : 0 ≤ p ∧ p < 16) (hpn : p < σ 0 1 ∧ σ 0 1 ≤ 16) (hpr : PR0 σ p) : Met l yX3_settleWhole wsX3_settleWhole ({ frames := 1, cells := 0, slots := 0, locals := 22 } : Room) (pcW D [(cI, FieldType.int)] [.ref (a 0), .int (iI (p))] (fl [stW cI a σ]) sz) (va_Qv (fun (_ : Unit) => True) (fun (_ : Unit) => (bW D [(cI, FieldType.int)] (fl [stW cI a (setS σ p)]) (va_A (fl [stW cI a σ]) sz))) (va_A (fl [stW cI a σ]) sz)) 0 0 (va_A (fl [stW cI a σ]) sz) := by
  refine Met.ofW (cc := cX3_settleWhole) (maxL := 2) (ret := none) (by decide) rfl ?_
  intro p9 e9 s m args9 below9 meth9 c9 s₁ B hml hv
  obtain ⟨rfl, hsz, hP, hK, hD0⟩ := hv
  have hx := B.exec
  have hb := B.bytes
  have hr := B.returns
  have hts := atoms_spec (ws := wsX3_settleWhole) B.pre
  have hown : s.vm.findClass RX3 = some m.cls := findClass_of_methodNamed B.named
  have hlocks := B.notSynchronized
  subst hsz
  have hD := hD0.self (sz := s.heap.size)
  generalize hAe : va_A (fl [stW cI a σ]) s.heap.size = A at hD ⊢
  have hA : ∀ q : Nat, s.heap.size ≤ q → A q := fun q h => by rw [← hAe]; exact Or.inr h
  have hS : va_S A s.heap s.heap [] := va_S.rf
  have hP : va_P D vwCl (fl [stW cI a σ]) s.heap := hP
  have hl := lv_entry ([.ref (a 0), .int (iI (p))]) (n := 2) (Nat.le_of_ble_eq_true rfl)
  rw [lg_entry_eq]
  generalize (lg_sl ([.ref (a 0), .int (iI (p))]) ++ List.replicate (2 - (lg_sl ([.ref (a 0), .int (iI (p))])).length) Slot.unset).toArray = ls at hl ⊢
  have hl : lv_has ls 2 [(0, .ref (a 0)), (1, .int (iI (p)))] := hl
  have hw_0 := hts (.fieldLink RX3 40 "PromisedCounters$State" "change" "[I") (by decide +kernel)
  have hin_X3 : ∀ w ∈ u_ws RX3 TX3 15, w ∈ wsX3_settleWhole := by decide +kernel
  have hw_1 := hts (.fieldLink RX3 49 "PromisedCounters$State" "settled" "[I") (by decide +kernel)
  have hw_2 := hts (.fieldLink RX3 34 "PromisedCounters$State" "owner" "[I") (by decide +kernel)
  obtain ⟨hp1, hp2, hp3, hp4⟩ := id hpr
  refine lv_aload_n hx hb dX3_settleWhole_0 rfl (lv_at hl 0 rfl) ?_
  refine lv_iload_n hx hb dX3_settleWhole_1 rfl (lv_at hl 1 rfl) ?_
  refine lv_aload_n hx hb dX3_settleWhole_2 rfl (lv_at hl 0 rfl) ?_
  refine va_get (D := D) (ci := 3) (v := .ref (a 7)) (C := RX3) (T := TX3) (N := 15) hx hb hts hin_X3 hown hK hP 0 rfl rfl 9 (by decide) hw_0 (fun _ h9 => h9) rfl dX3_settleWhole_3 ?_
  refine lv_iload_n hx hb dX3_settleWhole_6 rfl (lv_at hl 1 rfl) ?_
  refine wi_iald hx hb hK hP 7 0 (n := 16) (f := σ 7) rfl rfl (i := p) (by omega) (by decide) dX3_settleWhole_7 ?_
  have hFc := fl_free (SC := [stW cI a σ]) hD hS hA [0] rfl
  refine va_callv (va_runV (As := [.int (iI (p)), .int (iI ((σ 7 (p))))]) (rest := []) ⟨hx, hb, hml, hown, hts⟩ (c_X3_addToCounters l D cI cO cC cL s.heap.size a σ (p) ((σ 7 (p))) (hp0) (hpr)) (cwV 2 hts gX3_settleWhole_X3_addToCounters rfl rfl rfl (by decide +kernel) ⟨Nat.le_of_ble_eq_true rfl, Nat.le_of_ble_eq_true rfl⟩) ⟨pcW_blind, va_recv hK hP (ci := 3) (q0 := 0) rfl rfl, pcW_of hP hK hD⟩ rfl rfl hl.1 rfl (lv_room (Nat.le_of_ble_eq_true rfl)) dX3_settleWhole_8 ⟨(Nat.zero_le _), (Nat.zero_le _)⟩) hS (fun q _ h => hFc q h) hFc (fun  u2 t9 H1 locs ht9 hvm hcl1 hB hz1 hk1 hS => ?_)
  obtain ⟨hP1, hK1, hD1⟩ := hB
  rw [ht9] at hP1
  obtain ⟨hP, hD⟩ := fl_join (SR := []) (S1 := [stW cI a (addC σ (p) ((σ 7 (p))))]) hP hD [0] [] rfl rfl (by decide) (by decide) hk1 hFc hP1 hD1
  generalize H1 = H at hP hS ⊢
  have hP : va_P D vwCl (fl [stW cI a (addC σ (p) ((σ 7 (p))))]) H := hP
  have hD : va_D A (fl [stW cI a (addC σ (p) ((σ 7 (p))))]) := hD
  have he5 : addC σ p (σ 7 p) 5 p = σ 5 p := rfl
  refine lv_aload_n hx hb dX3_settleWhole_11 rfl (lv_at hl 0 rfl) ?_
  refine va_get (D := D) (ci := 3) (v := .ref (a 10)) (C := RX3) (T := TX3) (N := 15) hx hb hts hin_X3 hown hK hP 0 rfl rfl 12 (by decide) hw_1 (fun _ h9 => h9) rfl dX3_settleWhole_12 ?_
  refine lv_aload_n hx hb dX3_settleWhole_15 rfl (lv_at hl 0 rfl) ?_
  refine va_get (D := D) (ci := 3) (v := .ref (a 5)) (C := RX3) (T := TX3) (N := 15) hx hb hts hin_X3 hown hK hP 0 rfl rfl 7 (by decide) hw_2 (fun _ h9 => h9) rfl dX3_settleWhole_16 ?_
  refine lv_iload_n hx hb dX3_settleWhole_19 rfl (lv_at hl 1 rfl) ?_
  refine wi_iald hx hb hK hP 5 0 (n := 16) (f := (addC σ (p) ((σ 7 (p)))) 5) rfl rfl (i := p) (by omega) (by decide) dX3_settleWhole_20 ?_
  refine lv_dup2_11 hx hb dX3_settleWhole_21 rfl rfl ?_
  refine wi_iald hx hb hK hP 10 0 (n := 6) (f := (addC σ (p) ((σ 7 (p)))) 10) rfl rfl (i := ((addC σ (p) ((σ 7 (p)))) 5 (p))) (by omega) (by decide) dX3_settleWhole_22 ?_
  refine wi_iconst hx hb dX3_settleWhole_23 ?_
  refine wi_iadd hx hb dX3_settleWhole_24 ?_
  refine wi_iast hx hb hK hP hD hS 10 0 (n := 6) (f := (addC σ (p) ((σ 7 (p)))) 10) rfl rfl (i := ((addC σ (p) ((σ 7 (p)))) 5 (p))) (by omega) (by decide) dX3_settleWhole_25 (fun H locs hP hD hS => ?_)
  have hP : va_P D vwCl (fl [stW cI a (sU (addC σ (p) ((σ 7 (p)))) 10 (((addC σ (p) ((σ 7 (p)))) 5 (p))) ((((addC σ (p) ((σ 7 (p)))) 10 (((addC σ (p) ((σ 7 (p)))) 5 (p)))) + 1)))]) H := hP
  have hD : va_D A (fl [stW cI a (sU (addC σ (p) ((σ 7 (p)))) 10 (((addC σ (p) ((σ 7 (p)))) 5 (p))) ((((addC σ (p) ((σ 7 (p)))) 10 (((addC σ (p) ((σ 7 (p)))) 5 (p)))) + 1)))]) := hD
  refine lv_aload_n hx hb dX3_settleWhole_26 rfl (lv_at hl 0 rfl) ?_
  refine lv_iload_n hx hb dX3_settleWhole_27 rfl (lv_at hl 1 rfl) ?_
  have hFc := fl_free (SC := [stW cI a (sU (addC σ (p) ((σ 7 (p)))) 10 (((addC σ (p) ((σ 7 (p)))) 5 (p))) ((((addC σ (p) ((σ 7 (p)))) 10 (((addC σ (p) ((σ 7 (p)))) 5 (p)))) + 1)))]) hD hS hA [0] rfl
  refine va_callv (va_runV (As := [.int (iI (p))]) (rest := []) ⟨hx, hb, hml, hown, hts⟩ (c_X3_removeRow l D cI cO cC cL H.size a (sU (addC σ (p) ((σ 7 (p)))) 10 (((addC σ (p) ((σ 7 (p)))) 5 (p))) ((((addC σ (p) ((σ 7 (p)))) 10 (((addC σ (p) ((σ 7 (p)))) 5 (p)))) + 1))) (p) (hp0) (hpn)) (cwV 1 hts gX3_settleWhole_X3_removeRow rfl rfl rfl (by decide +kernel) ⟨Nat.le_of_ble_eq_true rfl, Nat.le_of_ble_eq_true rfl⟩) ⟨pcW_blind, va_recv hK hP (ci := 3) (q0 := 0) rfl rfl, pcW_of hP hK hD⟩ rfl rfl hl.1 rfl (lv_room (Nat.le_of_ble_eq_true rfl)) dX3_settleWhole_28 ⟨(Nat.zero_le _), (Nat.zero_le _)⟩) hS (fun q _ h => hFc q h) hFc (fun  u4 t9 H1 locs ht9 hvm hcl3 hB hz1 hk1 hS => ?_)
  obtain ⟨hP1, hK1, hD1⟩ := hB
  rw [ht9] at hP1
  obtain ⟨hP, hD⟩ := fl_join (SR := []) (S1 := [stW cI a (remS (sU (addC σ (p) ((σ 7 (p)))) 10 (((addC σ (p) ((σ 7 (p)))) 5 (p))) ((((addC σ (p) ((σ 7 (p)))) 10 (((addC σ (p) ((σ 7 (p)))) 5 (p)))) + 1))) (p))]) hP hD [0] [] rfl rfl (by decide) (by decide) hk1 hFc hP1 hD1
  generalize H1 = H at hP hS ⊢
  have hP : va_P D vwCl (fl [stW cI a (remS (sU (addC σ (p) ((σ 7 (p)))) 10 (((addC σ (p) ((σ 7 (p)))) 5 (p))) ((((addC σ (p) ((σ 7 (p)))) 10 (((addC σ (p) ((σ 7 (p)))) 5 (p)))) + 1))) (p))]) H := hP
  have hD : va_D A (fl [stW cI a (remS (sU (addC σ (p) ((σ 7 (p)))) 10 (((addC σ (p) ((σ 7 (p)))) 5 (p))) ((((addC σ (p) ((σ 7 (p)))) 10 (((addC σ (p) ((σ 7 (p)))) 5 (p)))) + 1))) (p))]) := hD
  have hP : va_P D vwCl (fl [stW cI a (setS σ p)]) H := hP
  have hD : va_D A (fl [stW cI a (setS σ p)]) := hD
  exact W.vret hx hb hr (fun t9 ht9 hW9 => ⟨⟨(), rfl, (trivial), ⟨by rw [ht9]; exact hP, va_K.moved hW9.alike hK, hD⟩⟩, hS.F ht9⟩) hS.2.2 dX3_settleWhole_31 hlocks
set_option maxHeartbeats 4000000 in
set_option maxRecDepth 100000 in
theorem c_X3_cancelWhole (l : Launch) (D : va_G) (cI cO cC cL : ClassId) (sz : Nat) (a : Nat → Nat) (σ : Nat → Int → Int) (p : Int) (hp0 : 0 ≤ p ∧ p < 16) (hpn : p < σ 0 1 ∧ σ 0 1 ≤ 16) (hpr : PR0 σ p) : Met l yX3_cancelWhole wsX3_cancelWhole ({ frames := 1, cells := 0, slots := 0, locals := 22 } : Room) (pcW D [(cI, FieldType.int)] [.ref (a 0), .int (iI (p))] (fl [stW cI a σ]) sz) (va_Qv (fun (_ : Unit) => True) (fun (_ : Unit) => (bW D [(cI, FieldType.int)] (fl [stW cI a (canS σ p)]) (va_A (fl [stW cI a σ]) sz))) (va_A (fl [stW cI a σ]) sz)) 0 0 (va_A (fl [stW cI a σ]) sz) := by
  refine Met.ofW (cc := cX3_cancelWhole) (maxL := 2) (ret := none) (by decide) rfl ?_
  intro p9 e9 s m args9 below9 meth9 c9 s₁ B hml hv
  obtain ⟨rfl, hsz, hP, hK, hD0⟩ := hv
  have hx := B.exec
  have hb := B.bytes
  have hr := B.returns
  have hts := atoms_spec (ws := wsX3_cancelWhole) B.pre
  have hown : s.vm.findClass RX3 = some m.cls := findClass_of_methodNamed B.named
  have hlocks := B.notSynchronized
  subst hsz
  have hD := hD0.self (sz := s.heap.size)
  generalize hAe : va_A (fl [stW cI a σ]) s.heap.size = A at hD ⊢
  have hA : ∀ q : Nat, s.heap.size ≤ q → A q := fun q h => by rw [← hAe]; exact Or.inr h
  have hS : va_S A s.heap s.heap [] := va_S.rf
  have hP : va_P D vwCl (fl [stW cI a σ]) s.heap := hP
  have hl := lv_entry ([.ref (a 0), .int (iI (p))]) (n := 2) (Nat.le_of_ble_eq_true rfl)
  rw [lg_entry_eq]
  generalize (lg_sl ([.ref (a 0), .int (iI (p))]) ++ List.replicate (2 - (lg_sl ([.ref (a 0), .int (iI (p))])).length) Slot.unset).toArray = ls at hl ⊢
  have hl : lv_has ls 2 [(0, .ref (a 0)), (1, .int (iI (p)))] := hl
  have hw_0 := hts (.fieldLink RX3 52 "PromisedCounters$State" "cancelled" "[I") (by decide +kernel)
  have hin_X3 : ∀ w ∈ u_ws RX3 TX3 15, w ∈ wsX3_cancelWhole := by decide +kernel
  have hw_1 := hts (.fieldLink RX3 34 "PromisedCounters$State" "owner" "[I") (by decide +kernel)
  obtain ⟨hp1, hp2, hp3, hp4⟩ := id hpr
  refine lv_aload_n hx hb dX3_cancelWhole_0 rfl (lv_at hl 0 rfl) ?_
  refine va_get (D := D) (ci := 3) (v := .ref (a 11)) (C := RX3) (T := TX3) (N := 15) hx hb hts hin_X3 hown hK hP 0 rfl rfl 13 (by decide) hw_0 (fun _ h9 => h9) rfl dX3_cancelWhole_1 ?_
  refine lv_aload_n hx hb dX3_cancelWhole_4 rfl (lv_at hl 0 rfl) ?_
  refine va_get (D := D) (ci := 3) (v := .ref (a 5)) (C := RX3) (T := TX3) (N := 15) hx hb hts hin_X3 hown hK hP 0 rfl rfl 7 (by decide) hw_1 (fun _ h9 => h9) rfl dX3_cancelWhole_5 ?_
  refine lv_iload_n hx hb dX3_cancelWhole_8 rfl (lv_at hl 1 rfl) ?_
  refine wi_iald hx hb hK hP 5 0 (n := 16) (f := σ 5) rfl rfl (i := p) (by omega) (by decide) dX3_cancelWhole_9 ?_
  refine lv_dup2_11 hx hb dX3_cancelWhole_10 rfl rfl ?_
  refine wi_iald hx hb hK hP 11 0 (n := 6) (f := σ 11) rfl rfl (i := (σ 5 (p))) (by omega) (by decide) dX3_cancelWhole_11 ?_
  refine wi_iconst hx hb dX3_cancelWhole_12 ?_
  refine wi_iadd hx hb dX3_cancelWhole_13 ?_
  refine wi_iast hx hb hK hP hD hS 11 0 (n := 6) (f := σ 11) rfl rfl (i := (σ 5 (p))) (by omega) (by decide) dX3_cancelWhole_14 (fun H locs hP hD hS => ?_)
  have hP : va_P D vwCl (fl [stW cI a (sU σ 11 ((σ 5 (p))) (((σ 11 ((σ 5 (p)))) + 1)))]) H := hP
  have hD : va_D A (fl [stW cI a (sU σ 11 ((σ 5 (p))) (((σ 11 ((σ 5 (p)))) + 1)))]) := hD
  refine lv_aload_n hx hb dX3_cancelWhole_15 rfl (lv_at hl 0 rfl) ?_
  refine lv_iload_n hx hb dX3_cancelWhole_16 rfl (lv_at hl 1 rfl) ?_
  have hFc := fl_free (SC := [stW cI a (sU σ 11 ((σ 5 (p))) (((σ 11 ((σ 5 (p)))) + 1)))]) hD hS hA [0] rfl
  refine va_callv (va_runV (As := [.int (iI (p))]) (rest := []) ⟨hx, hb, hml, hown, hts⟩ (c_X3_removeRow l D cI cO cC cL H.size a (sU σ 11 ((σ 5 (p))) (((σ 11 ((σ 5 (p)))) + 1))) (p) (hp0) (hpn)) (cwV 1 hts gX3_cancelWhole_X3_removeRow rfl rfl rfl (by decide +kernel) ⟨Nat.le_of_ble_eq_true rfl, Nat.le_of_ble_eq_true rfl⟩) ⟨pcW_blind, va_recv hK hP (ci := 3) (q0 := 0) rfl rfl, pcW_of hP hK hD⟩ rfl rfl hl.1 rfl (lv_room (Nat.le_of_ble_eq_true rfl)) dX3_cancelWhole_17 ⟨(Nat.zero_le _), (Nat.zero_le _)⟩) hS (fun q _ h => hFc q h) hFc (fun  u2 t9 H1 locs ht9 hvm hcl1 hB hz1 hk1 hS => ?_)
  obtain ⟨hP1, hK1, hD1⟩ := hB
  rw [ht9] at hP1
  obtain ⟨hP, hD⟩ := fl_join (SR := []) (S1 := [stW cI a (remS (sU σ 11 ((σ 5 (p))) (((σ 11 ((σ 5 (p)))) + 1))) (p))]) hP hD [0] [] rfl rfl (by decide) (by decide) hk1 hFc hP1 hD1
  generalize H1 = H at hP hS ⊢
  have hP : va_P D vwCl (fl [stW cI a (remS (sU σ 11 ((σ 5 (p))) (((σ 11 ((σ 5 (p)))) + 1))) (p))]) H := hP
  have hD : va_D A (fl [stW cI a (remS (sU σ 11 ((σ 5 (p))) (((σ 11 ((σ 5 (p)))) + 1))) (p))]) := hD
  have hP : va_P D vwCl (fl [stW cI a (canS σ p)]) H := hP
  have hD : va_D A (fl [stW cI a (canS σ p)]) := hD
  exact W.vret hx hb hr (fun t9 ht9 hW9 => ⟨⟨(), rfl, (trivial), ⟨by rw [ht9]; exact hP, va_K.moved hW9.alike hK, hD⟩⟩, hS.F ht9⟩) hS.2.2 dX3_cancelWhole_20 hlocks
set_option maxHeartbeats 4000000 in
set_option maxRecDepth 100000 in
theorem c_X3_lapse (l : Launch) (D : va_G) (cI cO cC cL : ClassId) (sz : Nat) (a : Nat → Nat) (σ : Nat → Int → Int) (p : Int) (hp0 : 0 ≤ p ∧ p < 16) (hpn : p < σ 0 1 ∧ σ 0 1 ≤ 16) (hpr : PR0 σ p) : Met l yX3_lapse wsX3_lapse ({ frames := 1, cells := 0, slots := 0, locals := 22 } : Room) (pcW D [(cI, FieldType.int)] [.ref (a 0), .int (iI (p))] (fl [stW cI a σ]) sz) (va_Qv (fun (_ : Unit) => True) (fun (_ : Unit) => (bW D [(cI, FieldType.int)] (fl [stW cI a (lapS σ p)]) (va_A (fl [stW cI a σ]) sz))) (va_A (fl [stW cI a σ]) sz)) 0 0 (va_A (fl [stW cI a σ]) sz) := by
  refine Met.ofW (cc := cX3_lapse) (maxL := 2) (ret := none) (by decide) rfl ?_
  intro p9 e9 s m args9 below9 meth9 c9 s₁ B hml hv
  obtain ⟨rfl, hsz, hP, hK, hD0⟩ := hv
  have hx := B.exec
  have hb := B.bytes
  have hr := B.returns
  have hts := atoms_spec (ws := wsX3_lapse) B.pre
  have hown : s.vm.findClass RX3 = some m.cls := findClass_of_methodNamed B.named
  have hlocks := B.notSynchronized
  subst hsz
  have hD := hD0.self (sz := s.heap.size)
  generalize hAe : va_A (fl [stW cI a σ]) s.heap.size = A at hD ⊢
  have hA : ∀ q : Nat, s.heap.size ≤ q → A q := fun q h => by rw [← hAe]; exact Or.inr h
  have hS : va_S A s.heap s.heap [] := va_S.rf
  have hP : va_P D vwCl (fl [stW cI a σ]) s.heap := hP
  have hl := lv_entry ([.ref (a 0), .int (iI (p))]) (n := 2) (Nat.le_of_ble_eq_true rfl)
  rw [lg_entry_eq]
  generalize (lg_sl ([.ref (a 0), .int (iI (p))]) ++ List.replicate (2 - (lg_sl ([.ref (a 0), .int (iI (p))])).length) Slot.unset).toArray = ls at hl ⊢
  have hl : lv_has ls 2 [(0, .ref (a 0)), (1, .int (iI (p)))] := hl
  have hw_0 := hts (.fieldLink RX3 55 "PromisedCounters$State" "lapsed" "[I") (by decide +kernel)
  have hin_X3 : ∀ w ∈ u_ws RX3 TX3 15, w ∈ wsX3_lapse := by decide +kernel
  have hw_1 := hts (.fieldLink RX3 34 "PromisedCounters$State" "owner" "[I") (by decide +kernel)
  obtain ⟨hp1, hp2, hp3, hp4⟩ := id hpr
  refine lv_aload_n hx hb dX3_lapse_0 rfl (lv_at hl 0 rfl) ?_
  refine va_get (D := D) (ci := 3) (v := .ref (a 12)) (C := RX3) (T := TX3) (N := 15) hx hb hts hin_X3 hown hK hP 0 rfl rfl 14 (by decide) hw_0 (fun _ h9 => h9) rfl dX3_lapse_1 ?_
  refine lv_aload_n hx hb dX3_lapse_4 rfl (lv_at hl 0 rfl) ?_
  refine va_get (D := D) (ci := 3) (v := .ref (a 5)) (C := RX3) (T := TX3) (N := 15) hx hb hts hin_X3 hown hK hP 0 rfl rfl 7 (by decide) hw_1 (fun _ h9 => h9) rfl dX3_lapse_5 ?_
  refine lv_iload_n hx hb dX3_lapse_8 rfl (lv_at hl 1 rfl) ?_
  refine wi_iald hx hb hK hP 5 0 (n := 16) (f := σ 5) rfl rfl (i := p) (by omega) (by decide) dX3_lapse_9 ?_
  refine lv_dup2_11 hx hb dX3_lapse_10 rfl rfl ?_
  refine wi_iald hx hb hK hP 12 0 (n := 6) (f := σ 12) rfl rfl (i := (σ 5 (p))) (by omega) (by decide) dX3_lapse_11 ?_
  refine wi_iconst hx hb dX3_lapse_12 ?_
  refine wi_iadd hx hb dX3_lapse_13 ?_
  refine wi_iast hx hb hK hP hD hS 12 0 (n := 6) (f := σ 12) rfl rfl (i := (σ 5 (p))) (by omega) (by decide) dX3_lapse_14 (fun H locs hP hD hS => ?_)
  have hP : va_P D vwCl (fl [stW cI a (sU σ 12 ((σ 5 (p))) (((σ 12 ((σ 5 (p)))) + 1)))]) H := hP
  have hD : va_D A (fl [stW cI a (sU σ 12 ((σ 5 (p))) (((σ 12 ((σ 5 (p)))) + 1)))]) := hD
  refine lv_aload_n hx hb dX3_lapse_15 rfl (lv_at hl 0 rfl) ?_
  refine lv_iload_n hx hb dX3_lapse_16 rfl (lv_at hl 1 rfl) ?_
  have hFc := fl_free (SC := [stW cI a (sU σ 12 ((σ 5 (p))) (((σ 12 ((σ 5 (p)))) + 1)))]) hD hS hA [0] rfl
  refine va_callv (va_runV (As := [.int (iI (p))]) (rest := []) ⟨hx, hb, hml, hown, hts⟩ (c_X3_removeRow l D cI cO cC cL H.size a (sU σ 12 ((σ 5 (p))) (((σ 12 ((σ 5 (p)))) + 1))) (p) (hp0) (hpn)) (cwV 1 hts gX3_lapse_X3_removeRow rfl rfl rfl (by decide +kernel) ⟨Nat.le_of_ble_eq_true rfl, Nat.le_of_ble_eq_true rfl⟩) ⟨pcW_blind, va_recv hK hP (ci := 3) (q0 := 0) rfl rfl, pcW_of hP hK hD⟩ rfl rfl hl.1 rfl (lv_room (Nat.le_of_ble_eq_true rfl)) dX3_lapse_17 ⟨(Nat.zero_le _), (Nat.zero_le _)⟩) hS (fun q _ h => hFc q h) hFc (fun  u2 t9 H1 locs ht9 hvm hcl1 hB hz1 hk1 hS => ?_)
  obtain ⟨hP1, hK1, hD1⟩ := hB
  rw [ht9] at hP1
  obtain ⟨hP, hD⟩ := fl_join (SR := []) (S1 := [stW cI a (remS (sU σ 12 ((σ 5 (p))) (((σ 12 ((σ 5 (p)))) + 1))) (p))]) hP hD [0] [] rfl rfl (by decide) (by decide) hk1 hFc hP1 hD1
  generalize H1 = H at hP hS ⊢
  have hP : va_P D vwCl (fl [stW cI a (remS (sU σ 12 ((σ 5 (p))) (((σ 12 ((σ 5 (p)))) + 1))) (p))]) H := hP
  have hD : va_D A (fl [stW cI a (remS (sU σ 12 ((σ 5 (p))) (((σ 12 ((σ 5 (p)))) + 1))) (p))]) := hD
  have hP : va_P D vwCl (fl [stW cI a (lapS σ p)]) H := hP
  have hD : va_D A (fl [stW cI a (lapS σ p)]) := hD
  exact W.vret hx hb hr (fun t9 ht9 hW9 => ⟨⟨(), rfl, (trivial), ⟨by rw [ht9]; exact hP, va_K.moved hW9.alike hK, hD⟩⟩, hS.F ht9⟩) hS.2.2 dX3_lapse_20 hlocks
