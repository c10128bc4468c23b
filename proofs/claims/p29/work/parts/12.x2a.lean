set_option maxHeartbeats 4000000 in
set_option maxRecDepth 100000 in
theorem c_X3_copyFrom (l : Launch) (D : va_G) (cI cO cC cL : ClassId) (sz : Nat) (a : Nat → Nat) (τ : Nat → Int → Int) (a2 : Nat → Nat) (σ : Nat → Int → Int)  : Met l yX3_copyFrom wsX3_copyFrom ({ frames := 1, cells := 0, slots := 0, locals := 60 } : Room) (pcW D [(cI, FieldType.int)] [.ref (a 0), .ref (a2 0)] (fl [stW cI a τ, stW cI a2 σ]) sz) (va_Qv (fun (_ : Unit) => True) (fun (_ : Unit) => (bW D [(cI, FieldType.int)] (fl [stW cI a σ, stW cI a2 σ]) (va_A (fl [stW cI a τ, stW cI a2 σ]) sz))) (va_A (fl [stW cI a τ, stW cI a2 σ]) sz)) 0 0 (va_A (fl [stW cI a τ, stW cI a2 σ]) sz) := by
  refine Met.ofW (cc := cX3_copyFrom) (maxL := 2) (ret := none) (by decide) rfl ?_
  intro p9 e9 s m args9 below9 meth9 c9 s₁ B hml hv
  obtain ⟨rfl, hsz, hP, hK, hD0⟩ := hv
  have hx := B.exec
  have hb := B.bytes
  have hr := B.returns
  have hts := atoms_spec (ws := wsX3_copyFrom) B.pre
  have hown : s.vm.findClass RX3 = some m.cls := findClass_of_methodNamed B.named
  have hlocks := B.notSynchronized
  subst hsz
  have hD := hD0.self (sz := s.heap.size)
  generalize hAe : va_A (fl [stW cI a τ, stW cI a2 σ]) s.heap.size = A at hD ⊢
  have hA : ∀ q : Nat, s.heap.size ≤ q → A q := fun q h => by rw [← hAe]; exact Or.inr h
  have hS : va_S A s.heap s.heap [] := va_S.rf
  have hP : va_P D vwCl (fl [stW cI a τ, stW cI a2 σ]) s.heap := hP
  have hl := lv_entry ([.ref (a 0), .ref (a2 0)]) (n := 2) (Nat.le_of_ble_eq_true rfl)
  rw [lg_entry_eq]
  generalize (lg_sl ([.ref (a 0), .ref (a2 0)]) ++ List.replicate (2 - (lg_sl ([.ref (a 0), .ref (a2 0)])).length) Slot.unset).toArray = ls at hl ⊢
  have hl : lv_has ls 2 [(0, .ref (a 0)), (1, .ref (a2 0))] := hl
  have hw_0 := hts (.fieldLink RX3 9 "PromisedCounters$State" "time" "I") (by decide +kernel)
  have hin_X3 : ∀ w ∈ u_ws RX3 TX3 15, w ∈ wsX3_copyFrom := by decide +kernel
  have hw_1 := hts (.fieldLink RX3 15 "PromisedCounters$State" "promises" "I") (by decide +kernel)
  have hw_2 := hts (.fieldLink RX3 18 "PromisedCounters$State" "made" "I") (by decide +kernel)
  have hw_3 := hts (.fieldLink RX3 21 "PromisedCounters$State" "settings" "[I") (by decide +kernel)
  have hw_4 := hts (Cond.methodLink RX3 58 arraycopyName) (by decide +kernel)
  have hw_5 := hts (Cond.native arraycopyName) (by decide +kernel)
  have hw_6 := hts (Cond.static arraycopyName) (by decide +kernel)
  have hw_7 := hts (Cond.initialized "java/lang/System") (by decide +kernel)
  have hw_8 := hts (.fieldLink RX3 25 "PromisedCounters$State" "value" "[I") (by decide +kernel)
  have hw_9 := hts (.fieldLink RX3 28 "PromisedCounters$State" "least" "[I") (by decide +kernel)
  have hw_10 := hts (.fieldLink RX3 31 "PromisedCounters$State" "most" "[I") (by decide +kernel)
  have hw_11 := hts (.fieldLink RX3 34 "PromisedCounters$State" "owner" "[I") (by decide +kernel)
  have hw_12 := hts (.fieldLink RX3 37 "PromisedCounters$State" "counter" "[I") (by decide +kernel)
  have hw_13 := hts (.fieldLink RX3 40 "PromisedCounters$State" "change" "[I") (by decide +kernel)
  have hw_14 := hts (.fieldLink RX3 43 "PromisedCounters$State" "other" "[I") (by decide +kernel)
  have hw_15 := hts (.fieldLink RX3 46 "PromisedCounters$State" "until" "[I") (by decide +kernel)
  have hw_16 := hts (.fieldLink RX3 49 "PromisedCounters$State" "settled" "[I") (by decide +kernel)
  have hw_17 := hts (.fieldLink RX3 52 "PromisedCounters$State" "cancelled" "[I") (by decide +kernel)
  have hw_18 := hts (.fieldLink RX3 55 "PromisedCounters$State" "lapsed" "[I") (by decide +kernel)
  refine lv_aload_n hx hb dX3_copyFrom_0 rfl (lv_at hl 0 rfl) ?_
  refine lv_aload_n hx hb dX3_copyFrom_1 rfl (lv_at hl 1 rfl) ?_
  refine va_get (D := D) (ci := 3) (v := .int (iI ((σ 0 0)))) (C := RX3) (T := TX3) (N := 15) hx hb hts hin_X3 hown hK hP 13 rfl rfl 0 (by decide) hw_0 (fun _ h9 => h9) rfl dX3_copyFrom_2 ?_
  refine va_put (D := D) (ci := 3) (v := .int (iI ((σ 0 0)))) (ty := .int) (C := RX3) (T := TX3) (N := 15) hx hb hts hin_X3 tyX3 tyX3_ok nmX3 hown hK hP hD hS 0 rfl rfl 0 (by decide) hw_0 (fun _ h9 => h9) rfl (by decide +kernel) rfl rfl (Nat.le_of_ble_eq_true rfl) dX3_copyFrom_5 (fun H locs hP hD hS => ?_)
  have hP : va_P D vwCl (fl [stW cI a (sU τ 0 (0) ((σ 0 0))), stW cI a2 σ]) H := hP
  have hD : va_D A (fl [stW cI a (sU τ 0 (0) ((σ 0 0))), stW cI a2 σ]) := hD
  refine lv_aload_n hx hb dX3_copyFrom_8 rfl (lv_at hl 0 rfl) ?_
  refine lv_aload_n hx hb dX3_copyFrom_9 rfl (lv_at hl 1 rfl) ?_
  refine va_get (D := D) (ci := 3) (v := .int (iI ((σ 0 1)))) (C := RX3) (T := TX3) (N := 15) hx hb hts hin_X3 hown hK hP 13 rfl rfl 1 (by decide) hw_1 (fun _ h9 => h9) rfl dX3_copyFrom_10 ?_
  refine va_put (D := D) (ci := 3) (v := .int (iI ((σ 0 1)))) (ty := .int) (C := RX3) (T := TX3) (N := 15) hx hb hts hin_X3 tyX3 tyX3_ok nmX3 hown hK hP hD hS 0 rfl rfl 1 (by decide) hw_1 (fun _ h9 => h9) rfl (by decide +kernel) rfl rfl (Nat.le_of_ble_eq_true rfl) dX3_copyFrom_13 (fun H locs hP hD hS => ?_)
  have hP : va_P D vwCl (fl [stW cI a (sU (sU τ 0 (0) ((σ 0 0))) 0 (1) ((σ 0 1))), stW cI a2 σ]) H := hP
  have hD : va_D A (fl [stW cI a (sU (sU τ 0 (0) ((σ 0 0))) 0 (1) ((σ 0 1))), stW cI a2 σ]) := hD
  refine lv_aload_n hx hb dX3_copyFrom_16 rfl (lv_at hl 0 rfl) ?_
  refine lv_aload_n hx hb dX3_copyFrom_17 rfl (lv_at hl 1 rfl) ?_
  refine va_get (D := D) (ci := 3) (v := .int (iI ((σ 0 2)))) (C := RX3) (T := TX3) (N := 15) hx hb hts hin_X3 hown hK hP 13 rfl rfl 2 (by decide) hw_2 (fun _ h9 => h9) rfl dX3_copyFrom_18 ?_
  refine va_put (D := D) (ci := 3) (v := .int (iI ((σ 0 2)))) (ty := .int) (C := RX3) (T := TX3) (N := 15) hx hb hts hin_X3 tyX3 tyX3_ok nmX3 hown hK hP hD hS 0 rfl rfl 2 (by decide) hw_2 (fun _ h9 => h9) rfl (by decide +kernel) rfl rfl (Nat.le_of_ble_eq_true rfl) dX3_copyFrom_21 (fun H locs hP hD hS => ?_)
  have hP : va_P D vwCl (fl [stW cI a (sU (sU (sU τ 0 (0) ((σ 0 0))) 0 (1) ((σ 0 1))) 0 (2) ((σ 0 2))), stW cI a2 σ]) H := hP
  have hD : va_D A (fl [stW cI a (sU (sU (sU τ 0 (0) ((σ 0 0))) 0 (1) ((σ 0 1))) 0 (2) ((σ 0 2))), stW cI a2 σ]) := hD
  refine lv_aload_n hx hb dX3_copyFrom_24 rfl (lv_at hl 1 rfl) ?_
  refine va_get (D := D) (ci := 3) (v := .ref (a2 1)) (C := RX3) (T := TX3) (N := 15) hx hb hts hin_X3 hown hK hP 13 rfl rfl 3 (by decide) hw_3 (fun _ h9 => h9) rfl dX3_copyFrom_25 ?_
  refine wi_iconst hx hb dX3_copyFrom_28 ?_
  refine lv_aload_n hx hb dX3_copyFrom_29 rfl (lv_at hl 0 rfl) ?_
  refine va_get (D := D) (ci := 3) (v := .ref (a 1)) (C := RX3) (T := TX3) (N := 15) hx hb hts hin_X3 hown hK hP 0 rfl rfl 3 (by decide) hw_3 (fun _ h9 => h9) rfl dX3_copyFrom_30 ?_
  refine wi_iconst hx hb dX3_copyFrom_33 ?_
  refine wi_iconst hx hb dX3_copyFrom_34 ?_
  refine wi_copy hx hb (hml.trans hl.1.symm) hown hw_4 hw_5 hw_6 hw_7 hK hP hD hS 14 1 (n := 2) (f := rI (σ 1)) (g := rI (τ 1)) rfl rfl rfl rfl (by decide) (Nat.le_of_ble_eq_true rfl) (Nat.le_of_ble_eq_true rfl) dX3_copyFrom_35 (fun H locs hP hD hS => ?_)
  have hP : va_P D vwCl (fl [stW cI a (sR (sU (sU (sU τ 0 (0) ((σ 0 0))) 0 (1) ((σ 0 1))) 0 (2) ((σ 0 2))) 1 (σ 1)), stW cI a2 σ]) H := hP
  have hD : va_D A (fl [stW cI a (sR (sU (sU (sU τ 0 (0) ((σ 0 0))) 0 (1) ((σ 0 1))) 0 (2) ((σ 0 2))) 1 (σ 1)), stW cI a2 σ]) := hD
  refine lv_aload_n hx hb dX3_copyFrom_38 rfl (lv_at hl 1 rfl) ?_
  refine va_get (D := D) (ci := 3) (v := .ref (a2 2)) (C := RX3) (T := TX3) (N := 15) hx hb hts hin_X3 hown hK hP 13 rfl rfl 4 (by decide) hw_8 (fun _ h9 => h9) rfl dX3_copyFrom_39 ?_
  refine wi_iconst hx hb dX3_copyFrom_42 ?_
  refine lv_aload_n hx hb dX3_copyFrom_43 rfl (lv_at hl 0 rfl) ?_
  refine va_get (D := D) (ci := 3) (v := .ref (a 2)) (C := RX3) (T := TX3) (N := 15) hx hb hts hin_X3 hown hK hP 0 rfl rfl 4 (by decide) hw_8 (fun _ h9 => h9) rfl dX3_copyFrom_44 ?_
  refine wi_iconst hx hb dX3_copyFrom_47 ?_
  refine wi_iconst hx hb dX3_copyFrom_48 ?_
  refine wi_copy hx hb (hml.trans hl.1.symm) hown hw_4 hw_5 hw_6 hw_7 hK hP hD hS 15 2 (n := 4) (f := rI (σ 2)) (g := rI (τ 2)) rfl rfl rfl rfl (by decide) (Nat.le_of_ble_eq_true rfl) (Nat.le_of_ble_eq_true rfl) dX3_copyFrom_49 (fun H locs hP hD hS => ?_)
  have hP : va_P D vwCl (fl [stW cI a (sR (sR (sU (sU (sU τ 0 (0) ((σ 0 0))) 0 (1) ((σ 0 1))) 0 (2) ((σ 0 2))) 1 (σ 1)) 2 (σ 2)), stW cI a2 σ]) H := hP
  have hD : va_D A (fl [stW cI a (sR (sR (sU (sU (sU τ 0 (0) ((σ 0 0))) 0 (1) ((σ 0 1))) 0 (2) ((σ 0 2))) 1 (σ 1)) 2 (σ 2)), stW cI a2 σ]) := hD
  refine lv_aload_n hx hb dX3_copyFrom_52 rfl (lv_at hl 1 rfl) ?_
  refine va_get (D := D) (ci := 3) (v := .ref (a2 3)) (C := RX3) (T := TX3) (N := 15) hx hb hts hin_X3 hown hK hP 13 rfl rfl 5 (by decide) hw_9 (fun _ h9 => h9) rfl dX3_copyFrom_53 ?_
  refine wi_iconst hx hb dX3_copyFrom_56 ?_
  refine lv_aload_n hx hb dX3_copyFrom_57 rfl (lv_at hl 0 rfl) ?_
  refine va_get (D := D) (ci := 3) (v := .ref (a 3)) (C := RX3) (T := TX3) (N := 15) hx hb hts hin_X3 hown hK hP 0 rfl rfl 5 (by decide) hw_9 (fun _ h9 => h9) rfl dX3_copyFrom_58 ?_
  refine wi_iconst hx hb dX3_copyFrom_61 ?_
  refine wi_iconst hx hb dX3_copyFrom_62 ?_
  refine wi_copy hx hb (hml.trans hl.1.symm) hown hw_4 hw_5 hw_6 hw_7 hK hP hD hS 16 3 (n := 4) (f := rI (σ 3)) (g := rI (τ 3)) rfl rfl rfl rfl (by decide) (Nat.le_of_ble_eq_true rfl) (Nat.le_of_ble_eq_true rfl) dX3_copyFrom_63 (fun H locs hP hD hS => ?_)
  have hP : va_P D vwCl (fl [stW cI a (sR (sR (sR (sU (sU (sU τ 0 (0) ((σ 0 0))) 0 (1) ((σ 0 1))) 0 (2) ((σ 0 2))) 1 (σ 1)) 2 (σ 2)) 3 (σ 3)), stW cI a2 σ]) H := hP
  have hD : va_D A (fl [stW cI a (sR (sR (sR (sU (sU (sU τ 0 (0) ((σ 0 0))) 0 (1) ((σ 0 1))) 0 (2) ((σ 0 2))) 1 (σ 1)) 2 (σ 2)) 3 (σ 3)), stW cI a2 σ]) := hD
  refine lv_aload_n hx hb dX3_copyFrom_66 rfl (lv_at hl 1 rfl) ?_
  refine va_get (D := D) (ci := 3) (v := .ref (a2 4)) (C := RX3) (T := TX3) (N := 15) hx hb hts hin_X3 hown hK hP 13 rfl rfl 6 (by decide) hw_10 (fun _ h9 => h9) rfl dX3_copyFrom_67 ?_
  refine wi_iconst hx hb dX3_copyFrom_70 ?_
  refine lv_aload_n hx hb dX3_copyFrom_71 rfl (lv_at hl 0 rfl) ?_
  refine va_get (D := D) (ci := 3) (v := .ref (a 4)) (C := RX3) (T := TX3) (N := 15) hx hb hts hin_X3 hown hK hP 0 rfl rfl 6 (by decide) hw_10 (fun _ h9 => h9) rfl dX3_copyFrom_72 ?_
  refine wi_iconst hx hb dX3_copyFrom_75 ?_
  refine wi_iconst hx hb dX3_copyFrom_76 ?_
  refine wi_copy hx hb (hml.trans hl.1.symm) hown hw_4 hw_5 hw_6 hw_7 hK hP hD hS 17 4 (n := 4) (f := rI (σ 4)) (g := rI (τ 4)) rfl rfl rfl rfl (by decide) (Nat.le_of_ble_eq_true rfl) (Nat.le_of_ble_eq_true rfl) dX3_copyFrom_77 (fun H locs hP hD hS => ?_)
  have hP : va_P D vwCl (fl [stW cI a (sR (sR (sR (sR (sU (sU (sU τ 0 (0) ((σ 0 0))) 0 (1) ((σ 0 1))) 0 (2) ((σ 0 2))) 1 (σ 1)) 2 (σ 2)) 3 (σ 3)) 4 (σ 4)), stW cI a2 σ]) H := hP
  have hD : va_D A (fl [stW cI a (sR (sR (sR (sR (sU (sU (sU τ 0 (0) ((σ 0 0))) 0 (1) ((σ 0 1))) 0 (2) ((σ 0 2))) 1 (σ 1)) 2 (σ 2)) 3 (σ 3)) 4 (σ 4)), stW cI a2 σ]) := hD
  refine lv_aload_n hx hb dX3_copyFrom_80 rfl (lv_at hl 1 rfl) ?_
  refine va_get (D := D) (ci := 3) (v := .ref (a2 5)) (C := RX3) (T := TX3) (N := 15) hx hb hts hin_X3 hown hK hP 13 rfl rfl 7 (by decide) hw_11 (fun _ h9 => h9) rfl dX3_copyFrom_81 ?_
  refine wi_iconst hx hb dX3_copyFrom_84 ?_
  refine lv_aload_n hx hb dX3_copyFrom_85 rfl (lv_at hl 0 rfl) ?_
  refine va_get (D := D) (ci := 3) (v := .ref (a 5)) (C := RX3) (T := TX3) (N := 15) hx hb hts hin_X3 hown hK hP 0 rfl rfl 7 (by decide) hw_11 (fun _ h9 => h9) rfl dX3_copyFrom_86 ?_
  refine wi_iconst hx hb dX3_copyFrom_89 ?_
  refine wi_bipush hx hb dX3_copyFrom_90 (by decide) ?_
  refine wi_copy hx hb (hml.trans hl.1.symm) hown hw_4 hw_5 hw_6 hw_7 hK hP hD hS 18 5 (n := 16) (f := rI (σ 5)) (g := rI (τ 5)) rfl rfl rfl rfl (by decide) (Nat.le_of_ble_eq_true rfl) (Nat.le_of_ble_eq_true rfl) dX3_copyFrom_92 (fun H locs hP hD hS => ?_)
  have hP : va_P D vwCl (fl [stW cI a (sR (sR (sR (sR (sR (sU (sU (sU τ 0 (0) ((σ 0 0))) 0 (1) ((σ 0 1))) 0 (2) ((σ 0 2))) 1 (σ 1)) 2 (σ 2)) 3 (σ 3)) 4 (σ 4)) 5 (σ 5)), stW cI a2 σ]) H := hP
  have hD : va_D A (fl [stW cI a (sR (sR (sR (sR (sR (sU (sU (sU τ 0 (0) ((σ 0 0))) 0 (1) ((σ 0 1))) 0 (2) ((σ 0 2))) 1 (σ 1)) 2 (σ 2)) 3 (σ 3)) 4 (σ 4)) 5 (σ 5)), stW cI a2 σ]) := hD
  refine lv_aload_n hx hb dX3_copyFrom_95 rfl (lv_at hl 1 rfl) ?_
  refine va_get (D := D) (ci := 3) (v := .ref (a2 6)) (C := RX3) (T := TX3) (N := 15) hx hb hts hin_X3 hown hK hP 13 rfl rfl 8 (by decide) hw_12 (fun _ h9 => h9) rfl dX3_copyFrom_96 ?_
  refine wi_iconst hx hb dX3_copyFrom_99 ?_
  refine lv_aload_n hx hb dX3_copyFrom_100 rfl (lv_at hl 0 rfl) ?_
  refine va_get (D := D) (ci := 3) (v := .ref (a 6)) (C := RX3) (T := TX3) (N := 15) hx hb hts hin_X3 hown hK hP 0 rfl rfl 8 (by decide) hw_12 (fun _ h9 => h9) rfl dX3_copyFrom_101 ?_
  refine wi_iconst hx hb dX3_copyFrom_104 ?_
  refine wi_bipush hx hb dX3_copyFrom_105 (by decide) ?_
  refine wi_copy hx hb (hml.trans hl.1.symm) hown hw_4 hw_5 hw_6 hw_7 hK hP hD hS 19 6 (n := 16) (f := rI (σ 6)) (g := rI (τ 6)) rfl rfl rfl rfl (by decide) (Nat.le_of_ble_eq_true rfl) (Nat.le_of_ble_eq_true rfl) dX3_copyFrom_107 (fun H locs hP hD hS => ?_)
  have hP : va_P D vwCl (fl [stW cI a (sR (sR (sR (sR (sR (sR (sU (sU (sU τ 0 (0) ((σ 0 0))) 0 (1) ((σ 0 1))) 0 (2) ((σ 0 2))) 1 (σ 1)) 2 (σ 2)) 3 (σ 3)) 4 (σ 4)) 5 (σ 5)) 6 (σ 6)), stW cI a2 σ]) H := hP
  have hD : va_D A (fl [stW cI a (sR (sR (sR (sR (sR (sR (sU (sU (sU τ 0 (0) ((σ 0 0))) 0 (1) ((σ 0 1))) 0 (2) ((σ 0 2))) 1 (σ 1)) 2 (σ 2)) 3 (σ 3)) 4 (σ 4)) 5 (σ 5)) 6 (σ 6)), stW cI a2 σ]) := hD
  refine lv_aload_n hx hb dX3_copyFrom_110 rfl (lv_at hl 1 rfl) ?_
  refine va_get (D := D) (ci := 3) (v := .ref (a2 7)) (C := RX3) (T := TX3) (N := 15) hx hb hts hin_X3 hown hK hP 13 rfl rfl 9 (by decide) hw_13 (fun _ h9 => h9) rfl dX3_copyFrom_111 ?_
  refine wi_iconst hx hb dX3_copyFrom_114 ?_
  refine lv_aload_n hx hb dX3_copyFrom_115 rfl (lv_at hl 0 rfl) ?_
  refine va_get (D := D) (ci := 3) (v := .ref (a 7)) (C := RX3) (T := TX3) (N := 15) hx hb hts hin_X3 hown hK hP 0 rfl rfl 9 (by decide) hw_13 (fun _ h9 => h9) rfl dX3_copyFrom_116 ?_
  refine wi_iconst hx hb dX3_copyFrom_119 ?_
  refine wi_bipush hx hb dX3_copyFrom_120 (by decide) ?_
  refine wi_copy hx hb (hml.trans hl.1.symm) hown hw_4 hw_5 hw_6 hw_7 hK hP hD hS 20 7 (n := 16) (f := rI (σ 7)) (g := rI (τ 7)) rfl rfl rfl rfl (by decide) (Nat.le_of_ble_eq_true rfl) (Nat.le_of_ble_eq_true rfl) dX3_copyFrom_122 (fun H locs hP hD hS => ?_)
  have hP : va_P D vwCl (fl [stW cI a (sR (sR (sR (sR (sR (sR (sR (sU (sU (sU τ 0 (0) ((σ 0 0))) 0 (1) ((σ 0 1))) 0 (2) ((σ 0 2))) 1 (σ 1)) 2 (σ 2)) 3 (σ 3)) 4 (σ 4)) 5 (σ 5)) 6 (σ 6)) 7 (σ 7)), stW cI a2 σ]) H := hP
  have hD : va_D A (fl [stW cI a (sR (sR (sR (sR (sR (sR (sR (sU (sU (sU τ 0 (0) ((σ 0 0))) 0 (1) ((σ 0 1))) 0 (2) ((σ 0 2))) 1 (σ 1)) 2 (σ 2)) 3 (σ 3)) 4 (σ 4)) 5 (σ 5)) 6 (σ 6)) 7 (σ 7)), stW cI a2 σ]) := hD
  refine lv_aload_n hx hb dX3_copyFrom_125 rfl (lv_at hl 1 rfl) ?_
  refine va_get (D := D) (ci := 3) (v := .ref (a2 8)) (C := RX3) (T := TX3) (N := 15) hx hb hts hin_X3 hown hK hP 13 rfl rfl 10 (by decide) hw_14 (fun _ h9 => h9) rfl dX3_copyFrom_126 ?_
  refine wi_iconst hx hb dX3_copyFrom_129 ?_
  refine lv_aload_n hx hb dX3_copyFrom_130 rfl (lv_at hl 0 rfl) ?_
  refine va_get (D := D) (ci := 3) (v := .ref (a 8)) (C := RX3) (T := TX3) (N := 15) hx hb hts hin_X3 hown hK hP 0 rfl rfl 10 (by decide) hw_14 (fun _ h9 => h9) rfl dX3_copyFrom_131 ?_
  refine wi_iconst hx hb dX3_copyFrom_134 ?_
  refine wi_bipush hx hb dX3_copyFrom_135 (by decide) ?_
  refine wi_copy hx hb (hml.trans hl.1.symm) hown hw_4 hw_5 hw_6 hw_7 hK hP hD hS 21 8 (n := 16) (f := rI (σ 8)) (g := rI (τ 8)) rfl rfl rfl rfl (by decide) (Nat.le_of_ble_eq_true rfl) (Nat.le_of_ble_eq_true rfl) dX3_copyFrom_137 (fun H locs hP hD hS => ?_)
  have hP : va_P D vwCl (fl [stW cI a (sR (sR (sR (sR (sR (sR (sR (sR (sU (sU (sU τ 0 (0) ((σ 0 0))) 0 (1) ((σ 0 1))) 0 (2) ((σ 0 2))) 1 (σ 1)) 2 (σ 2)) 3 (σ 3)) 4 (σ 4)) 5 (σ 5)) 6 (σ 6)) 7 (σ 7)) 8 (σ 8)), stW cI a2 σ]) H := hP
  have hD : va_D A (fl [stW cI a (sR (sR (sR (sR (sR (sR (sR (sR (sU (sU (sU τ 0 (0) ((σ 0 0))) 0 (1) ((σ 0 1))) 0 (2) ((σ 0 2))) 1 (σ 1)) 2 (σ 2)) 3 (σ 3)) 4 (σ 4)) 5 (σ 5)) 6 (σ 6)) 7 (σ 7)) 8 (σ 8)), stW cI a2 σ]) := hD
  refine lv_aload_n hx hb dX3_copyFrom_140 rfl (lv_at hl 1 rfl) ?_
  refine va_get (D := D) (ci := 3) (v := .ref (a2 9)) (C := RX3) (T := TX3) (N := 15) hx hb hts hin_X3 hown hK hP 13 rfl rfl 11 (by decide) hw_15 (fun _ h9 => h9) rfl dX3_copyFrom_141 ?_
  refine wi_iconst hx hb dX3_copyFrom_144 ?_
  refine lv_aload_n hx hb dX3_copyFrom_145 rfl (lv_at hl 0 rfl) ?_
  refine va_get (D := D) (ci := 3) (v := .ref (a 9)) (C := RX3) (T := TX3) (N := 15) hx hb hts hin_X3 hown hK hP 0 rfl rfl 11 (by decide) hw_15 (fun _ h9 => h9) rfl dX3_copyFrom_146 ?_
  refine wi_iconst hx hb dX3_copyFrom_149 ?_
  refine wi_bipush hx hb dX3_copyFrom_150 (by decide) ?_
  refine wi_copy hx hb (hml.trans hl.1.symm) hown hw_4 hw_5 hw_6 hw_7 hK hP hD hS 22 9 (n := 16) (f := rI (σ 9)) (g := rI (τ 9)) rfl rfl rfl rfl (by decide) (Nat.le_of_ble_eq_true rfl) (Nat.le_of_ble_eq_true rfl) dX3_copyFrom_152 (fun H locs hP hD hS => ?_)
  have hP : va_P D vwCl (fl [stW cI a (sR (sR (sR (sR (sR (sR (sR (sR (sR (sU (sU (sU τ 0 (0) ((σ 0 0))) 0 (1) ((σ 0 1))) 0 (2) ((σ 0 2))) 1 (σ 1)) 2 (σ 2)) 3 (σ 3)) 4 (σ 4)) 5 (σ 5)) 6 (σ 6)) 7 (σ 7)) 8 (σ 8)) 9 (σ 9)), stW cI a2 σ]) H := hP
  have hD : va_D A (fl [stW cI a (sR (sR (sR (sR (sR (sR (sR (sR (sR (sU (sU (sU τ 0 (0) ((σ 0 0))) 0 (1) ((σ 0 1))) 0 (2) ((σ 0 2))) 1 (σ 1)) 2 (σ 2)) 3 (σ 3)) 4 (σ 4)) 5 (σ 5)) 6 (σ 6)) 7 (σ 7)) 8 (σ 8)) 9 (σ 9)), stW cI a2 σ]) := hD
  refine lv_aload_n hx hb dX3_copyFrom_155 rfl (lv_at hl 1 rfl) ?_
  refine va_get (D := D) (ci := 3) (v := .ref (a2 10)) (C := RX3) (T := TX3) (N := 15) hx hb hts hin_X3 hown hK hP 13 rfl rfl 12 (by decide) hw_16 (fun _ h9 => h9) rfl dX3_copyFrom_156 ?_
  refine wi_iconst hx hb dX3_copyFrom_159 ?_
  refine lv_aload_n hx hb dX3_copyFrom_160 rfl (lv_at hl 0 rfl) ?_
  refine va_get (D := D) (ci := 3) (v := .ref (a 10)) (C := RX3) (T := TX3) (N := 15) hx hb hts hin_X3 hown hK hP 0 rfl rfl 12 (by decide) hw_16 (fun _ h9 => h9) rfl dX3_copyFrom_161 ?_
  refine wi_iconst hx hb dX3_copyFrom_164 ?_
  refine wi_bipush hx hb dX3_copyFrom_165 (by decide) ?_
  refine wi_copy hx hb (hml.trans hl.1.symm) hown hw_4 hw_5 hw_6 hw_7 hK hP hD hS 23 10 (n := 6) (f := rI (σ 10)) (g := rI (τ 10)) rfl rfl rfl rfl (by decide) (Nat.le_of_ble_eq_true rfl) (Nat.le_of_ble_eq_true rfl) dX3_copyFrom_167 (fun H locs hP hD hS => ?_)
  have hP : va_P D vwCl (fl [stW cI a (sR (sR (sR (sR (sR (sR (sR (sR (sR (sR (sU (sU (sU τ 0 (0) ((σ 0 0))) 0 (1) ((σ 0 1))) 0 (2) ((σ 0 2))) 1 (σ 1)) 2 (σ 2)) 3 (σ 3)) 4 (σ 4)) 5 (σ 5)) 6 (σ 6)) 7 (σ 7)) 8 (σ 8)) 9 (σ 9)) 10 (σ 10)), stW cI a2 σ]) H := hP
  have hD : va_D A (fl [stW cI a (sR (sR (sR (sR (sR (sR (sR (sR (sR (sR (sU (sU (sU τ 0 (0) ((σ 0 0))) 0 (1) ((σ 0 1))) 0 (2) ((σ 0 2))) 1 (σ 1)) 2 (σ 2)) 3 (σ 3)) 4 (σ 4)) 5 (σ 5)) 6 (σ 6)) 7 (σ 7)) 8 (σ 8)) 9 (σ 9)) 10 (σ 10)), stW cI a2 σ]) := hD
  refine lv_aload_n hx hb dX3_copyFrom_170 rfl (lv_at hl 1 rfl) ?_
  refine va_get (D := D) (ci := 3) (v := .ref (a2 11)) (C := RX3) (T := TX3) (N := 15) hx hb hts hin_X3 hown hK hP 13 rfl rfl 13 (by decide) hw_17 (fun _ h9 => h9) rfl dX3_copyFrom_171 ?_
  refine wi_iconst hx hb dX3_copyFrom_174 ?_
  refine lv_aload_n hx hb dX3_copyFrom_175 rfl (lv_at hl 0 rfl) ?_
  refine va_get (D := D) (ci := 3) (v := .ref (a 11)) (C := RX3) (T := TX3) (N := 15) hx hb hts hin_X3 hown hK hP 0 rfl rfl 13 (by decide) hw_17 (fun _ h9 => h9) rfl dX3_copyFrom_176 ?_
  refine wi_iconst hx hb dX3_copyFrom_179 ?_
  refine wi_bipush hx hb dX3_copyFrom_180 (by decide) ?_
  refine wi_copy hx hb (hml.trans hl.1.symm) hown hw_4 hw_5 hw_6 hw_7 hK hP hD hS 24 11 (n := 6) (f := rI (σ 11)) (g := rI (τ 11)) rfl rfl rfl rfl (by decide) (Nat.le_of_ble_eq_true rfl) (Nat.le_of_ble_eq_true rfl) dX3_copyFrom_182 (fun H locs hP hD hS => ?_)
  have hP : va_P D vwCl (fl [stW cI a (sR (sR (sR (sR (sR (sR (sR (sR (sR (sR (sR (sU (sU (sU τ 0 (0) ((σ 0 0))) 0 (1) ((σ 0 1))) 0 (2) ((σ 0 2))) 1 (σ 1)) 2 (σ 2)) 3 (σ 3)) 4 (σ 4)) 5 (σ 5)) 6 (σ 6)) 7 (σ 7)) 8 (σ 8)) 9 (σ 9)) 10 (σ 10)) 11 (σ 11)), stW cI a2 σ]) H := hP
  have hD : va_D A (fl [stW cI a (sR (sR (sR (sR (sR (sR (sR (sR (sR (sR (sR (sU (sU (sU τ 0 (0) ((σ 0 0))) 0 (1) ((σ 0 1))) 0 (2) ((σ 0 2))) 1 (σ 1)) 2 (σ 2)) 3 (σ 3)) 4 (σ 4)) 5 (σ 5)) 6 (σ 6)) 7 (σ 7)) 8 (σ 8)) 9 (σ 9)) 10 (σ 10)) 11 (σ 11)), stW cI a2 σ]) := hD
  refine lv_aload_n hx hb dX3_copyFrom_185 rfl (lv_at hl 1 rfl) ?_
  refine va_get (D := D) (ci := 3) (v := .ref (a2 12)) (C := RX3) (T := TX3) (N := 15) hx hb hts hin_X3 hown hK hP 13 rfl rfl 14 (by decide) hw_18 (fun _ h9 => h9) rfl dX3_copyFrom_186 ?_
  refine wi_iconst hx hb dX3_copyFrom_189 ?_
  refine lv_aload_n hx hb dX3_copyFrom_190 rfl (lv_at hl 0 rfl) ?_
  refine va_get (D := D) (ci := 3) (v := .ref (a 12)) (C := RX3) (T := TX3) (N := 15) hx hb hts hin_X3 hown hK hP 0 rfl rfl 14 (by decide) hw_18 (fun _ h9 => h9) rfl dX3_copyFrom_191 ?_
  refine wi_iconst hx hb dX3_copyFrom_194 ?_
  refine wi_bipush hx hb dX3_copyFrom_195 (by decide) ?_
  refine wi_copy hx hb (hml.trans hl.1.symm) hown hw_4 hw_5 hw_6 hw_7 hK hP hD hS 25 12 (n := 6) (f := rI (σ 12)) (g := rI (τ 12)) rfl rfl rfl rfl (by decide) (Nat.le_of_ble_eq_true rfl) (Nat.le_of_ble_eq_true rfl) dX3_copyFrom_197 (fun H locs hP hD hS => ?_)
  have hP : va_P D vwCl (fl [stW cI a (sR (sR (sR (sR (sR (sR (sR (sR (sR (sR (sR (sR (sU (sU (sU τ 0 (0) ((σ 0 0))) 0 (1) ((σ 0 1))) 0 (2) ((σ 0 2))) 1 (σ 1)) 2 (σ 2)) 3 (σ 3)) 4 (σ 4)) 5 (σ 5)) 6 (σ 6)) 7 (σ 7)) 8 (σ 8)) 9 (σ 9)) 10 (σ 10)) 11 (σ 11)) 12 (σ 12)), stW cI a2 σ]) H := hP
  have hD : va_D A (fl [stW cI a (sR (sR (sR (sR (sR (sR (sR (sR (sR (sR (sR (sR (sU (sU (sU τ 0 (0) ((σ 0 0))) 0 (1) ((σ 0 1))) 0 (2) ((σ 0 2))) 1 (σ 1)) 2 (σ 2)) 3 (σ 3)) 4 (σ 4)) 5 (σ 5)) 6 (σ 6)) 7 (σ 7)) 8 (σ 8)) 9 (σ 9)) 10 (σ 10)) 11 (σ 11)) 12 (σ 12)), stW cI a2 σ]) := hD
  have hP : va_P D vwCl (fl [stW cI a σ, stW cI a2 σ]) H := hP
  have hD : va_D A (fl [stW cI a σ, stW cI a2 σ]) := hD
  exact W.vret hx hb hr (fun t9 ht9 hW9 => ⟨⟨(), rfl, (trivial), ⟨by rw [ht9]; exact hP, va_K.moved hW9.alike hK, hD⟩⟩, hS.F ht9⟩) hS.2.2 dX3_copyFrom_200 hlocks
set_option maxHeartbeats 4000000 in
set_option maxRecDepth 100000 in
theorem c_X2_dropOldest (l : Launch) (D : va_G) (cI cO cC cL : ClassId) (sz : Nat) (sv : Nat → Nat) (κ : Nat → Int → Int) (sa : Nat → Nat → Nat) (ss : Nat → Nat → Int → Int)  : Met l yX2_dropOldest wsX2_dropOldest ({ frames := 0, cells := 0, slots := 0, locals := 0 } : Room) (pcW D [(cI, FieldType.int), (cO, FieldType.object "PromisedCounters$State")] [.ref (sv 0)] (fl [svO cO sv (saF sa) κ, stW cI (sa 0) (ss 0), stW cI (sa 1) (ss 1), stW cI (sa 2) (ss 2), stW cI (sa 3) (ss 3), stW cI (sa 4) (ss 4), stW cI (sa 5) (ss 5)]) sz) (va_Qv (fun (_ : Unit) => True) (fun (_ : Unit) => (bW D [(cI, FieldType.int), (cO, FieldType.object "PromisedCounters$State")] (fl [svO cO sv (saF (rotA sa)) (sU κ 0 0 (κ 0 0 - 1)), stW cI (sa 0) (ss 0), stW cI (sa 1) (ss 1), stW cI (sa 2) (ss 2), stW cI (sa 3) (ss 3), stW cI (sa 4) (ss 4), stW cI (sa 5) (ss 5)]) (va_A (fl [svO cO sv (saF sa) κ, stW cI (sa 0) (ss 0), stW cI (sa 1) (ss 1), stW cI (sa 2) (ss 2), stW cI (sa 3) (ss 3), stW cI (sa 4) (ss 4), stW cI (sa 5) (ss 5)]) sz))) (va_A (fl [svO cO sv (saF sa) κ, stW cI (sa 0) (ss 0), stW cI (sa 1) (ss 1), stW cI (sa 2) (ss 2), stW cI (sa 3) (ss 3), stW cI (sa 4) (ss 4), stW cI (sa 5) (ss 5)]) sz)) 0 0 (va_A (fl [svO cO sv (saF sa) κ, stW cI (sa 0) (ss 0), stW cI (sa 1) (ss 1), stW cI (sa 2) (ss 2), stW cI (sa 3) (ss 3), stW cI (sa 4) (ss 4), stW cI (sa 5) (ss 5)]) sz) := by
  refine Met.ofW (cc := cX2_dropOldest) (maxL := 3) (ret := none) (by decide) rfl ?_
  intro p9 e9 s m args9 below9 meth9 c9 s₁ B hml hv
  obtain ⟨rfl, hsz, hP, hK, hD0⟩ := hv
  have hx := B.exec
  have hb := B.bytes
  have hr := B.returns
  have hts := atoms_spec (ws := wsX2_dropOldest) B.pre
  have hown : s.vm.findClass RX2 = some m.cls := findClass_of_methodNamed B.named
  have hlocks := B.notSynchronized
  subst hsz
  have hD := hD0.self (sz := s.heap.size)
  generalize hAe : va_A (fl [svO cO sv (saF sa) κ, stW cI (sa 0) (ss 0), stW cI (sa 1) (ss 1), stW cI (sa 2) (ss 2), stW cI (sa 3) (ss 3), stW cI (sa 4) (ss 4), stW cI (sa 5) (ss 5)]) s.heap.size = A at hD ⊢
  have hA : ∀ q : Nat, s.heap.size ≤ q → A q := fun q h => by rw [← hAe]; exact Or.inr h
  have hS : va_S A s.heap s.heap [] := va_S.rf
  have hP : va_P D vwCl (fl [svO cO sv (saF sa) κ, stW cI (sa 0) (ss 0), stW cI (sa 1) (ss 1), stW cI (sa 2) (ss 2), stW cI (sa 3) (ss 3), stW cI (sa 4) (ss 4), stW cI (sa 5) (ss 5)]) s.heap := hP
  have hl := lv_entry ([.ref (sv 0)]) (n := 3) (Nat.le_of_ble_eq_true rfl)
  rw [lg_entry_eq]
  generalize (lg_sl ([.ref (sv 0)]) ++ List.replicate (3 - (lg_sl ([.ref (sv 0)])).length) Slot.unset).toArray = ls at hl ⊢
  have hl : lv_has ls 3 [(0, .ref (sv 0))] := hl
  have hw_0 := hts (.fieldLink RX2 12 "PromisedCounters$SavedStates" "states" "[LPromisedCounters$State;") (by decide +kernel)
  have hin_X2 : ∀ w ∈ u_ws RX2 TX2 2, w ∈ wsX2_dropOldest := by decide +kernel
  have hw_1 := hts (.fieldLink RX2 18 "PromisedCounters$SavedStates" "many" "I") (by decide +kernel)
  refine lv_aload_n hx hb dX2_dropOldest_0 rfl (lv_at hl 0 rfl) ?_
  refine va_get (D := D) (ci := 2) (v := .ref (sv 1)) (C := RX2) (T := TX2) (N := 2) hx hb hts hin_X2 hown hK hP 0 rfl rfl 0 (by decide) hw_0 (fun _ h9 => h9) rfl dX2_dropOldest_1 ?_
  refine wi_iconst hx hb dX2_dropOldest_4 ?_
  refine wi_aldq hx hb hK hP 1 1 (n := 6) (f := (saF sa)) (v := (sa 0) 0) rfl rfl (i := 0) (by omega) (by decide) rfl dX2_dropOldest_5 ?_
  refine lv_astore_n (lv' := [(1, .ref ((sa 0) 0)), (0, .ref (sv 0))]) hx hb dX2_dropOldest_6 rfl hl (by decide) rfl (fun ls hl => ?_)
  refine wi_iconst hx hb dX2_dropOldest_7 ?_
  refine lv_istore_n (lv' := [(2, .int (iI (1))), (1, .ref ((sa 0) 0)), (0, .ref (sv 0))]) hx hb dX2_dropOldest_8 rfl hl (by decide) rfl (fun ls hl => ?_)
  refine lv_iload_n hx hb dX2_dropOldest_9 rfl (lv_at hl 0 rfl) ?_
  refine wi_bipush hx hb dX2_dropOldest_10 (by decide) ?_
  refine wi_icmp_ge (tgt := 35) hx hb dX2_dropOldest_12 (by decide) (by omega) (fun c_12 => ?_) (fun c_12 => ?_)
  · skip
    exfalso; omega
  · skip
    refine lv_aload_n hx hb dX2_dropOldest_15 rfl (lv_at hl 2 rfl) ?_
    refine va_get (D := D) (ci := 2) (v := .ref (sv 1)) (C := RX2) (T := TX2) (N := 2) hx hb hts hin_X2 hown hK hP 0 rfl rfl 0 (by decide) hw_0 (fun _ h9 => h9) rfl dX2_dropOldest_16 ?_
    refine lv_iload_n hx hb dX2_dropOldest_19 rfl (lv_at hl 0 rfl) ?_
    refine wi_iconst hx hb dX2_dropOldest_20 ?_
    refine wi_isub hx hb dX2_dropOldest_21 ?_
    refine lv_aload_n hx hb dX2_dropOldest_22 rfl (lv_at hl 2 rfl) ?_
    refine va_get (D := D) (ci := 2) (v := .ref (sv 1)) (C := RX2) (T := TX2) (N := 2) hx hb hts hin_X2 hown hK hP 0 rfl rfl 0 (by decide) hw_0 (fun _ h9 => h9) rfl dX2_dropOldest_23 ?_
    refine lv_iload_n hx hb dX2_dropOldest_26 rfl (lv_at hl 0 rfl) ?_
    refine wi_aldq hx hb hK hP 1 1 (n := 6) (f := (saF sa)) (v := (sa 1) 0) rfl rfl (i := 1) (by omega) (by decide) rfl dX2_dropOldest_27 ?_
    refine wi_astq hx hb hK hP hD hS 1 1 15 3 (n := 6) (f := (saF sa)) (r := (RX3, TX3, 15)) rfl rfl rfl rfl (i := 0) (by omega) (by decide) dX2_dropOldest_28 (fun H locs hP hD hS => ?_)
    have hP : va_P D vwCl (fl [svO cO sv (va_up (saF sa) (0 : Int).toNat (some ((sa 1) 0))) κ, stW cI (sa 0) (ss 0), stW cI (sa 1) (ss 1), stW cI (sa 2) (ss 2), stW cI (sa 3) (ss 3), stW cI (sa 4) (ss 4), stW cI (sa 5) (ss 5)]) H := hP
    have hD : va_D A (fl [svO cO sv (va_up (saF sa) (0 : Int).toNat (some ((sa 1) 0))) κ, stW cI (sa 0) (ss 0), stW cI (sa 1) (ss 1), stW cI (sa 2) (ss 2), stW cI (sa 3) (ss 3), stW cI (sa 4) (ss 4), stW cI (sa 5) (ss 5)]) := hD
    refine wi_iinc (lv' := [(2, .int (iI (2))), (1, .ref ((sa 0) 0)), (0, .ref (sv 0))]) hx hb dX2_dropOldest_29 hl (k := 0) rfl (by decide) rfl (fun ls hl => ?_)
    refine lv_goto (tgt := 9) hx hb dX2_dropOldest_32 (by decide) ?_
    refine lv_iload_n hx hb dX2_dropOldest_9 rfl (lv_at hl 0 rfl) ?_
    refine wi_bipush hx hb dX2_dropOldest_10 (by decide) ?_
    refine wi_icmp_ge (tgt := 35) hx hb dX2_dropOldest_12 (by decide) (by omega) (fun c_12 => ?_) (fun c_12 => ?_)
    · skip
      exfalso; omega
    · skip
      refine lv_aload_n hx hb dX2_dropOldest_15 rfl (lv_at hl 2 rfl) ?_
      refine va_get (D := D) (ci := 2) (v := .ref (sv 1)) (C := RX2) (T := TX2) (N := 2) hx hb hts hin_X2 hown hK hP 0 rfl rfl 0 (by decide) hw_0 (fun _ h9 => h9) rfl dX2_dropOldest_16 ?_
      refine lv_iload_n hx hb dX2_dropOldest_19 rfl (lv_at hl 0 rfl) ?_
      refine wi_iconst hx hb dX2_dropOldest_20 ?_
      refine wi_isub hx hb dX2_dropOldest_21 ?_
      refine lv_aload_n hx hb dX2_dropOldest_22 rfl (lv_at hl 2 rfl) ?_
      refine va_get (D := D) (ci := 2) (v := .ref (sv 1)) (C := RX2) (T := TX2) (N := 2) hx hb hts hin_X2 hown hK hP 0 rfl rfl 0 (by decide) hw_0 (fun _ h9 => h9) rfl dX2_dropOldest_23 ?_
      refine lv_iload_n hx hb dX2_dropOldest_26 rfl (lv_at hl 0 rfl) ?_
      refine wi_aldq hx hb hK hP 1 1 (n := 6) (f := (va_up (saF sa) (0 : Int).toNat (some ((sa 1) 0)))) (v := (sa 2) 0) rfl rfl (i := 2) (by omega) (by decide) rfl dX2_dropOldest_27 ?_
      refine wi_astq hx hb hK hP hD hS 1 1 28 3 (n := 6) (f := (va_up (saF sa) (0 : Int).toNat (some ((sa 1) 0)))) (r := (RX3, TX3, 15)) rfl rfl rfl rfl (i := 1) (by omega) (by decide) dX2_dropOldest_28 (fun H locs hP hD hS => ?_)
      have hP : va_P D vwCl (fl [svO cO sv (va_up (va_up (saF sa) (0 : Int).toNat (some ((sa 1) 0))) (1 : Int).toNat (some ((sa 2) 0))) κ, stW cI (sa 0) (ss 0), stW cI (sa 1) (ss 1), stW cI (sa 2) (ss 2), stW cI (sa 3) (ss 3), stW cI (sa 4) (ss 4), stW cI (sa 5) (ss 5)]) H := hP
      have hD : va_D A (fl [svO cO sv (va_up (va_up (saF sa) (0 : Int).toNat (some ((sa 1) 0))) (1 : Int).toNat (some ((sa 2) 0))) κ, stW cI (sa 0) (ss 0), stW cI (sa 1) (ss 1), stW cI (sa 2) (ss 2), stW cI (sa 3) (ss 3), stW cI (sa 4) (ss 4), stW cI (sa 5) (ss 5)]) := hD
      refine wi_iinc (lv' := [(2, .int (iI (3))), (1, .ref ((sa 0) 0)), (0, .ref (sv 0))]) hx hb dX2_dropOldest_29 hl (k := 0) rfl (by decide) rfl (fun ls hl => ?_)
      refine lv_goto (tgt := 9) hx hb dX2_dropOldest_32 (by decide) ?_
      refine lv_iload_n hx hb dX2_dropOldest_9 rfl (lv_at hl 0 rfl) ?_
      refine wi_bipush hx hb dX2_dropOldest_10 (by decide) ?_
      refine wi_icmp_ge (tgt := 35) hx hb dX2_dropOldest_12 (by decide) (by omega) (fun c_12 => ?_) (fun c_12 => ?_)
      · skip
        exfalso; omega
      · skip
        refine lv_aload_n hx hb dX2_dropOldest_15 rfl (lv_at hl 2 rfl) ?_
        refine va_get (D := D) (ci := 2) (v := .ref (sv 1)) (C := RX2) (T := TX2) (N := 2) hx hb hts hin_X2 hown hK hP 0 rfl rfl 0 (by decide) hw_0 (fun _ h9 => h9) rfl dX2_dropOldest_16 ?_
        refine lv_iload_n hx hb dX2_dropOldest_19 rfl (lv_at hl 0 rfl) ?_
        refine wi_iconst hx hb dX2_dropOldest_20 ?_
        refine wi_isub hx hb dX2_dropOldest_21 ?_
        refine lv_aload_n hx hb dX2_dropOldest_22 rfl (lv_at hl 2 rfl) ?_
        refine va_get (D := D) (ci := 2) (v := .ref (sv 1)) (C := RX2) (T := TX2) (N := 2) hx hb hts hin_X2 hown hK hP 0 rfl rfl 0 (by decide) hw_0 (fun _ h9 => h9) rfl dX2_dropOldest_23 ?_
        refine lv_iload_n hx hb dX2_dropOldest_26 rfl (lv_at hl 0 rfl) ?_
        refine wi_aldq hx hb hK hP 1 1 (n := 6) (f := (va_up (va_up (saF sa) (0 : Int).toNat (some ((sa 1) 0))) (1 : Int).toNat (some ((sa 2) 0)))) (v := (sa 3) 0) rfl rfl (i := 3) (by omega) (by decide) rfl dX2_dropOldest_27 ?_
        refine wi_astq hx hb hK hP hD hS 1 1 41 3 (n := 6) (f := (va_up (va_up (saF sa) (0 : Int).toNat (some ((sa 1) 0))) (1 : Int).toNat (some ((sa 2) 0)))) (r := (RX3, TX3, 15)) rfl rfl rfl rfl (i := 2) (by omega) (by decide) dX2_dropOldest_28 (fun H locs hP hD hS => ?_)
        have hP : va_P D vwCl (fl [svO cO sv (va_up (va_up (va_up (saF sa) (0 : Int).toNat (some ((sa 1) 0))) (1 : Int).toNat (some ((sa 2) 0))) (2 : Int).toNat (some ((sa 3) 0))) κ, stW cI (sa 0) (ss 0), stW cI (sa 1) (ss 1), stW cI (sa 2) (ss 2), stW cI (sa 3) (ss 3), stW cI (sa 4) (ss 4), stW cI (sa 5) (ss 5)]) H := hP
        have hD : va_D A (fl [svO cO sv (va_up (va_up (va_up (saF sa) (0 : Int).toNat (some ((sa 1) 0))) (1 : Int).toNat (some ((sa 2) 0))) (2 : Int).toNat (some ((sa 3) 0))) κ, stW cI (sa 0) (ss 0), stW cI (sa 1) (ss 1), stW cI (sa 2) (ss 2), stW cI (sa 3) (ss 3), stW cI (sa 4) (ss 4), stW cI (sa 5) (ss 5)]) := hD
        refine wi_iinc (lv' := [(2, .int (iI (4))), (1, .ref ((sa 0) 0)), (0, .ref (sv 0))]) hx hb dX2_dropOldest_29 hl (k := 0) rfl (by decide) rfl (fun ls hl => ?_)
        refine lv_goto (tgt := 9) hx hb dX2_dropOldest_32 (by decide) ?_
        refine lv_iload_n hx hb dX2_dropOldest_9 rfl (lv_at hl 0 rfl) ?_
        refine wi_bipush hx hb dX2_dropOldest_10 (by decide) ?_
        refine wi_icmp_ge (tgt := 35) hx hb dX2_dropOldest_12 (by decide) (by omega) (fun c_12 => ?_) (fun c_12 => ?_)
        · skip
          exfalso; omega
        · skip
          refine lv_aload_n hx hb dX2_dropOldest_15 rfl (lv_at hl 2 rfl) ?_
          refine va_get (D := D) (ci := 2) (v := .ref (sv 1)) (C := RX2) (T := TX2) (N := 2) hx hb hts hin_X2 hown hK hP 0 rfl rfl 0 (by decide) hw_0 (fun _ h9 => h9) rfl dX2_dropOldest_16 ?_
          refine lv_iload_n hx hb dX2_dropOldest_19 rfl (lv_at hl 0 rfl) ?_
          refine wi_iconst hx hb dX2_dropOldest_20 ?_
          refine wi_isub hx hb dX2_dropOldest_21 ?_
          refine lv_aload_n hx hb dX2_dropOldest_22 rfl (lv_at hl 2 rfl) ?_
          refine va_get (D := D) (ci := 2) (v := .ref (sv 1)) (C := RX2) (T := TX2) (N := 2) hx hb hts hin_X2 hown hK hP 0 rfl rfl 0 (by decide) hw_0 (fun _ h9 => h9) rfl dX2_dropOldest_23 ?_
          refine lv_iload_n hx hb dX2_dropOldest_26 rfl (lv_at hl 0 rfl) ?_
          refine wi_aldq hx hb hK hP 1 1 (n := 6) (f := (va_up (va_up (va_up (saF sa) (0 : Int).toNat (some ((sa 1) 0))) (1 : Int).toNat (some ((sa 2) 0))) (2 : Int).toNat (some ((sa 3) 0)))) (v := (sa 4) 0) rfl rfl (i := 4) (by omega) (by decide) rfl dX2_dropOldest_27 ?_
          refine wi_astq hx hb hK hP hD hS 1 1 54 3 (n := 6) (f := (va_up (va_up (va_up (saF sa) (0 : Int).toNat (some ((sa 1) 0))) (1 : Int).toNat (some ((sa 2) 0))) (2 : Int).toNat (some ((sa 3) 0)))) (r := (RX3, TX3, 15)) rfl rfl rfl rfl (i := 3) (by omega) (by decide) dX2_dropOldest_28 (fun H locs hP hD hS => ?_)
          have hP : va_P D vwCl (fl [svO cO sv (va_up (va_up (va_up (va_up (saF sa) (0 : Int).toNat (some ((sa 1) 0))) (1 : Int).toNat (some ((sa 2) 0))) (2 : Int).toNat (some ((sa 3) 0))) (3 : Int).toNat (some ((sa 4) 0))) κ, stW cI (sa 0) (ss 0), stW cI (sa 1) (ss 1), stW cI (sa 2) (ss 2), stW cI (sa 3) (ss 3), stW cI (sa 4) (ss 4), stW cI (sa 5) (ss 5)]) H := hP
          have hD : va_D A (fl [svO cO sv (va_up (va_up (va_up (va_up (saF sa) (0 : Int).toNat (some ((sa 1) 0))) (1 : Int).toNat (some ((sa 2) 0))) (2 : Int).toNat (some ((sa 3) 0))) (3 : Int).toNat (some ((sa 4) 0))) κ, stW cI (sa 0) (ss 0), stW cI (sa 1) (ss 1), stW cI (sa 2) (ss 2), stW cI (sa 3) (ss 3), stW cI (sa 4) (ss 4), stW cI (sa 5) (ss 5)]) := hD
          refine wi_iinc (lv' := [(2, .int (iI (5))), (1, .ref ((sa 0) 0)), (0, .ref (sv 0))]) hx hb dX2_dropOldest_29 hl (k := 0) rfl (by decide) rfl (fun ls hl => ?_)
          refine lv_goto (tgt := 9) hx hb dX2_dropOldest_32 (by decide) ?_
          refine lv_iload_n hx hb dX2_dropOldest_9 rfl (lv_at hl 0 rfl) ?_
          refine wi_bipush hx hb dX2_dropOldest_10 (by decide) ?_
          refine wi_icmp_ge (tgt := 35) hx hb dX2_dropOldest_12 (by decide) (by omega) (fun c_12 => ?_) (fun c_12 => ?_)
          · skip
            exfalso; omega
          · skip
            refine lv_aload_n hx hb dX2_dropOldest_15 rfl (lv_at hl 2 rfl) ?_
            refine va_get (D := D) (ci := 2) (v := .ref (sv 1)) (C := RX2) (T := TX2) (N := 2) hx hb hts hin_X2 hown hK hP 0 rfl rfl 0 (by decide) hw_0 (fun _ h9 => h9) rfl dX2_dropOldest_16 ?_
            refine lv_iload_n hx hb dX2_dropOldest_19 rfl (lv_at hl 0 rfl) ?_
            refine wi_iconst hx hb dX2_dropOldest_20 ?_
            refine wi_isub hx hb dX2_dropOldest_21 ?_
            refine lv_aload_n hx hb dX2_dropOldest_22 rfl (lv_at hl 2 rfl) ?_
            refine va_get (D := D) (ci := 2) (v := .ref (sv 1)) (C := RX2) (T := TX2) (N := 2) hx hb hts hin_X2 hown hK hP 0 rfl rfl 0 (by decide) hw_0 (fun _ h9 => h9) rfl dX2_dropOldest_23 ?_
            refine lv_iload_n hx hb dX2_dropOldest_26 rfl (lv_at hl 0 rfl) ?_
            refine wi_aldq hx hb hK hP 1 1 (n := 6) (f := (va_up (va_up (va_up (va_up (saF sa) (0 : Int).toNat (some ((sa 1) 0))) (1 : Int).toNat (some ((sa 2) 0))) (2 : Int).toNat (some ((sa 3) 0))) (3 : Int).toNat (some ((sa 4) 0)))) (v := (sa 5) 0) rfl rfl (i := 5) (by omega) (by decide) rfl dX2_dropOldest_27 ?_
            refine wi_astq hx hb hK hP hD hS 1 1 67 3 (n := 6) (f := (va_up (va_up (va_up (va_up (saF sa) (0 : Int).toNat (some ((sa 1) 0))) (1 : Int).toNat (some ((sa 2) 0))) (2 : Int).toNat (some ((sa 3) 0))) (3 : Int).toNat (some ((sa 4) 0)))) (r := (RX3, TX3, 15)) rfl rfl rfl rfl (i := 4) (by omega) (by decide) dX2_dropOldest_28 (fun H locs hP hD hS => ?_)
            have hP : va_P D vwCl (fl [svO cO sv (va_up (va_up (va_up (va_up (va_up (saF sa) (0 : Int).toNat (some ((sa 1) 0))) (1 : Int).toNat (some ((sa 2) 0))) (2 : Int).toNat (some ((sa 3) 0))) (3 : Int).toNat (some ((sa 4) 0))) (4 : Int).toNat (some ((sa 5) 0))) κ, stW cI (sa 0) (ss 0), stW cI (sa 1) (ss 1), stW cI (sa 2) (ss 2), stW cI (sa 3) (ss 3), stW cI (sa 4) (ss 4), stW cI (sa 5) (ss 5)]) H := hP
            have hD : va_D A (fl [svO cO sv (va_up (va_up (va_up (va_up (va_up (saF sa) (0 : Int).toNat (some ((sa 1) 0))) (1 : Int).toNat (some ((sa 2) 0))) (2 : Int).toNat (some ((sa 3) 0))) (3 : Int).toNat (some ((sa 4) 0))) (4 : Int).toNat (some ((sa 5) 0))) κ, stW cI (sa 0) (ss 0), stW cI (sa 1) (ss 1), stW cI (sa 2) (ss 2), stW cI (sa 3) (ss 3), stW cI (sa 4) (ss 4), stW cI (sa 5) (ss 5)]) := hD
            refine wi_iinc (lv' := [(2, .int (iI (6))), (1, .ref ((sa 0) 0)), (0, .ref (sv 0))]) hx hb dX2_dropOldest_29 hl (k := 0) rfl (by decide) rfl (fun ls hl => ?_)
            refine lv_goto (tgt := 9) hx hb dX2_dropOldest_32 (by decide) ?_
            refine lv_iload_n hx hb dX2_dropOldest_9 rfl (lv_at hl 0 rfl) ?_
            refine wi_bipush hx hb dX2_dropOldest_10 (by decide) ?_
            refine wi_icmp_ge (tgt := 35) hx hb dX2_dropOldest_12 (by decide) (by omega) (fun c_12 => ?_) (fun c_12 => ?_)
            · skip
              refine lv_aload_n hx hb dX2_dropOldest_35 rfl (lv_at hl 2 rfl) ?_
              refine va_get (D := D) (ci := 2) (v := .ref (sv 1)) (C := RX2) (T := TX2) (N := 2) hx hb hts hin_X2 hown hK hP 0 rfl rfl 0 (by decide) hw_0 (fun _ h9 => h9) rfl dX2_dropOldest_36 ?_
              refine wi_iconst hx hb dX2_dropOldest_39 ?_
              refine lv_aload_n hx hb dX2_dropOldest_40 rfl (lv_at hl 1 rfl) ?_
              refine wi_astq hx hb hK hP hD hS 1 1 2 3 (n := 6) (f := (va_up (va_up (va_up (va_up (va_up (saF sa) (0 : Int).toNat (some ((sa 1) 0))) (1 : Int).toNat (some ((sa 2) 0))) (2 : Int).toNat (some ((sa 3) 0))) (3 : Int).toNat (some ((sa 4) 0))) (4 : Int).toNat (some ((sa 5) 0)))) (r := (RX3, TX3, 15)) rfl rfl rfl rfl (i := 5) (by omega) (by decide) dX2_dropOldest_41 (fun H locs hP hD hS => ?_)
              have hP : va_P D vwCl (fl [svO cO sv (va_up (va_up (va_up (va_up (va_up (va_up (saF sa) (0 : Int).toNat (some ((sa 1) 0))) (1 : Int).toNat (some ((sa 2) 0))) (2 : Int).toNat (some ((sa 3) 0))) (3 : Int).toNat (some ((sa 4) 0))) (4 : Int).toNat (some ((sa 5) 0))) (5 : Int).toNat (some ((sa 0) 0))) κ, stW cI (sa 0) (ss 0), stW cI (sa 1) (ss 1), stW cI (sa 2) (ss 2), stW cI (sa 3) (ss 3), stW cI (sa 4) (ss 4), stW cI (sa 5) (ss 5)]) H := hP
              have hD : va_D A (fl [svO cO sv (va_up (va_up (va_up (va_up (va_up (va_up (saF sa) (0 : Int).toNat (some ((sa 1) 0))) (1 : Int).toNat (some ((sa 2) 0))) (2 : Int).toNat (some ((sa 3) 0))) (3 : Int).toNat (some ((sa 4) 0))) (4 : Int).toNat (some ((sa 5) 0))) (5 : Int).toNat (some ((sa 0) 0))) κ, stW cI (sa 0) (ss 0), stW cI (sa 1) (ss 1), stW cI (sa 2) (ss 2), stW cI (sa 3) (ss 3), stW cI (sa 4) (ss 4), stW cI (sa 5) (ss 5)]) := hD
              refine lv_aload_n hx hb dX2_dropOldest_42 rfl (lv_at hl 2 rfl) ?_
              refine lv_dup hx hb dX2_dropOldest_43 rfl ?_
              refine va_get (D := D) (ci := 2) (v := .int (iI ((κ 0 0)))) (C := RX2) (T := TX2) (N := 2) hx hb hts hin_X2 hown hK hP 0 rfl rfl 1 (by decide) hw_1 (fun _ h9 => h9) rfl dX2_dropOldest_44 ?_
              refine wi_iconst hx hb dX2_dropOldest_47 ?_
              refine wi_isub hx hb dX2_dropOldest_48 ?_
              refine va_put (D := D) (ci := 2) (v := .int (iI (((κ 0 0) - 1)))) (ty := .int) (C := RX2) (T := TX2) (N := 2) hx hb hts hin_X2 tyX2 tyX2_ok nmX2 hown hK hP hD hS 0 rfl rfl 1 (by decide) hw_1 (fun _ h9 => h9) rfl (by decide +kernel) rfl rfl (Nat.le_of_ble_eq_true rfl) dX2_dropOldest_49 (fun H locs hP hD hS => ?_)
              have hP : va_P D vwCl (fl [svO cO sv (va_up (va_up (va_up (va_up (va_up (va_up (saF sa) (0 : Int).toNat (some ((sa 1) 0))) (1 : Int).toNat (some ((sa 2) 0))) (2 : Int).toNat (some ((sa 3) 0))) (3 : Int).toNat (some ((sa 4) 0))) (4 : Int).toNat (some ((sa 5) 0))) (5 : Int).toNat (some ((sa 0) 0))) (sU κ 0 (0) (((κ 0 0) - 1))), stW cI (sa 0) (ss 0), stW cI (sa 1) (ss 1), stW cI (sa 2) (ss 2), stW cI (sa 3) (ss 3), stW cI (sa 4) (ss 4), stW cI (sa 5) (ss 5)]) H := hP
              have hD : va_D A (fl [svO cO sv (va_up (va_up (va_up (va_up (va_up (va_up (saF sa) (0 : Int).toNat (some ((sa 1) 0))) (1 : Int).toNat (some ((sa 2) 0))) (2 : Int).toNat (some ((sa 3) 0))) (3 : Int).toNat (some ((sa 4) 0))) (4 : Int).toNat (some ((sa 5) 0))) (5 : Int).toNat (some ((sa 0) 0))) (sU κ 0 (0) (((κ 0 0) - 1))), stW cI (sa 0) (ss 0), stW cI (sa 1) (ss 1), stW cI (sa 2) (ss 2), stW cI (sa 3) (ss 3), stW cI (sa 4) (ss 4), stW cI (sa 5) (ss 5)]) := hD
              have hP : va_P D vwCl (fl ([svO cO sv (va_up (va_up (va_up (va_up (va_up (va_up (saF sa) (0 : Int).toNat (some ((sa 1) 0))) (1 : Int).toNat (some ((sa 2) 0))) (2 : Int).toNat (some ((sa 3) 0))) (3 : Int).toNat (some ((sa 4) 0))) (4 : Int).toNat (some ((sa 5) 0))) (5 : Int).toNat (some ((sa 0) 0))) (sU κ 0 0 (κ 0 0 - 1))] ++ [stW cI (sa 0) (ss 0), stW cI (sa 1) (ss 1), stW cI (sa 2) (ss 2), stW cI (sa 3) (ss 3), stW cI (sa 4) (ss 4), stW cI (sa 5) (ss 5)])) H := hP
              have hD : va_D A (fl ([svO cO sv (va_up (va_up (va_up (va_up (va_up (va_up (saF sa) (0 : Int).toNat (some ((sa 1) 0))) (1 : Int).toNat (some ((sa 2) 0))) (2 : Int).toNat (some ((sa 3) 0))) (3 : Int).toNat (some ((sa 4) 0))) (4 : Int).toNat (some ((sa 5) 0))) (5 : Int).toNat (some ((sa 0) 0))) (sU κ 0 0 (κ 0 0 - 1))] ++ [stW cI (sa 0) (ss 0), stW cI (sa 1) (ss 1), stW cI (sa 2) (ss 2), stW cI (sa 3) (ss 3), stW cI (sa 4) (ss 4), stW cI (sa 5) (ss 5)])) := hD
              rw [rot_f sa] at hP hD
              exact W.vret hx hb hr (fun t9 ht9 hW9 => ⟨⟨(), rfl, (trivial), ⟨by rw [ht9]; exact hP, va_K.moved hW9.alike hK, hD⟩⟩, hS.F ht9⟩) hS.2.2 dX2_dropOldest_52 hlocks
            · skip
              exfalso; omega
