set_option maxHeartbeats 4000000 in
set_option maxRecDepth 100000 in
theorem c_X3_init (l : Launch) (D : va_G) (cI cO cC cL : ClassId) (sz : Nat) (h0 : Nat)  : Met l yX3_init wsX3_init ({ frames := 1, cells := 12, slots := 112, locals := 24 } : Room) (pcW D [(cI, FieldType.int)] [.ref (h0)] (fl [[(h0, .inr (3, [.int 0, .int 0, .int 0, .null, .null, .null, .null, .null, .null, .null, .null, .null, .null, .null, .null]))]]) sz) (va_Qv (fun (a : Nat → Nat) => a 0 = h0) (fun (a : Nat → Nat) => (bW D [(cI, FieldType.int)] (fl [stW cI a s0S]) (va_A (fl [[(h0, .inr (3, [.int 0, .int 0, .int 0, .null, .null, .null, .null, .null, .null, .null, .null, .null, .null, .null, .null]))]]) sz))) (va_A (fl [[(h0, .inr (3, [.int 0, .int 0, .int 0, .null, .null, .null, .null, .null, .null, .null, .null, .null, .null, .null, .null]))]]) sz)) 12 112 (va_A (fl [[(h0, .inr (3, [.int 0, .int 0, .int 0, .null, .null, .null, .null, .null, .null, .null, .null, .null, .null, .null, .null]))]]) sz) := by
  refine Met.ofW (cc := cX3_init) (maxL := 1) (ret := none) (by decide) rfl ?_
  intro p9 e9 s m args9 below9 meth9 c9 s₁ B hml hv
  obtain ⟨rfl, hsz, hP, hK, hD0⟩ := hv
  have hx := B.exec
  have hb := B.bytes
  have hr := B.returns
  have hts := atoms_spec (ws := wsX3_init) B.pre
  have hown : s.vm.findClass RX3 = some m.cls := findClass_of_methodNamed B.named
  have hlocks := B.notSynchronized
  have hin9 : meth9.name = "<init>" := (name_of_methodNamed B.named B.method).1
  subst hsz
  have hD := hD0.self (sz := s.heap.size)
  generalize hAe : va_A (fl [[(h0, .inr (3, [.int 0, .int 0, .int 0, .null, .null, .null, .null, .null, .null, .null, .null, .null, .null, .null, .null]))]]) s.heap.size = A at hD ⊢
  have hA : ∀ q : Nat, s.heap.size ≤ q → A q := fun q h => by rw [← hAe]; exact Or.inr h
  have hS : va_S A s.heap s.heap [] := va_S.rf
  have hP : va_P D vwCl (fl [[(h0, .inr (3, [.int 0, .int 0, .int 0, .null, .null, .null, .null, .null, .null, .null, .null, .null, .null, .null, .null]))]]) s.heap := hP
  have hl := lv_entry ([.ref (h0)]) (n := 1) (Nat.le_of_ble_eq_true rfl)
  rw [lg_entry_eq]
  generalize (lg_sl ([.ref (h0)]) ++ List.replicate (1 - (lg_sl ([.ref (h0)])).length) Slot.unset).toArray = ls at hl ⊢
  have hl : lv_has ls 1 [(0, .ref (h0))] := hl
  have hw_0 := hts (.methodLink RX3 3 objectInit) (by decide +kernel)
  have hw_1 := hts (.instanceMethod objectInit) (by decide +kernel)
  have hw_2 := hts (.code objectInit ⟨#[0xb1]⟩ 1 none) (by decide +kernel)
  have hw_3 := hts (.fieldLink RX3 9 "PromisedCounters$State" "time" "I") (by decide +kernel)
  have hin_X3 : ∀ w ∈ u_ws RX3 TX3 15, w ∈ wsX3_init := by decide +kernel
  have hw_4 := hts (.fieldLink RX3 15 "PromisedCounters$State" "promises" "I") (by decide +kernel)
  have hw_5 := hts (.fieldLink RX3 18 "PromisedCounters$State" "made" "I") (by decide +kernel)
  have hw_6 := hts (.arrayClass .int) (by decide +kernel)
  have hw_7 := hts (.fieldLink RX3 21 "PromisedCounters$State" "settings" "[I") (by decide +kernel)
  have hw_8 := hts (.fieldLink RX3 25 "PromisedCounters$State" "value" "[I") (by decide +kernel)
  have hw_9 := hts (.fieldLink RX3 28 "PromisedCounters$State" "least" "[I") (by decide +kernel)
  have hw_10 := hts (.fieldLink RX3 31 "PromisedCounters$State" "most" "[I") (by decide +kernel)
  have hw_11 := hts (.fieldLink RX3 34 "PromisedCounters$State" "owner" "[I") (by decide +kernel)
  have hw_12 := hts (.fieldLink RX3 37 "PromisedCounters$State" "counter" "[I") (by decide +kernel)
  have hw_13 := hts (.fieldLink RX3 40 "PromisedCounters$State" "change" "[I") (by decide +kernel)
  have hw_14 := hts (.fieldLink RX3 43 "PromisedCounters$State" "other" "[I") (by decide +kernel)
  have hw_15 := hts (.fieldLink RX3 46 "PromisedCounters$State" "until" "[I") (by decide +kernel)
  have hw_16 := hts (.fieldLink RX3 49 "PromisedCounters$State" "settled" "[I") (by decide +kernel)
  have hw_17 := hts (.fieldLink RX3 52 "PromisedCounters$State" "cancelled" "[I") (by decide +kernel)
  have hw_18 := hts (.fieldLink RX3 55 "PromisedCounters$State" "lapsed" "[I") (by decide +kernel)
  refine lv_aload_n hx hb dX3_init_0 rfl (lv_at hl 0 rfl) ?_
  refine W.objInit hx hb hown hw_0 hw_1 hw_2 rfl (by rw [hml]; exact hl.1) rfl dX3_init_1 (Nat.le_of_ble_eq_true rfl) (Nat.le_of_ble_eq_true rfl) ?_
  show W p9 l e9 ({ frames := 1, cells := 12, slots := 112, locals := 24 } : Room) s m ([.ref (h0)] : List Value).toArray below9 meth9 c9 s.heap [] 0 0 (MQ below9 (va_Qv (fun (a : Nat → Nat) => a 0 = h0) (fun (a : Nat → Nat) => (bW D [(cI, FieldType.int)] (fl [stW cI a s0S]) A)) A) ([.ref (h0)] : List Value).toArray s 12 112 A) (F0 m 4 ls [])
  refine lv_aload_n hx hb dX3_init_4 rfl (lv_at hl 0 rfl) ?_
  refine wi_iconst hx hb dX3_init_5 ?_
  refine va_put (D := D) (ci := 3) (v := .int (iI (0))) (ty := .int) (C := RX3) (T := TX3) (N := 15) hx hb hts hin_X3 tyX3 tyX3_ok nmX3 hown hK hP hD hS 0 rfl rfl 0 (by decide) hw_3 (fun _ h9 => h9) rfl (by decide +kernel) rfl rfl (Nat.le_of_ble_eq_true rfl) dX3_init_6 (fun H locs hP hD hS => ?_)
  have hP : va_P D vwCl (fl [[(h0, .inr (3, [.int (iI (0)), .int 0, .int 0, .null, .null, .null, .null, .null, .null, .null, .null, .null, .null, .null, .null]))]]) H := hP
  have hD : va_D A (fl [[(h0, .inr (3, [.int (iI (0)), .int 0, .int 0, .null, .null, .null, .null, .null, .null, .null, .null, .null, .null, .null, .null]))]]) := hD
  refine lv_aload_n hx hb dX3_init_9 rfl (lv_at hl 0 rfl) ?_
  refine wi_iconst hx hb dX3_init_10 ?_
  refine va_put (D := D) (ci := 3) (v := .int (iI (0))) (ty := .int) (C := RX3) (T := TX3) (N := 15) hx hb hts hin_X3 tyX3 tyX3_ok nmX3 hown hK hP hD hS 0 rfl rfl 1 (by decide) hw_4 (fun _ h9 => h9) rfl (by decide +kernel) rfl rfl (Nat.le_of_ble_eq_true rfl) dX3_init_11 (fun H locs hP hD hS => ?_)
  have hP : va_P D vwCl (fl [[(h0, .inr (3, [.int (iI (0)), .int (iI (0)), .int 0, .null, .null, .null, .null, .null, .null, .null, .null, .null, .null, .null, .null]))]]) H := hP
  have hD : va_D A (fl [[(h0, .inr (3, [.int (iI (0)), .int (iI (0)), .int 0, .null, .null, .null, .null, .null, .null, .null, .null, .null, .null, .null, .null]))]]) := hD
  refine lv_aload_n hx hb dX3_init_14 rfl (lv_at hl 0 rfl) ?_
  refine wi_iconst hx hb dX3_init_15 ?_
  refine va_put (D := D) (ci := 3) (v := .int (iI (0))) (ty := .int) (C := RX3) (T := TX3) (N := 15) hx hb hts hin_X3 tyX3 tyX3_ok nmX3 hown hK hP hD hS 0 rfl rfl 2 (by decide) hw_5 (fun _ h9 => h9) rfl (by decide +kernel) rfl rfl (Nat.le_of_ble_eq_true rfl) dX3_init_16 (fun H locs hP hD hS => ?_)
  have hP : va_P D vwCl (fl [[(h0, .inr (3, [.int (iI (0)), .int (iI (0)), .int (iI (0)), .null, .null, .null, .null, .null, .null, .null, .null, .null, .null, .null, .null]))]]) H := hP
  have hD : va_D A (fl [[(h0, .inr (3, [.int (iI (0)), .int (iI (0)), .int (iI (0)), .null, .null, .null, .null, .null, .null, .null, .null, .null, .null, .null, .null]))]]) := hD
  refine lv_aload_n hx hb dX3_init_19 rfl (lv_at hl 0 rfl) ?_
  refine wi_iconst hx hb dX3_init_20 ?_
  refine wn_newa hx hb (atype := .int) hw_6 rfl rfl hK hP hD hS hA 0 (cA := cI) rfl (fun _ _ z1 z2 => Option.some.inj (z1.symm.trans z2)) (n := 2) (N := 2) rfl (by decide) (by decide) (Nat.le_of_ble_eq_true rfl) (Nat.le_of_ble_eq_true rfl) dX3_init_21 (fun q1 H hP hD hS => ?_)
  have hP : va_P D vwCl (fl [[(h0, .inr (3, [.int (iI (0)), .int (iI (0)), .int (iI (0)), .null, .null, .null, .null, .null, .null, .null, .null, .null, .null, .null, .null]))], rwW cI (q1) 2 (fun _ => 0)]) H := hP
  have hD : va_D A (fl [[(h0, .inr (3, [.int (iI (0)), .int (iI (0)), .int (iI (0)), .null, .null, .null, .null, .null, .null, .null, .null, .null, .null, .null, .null]))], rwW cI (q1) 2 (fun _ => 0)]) := hD
  refine lv_dup hx hb dX3_init_23 rfl ?_
  refine wi_iconst hx hb dX3_init_24 ?_
  refine wi_bipush hx hb dX3_init_25 (by decide) ?_
  refine wi_iast hx hb hK hP hD hS 1 0 (n := 2) (f := fun _ => 0) rfl rfl (i := 0) (by omega) (by decide) dX3_init_27 (fun H locs hP hD hS => ?_)
  have hP : va_P D vwCl (fl [[(h0, .inr (3, [.int (iI (0)), .int (iI (0)), .int (iI (0)), .null, .null, .null, .null, .null, .null, .null, .null, .null, .null, .null, .null]))], rwW cI (q1) 2 ((uI (fun _ => 0) (0) (6)))]) H := hP
  have hD : va_D A (fl [[(h0, .inr (3, [.int (iI (0)), .int (iI (0)), .int (iI (0)), .null, .null, .null, .null, .null, .null, .null, .null, .null, .null, .null, .null]))], rwW cI (q1) 2 ((uI (fun _ => 0) (0) (6)))]) := hD
  refine lv_dup hx hb dX3_init_28 rfl ?_
  refine wi_iconst hx hb dX3_init_29 ?_
  refine wi_bipush hx hb dX3_init_30 (by decide) ?_
  refine wi_iast hx hb hK hP hD hS 1 0 (n := 2) (f := (uI (fun _ => 0) (0) (6))) rfl rfl (i := 1) (by omega) (by decide) dX3_init_32 (fun H locs hP hD hS => ?_)
  have hP : va_P D vwCl (fl [[(h0, .inr (3, [.int (iI (0)), .int (iI (0)), .int (iI (0)), .null, .null, .null, .null, .null, .null, .null, .null, .null, .null, .null, .null]))], rwW cI (q1) 2 ((uI ((uI (fun _ => 0) (0) (6))) (1) (10)))]) H := hP
  have hD : va_D A (fl [[(h0, .inr (3, [.int (iI (0)), .int (iI (0)), .int (iI (0)), .null, .null, .null, .null, .null, .null, .null, .null, .null, .null, .null, .null]))], rwW cI (q1) 2 ((uI ((uI (fun _ => 0) (0) (6))) (1) (10)))]) := hD
  refine va_putF (D := D) (ci := 3) (v := .ref (q1)) (ty := tyX3 3) (C := RX3) (T := TX3) (N := 15) hx hb hts hin_X3 tyX3 tyX3_ok nmX3 hown hK hP hD hS 0 rfl rfl 3 (by decide) hw_7 (fun _ h9 => h9) rfl hin9 rfl (by decide +kernel) rfl rfl (Nat.le_of_ble_eq_true rfl) dX3_init_33 (fun H locs hP hD hS => ?_)
  have hP : va_P D vwCl (fl [[(h0, .inr (3, [.int (iI (0)), .int (iI (0)), .int (iI (0)), .ref (q1), .null, .null, .null, .null, .null, .null, .null, .null, .null, .null, .null]))], rwW cI (q1) 2 ((uI ((uI (fun _ => 0) (0) (6))) (1) (10)))]) H := hP
  have hD : va_D A (fl [[(h0, .inr (3, [.int (iI (0)), .int (iI (0)), .int (iI (0)), .ref (q1), .null, .null, .null, .null, .null, .null, .null, .null, .null, .null, .null]))], rwW cI (q1) 2 ((uI ((uI (fun _ => 0) (0) (6))) (1) (10)))]) := hD
  refine lv_aload_n hx hb dX3_init_36 rfl (lv_at hl 0 rfl) ?_
  refine wi_iconst hx hb dX3_init_37 ?_
  refine wn_newa hx hb (atype := .int) hw_6 rfl rfl hK hP hD hS hA 0 (cA := cI) rfl (fun _ _ z1 z2 => Option.some.inj (z1.symm.trans z2)) (n := 4) (N := 4) rfl (by decide) (by decide) (Nat.le_of_ble_eq_true rfl) (Nat.le_of_ble_eq_true rfl) dX3_init_38 (fun q2 H hP hD hS => ?_)
  have hP : va_P D vwCl (fl [[(h0, .inr (3, [.int (iI (0)), .int (iI (0)), .int (iI (0)), .ref (q1), .null, .null, .null, .null, .null, .null, .null, .null, .null, .null, .null]))], rwW cI (q1) 2 ((uI ((uI (fun _ => 0) (0) (6))) (1) (10))), rwW cI (q2) 4 (fun _ => 0)]) H := hP
  have hD : va_D A (fl [[(h0, .inr (3, [.int (iI (0)), .int (iI (0)), .int (iI (0)), .ref (q1), .null, .null, .null, .null, .null, .null, .null, .null, .null, .null, .null]))], rwW cI (q1) 2 ((uI ((uI (fun _ => 0) (0) (6))) (1) (10))), rwW cI (q2) 4 (fun _ => 0)]) := hD
  refine va_putF (D := D) (ci := 3) (v := .ref (q2)) (ty := tyX3 4) (C := RX3) (T := TX3) (N := 15) hx hb hts hin_X3 tyX3 tyX3_ok nmX3 hown hK hP hD hS 0 rfl rfl 4 (by decide) hw_8 (fun _ h9 => h9) rfl hin9 rfl (by decide +kernel) rfl rfl (Nat.le_of_ble_eq_true rfl) dX3_init_40 (fun H locs hP hD hS => ?_)
  have hP : va_P D vwCl (fl [[(h0, .inr (3, [.int (iI (0)), .int (iI (0)), .int (iI (0)), .ref (q1), .ref (q2), .null, .null, .null, .null, .null, .null, .null, .null, .null, .null]))], rwW cI (q1) 2 ((uI ((uI (fun _ => 0) (0) (6))) (1) (10))), rwW cI (q2) 4 (fun _ => 0)]) H := hP
  have hD : va_D A (fl [[(h0, .inr (3, [.int (iI (0)), .int (iI (0)), .int (iI (0)), .ref (q1), .ref (q2), .null, .null, .null, .null, .null, .null, .null, .null, .null, .null]))], rwW cI (q1) 2 ((uI ((uI (fun _ => 0) (0) (6))) (1) (10))), rwW cI (q2) 4 (fun _ => 0)]) := hD
  refine lv_aload_n hx hb dX3_init_43 rfl (lv_at hl 0 rfl) ?_
  refine wi_iconst hx hb dX3_init_44 ?_
  refine wn_newa hx hb (atype := .int) hw_6 rfl rfl hK hP hD hS hA 0 (cA := cI) rfl (fun _ _ z1 z2 => Option.some.inj (z1.symm.trans z2)) (n := 4) (N := 4) rfl (by decide) (by decide) (Nat.le_of_ble_eq_true rfl) (Nat.le_of_ble_eq_true rfl) dX3_init_45 (fun q3 H hP hD hS => ?_)
  have hP : va_P D vwCl (fl [[(h0, .inr (3, [.int (iI (0)), .int (iI (0)), .int (iI (0)), .ref (q1), .ref (q2), .null, .null, .null, .null, .null, .null, .null, .null, .null, .null]))], rwW cI (q1) 2 ((uI ((uI (fun _ => 0) (0) (6))) (1) (10))), rwW cI (q2) 4 (fun _ => 0), rwW cI (q3) 4 (fun _ => 0)]) H := hP
  have hD : va_D A (fl [[(h0, .inr (3, [.int (iI (0)), .int (iI (0)), .int (iI (0)), .ref (q1), .ref (q2), .null, .null, .null, .null, .null, .null, .null, .null, .null, .null]))], rwW cI (q1) 2 ((uI ((uI (fun _ => 0) (0) (6))) (1) (10))), rwW cI (q2) 4 (fun _ => 0), rwW cI (q3) 4 (fun _ => 0)]) := hD
  refine va_putF (D := D) (ci := 3) (v := .ref (q3)) (ty := tyX3 5) (C := RX3) (T := TX3) (N := 15) hx hb hts hin_X3 tyX3 tyX3_ok nmX3 hown hK hP hD hS 0 rfl rfl 5 (by decide) hw_9 (fun _ h9 => h9) rfl hin9 rfl (by decide +kernel) rfl rfl (Nat.le_of_ble_eq_true rfl) dX3_init_47 (fun H locs hP hD hS => ?_)
  have hP : va_P D vwCl (fl [[(h0, .inr (3, [.int (iI (0)), .int (iI (0)), .int (iI (0)), .ref (q1), .ref (q2), .ref (q3), .null, .null, .null, .null, .null, .null, .null, .null, .null]))], rwW cI (q1) 2 ((uI ((uI (fun _ => 0) (0) (6))) (1) (10))), rwW cI (q2) 4 (fun _ => 0), rwW cI (q3) 4 (fun _ => 0)]) H := hP
  have hD : va_D A (fl [[(h0, .inr (3, [.int (iI (0)), .int (iI (0)), .int (iI (0)), .ref (q1), .ref (q2), .ref (q3), .null, .null, .null, .null, .null, .null, .null, .null, .null]))], rwW cI (q1) 2 ((uI ((uI (fun _ => 0) (0) (6))) (1) (10))), rwW cI (q2) 4 (fun _ => 0), rwW cI (q3) 4 (fun _ => 0)]) := hD
  refine lv_aload_n hx hb dX3_init_50 rfl (lv_at hl 0 rfl) ?_
  refine wi_iconst hx hb dX3_init_51 ?_
  refine wn_newa hx hb (atype := .int) hw_6 rfl rfl hK hP hD hS hA 0 (cA := cI) rfl (fun _ _ z1 z2 => Option.some.inj (z1.symm.trans z2)) (n := 4) (N := 4) rfl (by decide) (by decide) (Nat.le_of_ble_eq_true rfl) (Nat.le_of_ble_eq_true rfl) dX3_init_52 (fun q4 H hP hD hS => ?_)
  have hP : va_P D vwCl (fl [[(h0, .inr (3, [.int (iI (0)), .int (iI (0)), .int (iI (0)), .ref (q1), .ref (q2), .ref (q3), .null, .null, .null, .null, .null, .null, .null, .null, .null]))], rwW cI (q1) 2 ((uI ((uI (fun _ => 0) (0) (6))) (1) (10))), rwW cI (q2) 4 (fun _ => 0), rwW cI (q3) 4 (fun _ => 0), rwW cI (q4) 4 (fun _ => 0)]) H := hP
  have hD : va_D A (fl [[(h0, .inr (3, [.int (iI (0)), .int (iI (0)), .int (iI (0)), .ref (q1), .ref (q2), .ref (q3), .null, .null, .null, .null, .null, .null, .null, .null, .null]))], rwW cI (q1) 2 ((uI ((uI (fun _ => 0) (0) (6))) (1) (10))), rwW cI (q2) 4 (fun _ => 0), rwW cI (q3) 4 (fun _ => 0), rwW cI (q4) 4 (fun _ => 0)]) := hD
  refine lv_dup hx hb dX3_init_54 rfl ?_
  refine wi_iconst hx hb dX3_init_55 ?_
  refine wi_bipush hx hb dX3_init_56 (by decide) ?_
  refine wi_iast hx hb hK hP hD hS 4 0 (n := 4) (f := fun _ => 0) rfl rfl (i := 0) (by omega) (by decide) dX3_init_58 (fun H locs hP hD hS => ?_)
  have hP : va_P D vwCl (fl [[(h0, .inr (3, [.int (iI (0)), .int (iI (0)), .int (iI (0)), .ref (q1), .ref (q2), .ref (q3), .null, .null, .null, .null, .null, .null, .null, .null, .null]))], rwW cI (q1) 2 ((uI ((uI (fun _ => 0) (0) (6))) (1) (10))), rwW cI (q2) 4 (fun _ => 0), rwW cI (q3) 4 (fun _ => 0), rwW cI (q4) 4 ((uI (fun _ => 0) (0) (100)))]) H := hP
  have hD : va_D A (fl [[(h0, .inr (3, [.int (iI (0)), .int (iI (0)), .int (iI (0)), .ref (q1), .ref (q2), .ref (q3), .null, .null, .null, .null, .null, .null, .null, .null, .null]))], rwW cI (q1) 2 ((uI ((uI (fun _ => 0) (0) (6))) (1) (10))), rwW cI (q2) 4 (fun _ => 0), rwW cI (q3) 4 (fun _ => 0), rwW cI (q4) 4 ((uI (fun _ => 0) (0) (100)))]) := hD
  refine lv_dup hx hb dX3_init_59 rfl ?_
  refine wi_iconst hx hb dX3_init_60 ?_
  refine wi_bipush hx hb dX3_init_61 (by decide) ?_
  refine wi_iast hx hb hK hP hD hS 4 0 (n := 4) (f := (uI (fun _ => 0) (0) (100))) rfl rfl (i := 1) (by omega) (by decide) dX3_init_63 (fun H locs hP hD hS => ?_)
  have hP : va_P D vwCl (fl [[(h0, .inr (3, [.int (iI (0)), .int (iI (0)), .int (iI (0)), .ref (q1), .ref (q2), .ref (q3), .null, .null, .null, .null, .null, .null, .null, .null, .null]))], rwW cI (q1) 2 ((uI ((uI (fun _ => 0) (0) (6))) (1) (10))), rwW cI (q2) 4 (fun _ => 0), rwW cI (q3) 4 (fun _ => 0), rwW cI (q4) 4 ((uI ((uI (fun _ => 0) (0) (100))) (1) (100)))]) H := hP
  have hD : va_D A (fl [[(h0, .inr (3, [.int (iI (0)), .int (iI (0)), .int (iI (0)), .ref (q1), .ref (q2), .ref (q3), .null, .null, .null, .null, .null, .null, .null, .null, .null]))], rwW cI (q1) 2 ((uI ((uI (fun _ => 0) (0) (6))) (1) (10))), rwW cI (q2) 4 (fun _ => 0), rwW cI (q3) 4 (fun _ => 0), rwW cI (q4) 4 ((uI ((uI (fun _ => 0) (0) (100))) (1) (100)))]) := hD
  refine lv_dup hx hb dX3_init_64 rfl ?_
  refine wi_iconst hx hb dX3_init_65 ?_
  refine wi_bipush hx hb dX3_init_66 (by decide) ?_
  refine wi_iast hx hb hK hP hD hS 4 0 (n := 4) (f := (uI ((uI (fun _ => 0) (0) (100))) (1) (100))) rfl rfl (i := 2) (by omega) (by decide) dX3_init_68 (fun H locs hP hD hS => ?_)
  have hP : va_P D vwCl (fl [[(h0, .inr (3, [.int (iI (0)), .int (iI (0)), .int (iI (0)), .ref (q1), .ref (q2), .ref (q3), .null, .null, .null, .null, .null, .null, .null, .null, .null]))], rwW cI (q1) 2 ((uI ((uI (fun _ => 0) (0) (6))) (1) (10))), rwW cI (q2) 4 (fun _ => 0), rwW cI (q3) 4 (fun _ => 0), rwW cI (q4) 4 ((uI ((uI ((uI (fun _ => 0) (0) (100))) (1) (100))) (2) (100)))]) H := hP
  have hD : va_D A (fl [[(h0, .inr (3, [.int (iI (0)), .int (iI (0)), .int (iI (0)), .ref (q1), .ref (q2), .ref (q3), .null, .null, .null, .null, .null, .null, .null, .null, .null]))], rwW cI (q1) 2 ((uI ((uI (fun _ => 0) (0) (6))) (1) (10))), rwW cI (q2) 4 (fun _ => 0), rwW cI (q3) 4 (fun _ => 0), rwW cI (q4) 4 ((uI ((uI ((uI (fun _ => 0) (0) (100))) (1) (100))) (2) (100)))]) := hD
  refine lv_dup hx hb dX3_init_69 rfl ?_
  refine wi_iconst hx hb dX3_init_70 ?_
  refine wi_bipush hx hb dX3_init_71 (by decide) ?_
  refine wi_iast hx hb hK hP hD hS 4 0 (n := 4) (f := (uI ((uI ((uI (fun _ => 0) (0) (100))) (1) (100))) (2) (100))) rfl rfl (i := 3) (by omega) (by decide) dX3_init_73 (fun H locs hP hD hS => ?_)
  have hP : va_P D vwCl (fl [[(h0, .inr (3, [.int (iI (0)), .int (iI (0)), .int (iI (0)), .ref (q1), .ref (q2), .ref (q3), .null, .null, .null, .null, .null, .null, .null, .null, .null]))], rwW cI (q1) 2 ((uI ((uI (fun _ => 0) (0) (6))) (1) (10))), rwW cI (q2) 4 (fun _ => 0), rwW cI (q3) 4 (fun _ => 0), rwW cI (q4) 4 ((uI ((uI ((uI ((uI (fun _ => 0) (0) (100))) (1) (100))) (2) (100))) (3) (100)))]) H := hP
  have hD : va_D A (fl [[(h0, .inr (3, [.int (iI (0)), .int (iI (0)), .int (iI (0)), .ref (q1), .ref (q2), .ref (q3), .null, .null, .null, .null, .null, .null, .null, .null, .null]))], rwW cI (q1) 2 ((uI ((uI (fun _ => 0) (0) (6))) (1) (10))), rwW cI (q2) 4 (fun _ => 0), rwW cI (q3) 4 (fun _ => 0), rwW cI (q4) 4 ((uI ((uI ((uI ((uI (fun _ => 0) (0) (100))) (1) (100))) (2) (100))) (3) (100)))]) := hD
  refine va_putF (D := D) (ci := 3) (v := .ref (q4)) (ty := tyX3 6) (C := RX3) (T := TX3) (N := 15) hx hb hts hin_X3 tyX3 tyX3_ok nmX3 hown hK hP hD hS 0 rfl rfl 6 (by decide) hw_10 (fun _ h9 => h9) rfl hin9 rfl (by decide +kernel) rfl rfl (Nat.le_of_ble_eq_true rfl) dX3_init_74 (fun H locs hP hD hS => ?_)
  have hP : va_P D vwCl (fl [[(h0, .inr (3, [.int (iI (0)), .int (iI (0)), .int (iI (0)), .ref (q1), .ref (q2), .ref (q3), .ref (q4), .null, .null, .null, .null, .null, .null, .null, .null]))], rwW cI (q1) 2 ((uI ((uI (fun _ => 0) (0) (6))) (1) (10))), rwW cI (q2) 4 (fun _ => 0), rwW cI (q3) 4 (fun _ => 0), rwW cI (q4) 4 ((uI ((uI ((uI ((uI (fun _ => 0) (0) (100))) (1) (100))) (2) (100))) (3) (100)))]) H := hP
  have hD : va_D A (fl [[(h0, .inr (3, [.int (iI (0)), .int (iI (0)), .int (iI (0)), .ref (q1), .ref (q2), .ref (q3), .ref (q4), .null, .null, .null, .null, .null, .null, .null, .null]))], rwW cI (q1) 2 ((uI ((uI (fun _ => 0) (0) (6))) (1) (10))), rwW cI (q2) 4 (fun _ => 0), rwW cI (q3) 4 (fun _ => 0), rwW cI (q4) 4 ((uI ((uI ((uI ((uI (fun _ => 0) (0) (100))) (1) (100))) (2) (100))) (3) (100)))]) := hD
  refine lv_aload_n hx hb dX3_init_77 rfl (lv_at hl 0 rfl) ?_
  refine wi_bipush hx hb dX3_init_78 (by decide) ?_
  refine wn_newa hx hb (atype := .int) hw_6 rfl rfl hK hP hD hS hA 0 (cA := cI) rfl (fun _ _ z1 z2 => Option.some.inj (z1.symm.trans z2)) (n := 16) (N := 16) rfl (by decide) (by decide) (Nat.le_of_ble_eq_true rfl) (Nat.le_of_ble_eq_true rfl) dX3_init_80 (fun q5 H hP hD hS => ?_)
  have hP : va_P D vwCl (fl [[(h0, .inr (3, [.int (iI (0)), .int (iI (0)), .int (iI (0)), .ref (q1), .ref (q2), .ref (q3), .ref (q4), .null, .null, .null, .null, .null, .null, .null, .null]))], rwW cI (q1) 2 ((uI ((uI (fun _ => 0) (0) (6))) (1) (10))), rwW cI (q2) 4 (fun _ => 0), rwW cI (q3) 4 (fun _ => 0), rwW cI (q4) 4 ((uI ((uI ((uI ((uI (fun _ => 0) (0) (100))) (1) (100))) (2) (100))) (3) (100))), rwW cI (q5) 16 (fun _ => 0)]) H := hP
  have hD : va_D A (fl [[(h0, .inr (3, [.int (iI (0)), .int (iI (0)), .int (iI (0)), .ref (q1), .ref (q2), .ref (q3), .ref (q4), .null, .null, .null, .null, .null, .null, .null, .null]))], rwW cI (q1) 2 ((uI ((uI (fun _ => 0) (0) (6))) (1) (10))), rwW cI (q2) 4 (fun _ => 0), rwW cI (q3) 4 (fun _ => 0), rwW cI (q4) 4 ((uI ((uI ((uI ((uI (fun _ => 0) (0) (100))) (1) (100))) (2) (100))) (3) (100))), rwW cI (q5) 16 (fun _ => 0)]) := hD
  refine va_putF (D := D) (ci := 3) (v := .ref (q5)) (ty := tyX3 7) (C := RX3) (T := TX3) (N := 15) hx hb hts hin_X3 tyX3 tyX3_ok nmX3 hown hK hP hD hS 0 rfl rfl 7 (by decide) hw_11 (fun _ h9 => h9) rfl hin9 rfl (by decide +kernel) rfl rfl (Nat.le_of_ble_eq_true rfl) dX3_init_82 (fun H locs hP hD hS => ?_)
  have hP : va_P D vwCl (fl [[(h0, .inr (3, [.int (iI (0)), .int (iI (0)), .int (iI (0)), .ref (q1), .ref (q2), .ref (q3), .ref (q4), .ref (q5), .null, .null, .null, .null, .null, .null, .null]))], rwW cI (q1) 2 ((uI ((uI (fun _ => 0) (0) (6))) (1) (10))), rwW cI (q2) 4 (fun _ => 0), rwW cI (q3) 4 (fun _ => 0), rwW cI (q4) 4 ((uI ((uI ((uI ((uI (fun _ => 0) (0) (100))) (1) (100))) (2) (100))) (3) (100))), rwW cI (q5) 16 (fun _ => 0)]) H := hP
  have hD : va_D A (fl [[(h0, .inr (3, [.int (iI (0)), .int (iI (0)), .int (iI (0)), .ref (q1), .ref (q2), .ref (q3), .ref (q4), .ref (q5), .null, .null, .null, .null, .null, .null, .null]))], rwW cI (q1) 2 ((uI ((uI (fun _ => 0) (0) (6))) (1) (10))), rwW cI (q2) 4 (fun _ => 0), rwW cI (q3) 4 (fun _ => 0), rwW cI (q4) 4 ((uI ((uI ((uI ((uI (fun _ => 0) (0) (100))) (1) (100))) (2) (100))) (3) (100))), rwW cI (q5) 16 (fun _ => 0)]) := hD
  refine lv_aload_n hx hb dX3_init_85 rfl (lv_at hl 0 rfl) ?_
  refine wi_bipush hx hb dX3_init_86 (by decide) ?_
  refine wn_newa hx hb (atype := .int) hw_6 rfl rfl hK hP hD hS hA 0 (cA := cI) rfl (fun _ _ z1 z2 => Option.some.inj (z1.symm.trans z2)) (n := 16) (N := 16) rfl (by decide) (by decide) (Nat.le_of_ble_eq_true rfl) (Nat.le_of_ble_eq_true rfl) dX3_init_88 (fun q6 H hP hD hS => ?_)
  have hP : va_P D vwCl (fl [[(h0, .inr (3, [.int (iI (0)), .int (iI (0)), .int (iI (0)), .ref (q1), .ref (q2), .ref (q3), .ref (q4), .ref (q5), .null, .null, .null, .null, .null, .null, .null]))], rwW cI (q1) 2 ((uI ((uI (fun _ => 0) (0) (6))) (1) (10))), rwW cI (q2) 4 (fun _ => 0), rwW cI (q3) 4 (fun _ => 0), rwW cI (q4) 4 ((uI ((uI ((uI ((uI (fun _ => 0) (0) (100))) (1) (100))) (2) (100))) (3) (100))), rwW cI (q5) 16 (fun _ => 0), rwW cI (q6) 16 (fun _ => 0)]) H := hP
  have hD : va_D A (fl [[(h0, .inr (3, [.int (iI (0)), .int (iI (0)), .int (iI (0)), .ref (q1), .ref (q2), .ref (q3), .ref (q4), .ref (q5), .null, .null, .null, .null, .null, .null, .null]))], rwW cI (q1) 2 ((uI ((uI (fun _ => 0) (0) (6))) (1) (10))), rwW cI (q2) 4 (fun _ => 0), rwW cI (q3) 4 (fun _ => 0), rwW cI (q4) 4 ((uI ((uI ((uI ((uI (fun _ => 0) (0) (100))) (1) (100))) (2) (100))) (3) (100))), rwW cI (q5) 16 (fun _ => 0), rwW cI (q6) 16 (fun _ => 0)]) := hD
  refine va_putF (D := D) (ci := 3) (v := .ref (q6)) (ty := tyX3 8) (C := RX3) (T := TX3) (N := 15) hx hb hts hin_X3 tyX3 tyX3_ok nmX3 hown hK hP hD hS 0 rfl rfl 8 (by decide) hw_12 (fun _ h9 => h9) rfl hin9 rfl (by decide +kernel) rfl rfl (Nat.le_of_ble_eq_true rfl) dX3_init_90 (fun H locs hP hD hS => ?_)
  have hP : va_P D vwCl (fl [[(h0, .inr (3, [.int (iI (0)), .int (iI (0)), .int (iI (0)), .ref (q1), .ref (q2), .ref (q3), .ref (q4), .ref (q5), .ref (q6), .null, .null, .null, .null, .null, .null]))], rwW cI (q1) 2 ((uI ((uI (fun _ => 0) (0) (6))) (1) (10))), rwW cI (q2) 4 (fun _ => 0), rwW cI (q3) 4 (fun _ => 0), rwW cI (q4) 4 ((uI ((uI ((uI ((uI (fun _ => 0) (0) (100))) (1) (100))) (2) (100))) (3) (100))), rwW cI (q5) 16 (fun _ => 0), rwW cI (q6) 16 (fun _ => 0)]) H := hP
  have hD : va_D A (fl [[(h0, .inr (3, [.int (iI (0)), .int (iI (0)), .int (iI (0)), .ref (q1), .ref (q2), .ref (q3), .ref (q4), .ref (q5), .ref (q6), .null, .null, .null, .null, .null, .null]))], rwW cI (q1) 2 ((uI ((uI (fun _ => 0) (0) (6))) (1) (10))), rwW cI (q2) 4 (fun _ => 0), rwW cI (q3) 4 (fun _ => 0), rwW cI (q4) 4 ((uI ((uI ((uI ((uI (fun _ => 0) (0) (100))) (1) (100))) (2) (100))) (3) (100))), rwW cI (q5) 16 (fun _ => 0), rwW cI (q6) 16 (fun _ => 0)]) := hD
  refine lv_aload_n hx hb dX3_init_93 rfl (lv_at hl 0 rfl) ?_
  refine wi_bipush hx hb dX3_init_94 (by decide) ?_
  refine wn_newa hx hb (atype := .int) hw_6 rfl rfl hK hP hD hS hA 0 (cA := cI) rfl (fun _ _ z1 z2 => Option.some.inj (z1.symm.trans z2)) (n := 16) (N := 16) rfl (by decide) (by decide) (Nat.le_of_ble_eq_true rfl) (Nat.le_of_ble_eq_true rfl) dX3_init_96 (fun q7 H hP hD hS => ?_)
  have hP : va_P D vwCl (fl [[(h0, .inr (3, [.int (iI (0)), .int (iI (0)), .int (iI (0)), .ref (q1), .ref (q2), .ref (q3), .ref (q4), .ref (q5), .ref (q6), .null, .null, .null, .null, .null, .null]))], rwW cI (q1) 2 ((uI ((uI (fun _ => 0) (0) (6))) (1) (10))), rwW cI (q2) 4 (fun _ => 0), rwW cI (q3) 4 (fun _ => 0), rwW cI (q4) 4 ((uI ((uI ((uI ((uI (fun _ => 0) (0) (100))) (1) (100))) (2) (100))) (3) (100))), rwW cI (q5) 16 (fun _ => 0), rwW cI (q6) 16 (fun _ => 0), rwW cI (q7) 16 (fun _ => 0)]) H := hP
  have hD : va_D A (fl [[(h0, .inr (3, [.int (iI (0)), .int (iI (0)), .int (iI (0)), .ref (q1), .ref (q2), .ref (q3), .ref (q4), .ref (q5), .ref (q6), .null, .null, .null, .null, .null, .null]))], rwW cI (q1) 2 ((uI ((uI (fun _ => 0) (0) (6))) (1) (10))), rwW cI (q2) 4 (fun _ => 0), rwW cI (q3) 4 (fun _ => 0), rwW cI (q4) 4 ((uI ((uI ((uI ((uI (fun _ => 0) (0) (100))) (1) (100))) (2) (100))) (3) (100))), rwW cI (q5) 16 (fun _ => 0), rwW cI (q6) 16 (fun _ => 0), rwW cI (q7) 16 (fun _ => 0)]) := hD
  refine va_putF (D := D) (ci := 3) (v := .ref (q7)) (ty := tyX3 9) (C := RX3) (T := TX3) (N := 15) hx hb hts hin_X3 tyX3 tyX3_ok nmX3 hown hK hP hD hS 0 rfl rfl 9 (by decide) hw_13 (fun _ h9 => h9) rfl hin9 rfl (by decide +kernel) rfl rfl (Nat.le_of_ble_eq_true rfl) dX3_init_98 (fun H locs hP hD hS => ?_)
  have hP : va_P D vwCl (fl [[(h0, .inr (3, [.int (iI (0)), .int (iI (0)), .int (iI (0)), .ref (q1), .ref (q2), .ref (q3), .ref (q4), .ref (q5), .ref (q6), .ref (q7), .null, .null, .null, .null, .null]))], rwW cI (q1) 2 ((uI ((uI (fun _ => 0) (0) (6))) (1) (10))), rwW cI (q2) 4 (fun _ => 0), rwW cI (q3) 4 (fun _ => 0), rwW cI (q4) 4 ((uI ((uI ((uI ((uI (fun _ => 0) (0) (100))) (1) (100))) (2) (100))) (3) (100))), rwW cI (q5) 16 (fun _ => 0), rwW cI (q6) 16 (fun _ => 0), rwW cI (q7) 16 (fun _ => 0)]) H := hP
  have hD : va_D A (fl [[(h0, .inr (3, [.int (iI (0)), .int (iI (0)), .int (iI (0)), .ref (q1), .ref (q2), .ref (q3), .ref (q4), .ref (q5), .ref (q6), .ref (q7), .null, .null, .null, .null, .null]))], rwW cI (q1) 2 ((uI ((uI (fun _ => 0) (0) (6))) (1) (10))), rwW cI (q2) 4 (fun _ => 0), rwW cI (q3) 4 (fun _ => 0), rwW cI (q4) 4 ((uI ((uI ((uI ((uI (fun _ => 0) (0) (100))) (1) (100))) (2) (100))) (3) (100))), rwW cI (q5) 16 (fun _ => 0), rwW cI (q6) 16 (fun _ => 0), rwW cI (q7) 16 (fun _ => 0)]) := hD
  refine lv_aload_n hx hb dX3_init_101 rfl (lv_at hl 0 rfl) ?_
  refine wi_bipush hx hb dX3_init_102 (by decide) ?_
  refine wn_newa hx hb (atype := .int) hw_6 rfl rfl hK hP hD hS hA 0 (cA := cI) rfl (fun _ _ z1 z2 => Option.some.inj (z1.symm.trans z2)) (n := 16) (N := 16) rfl (by decide) (by decide) (Nat.le_of_ble_eq_true rfl) (Nat.le_of_ble_eq_true rfl) dX3_init_104 (fun q8 H hP hD hS => ?_)
  have hP : va_P D vwCl (fl [[(h0, .inr (3, [.int (iI (0)), .int (iI (0)), .int (iI (0)), .ref (q1), .ref (q2), .ref (q3), .ref (q4), .ref (q5), .ref (q6), .ref (q7), .null, .null, .null, .null, .null]))], rwW cI (q1) 2 ((uI ((uI (fun _ => 0) (0) (6))) (1) (10))), rwW cI (q2) 4 (fun _ => 0), rwW cI (q3) 4 (fun _ => 0), rwW cI (q4) 4 ((uI ((uI ((uI ((uI (fun _ => 0) (0) (100))) (1) (100))) (2) (100))) (3) (100))), rwW cI (q5) 16 (fun _ => 0), rwW cI (q6) 16 (fun _ => 0), rwW cI (q7) 16 (fun _ => 0), rwW cI (q8) 16 (fun _ => 0)]) H := hP
  have hD : va_D A (fl [[(h0, .inr (3, [.int (iI (0)), .int (iI (0)), .int (iI (0)), .ref (q1), .ref (q2), .ref (q3), .ref (q4), .ref (q5), .ref (q6), .ref (q7), .null, .null, .null, .null, .null]))], rwW cI (q1) 2 ((uI ((uI (fun _ => 0) (0) (6))) (1) (10))), rwW cI (q2) 4 (fun _ => 0), rwW cI (q3) 4 (fun _ => 0), rwW cI (q4) 4 ((uI ((uI ((uI ((uI (fun _ => 0) (0) (100))) (1) (100))) (2) (100))) (3) (100))), rwW cI (q5) 16 (fun _ => 0), rwW cI (q6) 16 (fun _ => 0), rwW cI (q7) 16 (fun _ => 0), rwW cI (q8) 16 (fun _ => 0)]) := hD
  refine va_putF (D := D) (ci := 3) (v := .ref (q8)) (ty := tyX3 10) (C := RX3) (T := TX3) (N := 15) hx hb hts hin_X3 tyX3 tyX3_ok nmX3 hown hK hP hD hS 0 rfl rfl 10 (by decide) hw_14 (fun _ h9 => h9) rfl hin9 rfl (by decide +kernel) rfl rfl (Nat.le_of_ble_eq_true rfl) dX3_init_106 (fun H locs hP hD hS => ?_)
  have hP : va_P D vwCl (fl [[(h0, .inr (3, [.int (iI (0)), .int (iI (0)), .int (iI (0)), .ref (q1), .ref (q2), .ref (q3), .ref (q4), .ref (q5), .ref (q6), .ref (q7), .ref (q8), .null, .null, .null, .null]))], rwW cI (q1) 2 ((uI ((uI (fun _ => 0) (0) (6))) (1) (10))), rwW cI (q2) 4 (fun _ => 0), rwW cI (q3) 4 (fun _ => 0), rwW cI (q4) 4 ((uI ((uI ((uI ((uI (fun _ => 0) (0) (100))) (1) (100))) (2) (100))) (3) (100))), rwW cI (q5) 16 (fun _ => 0), rwW cI (q6) 16 (fun _ => 0), rwW cI (q7) 16 (fun _ => 0), rwW cI (q8) 16 (fun _ => 0)]) H := hP
  have hD : va_D A (fl [[(h0, .inr (3, [.int (iI (0)), .int (iI (0)), .int (iI (0)), .ref (q1), .ref (q2), .ref (q3), .ref (q4), .ref (q5), .ref (q6), .ref (q7), .ref (q8), .null, .null, .null, .null]))], rwW cI (q1) 2 ((uI ((uI (fun _ => 0) (0) (6))) (1) (10))), rwW cI (q2) 4 (fun _ => 0), rwW cI (q3) 4 (fun _ => 0), rwW cI (q4) 4 ((uI ((uI ((uI ((uI (fun _ => 0) (0) (100))) (1) (100))) (2) (100))) (3) (100))), rwW cI (q5) 16 (fun _ => 0), rwW cI (q6) 16 (fun _ => 0), rwW cI (q7) 16 (fun _ => 0), rwW cI (q8) 16 (fun _ => 0)]) := hD
  refine lv_aload_n hx hb dX3_init_109 rfl (lv_at hl 0 rfl) ?_
  refine wi_bipush hx hb dX3_init_110 (by decide) ?_
  refine wn_newa hx hb (atype := .int) hw_6 rfl rfl hK hP hD hS hA 0 (cA := cI) rfl (fun _ _ z1 z2 => Option.some.inj (z1.symm.trans z2)) (n := 16) (N := 16) rfl (by decide) (by decide) (Nat.le_of_ble_eq_true rfl) (Nat.le_of_ble_eq_true rfl) dX3_init_112 (fun q9 H hP hD hS => ?_)
  have hP : va_P D vwCl (fl [[(h0, .inr (3, [.int (iI (0)), .int (iI (0)), .int (iI (0)), .ref (q1), .ref (q2), .ref (q3), .ref (q4), .ref (q5), .ref (q6), .ref (q7), .ref (q8), .null, .null, .null, .null]))], rwW cI (q1) 2 ((uI ((uI (fun _ => 0) (0) (6))) (1) (10))), rwW cI (q2) 4 (fun _ => 0), rwW cI (q3) 4 (fun _ => 0), rwW cI (q4) 4 ((uI ((uI ((uI ((uI (fun _ => 0) (0) (100))) (1) (100))) (2) (100))) (3) (100))), rwW cI (q5) 16 (fun _ => 0), rwW cI (q6) 16 (fun _ => 0), rwW cI (q7) 16 (fun _ => 0), rwW cI (q8) 16 (fun _ => 0), rwW cI (q9) 16 (fun _ => 0)]) H := hP
  have hD : va_D A (fl [[(h0, .inr (3, [.int (iI (0)), .int (iI (0)), .int (iI (0)), .ref (q1), .ref (q2), .ref (q3), .ref (q4), .ref (q5), .ref (q6), .ref (q7), .ref (q8), .null, .null, .null, .null]))], rwW cI (q1) 2 ((uI ((uI (fun _ => 0) (0) (6))) (1) (10))), rwW cI (q2) 4 (fun _ => 0), rwW cI (q3) 4 (fun _ => 0), rwW cI (q4) 4 ((uI ((uI ((uI ((uI (fun _ => 0) (0) (100))) (1) (100))) (2) (100))) (3) (100))), rwW cI (q5) 16 (fun _ => 0), rwW cI (q6) 16 (fun _ => 0), rwW cI (q7) 16 (fun _ => 0), rwW cI (q8) 16 (fun _ => 0), rwW cI (q9) 16 (fun _ => 0)]) := hD
  refine va_putF (D := D) (ci := 3) (v := .ref (q9)) (ty := tyX3 11) (C := RX3) (T := TX3) (N := 15) hx hb hts hin_X3 tyX3 tyX3_ok nmX3 hown hK hP hD hS 0 rfl rfl 11 (by decide) hw_15 (fun _ h9 => h9) rfl hin9 rfl (by decide +kernel) rfl rfl (Nat.le_of_ble_eq_true rfl) dX3_init_114 (fun H locs hP hD hS => ?_)
  have hP : va_P D vwCl (fl [[(h0, .inr (3, [.int (iI (0)), .int (iI (0)), .int (iI (0)), .ref (q1), .ref (q2), .ref (q3), .ref (q4), .ref (q5), .ref (q6), .ref (q7), .ref (q8), .ref (q9), .null, .null, .null]))], rwW cI (q1) 2 ((uI ((uI (fun _ => 0) (0) (6))) (1) (10))), rwW cI (q2) 4 (fun _ => 0), rwW cI (q3) 4 (fun _ => 0), rwW cI (q4) 4 ((uI ((uI ((uI ((uI (fun _ => 0) (0) (100))) (1) (100))) (2) (100))) (3) (100))), rwW cI (q5) 16 (fun _ => 0), rwW cI (q6) 16 (fun _ => 0), rwW cI (q7) 16 (fun _ => 0), rwW cI (q8) 16 (fun _ => 0), rwW cI (q9) 16 (fun _ => 0)]) H := hP
  have hD : va_D A (fl [[(h0, .inr (3, [.int (iI (0)), .int (iI (0)), .int (iI (0)), .ref (q1), .ref (q2), .ref (q3), .ref (q4), .ref (q5), .ref (q6), .ref (q7), .ref (q8), .ref (q9), .null, .null, .null]))], rwW cI (q1) 2 ((uI ((uI (fun _ => 0) (0) (6))) (1) (10))), rwW cI (q2) 4 (fun _ => 0), rwW cI (q3) 4 (fun _ => 0), rwW cI (q4) 4 ((uI ((uI ((uI ((uI (fun _ => 0) (0) (100))) (1) (100))) (2) (100))) (3) (100))), rwW cI (q5) 16 (fun _ => 0), rwW cI (q6) 16 (fun _ => 0), rwW cI (q7) 16 (fun _ => 0), rwW cI (q8) 16 (fun _ => 0), rwW cI (q9) 16 (fun _ => 0)]) := hD
  refine lv_aload_n hx hb dX3_init_117 rfl (lv_at hl 0 rfl) ?_
  refine wi_bipush hx hb dX3_init_118 (by decide) ?_
  refine wn_newa hx hb (atype := .int) hw_6 rfl rfl hK hP hD hS hA 0 (cA := cI) rfl (fun _ _ z1 z2 => Option.some.inj (z1.symm.trans z2)) (n := 6) (N := 6) rfl (by decide) (by decide) (Nat.le_of_ble_eq_true rfl) (Nat.le_of_ble_eq_true rfl) dX3_init_120 (fun q10 H hP hD hS => ?_)
  have hP : va_P D vwCl (fl [[(h0, .inr (3, [.int (iI (0)), .int (iI (0)), .int (iI (0)), .ref (q1), .ref (q2), .ref (q3), .ref (q4), .ref (q5), .ref (q6), .ref (q7), .ref (q8), .ref (q9), .null, .null, .null]))], rwW cI (q1) 2 ((uI ((uI (fun _ => 0) (0) (6))) (1) (10))), rwW cI (q2) 4 (fun _ => 0), rwW cI (q3) 4 (fun _ => 0), rwW cI (q4) 4 ((uI ((uI ((uI ((uI (fun _ => 0) (0) (100))) (1) (100))) (2) (100))) (3) (100))), rwW cI (q5) 16 (fun _ => 0), rwW cI (q6) 16 (fun _ => 0), rwW cI (q7) 16 (fun _ => 0), rwW cI (q8) 16 (fun _ => 0), rwW cI (q9) 16 (fun _ => 0), rwW cI (q10) 6 (fun _ => 0)]) H := hP
  have hD : va_D A (fl [[(h0, .inr (3, [.int (iI (0)), .int (iI (0)), .int (iI (0)), .ref (q1), .ref (q2), .ref (q3), .ref (q4), .ref (q5), .ref (q6), .ref (q7), .ref (q8), .ref (q9), .null, .null, .null]))], rwW cI (q1) 2 ((uI ((uI (fun _ => 0) (0) (6))) (1) (10))), rwW cI (q2) 4 (fun _ => 0), rwW cI (q3) 4 (fun _ => 0), rwW cI (q4) 4 ((uI ((uI ((uI ((uI (fun _ => 0) (0) (100))) (1) (100))) (2) (100))) (3) (100))), rwW cI (q5) 16 (fun _ => 0), rwW cI (q6) 16 (fun _ => 0), rwW cI (q7) 16 (fun _ => 0), rwW cI (q8) 16 (fun _ => 0), rwW cI (q9) 16 (fun _ => 0), rwW cI (q10) 6 (fun _ => 0)]) := hD
  refine va_putF (D := D) (ci := 3) (v := .ref (q10)) (ty := tyX3 12) (C := RX3) (T := TX3) (N := 15) hx hb hts hin_X3 tyX3 tyX3_ok nmX3 hown hK hP hD hS 0 rfl rfl 12 (by decide) hw_16 (fun _ h9 => h9) rfl hin9 rfl (by decide +kernel) rfl rfl (Nat.le_of_ble_eq_true rfl) dX3_init_122 (fun H locs hP hD hS => ?_)
  have hP : va_P D vwCl (fl [[(h0, .inr (3, [.int (iI (0)), .int (iI (0)), .int (iI (0)), .ref (q1), .ref (q2), .ref (q3), .ref (q4), .ref (q5), .ref (q6), .ref (q7), .ref (q8), .ref (q9), .ref (q10), .null, .null]))], rwW cI (q1) 2 ((uI ((uI (fun _ => 0) (0) (6))) (1) (10))), rwW cI (q2) 4 (fun _ => 0), rwW cI (q3) 4 (fun _ => 0), rwW cI (q4) 4 ((uI ((uI ((uI ((uI (fun _ => 0) (0) (100))) (1) (100))) (2) (100))) (3) (100))), rwW cI (q5) 16 (fun _ => 0), rwW cI (q6) 16 (fun _ => 0), rwW cI (q7) 16 (fun _ => 0), rwW cI (q8) 16 (fun _ => 0), rwW cI (q9) 16 (fun _ => 0), rwW cI (q10) 6 (fun _ => 0)]) H := hP
  have hD : va_D A (fl [[(h0, .inr (3, [.int (iI (0)), .int (iI (0)), .int (iI (0)), .ref (q1), .ref (q2), .ref (q3), .ref (q4), .ref (q5), .ref (q6), .ref (q7), .ref (q8), .ref (q9), .ref (q10), .null, .null]))], rwW cI (q1) 2 ((uI ((uI (fun _ => 0) (0) (6))) (1) (10))), rwW cI (q2) 4 (fun _ => 0), rwW cI (q3) 4 (fun _ => 0), rwW cI (q4) 4 ((uI ((uI ((uI ((uI (fun _ => 0) (0) (100))) (1) (100))) (2) (100))) (3) (100))), rwW cI (q5) 16 (fun _ => 0), rwW cI (q6) 16 (fun _ => 0), rwW cI (q7) 16 (fun _ => 0), rwW cI (q8) 16 (fun _ => 0), rwW cI (q9) 16 (fun _ => 0), rwW cI (q10) 6 (fun _ => 0)]) := hD
  refine lv_aload_n hx hb dX3_init_125 rfl (lv_at hl 0 rfl) ?_
  refine wi_bipush hx hb dX3_init_126 (by decide) ?_
  refine wn_newa hx hb (atype := .int) hw_6 rfl rfl hK hP hD hS hA 0 (cA := cI) rfl (fun _ _ z1 z2 => Option.some.inj (z1.symm.trans z2)) (n := 6) (N := 6) rfl (by decide) (by decide) (Nat.le_of_ble_eq_true rfl) (Nat.le_of_ble_eq_true rfl) dX3_init_128 (fun q11 H hP hD hS => ?_)
  have hP : va_P D vwCl (fl [[(h0, .inr (3, [.int (iI (0)), .int (iI (0)), .int (iI (0)), .ref (q1), .ref (q2), .ref (q3), .ref (q4), .ref (q5), .ref (q6), .ref (q7), .ref (q8), .ref (q9), .ref (q10), .null, .null]))], rwW cI (q1) 2 ((uI ((uI (fun _ => 0) (0) (6))) (1) (10))), rwW cI (q2) 4 (fun _ => 0), rwW cI (q3) 4 (fun _ => 0), rwW cI (q4) 4 ((uI ((uI ((uI ((uI (fun _ => 0) (0) (100))) (1) (100))) (2) (100))) (3) (100))), rwW cI (q5) 16 (fun _ => 0), rwW cI (q6) 16 (fun _ => 0), rwW cI (q7) 16 (fun _ => 0), rwW cI (q8) 16 (fun _ => 0), rwW cI (q9) 16 (fun _ => 0), rwW cI (q10) 6 (fun _ => 0), rwW cI (q11) 6 (fun _ => 0)]) H := hP
  have hD : va_D A (fl [[(h0, .inr (3, [.int (iI (0)), .int (iI (0)), .int (iI (0)), .ref (q1), .ref (q2), .ref (q3), .ref (q4), .ref (q5), .ref (q6), .ref (q7), .ref (q8), .ref (q9), .ref (q10), .null, .null]))], rwW cI (q1) 2 ((uI ((uI (fun _ => 0) (0) (6))) (1) (10))), rwW cI (q2) 4 (fun _ => 0), rwW cI (q3) 4 (fun _ => 0), rwW cI (q4) 4 ((uI ((uI ((uI ((uI (fun _ => 0) (0) (100))) (1) (100))) (2) (100))) (3) (100))), rwW cI (q5) 16 (fun _ => 0), rwW cI (q6) 16 (fun _ => 0), rwW cI (q7) 16 (fun _ => 0), rwW cI (q8) 16 (fun _ => 0), rwW cI (q9) 16 (fun _ => 0), rwW cI (q10) 6 (fun _ => 0), rwW cI (q11) 6 (fun _ => 0)]) := hD
  refine va_putF (D := D) (ci := 3) (v := .ref (q11)) (ty := tyX3 13) (C := RX3) (T := TX3) (N := 15) hx hb hts hin_X3 tyX3 tyX3_ok nmX3 hown hK hP hD hS 0 rfl rfl 13 (by decide) hw_17 (fun _ h9 => h9) rfl hin9 rfl (by decide +kernel) rfl rfl (Nat.le_of_ble_eq_true rfl) dX3_init_130 (fun H locs hP hD hS => ?_)
  have hP : va_P D vwCl (fl [[(h0, .inr (3, [.int (iI (0)), .int (iI (0)), .int (iI (0)), .ref (q1), .ref (q2), .ref (q3), .ref (q4), .ref (q5), .ref (q6), .ref (q7), .ref (q8), .ref (q9), .ref (q10), .ref (q11), .null]))], rwW cI (q1) 2 ((uI ((uI (fun _ => 0) (0) (6))) (1) (10))), rwW cI (q2) 4 (fun _ => 0), rwW cI (q3) 4 (fun _ => 0), rwW cI (q4) 4 ((uI ((uI ((uI ((uI (fun _ => 0) (0) (100))) (1) (100))) (2) (100))) (3) (100))), rwW cI (q5) 16 (fun _ => 0), rwW cI (q6) 16 (fun _ => 0), rwW cI (q7) 16 (fun _ => 0), rwW cI (q8) 16 (fun _ => 0), rwW cI (q9) 16 (fun _ => 0), rwW cI (q10) 6 (fun _ => 0), rwW cI (q11) 6 (fun _ => 0)]) H := hP
  have hD : va_D A (fl [[(h0, .inr (3, [.int (iI (0)), .int (iI (0)), .int (iI (0)), .ref (q1), .ref (q2), .ref (q3), .ref (q4), .ref (q5), .ref (q6), .ref (q7), .ref (q8), .ref (q9), .ref (q10), .ref (q11), .null]))], rwW cI (q1) 2 ((uI ((uI (fun _ => 0) (0) (6))) (1) (10))), rwW cI (q2) 4 (fun _ => 0), rwW cI (q3) 4 (fun _ => 0), rwW cI (q4) 4 ((uI ((uI ((uI ((uI (fun _ => 0) (0) (100))) (1) (100))) (2) (100))) (3) (100))), rwW cI (q5) 16 (fun _ => 0), rwW cI (q6) 16 (fun _ => 0), rwW cI (q7) 16 (fun _ => 0), rwW cI (q8) 16 (fun _ => 0), rwW cI (q9) 16 (fun _ => 0), rwW cI (q10) 6 (fun _ => 0), rwW cI (q11) 6 (fun _ => 0)]) := hD
  refine lv_aload_n hx hb dX3_init_133 rfl (lv_at hl 0 rfl) ?_
  refine wi_bipush hx hb dX3_init_134 (by decide) ?_
  refine wn_newa hx hb (atype := .int) hw_6 rfl rfl hK hP hD hS hA 0 (cA := cI) rfl (fun _ _ z1 z2 => Option.some.inj (z1.symm.trans z2)) (n := 6) (N := 6) rfl (by decide) (by decide) (Nat.le_of_ble_eq_true rfl) (Nat.le_of_ble_eq_true rfl) dX3_init_136 (fun q12 H hP hD hS => ?_)
  have hP : va_P D vwCl (fl [[(h0, .inr (3, [.int (iI (0)), .int (iI (0)), .int (iI (0)), .ref (q1), .ref (q2), .ref (q3), .ref (q4), .ref (q5), .ref (q6), .ref (q7), .ref (q8), .ref (q9), .ref (q10), .ref (q11), .null]))], rwW cI (q1) 2 ((uI ((uI (fun _ => 0) (0) (6))) (1) (10))), rwW cI (q2) 4 (fun _ => 0), rwW cI (q3) 4 (fun _ => 0), rwW cI (q4) 4 ((uI ((uI ((uI ((uI (fun _ => 0) (0) (100))) (1) (100))) (2) (100))) (3) (100))), rwW cI (q5) 16 (fun _ => 0), rwW cI (q6) 16 (fun _ => 0), rwW cI (q7) 16 (fun _ => 0), rwW cI (q8) 16 (fun _ => 0), rwW cI (q9) 16 (fun _ => 0), rwW cI (q10) 6 (fun _ => 0), rwW cI (q11) 6 (fun _ => 0), rwW cI (q12) 6 (fun _ => 0)]) H := hP
  have hD : va_D A (fl [[(h0, .inr (3, [.int (iI (0)), .int (iI (0)), .int (iI (0)), .ref (q1), .ref (q2), .ref (q3), .ref (q4), .ref (q5), .ref (q6), .ref (q7), .ref (q8), .ref (q9), .ref (q10), .ref (q11), .null]))], rwW cI (q1) 2 ((uI ((uI (fun _ => 0) (0) (6))) (1) (10))), rwW cI (q2) 4 (fun _ => 0), rwW cI (q3) 4 (fun _ => 0), rwW cI (q4) 4 ((uI ((uI ((uI ((uI (fun _ => 0) (0) (100))) (1) (100))) (2) (100))) (3) (100))), rwW cI (q5) 16 (fun _ => 0), rwW cI (q6) 16 (fun _ => 0), rwW cI (q7) 16 (fun _ => 0), rwW cI (q8) 16 (fun _ => 0), rwW cI (q9) 16 (fun _ => 0), rwW cI (q10) 6 (fun _ => 0), rwW cI (q11) 6 (fun _ => 0), rwW cI (q12) 6 (fun _ => 0)]) := hD
  refine va_putF (D := D) (ci := 3) (v := .ref (q12)) (ty := tyX3 14) (C := RX3) (T := TX3) (N := 15) hx hb hts hin_X3 tyX3 tyX3_ok nmX3 hown hK hP hD hS 0 rfl rfl 14 (by decide) hw_18 (fun _ h9 => h9) rfl hin9 rfl (by decide +kernel) rfl rfl (Nat.le_of_ble_eq_true rfl) dX3_init_138 (fun H locs hP hD hS => ?_)
  have hP : va_P D vwCl (fl [[(h0, .inr (3, [.int (iI (0)), .int (iI (0)), .int (iI (0)), .ref (q1), .ref (q2), .ref (q3), .ref (q4), .ref (q5), .ref (q6), .ref (q7), .ref (q8), .ref (q9), .ref (q10), .ref (q11), .ref (q12)]))], rwW cI (q1) 2 ((uI ((uI (fun _ => 0) (0) (6))) (1) (10))), rwW cI (q2) 4 (fun _ => 0), rwW cI (q3) 4 (fun _ => 0), rwW cI (q4) 4 ((uI ((uI ((uI ((uI (fun _ => 0) (0) (100))) (1) (100))) (2) (100))) (3) (100))), rwW cI (q5) 16 (fun _ => 0), rwW cI (q6) 16 (fun _ => 0), rwW cI (q7) 16 (fun _ => 0), rwW cI (q8) 16 (fun _ => 0), rwW cI (q9) 16 (fun _ => 0), rwW cI (q10) 6 (fun _ => 0), rwW cI (q11) 6 (fun _ => 0), rwW cI (q12) 6 (fun _ => 0)]) H := hP
  have hD : va_D A (fl [[(h0, .inr (3, [.int (iI (0)), .int (iI (0)), .int (iI (0)), .ref (q1), .ref (q2), .ref (q3), .ref (q4), .ref (q5), .ref (q6), .ref (q7), .ref (q8), .ref (q9), .ref (q10), .ref (q11), .ref (q12)]))], rwW cI (q1) 2 ((uI ((uI (fun _ => 0) (0) (6))) (1) (10))), rwW cI (q2) 4 (fun _ => 0), rwW cI (q3) 4 (fun _ => 0), rwW cI (q4) 4 ((uI ((uI ((uI ((uI (fun _ => 0) (0) (100))) (1) (100))) (2) (100))) (3) (100))), rwW cI (q5) 16 (fun _ => 0), rwW cI (q6) 16 (fun _ => 0), rwW cI (q7) 16 (fun _ => 0), rwW cI (q8) 16 (fun _ => 0), rwW cI (q9) 16 (fun _ => 0), rwW cI (q10) 6 (fun _ => 0), rwW cI (q11) 6 (fun _ => 0), rwW cI (q12) 6 (fun _ => 0)]) := hD
  have hP : va_P D vwCl (fl [stW cI (adr [h0, q1, q2, q3, q4, q5, q6, q7, q8, q9, q10, q11, q12]) s0S]) H := hP
  have hD : va_D A (fl [stW cI (adr [h0, q1, q2, q3, q4, q5, q6, q7, q8, q9, q10, q11, q12]) s0S]) := hD
  exact W.vret hx hb hr (fun t9 ht9 hW9 => ⟨⟨(adr [h0, q1, q2, q3, q4, q5, q6, q7, q8, q9, q10, q11, q12]), rfl, (rfl), ⟨by rw [ht9]; exact hP, va_K.moved hW9.alike hK, hD⟩⟩, hS.F ht9⟩) hS.2.2 dX3_init_141 hlocks
set_option maxHeartbeats 4000000 in
set_option maxRecDepth 100000 in
theorem c_X1_init (l : Launch) (D : va_G) (cI cO cC cL : ClassId) (sz : Nat) (h0 : Nat)  : Met l yX1_init wsX1_init ({ frames := 1, cells := 1, slots := 1585, locals := 24 } : Room) (pcW D [(cI, FieldType.int)] [.ref (h0)] (fl [[(h0, .inr (1, [.null]))]]) sz) (va_Qv (fun (o : Nat → Nat) => o 0 = h0) (fun (o : Nat → Nat) => (bW D [(cI, FieldType.int)] (fl [ocW cI o z0S]) (va_A (fl [[(h0, .inr (1, [.null]))]]) sz))) (va_A (fl [[(h0, .inr (1, [.null]))]]) sz)) 1 1585 (va_A (fl [[(h0, .inr (1, [.null]))]]) sz) := by
  refine Met.ofW (cc := cX1_init) (maxL := 1) (ret := none) (by decide) rfl ?_
  intro p9 e9 s m args9 below9 meth9 c9 s₁ B hml hv
  obtain ⟨rfl, hsz, hP, hK, hD0⟩ := hv
  have hx := B.exec
  have hb := B.bytes
  have hr := B.returns
  have hts := atoms_spec (ws := wsX1_init) B.pre
  have hown : s.vm.findClass RX1 = some m.cls := findClass_of_methodNamed B.named
  have hlocks := B.notSynchronized
  have hin9 : meth9.name = "<init>" := (name_of_methodNamed B.named B.method).1
  subst hsz
  have hD := hD0.self (sz := s.heap.size)
  generalize hAe : va_A (fl [[(h0, .inr (1, [.null]))]]) s.heap.size = A at hD ⊢
  have hA : ∀ q : Nat, s.heap.size ≤ q → A q := fun q h => by rw [← hAe]; exact Or.inr h
  have hS : va_S A s.heap s.heap [] := va_S.rf
  have hP : va_P D vwCl (fl [[(h0, .inr (1, [.null]))]]) s.heap := hP
  have hl := lv_entry ([.ref (h0)]) (n := 1) (Nat.le_of_ble_eq_true rfl)
  rw [lg_entry_eq]
  generalize (lg_sl ([.ref (h0)]) ++ List.replicate (1 - (lg_sl ([.ref (h0)])).length) Slot.unset).toArray = ls at hl ⊢
  have hl : lv_has ls 1 [(0, .ref (h0))] := hl
  have hw_0 := hts (.methodLink RX1 3 objectInit) (by decide +kernel)
  have hw_1 := hts (.instanceMethod objectInit) (by decide +kernel)
  have hw_2 := hts (.code objectInit ⟨#[0xb1]⟩ 1 none) (by decide +kernel)
  have hw_3 := hts (.arrayClass .int) (by decide +kernel)
  have hw_4 := hts (.fieldLink RX1 9 "PromisedCounters$Outcomes" "fewest" "[I") (by decide +kernel)
  have hin_X1 : ∀ w ∈ u_ws RX1 TX1 1, w ∈ wsX1_init := by decide +kernel
  refine lv_aload_n hx hb dX1_init_0 rfl (lv_at hl 0 rfl) ?_
  refine W.objInit hx hb hown hw_0 hw_1 hw_2 rfl (by rw [hml]; exact hl.1) rfl dX1_init_1 (Nat.le_of_ble_eq_true rfl) (Nat.le_of_ble_eq_true rfl) ?_
  show W p9 l e9 ({ frames := 1, cells := 1, slots := 1585, locals := 24 } : Room) s m ([.ref (h0)] : List Value).toArray below9 meth9 c9 s.heap [] 0 0 (MQ below9 (va_Qv (fun (o : Nat → Nat) => o 0 = h0) (fun (o : Nat → Nat) => (bW D [(cI, FieldType.int)] (fl [ocW cI o z0S]) A)) A) ([.ref (h0)] : List Value).toArray s 1 1585 A) (F0 m 4 ls [])
  refine lv_aload_n hx hb dX1_init_4 rfl (lv_at hl 0 rfl) ?_
  refine wi_sipush hx hb dX1_init_5 (by decide) ?_
  refine wn_newa hx hb (atype := .int) hw_3 rfl rfl hK hP hD hS hA 0 (cA := cI) rfl (fun _ _ z1 z2 => Option.some.inj (z1.symm.trans z2)) (n := 1585) (N := 1585) rfl (by decide) (by decide) (Nat.le_of_ble_eq_true rfl) (Nat.le_of_ble_eq_true rfl) dX1_init_8 (fun q1 H hP hD hS => ?_)
  have hP : va_P D vwCl (fl [[(h0, .inr (1, [.null]))], rwW cI (q1) 1585 (fun _ => 0)]) H := hP
  have hD : va_D A (fl [[(h0, .inr (1, [.null]))], rwW cI (q1) 1585 (fun _ => 0)]) := hD
  refine va_putF (D := D) (ci := 1) (v := .ref (q1)) (ty := tyX1 0) (C := RX1) (T := TX1) (N := 1) hx hb hts hin_X1 tyX1 tyX1_ok nmX1 hown hK hP hD hS 0 rfl rfl 0 (by decide) hw_4 (fun _ h9 => h9) rfl hin9 rfl (by decide +kernel) rfl rfl (Nat.le_of_ble_eq_true rfl) dX1_init_10 (fun H locs hP hD hS => ?_)
  have hP : va_P D vwCl (fl [[(h0, .inr (1, [.ref (q1)]))], rwW cI (q1) 1585 (fun _ => 0)]) H := hP
  have hD : va_D A (fl [[(h0, .inr (1, [.ref (q1)]))], rwW cI (q1) 1585 (fun _ => 0)]) := hD
  have hP : va_P D vwCl (fl [ocW cI (adr [h0, q1]) z0S]) H := hP
  have hD : va_D A (fl [ocW cI (adr [h0, q1]) z0S]) := hD
  exact W.vret hx hb hr (fun t9 ht9 hW9 => ⟨⟨(adr [h0, q1]), rfl, (rfl), ⟨by rw [ht9]; exact hP, va_K.moved hW9.alike hK, hD⟩⟩, hS.F ht9⟩) hS.2.2 dX1_init_13 hlocks
set_option maxHeartbeats 4000000 in
set_option maxRecDepth 100000 in
theorem c_X0_init (l : Launch) (D : va_G) (cI cO cC cL : ClassId) (sz : Nat) (h0 : Nat)  : Met l yX0_init wsX0_init ({ frames := 1, cells := 0, slots := 0, locals := 24 } : Room) (pcW D [(cI, FieldType.int)] [.ref (h0)] (fl [[(h0, .inr (0, [.int 0, .int 0, .int 0, .int 0, .int 0, .int 0]))]]) sz) (va_Qv (fun (_ : Unit) => True) (fun (_ : Unit) => (bW D [(cI, FieldType.int)] (fl [rdW (fun _ => h0) (fun _ => uI (uI (uI (uI (uI (uI (fun _ => 0) 0 0) 1 0) 2 0) 3 0) 4 (-1)) 5 0)]) (va_A (fl [[(h0, .inr (0, [.int 0, .int 0, .int 0, .int 0, .int 0, .int 0]))]]) sz))) (va_A (fl [[(h0, .inr (0, [.int 0, .int 0, .int 0, .int 0, .int 0, .int 0]))]]) sz)) 0 0 (va_A (fl [[(h0, .inr (0, [.int 0, .int 0, .int 0, .int 0, .int 0, .int 0]))]]) sz) := by
  refine Met.ofW (cc := cX0_init) (maxL := 1) (ret := none) (by decide) rfl ?_
  intro p9 e9 s m args9 below9 meth9 c9 s₁ B hml hv
  obtain ⟨rfl, hsz, hP, hK, hD0⟩ := hv
  have hx := B.exec
  have hb := B.bytes
  have hr := B.returns
  have hts := atoms_spec (ws := wsX0_init) B.pre
  have hown : s.vm.findClass RX0 = some m.cls := findClass_of_methodNamed B.named
  have hlocks := B.notSynchronized
  have hin9 : meth9.name = "<init>" := (name_of_methodNamed B.named B.method).1
  subst hsz
  have hD := hD0.self (sz := s.heap.size)
  generalize hAe : va_A (fl [[(h0, .inr (0, [.int 0, .int 0, .int 0, .int 0, .int 0, .int 0]))]]) s.heap.size = A at hD ⊢
  have hA : ∀ q : Nat, s.heap.size ≤ q → A q := fun q h => by rw [← hAe]; exact Or.inr h
  have hS : va_S A s.heap s.heap [] := va_S.rf
  have hP : va_P D vwCl (fl [[(h0, .inr (0, [.int 0, .int 0, .int 0, .int 0, .int 0, .int 0]))]]) s.heap := hP
  have hl := lv_entry ([.ref (h0)]) (n := 1) (Nat.le_of_ble_eq_true rfl)
  rw [lg_entry_eq]
  generalize (lg_sl ([.ref (h0)]) ++ List.replicate (1 - (lg_sl ([.ref (h0)])).length) Slot.unset).toArray = ls at hl ⊢
  have hl : lv_has ls 1 [(0, .ref (h0))] := hl
  have hw_0 := hts (.methodLink RX0 3 objectInit) (by decide +kernel)
  have hw_1 := hts (.instanceMethod objectInit) (by decide +kernel)
  have hw_2 := hts (.code objectInit ⟨#[0xb1]⟩ 1 none) (by decide +kernel)
  have hw_3 := hts (.fieldLink RX0 11 "PromisedCounters$ChangeReader" "place" "I") (by decide +kernel)
  have hin_X0 : ∀ w ∈ u_ws RX0 TX0 6, w ∈ wsX0_init := by decide +kernel
  have hw_4 := hts (.fieldLink RX0 15 "PromisedCounters$ChangeReader" "isBelow" "Z") (by decide +kernel)
  have hw_5 := hts (.fieldLink RX0 19 "PromisedCounters$ChangeReader" "size" "I") (by decide +kernel)
  have hw_6 := hts (.fieldLink RX0 22 "PromisedCounters$ChangeReader" "from" "I") (by decide +kernel)
  have hw_7 := hts (.fieldLink RX0 25 "PromisedCounters$ChangeReader" "to" "I") (by decide +kernel)
  have hw_8 := hts (.fieldLink RX0 28 "PromisedCounters$ChangeReader" "who" "I") (by decide +kernel)
  refine lv_aload_n hx hb dX0_init_0 rfl (lv_at hl 0 rfl) ?_
  refine W.objInit hx hb hown hw_0 hw_1 hw_2 rfl (by rw [hml]; exact hl.1) rfl dX0_init_1 (Nat.le_of_ble_eq_true rfl) (Nat.le_of_ble_eq_true rfl) ?_
  show W p9 l e9 ({ frames := 1, cells := 0, slots := 0, locals := 24 } : Room) s m ([.ref (h0)] : List Value).toArray below9 meth9 c9 s.heap [] 0 0 (MQ below9 (va_Qv (fun (_ : Unit) => True) (fun (_ : Unit) => (bW D [(cI, FieldType.int)] (fl [rdW (fun _ => h0) (fun _ => uI (uI (uI (uI (uI (uI (fun _ => 0) 0 0) 1 0) 2 0) 3 0) 4 (-1)) 5 0)]) A)) A) ([.ref (h0)] : List Value).toArray s 0 0 A) (F0 m 4 ls [])
  refine lv_aload_n hx hb dX0_init_4 rfl (lv_at hl 0 rfl) ?_
  refine wi_iconst hx hb dX0_init_5 ?_
  refine va_put (D := D) (ci := 0) (v := .int (iI (0))) (ty := .int) (C := RX0) (T := TX0) (N := 6) hx hb hts hin_X0 tyX0 tyX0_ok nmX0 hown hK hP hD hS 0 rfl rfl 0 (by decide) hw_3 (fun _ h9 => h9) rfl (by decide +kernel) rfl rfl (Nat.le_of_ble_eq_true rfl) dX0_init_6 (fun H locs hP hD hS => ?_)
  have hP : va_P D vwCl (fl [[(h0, .inr (0, [.int (iI (0)), .int 0, .int 0, .int 0, .int 0, .int 0]))]]) H := hP
  have hD : va_D A (fl [[(h0, .inr (0, [.int (iI (0)), .int 0, .int 0, .int 0, .int 0, .int 0]))]]) := hD
  refine lv_aload_n hx hb dX0_init_9 rfl (lv_at hl 0 rfl) ?_
  refine wi_iconst hx hb dX0_init_10 ?_
  refine va_put (D := D) (ci := 0) (v := .int (iI (0))) (ty := .boolean) (C := RX0) (T := TX0) (N := 6) hx hb hts hin_X0 tyX0 tyX0_ok nmX0 hown hK hP hD hS 0 rfl rfl 1 (by decide) hw_4 (fun _ h9 => h9) rfl (by decide +kernel) (nar_z (by omega)) rfl (Nat.le_of_ble_eq_true rfl) dX0_init_11 (fun H locs hP hD hS => ?_)
  have hP : va_P D vwCl (fl [[(h0, .inr (0, [.int (iI (0)), .int (iI (0)), .int 0, .int 0, .int 0, .int 0]))]]) H := hP
  have hD : va_D A (fl [[(h0, .inr (0, [.int (iI (0)), .int (iI (0)), .int 0, .int 0, .int 0, .int 0]))]]) := hD
  refine lv_aload_n hx hb dX0_init_14 rfl (lv_at hl 0 rfl) ?_
  refine wi_iconst hx hb dX0_init_15 ?_
  refine va_put (D := D) (ci := 0) (v := .int (iI (0))) (ty := .int) (C := RX0) (T := TX0) (N := 6) hx hb hts hin_X0 tyX0 tyX0_ok nmX0 hown hK hP hD hS 0 rfl rfl 2 (by decide) hw_5 (fun _ h9 => h9) rfl (by decide +kernel) rfl rfl (Nat.le_of_ble_eq_true rfl) dX0_init_16 (fun H locs hP hD hS => ?_)
  have hP : va_P D vwCl (fl [[(h0, .inr (0, [.int (iI (0)), .int (iI (0)), .int (iI (0)), .int 0, .int 0, .int 0]))]]) H := hP
  have hD : va_D A (fl [[(h0, .inr (0, [.int (iI (0)), .int (iI (0)), .int (iI (0)), .int 0, .int 0, .int 0]))]]) := hD
  refine lv_aload_n hx hb dX0_init_19 rfl (lv_at hl 0 rfl) ?_
  refine wi_iconst hx hb dX0_init_20 ?_
  refine va_put (D := D) (ci := 0) (v := .int (iI (0))) (ty := .int) (C := RX0) (T := TX0) (N := 6) hx hb hts hin_X0 tyX0 tyX0_ok nmX0 hown hK hP hD hS 0 rfl rfl 3 (by decide) hw_6 (fun _ h9 => h9) rfl (by decide +kernel) rfl rfl (Nat.le_of_ble_eq_true rfl) dX0_init_21 (fun H locs hP hD hS => ?_)
  have hP : va_P D vwCl (fl [[(h0, .inr (0, [.int (iI (0)), .int (iI (0)), .int (iI (0)), .int (iI (0)), .int 0, .int 0]))]]) H := hP
  have hD : va_D A (fl [[(h0, .inr (0, [.int (iI (0)), .int (iI (0)), .int (iI (0)), .int (iI (0)), .int 0, .int 0]))]]) := hD
  refine lv_aload_n hx hb dX0_init_24 rfl (lv_at hl 0 rfl) ?_
  refine wi_iconst hx hb dX0_init_25 ?_
  refine va_put (D := D) (ci := 0) (v := .int (iI (-1))) (ty := .int) (C := RX0) (T := TX0) (N := 6) hx hb hts hin_X0 tyX0 tyX0_ok nmX0 hown hK hP hD hS 0 rfl rfl 4 (by decide) hw_7 (fun _ h9 => h9) rfl (by decide +kernel) rfl rfl (Nat.le_of_ble_eq_true rfl) dX0_init_26 (fun H locs hP hD hS => ?_)
  have hP : va_P D vwCl (fl [[(h0, .inr (0, [.int (iI (0)), .int (iI (0)), .int (iI (0)), .int (iI (0)), .int (iI (-1)), .int 0]))]]) H := hP
  have hD : va_D A (fl [[(h0, .inr (0, [.int (iI (0)), .int (iI (0)), .int (iI (0)), .int (iI (0)), .int (iI (-1)), .int 0]))]]) := hD
  refine lv_aload_n hx hb dX0_init_29 rfl (lv_at hl 0 rfl) ?_
  refine wi_iconst hx hb dX0_init_30 ?_
  refine va_put (D := D) (ci := 0) (v := .int (iI (0))) (ty := .int) (C := RX0) (T := TX0) (N := 6) hx hb hts hin_X0 tyX0 tyX0_ok nmX0 hown hK hP hD hS 0 rfl rfl 5 (by decide) hw_8 (fun _ h9 => h9) rfl (by decide +kernel) rfl rfl (Nat.le_of_ble_eq_true rfl) dX0_init_31 (fun H locs hP hD hS => ?_)
  have hP : va_P D vwCl (fl [[(h0, .inr (0, [.int (iI (0)), .int (iI (0)), .int (iI (0)), .int (iI (0)), .int (iI (-1)), .int (iI (0))]))]]) H := hP
  have hD : va_D A (fl [[(h0, .inr (0, [.int (iI (0)), .int (iI (0)), .int (iI (0)), .int (iI (0)), .int (iI (-1)), .int (iI (0))]))]]) := hD
  have hP : va_P D vwCl (fl [rdW (fun _ => h0) (fun _ => uI (uI (uI (uI (uI (uI (fun _ => 0) 0 0) 1 0) 2 0) 3 0) 4 (-1)) 5 0)]) H := hP
  have hD : va_D A (fl [rdW (fun _ => h0) (fun _ => uI (uI (uI (uI (uI (uI (fun _ => 0) 0 0) 1 0) 2 0) 3 0) 4 (-1)) 5 0)]) := hD
  exact W.vret hx hb hr (fun t9 ht9 hW9 => ⟨⟨(), rfl, (trivial), ⟨by rw [ht9]; exact hP, va_K.moved hW9.alike hK, hD⟩⟩, hS.F ht9⟩) hS.2.2 dX0_init_34 hlocks
set_option maxHeartbeats 4000000 in
set_option maxRecDepth 100000 in
theorem c_X2_init (l : Launch) (D : va_G) (cI cO cC cL : ClassId) (sz : Nat) (h0 : Nat)  : Met l yX2_init wsX2_init ({ frames := 2, cells := 79, slots := 768, locals := 60 } : Room) (pcC D [(cI, FieldType.int), (cO, FieldType.object "PromisedCounters$State")] [.ref (h0)] (fl [[(h0, .inr (2, [.null, .int 0]))]]) sz) (va_Qv (fun (u : (Nat → Nat) × (Nat → Nat → Nat)) => u.1 0 = h0) (fun (u : (Nat → Nat) × (Nat → Nat → Nat)) => (bW D [(cI, FieldType.int), (cO, FieldType.object "PromisedCounters$State")] (fl [svO cO (u.1) (saF u.2) z0S, stW cI (u.2 0) s0S, stW cI (u.2 1) s0S, stW cI (u.2 2) s0S, stW cI (u.2 3) s0S, stW cI (u.2 4) s0S, stW cI (u.2 5) s0S]) (va_A (fl [[(h0, .inr (2, [.null, .int 0]))]]) sz))) (va_A (fl [[(h0, .inr (2, [.null, .int 0]))]]) sz)) 79 768 (va_A (fl [[(h0, .inr (2, [.null, .int 0]))]]) sz) := by
  refine Met.ofW (cc := cX2_init) (maxL := 1) (ret := none) (by decide) rfl ?_
  intro p9 e9 s m args9 below9 meth9 c9 s₁ B hml hv
  obtain ⟨rfl, hsz, hP, hK, hD0, hC⟩ := hv
  have hx := B.exec
  have hb := B.bytes
  have hr := B.returns
  have hts := atoms_spec (ws := wsX2_init) B.pre
  have hown : s.vm.findClass RX2 = some m.cls := findClass_of_methodNamed B.named
  have hlocks := B.notSynchronized
  have hin9 : meth9.name = "<init>" := (name_of_methodNamed B.named B.method).1
  subst hsz
  have hD := hD0.self (sz := s.heap.size)
  generalize hAe : va_A (fl [[(h0, .inr (2, [.null, .int 0]))]]) s.heap.size = A at hD ⊢
  have hA : ∀ q : Nat, s.heap.size ≤ q → A q := fun q h => by rw [← hAe]; exact Or.inr h
  have hS : va_S A s.heap s.heap [] := va_S.rf
  have hP : va_P D vwCl (fl [[(h0, .inr (2, [.null, .int 0]))]]) s.heap := hP
  have hl := lv_entry ([.ref (h0)]) (n := 1) (Nat.le_of_ble_eq_true rfl)
  rw [lg_entry_eq]
  generalize (lg_sl ([.ref (h0)]) ++ List.replicate (1 - (lg_sl ([.ref (h0)])).length) Slot.unset).toArray = ls at hl ⊢
  have hl : lv_has ls 1 [(0, .ref (h0))] := hl
  have hw_0 := hts (.methodLink RX2 3 objectInit) (by decide +kernel)
  have hw_1 := hts (.instanceMethod objectInit) (by decide +kernel)
  have hw_2 := hts (.code objectInit ⟨#[0xb1]⟩ 1 none) (by decide +kernel)
  have hw_3 := hts (.classLink RX2 9 RX3) (by decide +kernel)
  have hw_4 := hts (.instantiable RX3 15) (by decide +kernel)
  have hw_5 := hts (.initialized RX3) (by decide +kernel)
  have hin_X3 : ∀ w ∈ u_ws RX3 TX3 15, w ∈ wsX2_init := by decide +kernel
  have hw_6 := hts (.instanceMethod yX3_init) (by decide +kernel)
  have hw_7 := hts (.fieldLink RX2 12 "PromisedCounters$SavedStates" "states" "[LPromisedCounters$State;") (by decide +kernel)
  have hin_X2 : ∀ w ∈ u_ws RX2 TX2 2, w ∈ wsX2_init := by decide +kernel
  have hw_8 := hts (.fieldLink RX2 18 "PromisedCounters$SavedStates" "many" "I") (by decide +kernel)
  refine lv_aload_n hx hb dX2_init_0 rfl (lv_at hl 0 rfl) ?_
  refine W.objInit hx hb hown hw_0 hw_1 hw_2 rfl (by rw [hml]; exact hl.1) rfl dX2_init_1 (Nat.le_of_ble_eq_true rfl) (Nat.le_of_ble_eq_true rfl) ?_
  show W p9 l e9 ({ frames := 2, cells := 79, slots := 768, locals := 60 } : Room) s m ([.ref (h0)] : List Value).toArray below9 meth9 c9 s.heap [] 0 0 (MQ below9 (va_Qv (fun (u : (Nat → Nat) × (Nat → Nat → Nat)) => u.1 0 = h0) (fun (u : (Nat → Nat) × (Nat → Nat → Nat)) => (bW D [(cI, FieldType.int), (cO, FieldType.object "PromisedCounters$State")] (fl [svO cO (u.1) (saF u.2) z0S, stW cI (u.2 0) s0S, stW cI (u.2 1) s0S, stW cI (u.2 2) s0S, stW cI (u.2 3) s0S, stW cI (u.2 4) s0S, stW cI (u.2 5) s0S]) A)) A) ([.ref (h0)] : List Value).toArray s 79 768 A) (F0 m 4 ls [])
  refine lv_aload_n hx hb dX2_init_4 rfl (lv_at hl 0 rfl) ?_
  refine wi_bipush hx hb dX2_init_5 (by decide) ?_
  refine wn_newq hx hb hown hw_3 hC.2 hK hP hD hS hA 1 (cA := cO) rfl (n := 6) (N := 6) rfl (by decide) (by decide) (Nat.le_of_ble_eq_true rfl) (Nat.le_of_ble_eq_true rfl) dX2_init_7 (fun q1 H hP hD hS => ?_)
  have hP : va_P D vwCl (fl [[(h0, .inr (2, [.null, .int 0]))], [(q1, .inl (cO, 6, .inr (.inr (.inr (.inr (fun _ => none))))))]]) H := hP
  have hD : va_D A (fl [[(h0, .inr (2, [.null, .int 0]))], [(q1, .inl (cO, 6, .inr (.inr (.inr (.inr (fun _ => none))))))]]) := hD
  refine lv_dup hx hb dX2_init_10 rfl ?_
  refine wi_iconst hx hb dX2_init_11 ?_
  refine va_new (ci := 3) (fs := [.int 0, .int 0, .int 0, .null, .null, .null, .null, .null, .null, .null, .null, .null, .null, .null, .null]) (C := RX3) (T := TX3) (N := 15) hx hb hts hin_X3 tyX3 tyX3_ok hown hw_3 hw_4 hw_5 hK hP hD hS hA rfl (fun j hj => by rcases (show j = 0 ∨ j = 1 ∨ j = 2 ∨ j = 3 ∨ j = 4 ∨ j = 5 ∨ j = 6 ∨ j = 7 ∨ j = 8 ∨ j = 9 ∨ j = 10 ∨ j = 11 ∨ j = 12 ∨ j = 13 ∨ j = 14 by omega) with rfl | rfl | rfl | rfl | rfl | rfl | rfl | rfl | rfl | rfl | rfl | rfl | rfl | rfl | rfl <;> rfl) (Nat.le_of_ble_eq_true rfl) (Nat.le_of_ble_eq_true rfl) dX2_init_12 (fun q2 H hP hD hS => ?_)
  have hP : va_P D vwCl (fl [[(h0, .inr (2, [.null, .int 0]))], [(q1, .inl (cO, 6, .inr (.inr (.inr (.inr (fun _ => none))))))], [(q2, .inr (3, [.int 0, .int 0, .int 0, .null, .null, .null, .null, .null, .null, .null, .null, .null, .null, .null, .null]))]]) H := hP
  have hD : va_D A (fl [[(h0, .inr (2, [.null, .int 0]))], [(q1, .inl (cO, 6, .inr (.inr (.inr (.inr (fun _ => none))))))], [(q2, .inr (3, [.int 0, .int 0, .int 0, .null, .null, .null, .null, .null, .null, .null, .null, .null, .null, .null, .null]))]]) := hD
  refine lv_dup hx hb dX2_init_15 rfl ?_
  have hPc := fl_P (S' := [[(q2, .inr (3, [.int 0, .int 0, .int 0, .null, .null, .null, .null, .null, .null, .null, .null, .null, .null, .null, .null]))]]) hP [2] rfl
  have hPc : va_P D vwCl (fl [[(q2, .inr (3, [.int 0, .int 0, .int 0, .null, .null, .null, .null, .null, .null, .null, .null, .null, .null, .null, .null]))]]) H := hPc
  have hDc := fl_D (S' := [[(q2, .inr (3, [.int 0, .int 0, .int 0, .null, .null, .null, .null, .null, .null, .null, .null, .null, .null, .null, .null]))]]) hD [2] (by decide) rfl
  have hDc : va_D A (fl [[(q2, .inr (3, [.int 0, .int 0, .int 0, .null, .null, .null, .null, .null, .null, .null, .null, .null, .null, .null, .null]))]]) := hDc
  have hFc := fl_free (SC := [[(q2, .inr (3, [.int 0, .int 0, .int 0, .null, .null, .null, .null, .null, .null, .null, .null, .null, .null, .null, .null]))]]) hD hS hA [2] rfl
  have hKc := hK.sub (tys' := [(cI, FieldType.int)]) [0] rfl
  refine va_callv (va_runIN (As := []) (rest := [.ref (q2), .int (iI (0)), .ref (q1), .ref (q1), .ref (h0)]) ⟨hx, hb, hml, hown, hts⟩ (c_X3_init l D cI cO cC cL H.size (q2)) ⟨va_cnB 0 hts gX2_init_X3_init_n11 rfl rfl rfl (hC.1 (.methodLinkNest RX2 11 yX3_init RX4) (by decide)) hw_5 (by decide +kernel) ⟨Nat.le_of_ble_eq_true rfl, Nat.le_of_ble_eq_true rfl⟩, rfl, hw_6⟩ ⟨pcW_blind, pcW_of hPc hKc hDc⟩ rfl rfl hl.1 rfl (lv_room (Nat.le_of_ble_eq_true rfl)) dX2_init_16 ⟨Nat.le_of_ble_eq_true rfl, Nat.le_of_ble_eq_true rfl⟩) hS (fun q _ h => hFc q h) hFc (fun u3 t9 H1 locs ht9 hvm hu4 hB hz1 hk1 hS => ?_)
  obtain ⟨hP1, hK1, hD1⟩ := hB
  rw [ht9] at hP1
  try dsimp only at hu4
  subst hu4
  obtain ⟨hP, hD⟩ := fl_join (SC := [[(u3 0, .inr (3, [.int 0, .int 0, .int 0, .null, .null, .null, .null, .null, .null, .null, .null, .null, .null, .null, .null]))]]) (SR := [[(h0, .inr (2, [.null, .int 0]))], [(q1, .inl (cO, 6, .inr (.inr (.inr (.inr (fun _ => none))))))]]) (S1 := [stW cI u3 s0S]) hP hD [2] [0, 1] rfl rfl (by decide) (by decide) hk1 hFc hP1 hD1
  generalize H1 = H at hP hS ⊢
  have hP : va_P D vwCl (fl [[(h0, .inr (2, [.null, .int 0]))], [(q1, .inl (cO, 6, .inr (.inr (.inr (.inr (fun _ => none))))))], stW cI u3 s0S]) H := hP
  have hD : va_D A (fl [[(h0, .inr (2, [.null, .int 0]))], [(q1, .inl (cO, 6, .inr (.inr (.inr (.inr (fun _ => none))))))], stW cI u3 s0S]) := hD
  refine wi_astq hx hb hK hP hD hS 1 1 2 3 (n := 6) (f := fun _ => none) (r := (RX3, TX3, 15)) rfl rfl rfl rfl (i := 0) (by omega) (by decide) dX2_init_19 (fun H locs hP hD hS => ?_)
  have hP : va_P D vwCl (fl [[(h0, .inr (2, [.null, .int 0]))], [(q1, .inl (cO, 6, .inr (.inr (.inr (.inr ((va_up (fun _ => none) (0 : Int).toNat (some (u3 0)))))))))], stW cI u3 s0S]) H := hP
  have hD : va_D A (fl [[(h0, .inr (2, [.null, .int 0]))], [(q1, .inl (cO, 6, .inr (.inr (.inr (.inr ((va_up (fun _ => none) (0 : Int).toNat (some (u3 0)))))))))], stW cI u3 s0S]) := hD
  refine lv_dup hx hb dX2_init_20 rfl ?_
  refine wi_iconst hx hb dX2_init_21 ?_
  refine va_new (ci := 3) (fs := [.int 0, .int 0, .int 0, .null, .null, .null, .null, .null, .null, .null, .null, .null, .null, .null, .null]) (C := RX3) (T := TX3) (N := 15) hx hb hts hin_X3 tyX3 tyX3_ok hown hw_3 hw_4 hw_5 hK hP hD hS hA rfl (fun j hj => by rcases (show j = 0 ∨ j = 1 ∨ j = 2 ∨ j = 3 ∨ j = 4 ∨ j = 5 ∨ j = 6 ∨ j = 7 ∨ j = 8 ∨ j = 9 ∨ j = 10 ∨ j = 11 ∨ j = 12 ∨ j = 13 ∨ j = 14 by omega) with rfl | rfl | rfl | rfl | rfl | rfl | rfl | rfl | rfl | rfl | rfl | rfl | rfl | rfl | rfl <;> rfl) (Nat.le_of_ble_eq_true rfl) (Nat.le_of_ble_eq_true rfl) dX2_init_22 (fun q5 H hP hD hS => ?_)
  have hP : va_P D vwCl (fl [[(h0, .inr (2, [.null, .int 0]))], [(q1, .inl (cO, 6, .inr (.inr (.inr (.inr ((va_up (fun _ => none) (0 : Int).toNat (some (u3 0)))))))))], stW cI u3 s0S, [(q5, .inr (3, [.int 0, .int 0, .int 0, .null, .null, .null, .null, .null, .null, .null, .null, .null, .null, .null, .null]))]]) H := hP
  have hD : va_D A (fl [[(h0, .inr (2, [.null, .int 0]))], [(q1, .inl (cO, 6, .inr (.inr (.inr (.inr ((va_up (fun _ => none) (0 : Int).toNat (some (u3 0)))))))))], stW cI u3 s0S, [(q5, .inr (3, [.int 0, .int 0, .int 0, .null, .null, .null, .null, .null, .null, .null, .null, .null, .null, .null, .null]))]]) := hD
  refine lv_dup hx hb dX2_init_25 rfl ?_
  have hPc := fl_P (S' := [[(q5, .inr (3, [.int 0, .int 0, .int 0, .null, .null, .null, .null, .null, .null, .null, .null, .null, .null, .null, .null]))]]) hP [3] rfl
  have hPc : va_P D vwCl (fl [[(q5, .inr (3, [.int 0, .int 0, .int 0, .null, .null, .null, .null, .null, .null, .null, .null, .null, .null, .null, .null]))]]) H := hPc
  have hDc := fl_D (S' := [[(q5, .inr (3, [.int 0, .int 0, .int 0, .null, .null, .null, .null, .null, .null, .null, .null, .null, .null, .null, .null]))]]) hD [3] (by decide) rfl
  have hDc : va_D A (fl [[(q5, .inr (3, [.int 0, .int 0, .int 0, .null, .null, .null, .null, .null, .null, .null, .null, .null, .null, .null, .null]))]]) := hDc
  have hFc := fl_free (SC := [[(q5, .inr (3, [.int 0, .int 0, .int 0, .null, .null, .null, .null, .null, .null, .null, .null, .null, .null, .null, .null]))]]) hD hS hA [3] rfl
  have hKc := hK.sub (tys' := [(cI, FieldType.int)]) [0] rfl
  refine va_callv (va_runIN (As := []) (rest := [.ref (q5), .int (iI (1)), .ref (q1), .ref (q1), .ref (h0)]) ⟨hx, hb, hml, hown, hts⟩ (c_X3_init l D cI cO cC cL H.size (q5)) ⟨va_cnB 0 hts gX2_init_X3_init_n11 rfl rfl rfl (hC.1 (.methodLinkNest RX2 11 yX3_init RX4) (by decide)) hw_5 (by decide +kernel) ⟨Nat.le_of_ble_eq_true rfl, Nat.le_of_ble_eq_true rfl⟩, rfl, hw_6⟩ ⟨pcW_blind, pcW_of hPc hKc hDc⟩ rfl rfl hl.1 rfl (lv_room (Nat.le_of_ble_eq_true rfl)) dX2_init_26 ⟨Nat.le_of_ble_eq_true rfl, Nat.le_of_ble_eq_true rfl⟩) hS (fun q _ h => hFc q h) hFc (fun u6 t9 H1 locs ht9 hvm hu7 hB hz1 hk1 hS => ?_)
  obtain ⟨hP1, hK1, hD1⟩ := hB
  rw [ht9] at hP1
  try dsimp only at hu7
  subst hu7
  obtain ⟨hP, hD⟩ := fl_join (SC := [[(u6 0, .inr (3, [.int 0, .int 0, .int 0, .null, .null, .null, .null, .null, .null, .null, .null, .null, .null, .null, .null]))]]) (SR := [[(h0, .inr (2, [.null, .int 0]))], [(q1, .inl (cO, 6, .inr (.inr (.inr (.inr ((va_up (fun _ => none) (0 : Int).toNat (some (u3 0)))))))))], stW cI u3 s0S]) (S1 := [stW cI u6 s0S]) hP hD [3] [0, 1, 2] rfl rfl (by decide) (by decide) hk1 hFc hP1 hD1
  generalize H1 = H at hP hS ⊢
  have hP : va_P D vwCl (fl [[(h0, .inr (2, [.null, .int 0]))], [(q1, .inl (cO, 6, .inr (.inr (.inr (.inr ((va_up (fun _ => none) (0 : Int).toNat (some (u3 0)))))))))], stW cI u3 s0S, stW cI u6 s0S]) H := hP
  have hD : va_D A (fl [[(h0, .inr (2, [.null, .int 0]))], [(q1, .inl (cO, 6, .inr (.inr (.inr (.inr ((va_up (fun _ => none) (0 : Int).toNat (some (u3 0)))))))))], stW cI u3 s0S, stW cI u6 s0S]) := hD
  refine wi_astq hx hb hK hP hD hS 1 1 15 3 (n := 6) (f := (va_up (fun _ => none) (0 : Int).toNat (some (u3 0)))) (r := (RX3, TX3, 15)) rfl rfl rfl rfl (i := 1) (by omega) (by decide) dX2_init_29 (fun H locs hP hD hS => ?_)
  have hP : va_P D vwCl (fl [[(h0, .inr (2, [.null, .int 0]))], [(q1, .inl (cO, 6, .inr (.inr (.inr (.inr ((va_up ((va_up (fun _ => none) (0 : Int).toNat (some (u3 0)))) (1 : Int).toNat (some (u6 0)))))))))], stW cI u3 s0S, stW cI u6 s0S]) H := hP
  have hD : va_D A (fl [[(h0, .inr (2, [.null, .int 0]))], [(q1, .inl (cO, 6, .inr (.inr (.inr (.inr ((va_up ((va_up (fun _ => none) (0 : Int).toNat (some (u3 0)))) (1 : Int).toNat (some (u6 0)))))))))], stW cI u3 s0S, stW cI u6 s0S]) := hD
  refine lv_dup hx hb dX2_init_30 rfl ?_
  refine wi_iconst hx hb dX2_init_31 ?_
  refine va_new (ci := 3) (fs := [.int 0, .int 0, .int 0, .null, .null, .null, .null, .null, .null, .null, .null, .null, .null, .null, .null]) (C := RX3) (T := TX3) (N := 15) hx hb hts hin_X3 tyX3 tyX3_ok hown hw_3 hw_4 hw_5 hK hP hD hS hA rfl (fun j hj => by rcases (show j = 0 ∨ j = 1 ∨ j = 2 ∨ j = 3 ∨ j = 4 ∨ j = 5 ∨ j = 6 ∨ j = 7 ∨ j = 8 ∨ j = 9 ∨ j = 10 ∨ j = 11 ∨ j = 12 ∨ j = 13 ∨ j = 14 by omega) with rfl | rfl | rfl | rfl | rfl | rfl | rfl | rfl | rfl | rfl | rfl | rfl | rfl | rfl | rfl <;> rfl) (Nat.le_of_ble_eq_true rfl) (Nat.le_of_ble_eq_true rfl) dX2_init_32 (fun q8 H hP hD hS => ?_)
  have hP : va_P D vwCl (fl [[(h0, .inr (2, [.null, .int 0]))], [(q1, .inl (cO, 6, .inr (.inr (.inr (.inr ((va_up ((va_up (fun _ => none) (0 : Int).toNat (some (u3 0)))) (1 : Int).toNat (some (u6 0)))))))))], stW cI u3 s0S, stW cI u6 s0S, [(q8, .inr (3, [.int 0, .int 0, .int 0, .null, .null, .null, .null, .null, .null, .null, .null, .null, .null, .null, .null]))]]) H := hP
  have hD : va_D A (fl [[(h0, .inr (2, [.null, .int 0]))], [(q1, .inl (cO, 6, .inr (.inr (.inr (.inr ((va_up ((va_up (fun _ => none) (0 : Int).toNat (some (u3 0)))) (1 : Int).toNat (some (u6 0)))))))))], stW cI u3 s0S, stW cI u6 s0S, [(q8, .inr (3, [.int 0, .int 0, .int 0, .null, .null, .null, .null, .null, .null, .null, .null, .null, .null, .null, .null]))]]) := hD
  refine lv_dup hx hb dX2_init_35 rfl ?_
  have hPc := fl_P (S' := [[(q8, .inr (3, [.int 0, .int 0, .int 0, .null, .null, .null, .null, .null, .null, .null, .null, .null, .null, .null, .null]))]]) hP [4] rfl
  have hPc : va_P D vwCl (fl [[(q8, .inr (3, [.int 0, .int 0, .int 0, .null, .null, .null, .null, .null, .null, .null, .null, .null, .null, .null, .null]))]]) H := hPc
  have hDc := fl_D (S' := [[(q8, .inr (3, [.int 0, .int 0, .int 0, .null, .null, .null, .null, .null, .null, .null, .null, .null, .null, .null, .null]))]]) hD [4] (by decide) rfl
  have hDc : va_D A (fl [[(q8, .inr (3, [.int 0, .int 0, .int 0, .null, .null, .null, .null, .null, .null, .null, .null, .null, .null, .null, .null]))]]) := hDc
  have hFc := fl_free (SC := [[(q8, .inr (3, [.int 0, .int 0, .int 0, .null, .null, .null, .null, .null, .null, .null, .null, .null, .null, .null, .null]))]]) hD hS hA [4] rfl
  have hKc := hK.sub (tys' := [(cI, FieldType.int)]) [0] rfl
  refine va_callv (va_runIN (As := []) (rest := [.ref (q8), .int (iI (2)), .ref (q1), .ref (q1), .ref (h0)]) ⟨hx, hb, hml, hown, hts⟩ (c_X3_init l D cI cO cC cL H.size (q8)) ⟨va_cnB 0 hts gX2_init_X3_init_n11 rfl rfl rfl (hC.1 (.methodLinkNest RX2 11 yX3_init RX4) (by decide)) hw_5 (by decide +kernel) ⟨Nat.le_of_ble_eq_true rfl, Nat.le_of_ble_eq_true rfl⟩, rfl, hw_6⟩ ⟨pcW_blind, pcW_of hPc hKc hDc⟩ rfl rfl hl.1 rfl (lv_room (Nat.le_of_ble_eq_true rfl)) dX2_init_36 ⟨Nat.le_of_ble_eq_true rfl, Nat.le_of_ble_eq_true rfl⟩) hS (fun q _ h => hFc q h) hFc (fun u9 t9 H1 locs ht9 hvm hu10 hB hz1 hk1 hS => ?_)
  obtain ⟨hP1, hK1, hD1⟩ := hB
  rw [ht9] at hP1
  try dsimp only at hu10
  subst hu10
  obtain ⟨hP, hD⟩ := fl_join (SC := [[(u9 0, .inr (3, [.int 0, .int 0, .int 0, .null, .null, .null, .null, .null, .null, .null, .null, .null, .null, .null, .null]))]]) (SR := [[(h0, .inr (2, [.null, .int 0]))], [(q1, .inl (cO, 6, .inr (.inr (.inr (.inr ((va_up ((va_up (fun _ => none) (0 : Int).toNat (some (u3 0)))) (1 : Int).toNat (some (u6 0)))))))))], stW cI u3 s0S, stW cI u6 s0S]) (S1 := [stW cI u9 s0S]) hP hD [4] [0, 1, 2, 3] rfl rfl (by decide) (by decide) hk1 hFc hP1 hD1
  generalize H1 = H at hP hS ⊢
  have hP : va_P D vwCl (fl [[(h0, .inr (2, [.null, .int 0]))], [(q1, .inl (cO, 6, .inr (.inr (.inr (.inr ((va_up ((va_up (fun _ => none) (0 : Int).toNat (some (u3 0)))) (1 : Int).toNat (some (u6 0)))))))))], stW cI u3 s0S, stW cI u6 s0S, stW cI u9 s0S]) H := hP
  have hD : va_D A (fl [[(h0, .inr (2, [.null, .int 0]))], [(q1, .inl (cO, 6, .inr (.inr (.inr (.inr ((va_up ((va_up (fun _ => none) (0 : Int).toNat (some (u3 0)))) (1 : Int).toNat (some (u6 0)))))))))], stW cI u3 s0S, stW cI u6 s0S, stW cI u9 s0S]) := hD
  refine wi_astq hx hb hK hP hD hS 1 1 28 3 (n := 6) (f := (va_up ((va_up (fun _ => none) (0 : Int).toNat (some (u3 0)))) (1 : Int).toNat (some (u6 0)))) (r := (RX3, TX3, 15)) rfl rfl rfl rfl (i := 2) (by omega) (by decide) dX2_init_39 (fun H locs hP hD hS => ?_)
  have hP : va_P D vwCl (fl [[(h0, .inr (2, [.null, .int 0]))], [(q1, .inl (cO, 6, .inr (.inr (.inr (.inr ((va_up ((va_up ((va_up (fun _ => none) (0 : Int).toNat (some (u3 0)))) (1 : Int).toNat (some (u6 0)))) (2 : Int).toNat (some (u9 0)))))))))], stW cI u3 s0S, stW cI u6 s0S, stW cI u9 s0S]) H := hP
  have hD : va_D A (fl [[(h0, .inr (2, [.null, .int 0]))], [(q1, .inl (cO, 6, .inr (.inr (.inr (.inr ((va_up ((va_up ((va_up (fun _ => none) (0 : Int).toNat (some (u3 0)))) (1 : Int).toNat (some (u6 0)))) (2 : Int).toNat (some (u9 0)))))))))], stW cI u3 s0S, stW cI u6 s0S, stW cI u9 s0S]) := hD
  refine lv_dup hx hb dX2_init_40 rfl ?_
  refine wi_iconst hx hb dX2_init_41 ?_
  refine va_new (ci := 3) (fs := [.int 0, .int 0, .int 0, .null, .null, .null, .null, .null, .null, .null, .null, .null, .null, .null, .null]) (C := RX3) (T := TX3) (N := 15) hx hb hts hin_X3 tyX3 tyX3_ok hown hw_3 hw_4 hw_5 hK hP hD hS hA rfl (fun j hj => by rcases (show j = 0 ∨ j = 1 ∨ j = 2 ∨ j = 3 ∨ j = 4 ∨ j = 5 ∨ j = 6 ∨ j = 7 ∨ j = 8 ∨ j = 9 ∨ j = 10 ∨ j = 11 ∨ j = 12 ∨ j = 13 ∨ j = 14 by omega) with rfl | rfl | rfl | rfl | rfl | rfl | rfl | rfl | rfl | rfl | rfl | rfl | rfl | rfl | rfl <;> rfl) (Nat.le_of_ble_eq_true rfl) (Nat.le_of_ble_eq_true rfl) dX2_init_42 (fun q11 H hP hD hS => ?_)
  have hP : va_P D vwCl (fl [[(h0, .inr (2, [.null, .int 0]))], [(q1, .inl (cO, 6, .inr (.inr (.inr (.inr ((va_up ((va_up ((va_up (fun _ => none) (0 : Int).toNat (some (u3 0)))) (1 : Int).toNat (some (u6 0)))) (2 : Int).toNat (some (u9 0)))))))))], stW cI u3 s0S, stW cI u6 s0S, stW cI u9 s0S, [(q11, .inr (3, [.int 0, .int 0, .int 0, .null, .null, .null, .null, .null, .null, .null, .null, .null, .null, .null, .null]))]]) H := hP
  have hD : va_D A (fl [[(h0, .inr (2, [.null, .int 0]))], [(q1, .inl (cO, 6, .inr (.inr (.inr (.inr ((va_up ((va_up ((va_up (fun _ => none) (0 : Int).toNat (some (u3 0)))) (1 : Int).toNat (some (u6 0)))) (2 : Int).toNat (some (u9 0)))))))))], stW cI u3 s0S, stW cI u6 s0S, stW cI u9 s0S, [(q11, .inr (3, [.int 0, .int 0, .int 0, .null, .null, .null, .null, .null, .null, .null, .null, .null, .null, .null, .null]))]]) := hD
  refine lv_dup hx hb dX2_init_45 rfl ?_
  have hPc := fl_P (S' := [[(q11, .inr (3, [.int 0, .int 0, .int 0, .null, .null, .null, .null, .null, .null, .null, .null, .null, .null, .null, .null]))]]) hP [5] rfl
  have hPc : va_P D vwCl (fl [[(q11, .inr (3, [.int 0, .int 0, .int 0, .null, .null, .null, .null, .null, .null, .null, .null, .null, .null, .null, .null]))]]) H := hPc
  have hDc := fl_D (S' := [[(q11, .inr (3, [.int 0, .int 0, .int 0, .null, .null, .null, .null, .null, .null, .null, .null, .null, .null, .null, .null]))]]) hD [5] (by decide) rfl
  have hDc : va_D A (fl [[(q11, .inr (3, [.int 0, .int 0, .int 0, .null, .null, .null, .null, .null, .null, .null, .null, .null, .null, .null, .null]))]]) := hDc
  have hFc := fl_free (SC := [[(q11, .inr (3, [.int 0, .int 0, .int 0, .null, .null, .null, .null, .null, .null, .null, .null, .null, .null, .null, .null]))]]) hD hS hA [5] rfl
  have hKc := hK.sub (tys' := [(cI, FieldType.int)]) [0] rfl
  refine va_callv (va_runIN (As := []) (rest := [.ref (q11), .int (iI (3)), .ref (q1), .ref (q1), .ref (h0)]) ⟨hx, hb, hml, hown, hts⟩ (c_X3_init l D cI cO cC cL H.size (q11)) ⟨va_cnB 0 hts gX2_init_X3_init_n11 rfl rfl rfl (hC.1 (.methodLinkNest RX2 11 yX3_init RX4) (by decide)) hw_5 (by decide +kernel) ⟨Nat.le_of_ble_eq_true rfl, Nat.le_of_ble_eq_true rfl⟩, rfl, hw_6⟩ ⟨pcW_blind, pcW_of hPc hKc hDc⟩ rfl rfl hl.1 rfl (lv_room (Nat.le_of_ble_eq_true rfl)) dX2_init_46 ⟨Nat.le_of_ble_eq_true rfl, Nat.le_of_ble_eq_true rfl⟩) hS (fun q _ h => hFc q h) hFc (fun u12 t9 H1 locs ht9 hvm hu13 hB hz1 hk1 hS => ?_)
  obtain ⟨hP1, hK1, hD1⟩ := hB
  rw [ht9] at hP1
  try dsimp only at hu13
  subst hu13
  obtain ⟨hP, hD⟩ := fl_join (SC := [[(u12 0, .inr (3, [.int 0, .int 0, .int 0, .null, .null, .null, .null, .null, .null, .null, .null, .null, .null, .null, .null]))]]) (SR := [[(h0, .inr (2, [.null, .int 0]))], [(q1, .inl (cO, 6, .inr (.inr (.inr (.inr ((va_up ((va_up ((va_up (fun _ => none) (0 : Int).toNat (some (u3 0)))) (1 : Int).toNat (some (u6 0)))) (2 : Int).toNat (some (u9 0)))))))))], stW cI u3 s0S, stW cI u6 s0S, stW cI u9 s0S]) (S1 := [stW cI u12 s0S]) hP hD [5] [0, 1, 2, 3, 4] rfl rfl (by decide) (by decide) hk1 hFc hP1 hD1
  generalize H1 = H at hP hS ⊢
  have hP : va_P D vwCl (fl [[(h0, .inr (2, [.null, .int 0]))], [(q1, .inl (cO, 6, .inr (.inr (.inr (.inr ((va_up ((va_up ((va_up (fun _ => none) (0 : Int).toNat (some (u3 0)))) (1 : Int).toNat (some (u6 0)))) (2 : Int).toNat (some (u9 0)))))))))], stW cI u3 s0S, stW cI u6 s0S, stW cI u9 s0S, stW cI u12 s0S]) H := hP
  have hD : va_D A (fl [[(h0, .inr (2, [.null, .int 0]))], [(q1, .inl (cO, 6, .inr (.inr (.inr (.inr ((va_up ((va_up ((va_up (fun _ => none) (0 : Int).toNat (some (u3 0)))) (1 : Int).toNat (some (u6 0)))) (2 : Int).toNat (some (u9 0)))))))))], stW cI u3 s0S, stW cI u6 s0S, stW cI u9 s0S, stW cI u12 s0S]) := hD
  refine wi_astq hx hb hK hP hD hS 1 1 41 3 (n := 6) (f := (va_up ((va_up ((va_up (fun _ => none) (0 : Int).toNat (some (u3 0)))) (1 : Int).toNat (some (u6 0)))) (2 : Int).toNat (some (u9 0)))) (r := (RX3, TX3, 15)) rfl rfl rfl rfl (i := 3) (by omega) (by decide) dX2_init_49 (fun H locs hP hD hS => ?_)
  have hP : va_P D vwCl (fl [[(h0, .inr (2, [.null, .int 0]))], [(q1, .inl (cO, 6, .inr (.inr (.inr (.inr ((va_up ((va_up ((va_up ((va_up (fun _ => none) (0 : Int).toNat (some (u3 0)))) (1 : Int).toNat (some (u6 0)))) (2 : Int).toNat (some (u9 0)))) (3 : Int).toNat (some (u12 0)))))))))], stW cI u3 s0S, stW cI u6 s0S, stW cI u9 s0S, stW cI u12 s0S]) H := hP
  have hD : va_D A (fl [[(h0, .inr (2, [.null, .int 0]))], [(q1, .inl (cO, 6, .inr (.inr (.inr (.inr ((va_up ((va_up ((va_up ((va_up (fun _ => none) (0 : Int).toNat (some (u3 0)))) (1 : Int).toNat (some (u6 0)))) (2 : Int).toNat (some (u9 0)))) (3 : Int).toNat (some (u12 0)))))))))], stW cI u3 s0S, stW cI u6 s0S, stW cI u9 s0S, stW cI u12 s0S]) := hD
  refine lv_dup hx hb dX2_init_50 rfl ?_
  refine wi_iconst hx hb dX2_init_51 ?_
  refine va_new (ci := 3) (fs := [.int 0, .int 0, .int 0, .null, .null, .null, .null, .null, .null, .null, .null, .null, .null, .null, .null]) (C := RX3) (T := TX3) (N := 15) hx hb hts hin_X3 tyX3 tyX3_ok hown hw_3 hw_4 hw_5 hK hP hD hS hA rfl (fun j hj => by rcases (show j = 0 ∨ j = 1 ∨ j = 2 ∨ j = 3 ∨ j = 4 ∨ j = 5 ∨ j = 6 ∨ j = 7 ∨ j = 8 ∨ j = 9 ∨ j = 10 ∨ j = 11 ∨ j = 12 ∨ j = 13 ∨ j = 14 by omega) with rfl | rfl | rfl | rfl | rfl | rfl | rfl | rfl | rfl | rfl | rfl | rfl | rfl | rfl | rfl <;> rfl) (Nat.le_of_ble_eq_true rfl) (Nat.le_of_ble_eq_true rfl) dX2_init_52 (fun q14 H hP hD hS => ?_)
  have hP : va_P D vwCl (fl [[(h0, .inr (2, [.null, .int 0]))], [(q1, .inl (cO, 6, .inr (.inr (.inr (.inr ((va_up ((va_up ((va_up ((va_up (fun _ => none) (0 : Int).toNat (some (u3 0)))) (1 : Int).toNat (some (u6 0)))) (2 : Int).toNat (some (u9 0)))) (3 : Int).toNat (some (u12 0)))))))))], stW cI u3 s0S, stW cI u6 s0S, stW cI u9 s0S, stW cI u12 s0S, [(q14, .inr (3, [.int 0, .int 0, .int 0, .null, .null, .null, .null, .null, .null, .null, .null, .null, .null, .null, .null]))]]) H := hP
  have hD : va_D A (fl [[(h0, .inr (2, [.null, .int 0]))], [(q1, .inl (cO, 6, .inr (.inr (.inr (.inr ((va_up ((va_up ((va_up ((va_up (fun _ => none) (0 : Int).toNat (some (u3 0)))) (1 : Int).toNat (some (u6 0)))) (2 : Int).toNat (some (u9 0)))) (3 : Int).toNat (some (u12 0)))))))))], stW cI u3 s0S, stW cI u6 s0S, stW cI u9 s0S, stW cI u12 s0S, [(q14, .inr (3, [.int 0, .int 0, .int 0, .null, .null, .null, .null, .null, .null, .null, .null, .null, .null, .null, .null]))]]) := hD
  refine lv_dup hx hb dX2_init_55 rfl ?_
  have hPc := fl_P (S' := [[(q14, .inr (3, [.int 0, .int 0, .int 0, .null, .null, .null, .null, .null, .null, .null, .null, .null, .null, .null, .null]))]]) hP [6] rfl
  have hPc : va_P D vwCl (fl [[(q14, .inr (3, [.int 0, .int 0, .int 0, .null, .null, .null, .null, .null, .null, .null, .null, .null, .null, .null, .null]))]]) H := hPc
  have hDc := fl_D (S' := [[(q14, .inr (3, [.int 0, .int 0, .int 0, .null, .null, .null, .null, .null, .null, .null, .null, .null, .null, .null, .null]))]]) hD [6] (by decide) rfl
  have hDc : va_D A (fl [[(q14, .inr (3, [.int 0, .int 0, .int 0, .null, .null, .null, .null, .null, .null, .null, .null, .null, .null, .null, .null]))]]) := hDc
  have hFc := fl_free (SC := [[(q14, .inr (3, [.int 0, .int 0, .int 0, .null, .null, .null, .null, .null, .null, .null, .null, .null, .null, .null, .null]))]]) hD hS hA [6] rfl
  have hKc := hK.sub (tys' := [(cI, FieldType.int)]) [0] rfl
  refine va_callv (va_runIN (As := []) (rest := [.ref (q14), .int (iI (4)), .ref (q1), .ref (q1), .ref (h0)]) ⟨hx, hb, hml, hown, hts⟩ (c_X3_init l D cI cO cC cL H.size (q14)) ⟨va_cnB 0 hts gX2_init_X3_init_n11 rfl rfl rfl (hC.1 (.methodLinkNest RX2 11 yX3_init RX4) (by decide)) hw_5 (by decide +kernel) ⟨Nat.le_of_ble_eq_true rfl, Nat.le_of_ble_eq_true rfl⟩, rfl, hw_6⟩ ⟨pcW_blind, pcW_of hPc hKc hDc⟩ rfl rfl hl.1 rfl (lv_room (Nat.le_of_ble_eq_true rfl)) dX2_init_56 ⟨Nat.le_of_ble_eq_true rfl, Nat.le_of_ble_eq_true rfl⟩) hS (fun q _ h => hFc q h) hFc (fun u15 t9 H1 locs ht9 hvm hu16 hB hz1 hk1 hS => ?_)
  obtain ⟨hP1, hK1, hD1⟩ := hB
  rw [ht9] at hP1
  try dsimp only at hu16
  subst hu16
  obtain ⟨hP, hD⟩ := fl_join (SC := [[(u15 0, .inr (3, [.int 0, .int 0, .int 0, .null, .null, .null, .null, .null, .null, .null, .null, .null, .null, .null, .null]))]]) (SR := [[(h0, .inr (2, [.null, .int 0]))], [(q1, .inl (cO, 6, .inr (.inr (.inr (.inr ((va_up ((va_up ((va_up ((va_up (fun _ => none) (0 : Int).toNat (some (u3 0)))) (1 : Int).toNat (some (u6 0)))) (2 : Int).toNat (some (u9 0)))) (3 : Int).toNat (some (u12 0)))))))))], stW cI u3 s0S, stW cI u6 s0S, stW cI u9 s0S, stW cI u12 s0S]) (S1 := [stW cI u15 s0S]) hP hD [6] [0, 1, 2, 3, 4, 5] rfl rfl (by decide) (by decide) hk1 hFc hP1 hD1
  generalize H1 = H at hP hS ⊢
  have hP : va_P D vwCl (fl [[(h0, .inr (2, [.null, .int 0]))], [(q1, .inl (cO, 6, .inr (.inr (.inr (.inr ((va_up ((va_up ((va_up ((va_up (fun _ => none) (0 : Int).toNat (some (u3 0)))) (1 : Int).toNat (some (u6 0)))) (2 : Int).toNat (some (u9 0)))) (3 : Int).toNat (some (u12 0)))))))))], stW cI u3 s0S, stW cI u6 s0S, stW cI u9 s0S, stW cI u12 s0S, stW cI u15 s0S]) H := hP
  have hD : va_D A (fl [[(h0, .inr (2, [.null, .int 0]))], [(q1, .inl (cO, 6, .inr (.inr (.inr (.inr ((va_up ((va_up ((va_up ((va_up (fun _ => none) (0 : Int).toNat (some (u3 0)))) (1 : Int).toNat (some (u6 0)))) (2 : Int).toNat (some (u9 0)))) (3 : Int).toNat (some (u12 0)))))))))], stW cI u3 s0S, stW cI u6 s0S, stW cI u9 s0S, stW cI u12 s0S, stW cI u15 s0S]) := hD
  refine wi_astq hx hb hK hP hD hS 1 1 54 3 (n := 6) (f := (va_up ((va_up ((va_up ((va_up (fun _ => none) (0 : Int).toNat (some (u3 0)))) (1 : Int).toNat (some (u6 0)))) (2 : Int).toNat (some (u9 0)))) (3 : Int).toNat (some (u12 0)))) (r := (RX3, TX3, 15)) rfl rfl rfl rfl (i := 4) (by omega) (by decide) dX2_init_59 (fun H locs hP hD hS => ?_)
  have hP : va_P D vwCl (fl [[(h0, .inr (2, [.null, .int 0]))], [(q1, .inl (cO, 6, .inr (.inr (.inr (.inr ((va_up ((va_up ((va_up ((va_up ((va_up (fun _ => none) (0 : Int).toNat (some (u3 0)))) (1 : Int).toNat (some (u6 0)))) (2 : Int).toNat (some (u9 0)))) (3 : Int).toNat (some (u12 0)))) (4 : Int).toNat (some (u15 0)))))))))], stW cI u3 s0S, stW cI u6 s0S, stW cI u9 s0S, stW cI u12 s0S, stW cI u15 s0S]) H := hP
  have hD : va_D A (fl [[(h0, .inr (2, [.null, .int 0]))], [(q1, .inl (cO, 6, .inr (.inr (.inr (.inr ((va_up ((va_up ((va_up ((va_up ((va_up (fun _ => none) (0 : Int).toNat (some (u3 0)))) (1 : Int).toNat (some (u6 0)))) (2 : Int).toNat (some (u9 0)))) (3 : Int).toNat (some (u12 0)))) (4 : Int).toNat (some (u15 0)))))))))], stW cI u3 s0S, stW cI u6 s0S, stW cI u9 s0S, stW cI u12 s0S, stW cI u15 s0S]) := hD
  refine lv_dup hx hb dX2_init_60 rfl ?_
  refine wi_iconst hx hb dX2_init_61 ?_
  refine va_new (ci := 3) (fs := [.int 0, .int 0, .int 0, .null, .null, .null, .null, .null, .null, .null, .null, .null, .null, .null, .null]) (C := RX3) (T := TX3) (N := 15) hx hb hts hin_X3 tyX3 tyX3_ok hown hw_3 hw_4 hw_5 hK hP hD hS hA rfl (fun j hj => by rcases (show j = 0 ∨ j = 1 ∨ j = 2 ∨ j = 3 ∨ j = 4 ∨ j = 5 ∨ j = 6 ∨ j = 7 ∨ j = 8 ∨ j = 9 ∨ j = 10 ∨ j = 11 ∨ j = 12 ∨ j = 13 ∨ j = 14 by omega) with rfl | rfl | rfl | rfl | rfl | rfl | rfl | rfl | rfl | rfl | rfl | rfl | rfl | rfl | rfl <;> rfl) (Nat.le_of_ble_eq_true rfl) (Nat.le_of_ble_eq_true rfl) dX2_init_62 (fun q17 H hP hD hS => ?_)
  have hP : va_P D vwCl (fl [[(h0, .inr (2, [.null, .int 0]))], [(q1, .inl (cO, 6, .inr (.inr (.inr (.inr ((va_up ((va_up ((va_up ((va_up ((va_up (fun _ => none) (0 : Int).toNat (some (u3 0)))) (1 : Int).toNat (some (u6 0)))) (2 : Int).toNat (some (u9 0)))) (3 : Int).toNat (some (u12 0)))) (4 : Int).toNat (some (u15 0)))))))))], stW cI u3 s0S, stW cI u6 s0S, stW cI u9 s0S, stW cI u12 s0S, stW cI u15 s0S, [(q17, .inr (3, [.int 0, .int 0, .int 0, .null, .null, .null, .null, .null, .null, .null, .null, .null, .null, .null, .null]))]]) H := hP
  have hD : va_D A (fl [[(h0, .inr (2, [.null, .int 0]))], [(q1, .inl (cO, 6, .inr (.inr (.inr (.inr ((va_up ((va_up ((va_up ((va_up ((va_up (fun _ => none) (0 : Int).toNat (some (u3 0)))) (1 : Int).toNat (some (u6 0)))) (2 : Int).toNat (some (u9 0)))) (3 : Int).toNat (some (u12 0)))) (4 : Int).toNat (some (u15 0)))))))))], stW cI u3 s0S, stW cI u6 s0S, stW cI u9 s0S, stW cI u12 s0S, stW cI u15 s0S, [(q17, .inr (3, [.int 0, .int 0, .int 0, .null, .null, .null, .null, .null, .null, .null, .null, .null, .null, .null, .null]))]]) := hD
  refine lv_dup hx hb dX2_init_65 rfl ?_
  have hPc := fl_P (S' := [[(q17, .inr (3, [.int 0, .int 0, .int 0, .null, .null, .null, .null, .null, .null, .null, .null, .null, .null, .null, .null]))]]) hP [7] rfl
  have hPc : va_P D vwCl (fl [[(q17, .inr (3, [.int 0, .int 0, .int 0, .null, .null, .null, .null, .null, .null, .null, .null, .null, .null, .null, .null]))]]) H := hPc
  have hDc := fl_D (S' := [[(q17, .inr (3, [.int 0, .int 0, .int 0, .null, .null, .null, .null, .null, .null, .null, .null, .null, .null, .null, .null]))]]) hD [7] (by decide) rfl
  have hDc : va_D A (fl [[(q17, .inr (3, [.int 0, .int 0, .int 0, .null, .null, .null, .null, .null, .null, .null, .null, .null, .null, .null, .null]))]]) := hDc
  have hFc := fl_free (SC := [[(q17, .inr (3, [.int 0, .int 0, .int 0, .null, .null, .null, .null, .null, .null, .null, .null, .null, .null, .null, .null]))]]) hD hS hA [7] rfl
  have hKc := hK.sub (tys' := [(cI, FieldType.int)]) [0] rfl
  refine va_callv (va_runIN (As := []) (rest := [.ref (q17), .int (iI (5)), .ref (q1), .ref (q1), .ref (h0)]) ⟨hx, hb, hml, hown, hts⟩ (c_X3_init l D cI cO cC cL H.size (q17)) ⟨va_cnB 0 hts gX2_init_X3_init_n11 rfl rfl rfl (hC.1 (.methodLinkNest RX2 11 yX3_init RX4) (by decide)) hw_5 (by decide +kernel) ⟨Nat.le_of_ble_eq_true rfl, Nat.le_of_ble_eq_true rfl⟩, rfl, hw_6⟩ ⟨pcW_blind, pcW_of hPc hKc hDc⟩ rfl rfl hl.1 rfl (lv_room (Nat.le_of_ble_eq_true rfl)) dX2_init_66 ⟨Nat.le_of_ble_eq_true rfl, Nat.le_of_ble_eq_true rfl⟩) hS (fun q _ h => hFc q h) hFc (fun u18 t9 H1 locs ht9 hvm hu19 hB hz1 hk1 hS => ?_)
  obtain ⟨hP1, hK1, hD1⟩ := hB
  rw [ht9] at hP1
  try dsimp only at hu19
  subst hu19
  obtain ⟨hP, hD⟩ := fl_join (SC := [[(u18 0, .inr (3, [.int 0, .int 0, .int 0, .null, .null, .null, .null, .null, .null, .null, .null, .null, .null, .null, .null]))]]) (SR := [[(h0, .inr (2, [.null, .int 0]))], [(q1, .inl (cO, 6, .inr (.inr (.inr (.inr ((va_up ((va_up ((va_up ((va_up ((va_up (fun _ => none) (0 : Int).toNat (some (u3 0)))) (1 : Int).toNat (some (u6 0)))) (2 : Int).toNat (some (u9 0)))) (3 : Int).toNat (some (u12 0)))) (4 : Int).toNat (some (u15 0)))))))))], stW cI u3 s0S, stW cI u6 s0S, stW cI u9 s0S, stW cI u12 s0S, stW cI u15 s0S]) (S1 := [stW cI u18 s0S]) hP hD [7] [0, 1, 2, 3, 4, 5, 6] rfl rfl (by decide) (by decide) hk1 hFc hP1 hD1
  generalize H1 = H at hP hS ⊢
  have hP : va_P D vwCl (fl [[(h0, .inr (2, [.null, .int 0]))], [(q1, .inl (cO, 6, .inr (.inr (.inr (.inr ((va_up ((va_up ((va_up ((va_up ((va_up (fun _ => none) (0 : Int).toNat (some (u3 0)))) (1 : Int).toNat (some (u6 0)))) (2 : Int).toNat (some (u9 0)))) (3 : Int).toNat (some (u12 0)))) (4 : Int).toNat (some (u15 0)))))))))], stW cI u3 s0S, stW cI u6 s0S, stW cI u9 s0S, stW cI u12 s0S, stW cI u15 s0S, stW cI u18 s0S]) H := hP
  have hD : va_D A (fl [[(h0, .inr (2, [.null, .int 0]))], [(q1, .inl (cO, 6, .inr (.inr (.inr (.inr ((va_up ((va_up ((va_up ((va_up ((va_up (fun _ => none) (0 : Int).toNat (some (u3 0)))) (1 : Int).toNat (some (u6 0)))) (2 : Int).toNat (some (u9 0)))) (3 : Int).toNat (some (u12 0)))) (4 : Int).toNat (some (u15 0)))))))))], stW cI u3 s0S, stW cI u6 s0S, stW cI u9 s0S, stW cI u12 s0S, stW cI u15 s0S, stW cI u18 s0S]) := hD
  refine wi_astq hx hb hK hP hD hS 1 1 67 3 (n := 6) (f := (va_up ((va_up ((va_up ((va_up ((va_up (fun _ => none) (0 : Int).toNat (some (u3 0)))) (1 : Int).toNat (some (u6 0)))) (2 : Int).toNat (some (u9 0)))) (3 : Int).toNat (some (u12 0)))) (4 : Int).toNat (some (u15 0)))) (r := (RX3, TX3, 15)) rfl rfl rfl rfl (i := 5) (by omega) (by decide) dX2_init_69 (fun H locs hP hD hS => ?_)
  have hP : va_P D vwCl (fl [[(h0, .inr (2, [.null, .int 0]))], [(q1, .inl (cO, 6, .inr (.inr (.inr (.inr ((va_up ((va_up ((va_up ((va_up ((va_up ((va_up (fun _ => none) (0 : Int).toNat (some (u3 0)))) (1 : Int).toNat (some (u6 0)))) (2 : Int).toNat (some (u9 0)))) (3 : Int).toNat (some (u12 0)))) (4 : Int).toNat (some (u15 0)))) (5 : Int).toNat (some (u18 0)))))))))], stW cI u3 s0S, stW cI u6 s0S, stW cI u9 s0S, stW cI u12 s0S, stW cI u15 s0S, stW cI u18 s0S]) H := hP
  have hD : va_D A (fl [[(h0, .inr (2, [.null, .int 0]))], [(q1, .inl (cO, 6, .inr (.inr (.inr (.inr ((va_up ((va_up ((va_up ((va_up ((va_up ((va_up (fun _ => none) (0 : Int).toNat (some (u3 0)))) (1 : Int).toNat (some (u6 0)))) (2 : Int).toNat (some (u9 0)))) (3 : Int).toNat (some (u12 0)))) (4 : Int).toNat (some (u15 0)))) (5 : Int).toNat (some (u18 0)))))))))], stW cI u3 s0S, stW cI u6 s0S, stW cI u9 s0S, stW cI u12 s0S, stW cI u15 s0S, stW cI u18 s0S]) := hD
  refine va_putF (D := D) (ci := 2) (v := .ref (q1)) (ty := tyX2 0) (C := RX2) (T := TX2) (N := 2) hx hb hts hin_X2 tyX2 tyX2_ok nmX2 hown hK hP hD hS 0 rfl rfl 0 (by decide) hw_7 (fun _ h9 => h9) rfl hin9 rfl (by decide +kernel) rfl rfl (Nat.le_of_ble_eq_true rfl) dX2_init_70 (fun H locs hP hD hS => ?_)
  have hP : va_P D vwCl (fl [[(h0, .inr (2, [.ref (q1), .int 0]))], [(q1, .inl (cO, 6, .inr (.inr (.inr (.inr ((va_up ((va_up ((va_up ((va_up ((va_up ((va_up (fun _ => none) (0 : Int).toNat (some (u3 0)))) (1 : Int).toNat (some (u6 0)))) (2 : Int).toNat (some (u9 0)))) (3 : Int).toNat (some (u12 0)))) (4 : Int).toNat (some (u15 0)))) (5 : Int).toNat (some (u18 0)))))))))], stW cI u3 s0S, stW cI u6 s0S, stW cI u9 s0S, stW cI u12 s0S, stW cI u15 s0S, stW cI u18 s0S]) H := hP
  have hD : va_D A (fl [[(h0, .inr (2, [.ref (q1), .int 0]))], [(q1, .inl (cO, 6, .inr (.inr (.inr (.inr ((va_up ((va_up ((va_up ((va_up ((va_up ((va_up (fun _ => none) (0 : Int).toNat (some (u3 0)))) (1 : Int).toNat (some (u6 0)))) (2 : Int).toNat (some (u9 0)))) (3 : Int).toNat (some (u12 0)))) (4 : Int).toNat (some (u15 0)))) (5 : Int).toNat (some (u18 0)))))))))], stW cI u3 s0S, stW cI u6 s0S, stW cI u9 s0S, stW cI u12 s0S, stW cI u15 s0S, stW cI u18 s0S]) := hD
  refine lv_aload_n hx hb dX2_init_73 rfl (lv_at hl 0 rfl) ?_
  refine wi_iconst hx hb dX2_init_74 ?_
  refine va_put (D := D) (ci := 2) (v := .int (iI (0))) (ty := .int) (C := RX2) (T := TX2) (N := 2) hx hb hts hin_X2 tyX2 tyX2_ok nmX2 hown hK hP hD hS 0 rfl rfl 1 (by decide) hw_8 (fun _ h9 => h9) rfl (by decide +kernel) rfl rfl (Nat.le_of_ble_eq_true rfl) dX2_init_75 (fun H locs hP hD hS => ?_)
  have hP : va_P D vwCl (fl [[(h0, .inr (2, [.ref (q1), .int (iI (0))]))], [(q1, .inl (cO, 6, .inr (.inr (.inr (.inr ((va_up ((va_up ((va_up ((va_up ((va_up ((va_up (fun _ => none) (0 : Int).toNat (some (u3 0)))) (1 : Int).toNat (some (u6 0)))) (2 : Int).toNat (some (u9 0)))) (3 : Int).toNat (some (u12 0)))) (4 : Int).toNat (some (u15 0)))) (5 : Int).toNat (some (u18 0)))))))))], stW cI u3 s0S, stW cI u6 s0S, stW cI u9 s0S, stW cI u12 s0S, stW cI u15 s0S, stW cI u18 s0S]) H := hP
  have hD : va_D A (fl [[(h0, .inr (2, [.ref (q1), .int (iI (0))]))], [(q1, .inl (cO, 6, .inr (.inr (.inr (.inr ((va_up ((va_up ((va_up ((va_up ((va_up ((va_up (fun _ => none) (0 : Int).toNat (some (u3 0)))) (1 : Int).toNat (some (u6 0)))) (2 : Int).toNat (some (u9 0)))) (3 : Int).toNat (some (u12 0)))) (4 : Int).toNat (some (u15 0)))) (5 : Int).toNat (some (u18 0)))))))))], stW cI u3 s0S, stW cI u6 s0S, stW cI u9 s0S, stW cI u12 s0S, stW cI u15 s0S, stW cI u18 s0S]) := hD
  have hP : va_P D vwCl ((fl ([[(h0, .inr (2, [.ref (q1), .int (iI (0))])), (q1, .inl (cO, 6, .inr (.inr (.inr (.inr ((va_up ((va_up ((va_up ((va_up ((va_up ((va_up (fun _ => none) (0 : Int).toNat (some (u3 0)))) (1 : Int).toNat (some (u6 0)))) (2 : Int).toNat (some (u9 0)))) (3 : Int).toNat (some (u12 0)))) (4 : Int).toNat (some (u15 0)))) (5 : Int).toNat (some (u18 0)))))))))]] ++ [(stW cI u3 s0S), (stW cI u6 s0S), (stW cI u9 s0S), (stW cI u12 s0S), (stW cI u15 s0S), (stW cI u18 s0S)])).set 1 (q1, .inl (cO, 6, .inr (.inr (.inr (.inr ((va_up ((va_up ((va_up ((va_up ((va_up ((va_up (fun _ => none) (0 : Int).toNat (some (u3 0)))) (1 : Int).toNat (some (u6 0)))) (2 : Int).toNat (some (u9 0)))) (3 : Int).toNat (some (u12 0)))) (4 : Int).toNat (some (u15 0)))) (5 : Int).toNat (some (u18 0)))))))))) H := hP
  have hD : va_D A ((fl ([[(h0, .inr (2, [.ref (q1), .int (iI (0))])), (q1, .inl (cO, 6, .inr (.inr (.inr (.inr ((va_up ((va_up ((va_up ((va_up ((va_up ((va_up (fun _ => none) (0 : Int).toNat (some (u3 0)))) (1 : Int).toNat (some (u6 0)))) (2 : Int).toNat (some (u9 0)))) (3 : Int).toNat (some (u12 0)))) (4 : Int).toNat (some (u15 0)))) (5 : Int).toNat (some (u18 0)))))))))]] ++ [(stW cI u3 s0S), (stW cI u6 s0S), (stW cI u9 s0S), (stW cI u12 s0S), (stW cI u15 s0S), (stW cI u18 s0S)])).set 1 (q1, .inl (cO, 6, .inr (.inr (.inr (.inr ((va_up ((va_up ((va_up ((va_up ((va_up ((va_up (fun _ => none) (0 : Int).toNat (some (u3 0)))) (1 : Int).toNat (some (u6 0)))) (2 : Int).toNat (some (u9 0)))) (3 : Int).toNat (some (u12 0)))) (4 : Int).toNat (some (u15 0)))) (5 : Int).toNat (some (u18 0)))))))))) := hD
  have hP := hP.cellEq (y := (6, .inr (.inr (.inr (.inr (saF (adF [u3, u6, u9, u12, u15, u18]))))))) (cell_q (fun j hj => by rcases (show j = 0 ∨ j = 1 ∨ j = 2 ∨ j = 3 ∨ j = 4 ∨ j = 5 by omega) with rfl | rfl | rfl | rfl | rfl | rfl <;> rfl))
  have hD := hD.cellEq (e' := .inl (cO, 6, .inr (.inr (.inr (.inr (saF (adF [u3, u6, u9, u12, u15, u18])))))))
  have hP : va_P D vwCl (fl [svO cO (adr [h0, q1]) (saF (adF [u3, u6, u9, u12, u15, u18])) z0S, stW cI ((adF [u3, u6, u9, u12, u15, u18]) 0) s0S, stW cI ((adF [u3, u6, u9, u12, u15, u18]) 1) s0S, stW cI ((adF [u3, u6, u9, u12, u15, u18]) 2) s0S, stW cI ((adF [u3, u6, u9, u12, u15, u18]) 3) s0S, stW cI ((adF [u3, u6, u9, u12, u15, u18]) 4) s0S, stW cI ((adF [u3, u6, u9, u12, u15, u18]) 5) s0S]) H := hP
  have hD : va_D A (fl [svO cO (adr [h0, q1]) (saF (adF [u3, u6, u9, u12, u15, u18])) z0S, stW cI ((adF [u3, u6, u9, u12, u15, u18]) 0) s0S, stW cI ((adF [u3, u6, u9, u12, u15, u18]) 1) s0S, stW cI ((adF [u3, u6, u9, u12, u15, u18]) 2) s0S, stW cI ((adF [u3, u6, u9, u12, u15, u18]) 3) s0S, stW cI ((adF [u3, u6, u9, u12, u15, u18]) 4) s0S, stW cI ((adF [u3, u6, u9, u12, u15, u18]) 5) s0S]) := hD
  exact W.vret hx hb hr (fun t9 ht9 hW9 => ⟨⟨(adr [h0, q1], adF [u3, u6, u9, u12, u15, u18]), rfl, (rfl), ⟨by rw [ht9]; exact hP, va_K.moved hW9.alike hK, hD⟩⟩, hS.F ht9⟩) hS.2.2 dX2_init_78 hlocks
set_option maxHeartbeats 4000000 in
set_option maxRecDepth 100000 in
theorem c_X4_init (l : Launch) (D : va_G) (cI cO cC cL : ClassId) (sz : Nat) (h0 : Nat)  : Met l yX4_init wsX4_init ({ frames := 3, cells := 97, slots := 2549, locals := 100 } : Room) (pcC D [(cI, FieldType.int), (cO, FieldType.object "PromisedCounters$State"), (cC, FieldType.char)] [.ref (h0)] (fl [[(h0, .inr (4, [.null, .null, .null, .null, .null, .int 0]))]]) sz) (va_Qv (fun (u : (Nat → Nat) × ((Nat → Nat) × (Nat → Nat → Nat)) × (Nat → Nat) × Nat × Nat) => True) (fun (u : (Nat → Nat) × ((Nat → Nat) × (Nat → Nat → Nat)) × (Nat → Nat) × Nat × Nat) => (bW D [(cI, FieldType.int), (cO, FieldType.object "PromisedCounters$State"), (cC, FieldType.char)] (fl [mnW (fun _ => h0) u.1 u.2.1.1 u.2.2.1 (fun _ => u.2.2.2.1) (fun _ => u.2.2.2.2) z0S, stW cI (u.1) s0S, svO cO (u.2.1.1) (saF u.2.1.2) z0S, stW cI (u.2.1.2 0) s0S, stW cI (u.2.1.2 1) s0S, stW cI (u.2.1.2 2) s0S, stW cI (u.2.1.2 3) s0S, stW cI (u.2.1.2 4) s0S, stW cI (u.2.1.2 5) s0S, ocW cI (u.2.2.1) z0S, rdW (fun _ => u.2.2.2.1) (fun _ => uI (uI (uI (uI (uI (uI (fun _ => 0) 0 0) 1 0) 2 0) 3 0) 4 (-1)) 5 0), bfW cC (fun _ => u.2.2.2.2) z0S]) (va_A (fl [[(h0, .inr (4, [.null, .null, .null, .null, .null, .int 0]))]]) sz))) (va_A (fl [[(h0, .inr (4, [.null, .null, .null, .null, .null, .int 0]))]]) sz)) 97 2549 (va_A (fl [[(h0, .inr (4, [.null, .null, .null, .null, .null, .int 0]))]]) sz) := by
  refine Met.ofW (cc := cX4_init) (maxL := 1) (ret := none) (by decide) rfl ?_
  intro p9 e9 s m args9 below9 meth9 c9 s₁ B hml hv
  obtain ⟨rfl, hsz, hP, hK, hD0, hC⟩ := hv
  have hx := B.exec
  have hb := B.bytes
  have hr := B.returns
  have hts := atoms_spec (ws := wsX4_init) B.pre
  have hown : s.vm.findClass RX4 = some m.cls := findClass_of_methodNamed B.named
  have hlocks := B.notSynchronized
  have hin9 : meth9.name = "<init>" := (name_of_methodNamed B.named B.method).1
  subst hsz
  have hD := hD0.self (sz := s.heap.size)
  generalize hAe : va_A (fl [[(h0, .inr (4, [.null, .null, .null, .null, .null, .int 0]))]]) s.heap.size = A at hD ⊢
  have hA : ∀ q : Nat, s.heap.size ≤ q → A q := fun q h => by rw [← hAe]; exact Or.inr h
  have hS : va_S A s.heap s.heap [] := va_S.rf
  have hP : va_P D vwCl (fl [[(h0, .inr (4, [.null, .null, .null, .null, .null, .int 0]))]]) s.heap := hP
  have hl := lv_entry ([.ref (h0)]) (n := 1) (Nat.le_of_ble_eq_true rfl)
  rw [lg_entry_eq]
  generalize (lg_sl ([.ref (h0)]) ++ List.replicate (1 - (lg_sl ([.ref (h0)])).length) Slot.unset).toArray = ls at hl ⊢
  have hl : lv_has ls 1 [(0, .ref (h0))] := hl
  have hw_0 := hts (.methodLink RX4 1 objectInit) (by decide +kernel)
  have hw_1 := hts (.instanceMethod objectInit) (by decide +kernel)
  have hw_2 := hts (.code objectInit ⟨#[0xb1]⟩ 1 none) (by decide +kernel)
  have hw_3 := hts (.classLink RX4 7 RX3) (by decide +kernel)
  have hw_4 := hts (.instantiable RX3 15) (by decide +kernel)
  have hw_5 := hts (.initialized RX3) (by decide +kernel)
  have hin_X3 : ∀ w ∈ u_ws RX3 TX3 15, w ∈ wsX4_init := by decide +kernel
  have hw_6 := hts (.instanceMethod yX3_init) (by decide +kernel)
  have hw_7 := hts (.fieldLink RX4 10 "PromisedCounters" "state" "LPromisedCounters$State;") (by decide +kernel)
  have hin_X4 : ∀ w ∈ u_ws RX4 TX4 6, w ∈ wsX4_init := by decide +kernel
  have hw_8 := hts (.classLink RX4 16 RX2) (by decide +kernel)
  have hw_9 := hts (.instantiable RX2 2) (by decide +kernel)
  have hw_10 := hts (.initialized RX2) (by decide +kernel)
  have hin_X2 : ∀ w ∈ u_ws RX2 TX2 2, w ∈ wsX4_init := by decide +kernel
  have hw_11 := hts (.instanceMethod yX2_init) (by decide +kernel)
  have hw_12 := hts (.fieldLink RX4 19 "PromisedCounters" "saved" "LPromisedCounters$SavedStates;") (by decide +kernel)
  have hw_13 := hts (.classLink RX4 23 RX1) (by decide +kernel)
  have hw_14 := hts (.instantiable RX1 1) (by decide +kernel)
  have hw_15 := hts (.initialized RX1) (by decide +kernel)
  have hin_X1 : ∀ w ∈ u_ws RX1 TX1 1, w ∈ wsX4_init := by decide +kernel
  have hw_16 := hts (.instanceMethod yX1_init) (by decide +kernel)
  have hw_17 := hts (.fieldLink RX4 26 "PromisedCounters" "outcomes" "LPromisedCounters$Outcomes;") (by decide +kernel)
  have hw_18 := hts (.classLink RX4 30 RX0) (by decide +kernel)
  have hw_19 := hts (.instantiable RX0 6) (by decide +kernel)
  have hw_20 := hts (.initialized RX0) (by decide +kernel)
  have hin_X0 : ∀ w ∈ u_ws RX0 TX0 6, w ∈ wsX4_init := by decide +kernel
  have hw_21 := hts (.instanceMethod yX0_init) (by decide +kernel)
  have hw_22 := hts (.fieldLink RX4 33 "PromisedCounters" "reader" "LPromisedCounters$ChangeReader;") (by decide +kernel)
  have hw_23 := hts (.arrayClass .char) (by decide +kernel)
  have hw_24 := hts (.fieldLink RX4 37 "PromisedCounters" "buffer" "[C") (by decide +kernel)
  have hw_25 := hts (.fieldLink RX4 41 "PromisedCounters" "length" "I") (by decide +kernel)
  refine lv_aload_n hx hb dX4_init_0 rfl (lv_at hl 0 rfl) ?_
  refine W.objInit hx hb hown hw_0 hw_1 hw_2 rfl (by rw [hml]; exact hl.1) rfl dX4_init_1 (Nat.le_of_ble_eq_true rfl) (Nat.le_of_ble_eq_true rfl) ?_
  show W p9 l e9 ({ frames := 3, cells := 97, slots := 2549, locals := 100 } : Room) s m ([.ref (h0)] : List Value).toArray below9 meth9 c9 s.heap [] 0 0 (MQ below9 (va_Qv (fun (u : (Nat → Nat) × ((Nat → Nat) × (Nat → Nat → Nat)) × (Nat → Nat) × Nat × Nat) => True) (fun (u : (Nat → Nat) × ((Nat → Nat) × (Nat → Nat → Nat)) × (Nat → Nat) × Nat × Nat) => (bW D [(cI, FieldType.int), (cO, FieldType.object "PromisedCounters$State"), (cC, FieldType.char)] (fl [mnW (fun _ => h0) u.1 u.2.1.1 u.2.2.1 (fun _ => u.2.2.2.1) (fun _ => u.2.2.2.2) z0S, stW cI (u.1) s0S, svO cO (u.2.1.1) (saF u.2.1.2) z0S, stW cI (u.2.1.2 0) s0S, stW cI (u.2.1.2 1) s0S, stW cI (u.2.1.2 2) s0S, stW cI (u.2.1.2 3) s0S, stW cI (u.2.1.2 4) s0S, stW cI (u.2.1.2 5) s0S, ocW cI (u.2.2.1) z0S, rdW (fun _ => u.2.2.2.1) (fun _ => uI (uI (uI (uI (uI (uI (fun _ => 0) 0 0) 1 0) 2 0) 3 0) 4 (-1)) 5 0), bfW cC (fun _ => u.2.2.2.2) z0S]) A)) A) ([.ref (h0)] : List Value).toArray s 97 2549 A) (F0 m 4 ls [])
  refine lv_aload_n hx hb dX4_init_4 rfl (lv_at hl 0 rfl) ?_
  refine va_new (ci := 3) (fs := [.int 0, .int 0, .int 0, .null, .null, .null, .null, .null, .null, .null, .null, .null, .null, .null, .null]) (C := RX3) (T := TX3) (N := 15) hx hb hts hin_X3 tyX3 tyX3_ok hown hw_3 hw_4 hw_5 hK hP hD hS hA rfl (fun j hj => by rcases (show j = 0 ∨ j = 1 ∨ j = 2 ∨ j = 3 ∨ j = 4 ∨ j = 5 ∨ j = 6 ∨ j = 7 ∨ j = 8 ∨ j = 9 ∨ j = 10 ∨ j = 11 ∨ j = 12 ∨ j = 13 ∨ j = 14 by omega) with rfl | rfl | rfl | rfl | rfl | rfl | rfl | rfl | rfl | rfl | rfl | rfl | rfl | rfl | rfl <;> rfl) (Nat.le_of_ble_eq_true rfl) (Nat.le_of_ble_eq_true rfl) dX4_init_5 (fun q1 H hP hD hS => ?_)
  have hP : va_P D vwCl (fl [[(h0, .inr (4, [.null, .null, .null, .null, .null, .int 0]))], [(q1, .inr (3, [.int 0, .int 0, .int 0, .null, .null, .null, .null, .null, .null, .null, .null, .null, .null, .null, .null]))]]) H := hP
  have hD : va_D A (fl [[(h0, .inr (4, [.null, .null, .null, .null, .null, .int 0]))], [(q1, .inr (3, [.int 0, .int 0, .int 0, .null, .null, .null, .null, .null, .null, .null, .null, .null, .null, .null, .null]))]]) := hD
  refine lv_dup hx hb dX4_init_8 rfl ?_
  have hPc := fl_P (S' := [[(q1, .inr (3, [.int 0, .int 0, .int 0, .null, .null, .null, .null, .null, .null, .null, .null, .null, .null, .null, .null]))]]) hP [1] rfl
  have hPc : va_P D vwCl (fl [[(q1, .inr (3, [.int 0, .int 0, .int 0, .null, .null, .null, .null, .null, .null, .null, .null, .null, .null, .null, .null]))]]) H := hPc
  have hDc := fl_D (S' := [[(q1, .inr (3, [.int 0, .int 0, .int 0, .null, .null, .null, .null, .null, .null, .null, .null, .null, .null, .null, .null]))]]) hD [1] (by decide) rfl
  have hDc : va_D A (fl [[(q1, .inr (3, [.int 0, .int 0, .int 0, .null, .null, .null, .null, .null, .null, .null, .null, .null, .null, .null, .null]))]]) := hDc
  have hFc := fl_free (SC := [[(q1, .inr (3, [.int 0, .int 0, .int 0, .null, .null, .null, .null, .null, .null, .null, .null, .null, .null, .null, .null]))]]) hD hS hA [1] rfl
  have hKc := hK.sub (tys' := [(cI, FieldType.int)]) [0] rfl
  refine va_callv (va_runIN (As := []) (rest := [.ref (q1), .ref (h0)]) ⟨hx, hb, hml, hown, hts⟩ (c_X3_init l D cI cO cC cL H.size (q1)) ⟨va_cnB 0 hts gX4_init_X3_init_n9 rfl rfl rfl (hC.1 (.methodLinkNest RX4 9 yX3_init RX4) (by decide)) hw_5 (by decide +kernel) ⟨Nat.le_of_ble_eq_true rfl, Nat.le_of_ble_eq_true rfl⟩, rfl, hw_6⟩ ⟨pcW_blind, pcW_of hPc hKc hDc⟩ rfl rfl hl.1 rfl (lv_room (Nat.le_of_ble_eq_true rfl)) dX4_init_9 ⟨Nat.le_of_ble_eq_true rfl, Nat.le_of_ble_eq_true rfl⟩) hS (fun q _ h => hFc q h) hFc (fun u2 t9 H1 locs ht9 hvm hu3 hB hz1 hk1 hS => ?_)
  obtain ⟨hP1, hK1, hD1⟩ := hB
  rw [ht9] at hP1
  try dsimp only at hu3
  subst hu3
  obtain ⟨hP, hD⟩ := fl_join (SC := [[(u2 0, .inr (3, [.int 0, .int 0, .int 0, .null, .null, .null, .null, .null, .null, .null, .null, .null, .null, .null, .null]))]]) (SR := [[(h0, .inr (4, [.null, .null, .null, .null, .null, .int 0]))]]) (S1 := [stW cI u2 s0S]) hP hD [1] [0] rfl rfl (by decide) (by decide) hk1 hFc hP1 hD1
  generalize H1 = H at hP hS ⊢
  have hP : va_P D vwCl (fl [[(h0, .inr (4, [.null, .null, .null, .null, .null, .int 0]))], stW cI u2 s0S]) H := hP
  have hD : va_D A (fl [[(h0, .inr (4, [.null, .null, .null, .null, .null, .int 0]))], stW cI u2 s0S]) := hD
  refine va_putF (D := D) (ci := 4) (v := .ref (u2 0)) (ty := tyX4 0) (C := RX4) (T := TX4) (N := 6) hx hb hts hin_X4 tyX4 tyX4_ok nmX4 hown hK hP hD hS 0 rfl rfl 0 (by decide) hw_7 (fun _ h9 => h9) rfl hin9 rfl (by decide +kernel) rfl rfl (Nat.le_of_ble_eq_true rfl) dX4_init_12 (fun H locs hP hD hS => ?_)
  have hP : va_P D vwCl (fl [[(h0, .inr (4, [.ref (u2 0), .null, .null, .null, .null, .int 0]))], stW cI u2 s0S]) H := hP
  have hD : va_D A (fl [[(h0, .inr (4, [.ref (u2 0), .null, .null, .null, .null, .int 0]))], stW cI u2 s0S]) := hD
  refine lv_aload_n hx hb dX4_init_15 rfl (lv_at hl 0 rfl) ?_
  refine va_new (ci := 2) (fs := [.null, .int 0]) (C := RX2) (T := TX2) (N := 2) hx hb hts hin_X2 tyX2 tyX2_ok hown hw_8 hw_9 hw_10 hK hP hD hS hA rfl (fun j hj => by rcases (show j = 0 ∨ j = 1 by omega) with rfl | rfl <;> rfl) (Nat.le_of_ble_eq_true rfl) (Nat.le_of_ble_eq_true rfl) dX4_init_16 (fun q4 H hP hD hS => ?_)
  have hP : va_P D vwCl (fl [[(h0, .inr (4, [.ref (u2 0), .null, .null, .null, .null, .int 0]))], stW cI u2 s0S, [(q4, .inr (2, [.null, .int 0]))]]) H := hP
  have hD : va_D A (fl [[(h0, .inr (4, [.ref (u2 0), .null, .null, .null, .null, .int 0]))], stW cI u2 s0S, [(q4, .inr (2, [.null, .int 0]))]]) := hD
  refine lv_dup hx hb dX4_init_19 rfl ?_
  have hPc := fl_P (S' := [[(q4, .inr (2, [.null, .int 0]))]]) hP [2] rfl
  have hPc : va_P D vwCl (fl [[(q4, .inr (2, [.null, .int 0]))]]) H := hPc
  have hDc := fl_D (S' := [[(q4, .inr (2, [.null, .int 0]))]]) hD [2] (by decide) rfl
  have hDc : va_D A (fl [[(q4, .inr (2, [.null, .int 0]))]]) := hDc
  have hFc := fl_free (SC := [[(q4, .inr (2, [.null, .int 0]))]]) hD hS hA [2] rfl
  have hKc := hK.sub (tys' := [(cI, FieldType.int), (cO, FieldType.object "PromisedCounters$State")]) [0, 1] rfl
  refine va_callv (va_runIN (As := []) (rest := [.ref (q4), .ref (h0)]) ⟨hx, hb, hml, hown, hts⟩ (c_X2_init l D cI cO cC cL H.size (q4)) ⟨va_cnB 0 hts gX4_init_X2_init_n18 rfl rfl rfl (hC.1 (.methodLinkNest RX4 18 yX2_init RX4) (by decide)) hw_10 (by decide +kernel) ⟨Nat.le_of_ble_eq_true rfl, Nat.le_of_ble_eq_true rfl⟩, rfl, hw_11⟩ ⟨pcC_blind, pcC_of hPc hKc hDc hC⟩ rfl rfl hl.1 rfl (lv_room (Nat.le_of_ble_eq_true rfl)) dX4_init_20 ⟨Nat.le_of_ble_eq_true rfl, Nat.le_of_ble_eq_true rfl⟩) hS (fun q _ h => hFc q h) hFc (fun u5 t9 H1 locs ht9 hvm hu6 hB hz1 hk1 hS => ?_)
  obtain ⟨hP1, hK1, hD1⟩ := hB
  rw [ht9] at hP1
  try dsimp only at hu6
  subst hu6
  obtain ⟨hP, hD⟩ := fl_join (SC := [[(u5.1 0, .inr (2, [.null, .int 0]))]]) (SR := [[(h0, .inr (4, [.ref (u2 0), .null, .null, .null, .null, .int 0]))], stW cI u2 s0S]) (S1 := [svO cO (u5.1) (saF u5.2) z0S, stW cI (u5.2 0) s0S, stW cI (u5.2 1) s0S, stW cI (u5.2 2) s0S, stW cI (u5.2 3) s0S, stW cI (u5.2 4) s0S, stW cI (u5.2 5) s0S]) hP hD [2] [0, 1] rfl rfl (by decide) (by decide) hk1 hFc hP1 hD1
  generalize H1 = H at hP hS ⊢
  have hP : va_P D vwCl (fl [[(h0, .inr (4, [.ref (u2 0), .null, .null, .null, .null, .int 0]))], stW cI u2 s0S, svO cO (u5.1) (saF u5.2) z0S, stW cI (u5.2 0) s0S, stW cI (u5.2 1) s0S, stW cI (u5.2 2) s0S, stW cI (u5.2 3) s0S, stW cI (u5.2 4) s0S, stW cI (u5.2 5) s0S]) H := hP
  have hD : va_D A (fl [[(h0, .inr (4, [.ref (u2 0), .null, .null, .null, .null, .int 0]))], stW cI u2 s0S, svO cO (u5.1) (saF u5.2) z0S, stW cI (u5.2 0) s0S, stW cI (u5.2 1) s0S, stW cI (u5.2 2) s0S, stW cI (u5.2 3) s0S, stW cI (u5.2 4) s0S, stW cI (u5.2 5) s0S]) := hD
  refine va_putF (D := D) (ci := 4) (v := .ref (u5.1 0)) (ty := tyX4 1) (C := RX4) (T := TX4) (N := 6) hx hb hts hin_X4 tyX4 tyX4_ok nmX4 hown hK hP hD hS 0 rfl rfl 1 (by decide) hw_12 (fun _ h9 => h9) rfl hin9 rfl (by decide +kernel) rfl rfl (Nat.le_of_ble_eq_true rfl) dX4_init_23 (fun H locs hP hD hS => ?_)
  have hP : va_P D vwCl (fl [[(h0, .inr (4, [.ref (u2 0), .ref (u5.1 0), .null, .null, .null, .int 0]))], stW cI u2 s0S, svO cO (u5.1) (saF u5.2) z0S, stW cI (u5.2 0) s0S, stW cI (u5.2 1) s0S, stW cI (u5.2 2) s0S, stW cI (u5.2 3) s0S, stW cI (u5.2 4) s0S, stW cI (u5.2 5) s0S]) H := hP
  have hD : va_D A (fl [[(h0, .inr (4, [.ref (u2 0), .ref (u5.1 0), .null, .null, .null, .int 0]))], stW cI u2 s0S, svO cO (u5.1) (saF u5.2) z0S, stW cI (u5.2 0) s0S, stW cI (u5.2 1) s0S, stW cI (u5.2 2) s0S, stW cI (u5.2 3) s0S, stW cI (u5.2 4) s0S, stW cI (u5.2 5) s0S]) := hD
  refine lv_aload_n hx hb dX4_init_26 rfl (lv_at hl 0 rfl) ?_
  refine va_new (ci := 1) (fs := [.null]) (C := RX1) (T := TX1) (N := 1) hx hb hts hin_X1 tyX1 tyX1_ok hown hw_13 hw_14 hw_15 hK hP hD hS hA rfl (fun j hj => by rcases (show j = 0 by omega) with rfl <;> rfl) (Nat.le_of_ble_eq_true rfl) (Nat.le_of_ble_eq_true rfl) dX4_init_27 (fun q7 H hP hD hS => ?_)
  have hP : va_P D vwCl (fl [[(h0, .inr (4, [.ref (u2 0), .ref (u5.1 0), .null, .null, .null, .int 0]))], stW cI u2 s0S, svO cO (u5.1) (saF u5.2) z0S, stW cI (u5.2 0) s0S, stW cI (u5.2 1) s0S, stW cI (u5.2 2) s0S, stW cI (u5.2 3) s0S, stW cI (u5.2 4) s0S, stW cI (u5.2 5) s0S, [(q7, .inr (1, [.null]))]]) H := hP
  have hD : va_D A (fl [[(h0, .inr (4, [.ref (u2 0), .ref (u5.1 0), .null, .null, .null, .int 0]))], stW cI u2 s0S, svO cO (u5.1) (saF u5.2) z0S, stW cI (u5.2 0) s0S, stW cI (u5.2 1) s0S, stW cI (u5.2 2) s0S, stW cI (u5.2 3) s0S, stW cI (u5.2 4) s0S, stW cI (u5.2 5) s0S, [(q7, .inr (1, [.null]))]]) := hD
  refine lv_dup hx hb dX4_init_30 rfl ?_
  have hPc := fl_P (S' := [[(q7, .inr (1, [.null]))]]) hP [9] rfl
  have hPc : va_P D vwCl (fl [[(q7, .inr (1, [.null]))]]) H := hPc
  have hDc := fl_D (S' := [[(q7, .inr (1, [.null]))]]) hD [9] (by decide) rfl
  have hDc : va_D A (fl [[(q7, .inr (1, [.null]))]]) := hDc
  have hFc := fl_free (SC := [[(q7, .inr (1, [.null]))]]) hD hS hA [9] rfl
  have hKc := hK.sub (tys' := [(cI, FieldType.int)]) [0] rfl
  refine va_callv (va_runIN (As := []) (rest := [.ref (q7), .ref (h0)]) ⟨hx, hb, hml, hown, hts⟩ (c_X1_init l D cI cO cC cL H.size (q7)) ⟨va_cnB 0 hts gX4_init_X1_init_n25 rfl rfl rfl (hC.1 (.methodLinkNest RX4 25 yX1_init RX4) (by decide)) hw_15 (by decide +kernel) ⟨Nat.le_of_ble_eq_true rfl, Nat.le_of_ble_eq_true rfl⟩, rfl, hw_16⟩ ⟨pcW_blind, pcW_of hPc hKc hDc⟩ rfl rfl hl.1 rfl (lv_room (Nat.le_of_ble_eq_true rfl)) dX4_init_31 ⟨Nat.le_of_ble_eq_true rfl, Nat.le_of_ble_eq_true rfl⟩) hS (fun q _ h => hFc q h) hFc (fun u8 t9 H1 locs ht9 hvm hu9 hB hz1 hk1 hS => ?_)
  obtain ⟨hP1, hK1, hD1⟩ := hB
  rw [ht9] at hP1
  try dsimp only at hu9
  subst hu9
  obtain ⟨hP, hD⟩ := fl_join (SC := [[(u8 0, .inr (1, [.null]))]]) (SR := [[(h0, .inr (4, [.ref (u2 0), .ref (u5.1 0), .null, .null, .null, .int 0]))], stW cI u2 s0S, svO cO (u5.1) (saF u5.2) z0S, stW cI (u5.2 0) s0S, stW cI (u5.2 1) s0S, stW cI (u5.2 2) s0S, stW cI (u5.2 3) s0S, stW cI (u5.2 4) s0S, stW cI (u5.2 5) s0S]) (S1 := [ocW cI u8 z0S]) hP hD [9] [0, 1, 2, 3, 4, 5, 6, 7, 8] rfl rfl (by decide) (by decide) hk1 hFc hP1 hD1
  generalize H1 = H at hP hS ⊢
  have hP : va_P D vwCl (fl [[(h0, .inr (4, [.ref (u2 0), .ref (u5.1 0), .null, .null, .null, .int 0]))], stW cI u2 s0S, svO cO (u5.1) (saF u5.2) z0S, stW cI (u5.2 0) s0S, stW cI (u5.2 1) s0S, stW cI (u5.2 2) s0S, stW cI (u5.2 3) s0S, stW cI (u5.2 4) s0S, stW cI (u5.2 5) s0S, ocW cI u8 z0S]) H := hP
  have hD : va_D A (fl [[(h0, .inr (4, [.ref (u2 0), .ref (u5.1 0), .null, .null, .null, .int 0]))], stW cI u2 s0S, svO cO (u5.1) (saF u5.2) z0S, stW cI (u5.2 0) s0S, stW cI (u5.2 1) s0S, stW cI (u5.2 2) s0S, stW cI (u5.2 3) s0S, stW cI (u5.2 4) s0S, stW cI (u5.2 5) s0S, ocW cI u8 z0S]) := hD
  refine va_putF (D := D) (ci := 4) (v := .ref (u8 0)) (ty := tyX4 2) (C := RX4) (T := TX4) (N := 6) hx hb hts hin_X4 tyX4 tyX4_ok nmX4 hown hK hP hD hS 0 rfl rfl 2 (by decide) hw_17 (fun _ h9 => h9) rfl hin9 rfl (by decide +kernel) rfl rfl (Nat.le_of_ble_eq_true rfl) dX4_init_34 (fun H locs hP hD hS => ?_)
  have hP : va_P D vwCl (fl [[(h0, .inr (4, [.ref (u2 0), .ref (u5.1 0), .ref (u8 0), .null, .null, .int 0]))], stW cI u2 s0S, svO cO (u5.1) (saF u5.2) z0S, stW cI (u5.2 0) s0S, stW cI (u5.2 1) s0S, stW cI (u5.2 2) s0S, stW cI (u5.2 3) s0S, stW cI (u5.2 4) s0S, stW cI (u5.2 5) s0S, ocW cI u8 z0S]) H := hP
  have hD : va_D A (fl [[(h0, .inr (4, [.ref (u2 0), .ref (u5.1 0), .ref (u8 0), .null, .null, .int 0]))], stW cI u2 s0S, svO cO (u5.1) (saF u5.2) z0S, stW cI (u5.2 0) s0S, stW cI (u5.2 1) s0S, stW cI (u5.2 2) s0S, stW cI (u5.2 3) s0S, stW cI (u5.2 4) s0S, stW cI (u5.2 5) s0S, ocW cI u8 z0S]) := hD
  refine lv_aload_n hx hb dX4_init_37 rfl (lv_at hl 0 rfl) ?_
  refine va_new (ci := 0) (fs := [.int 0, .int 0, .int 0, .int 0, .int 0, .int 0]) (C := RX0) (T := TX0) (N := 6) hx hb hts hin_X0 tyX0 tyX0_ok hown hw_18 hw_19 hw_20 hK hP hD hS hA rfl (fun j hj => by rcases (show j = 0 ∨ j = 1 ∨ j = 2 ∨ j = 3 ∨ j = 4 ∨ j = 5 by omega) with rfl | rfl | rfl | rfl | rfl | rfl <;> rfl) (Nat.le_of_ble_eq_true rfl) (Nat.le_of_ble_eq_true rfl) dX4_init_38 (fun q10 H hP hD hS => ?_)
  have hP : va_P D vwCl (fl [[(h0, .inr (4, [.ref (u2 0), .ref (u5.1 0), .ref (u8 0), .null, .null, .int 0]))], stW cI u2 s0S, svO cO (u5.1) (saF u5.2) z0S, stW cI (u5.2 0) s0S, stW cI (u5.2 1) s0S, stW cI (u5.2 2) s0S, stW cI (u5.2 3) s0S, stW cI (u5.2 4) s0S, stW cI (u5.2 5) s0S, ocW cI u8 z0S, [(q10, .inr (0, [.int 0, .int 0, .int 0, .int 0, .int 0, .int 0]))]]) H := hP
  have hD : va_D A (fl [[(h0, .inr (4, [.ref (u2 0), .ref (u5.1 0), .ref (u8 0), .null, .null, .int 0]))], stW cI u2 s0S, svO cO (u5.1) (saF u5.2) z0S, stW cI (u5.2 0) s0S, stW cI (u5.2 1) s0S, stW cI (u5.2 2) s0S, stW cI (u5.2 3) s0S, stW cI (u5.2 4) s0S, stW cI (u5.2 5) s0S, ocW cI u8 z0S, [(q10, .inr (0, [.int 0, .int 0, .int 0, .int 0, .int 0, .int 0]))]]) := hD
  refine lv_dup hx hb dX4_init_41 rfl ?_
  have hPc := fl_P (S' := [[(q10, .inr (0, [.int 0, .int 0, .int 0, .int 0, .int 0, .int 0]))]]) hP [10] rfl
  have hPc : va_P D vwCl (fl [[(q10, .inr (0, [.int 0, .int 0, .int 0, .int 0, .int 0, .int 0]))]]) H := hPc
  have hDc := fl_D (S' := [[(q10, .inr (0, [.int 0, .int 0, .int 0, .int 0, .int 0, .int 0]))]]) hD [10] (by decide) rfl
  have hDc : va_D A (fl [[(q10, .inr (0, [.int 0, .int 0, .int 0, .int 0, .int 0, .int 0]))]]) := hDc
  have hFc := fl_free (SC := [[(q10, .inr (0, [.int 0, .int 0, .int 0, .int 0, .int 0, .int 0]))]]) hD hS hA [10] rfl
  have hKc := hK.sub (tys' := [(cI, FieldType.int)]) [0] rfl
  refine va_callv (va_runIN (As := []) (rest := [.ref (q10), .ref (h0)]) ⟨hx, hb, hml, hown, hts⟩ (c_X0_init l D cI cO cC cL H.size (q10)) ⟨va_cnB 0 hts gX4_init_X0_init_n32 rfl rfl rfl (hC.1 (.methodLinkNest RX4 32 yX0_init RX4) (by decide)) hw_20 (by decide +kernel) ⟨Nat.le_of_ble_eq_true rfl, Nat.le_of_ble_eq_true rfl⟩, rfl, hw_21⟩ ⟨pcW_blind, pcW_of hPc hKc hDc⟩ rfl rfl hl.1 rfl (lv_room (Nat.le_of_ble_eq_true rfl)) dX4_init_42 ⟨Nat.le_of_ble_eq_true rfl, Nat.le_of_ble_eq_true rfl⟩) hS (fun q _ h => hFc q h) hFc (fun u11 t9 H1 locs ht9 hvm hu12 hB hz1 hk1 hS => ?_)
  obtain ⟨hP1, hK1, hD1⟩ := hB
  rw [ht9] at hP1
  obtain ⟨hP, hD⟩ := fl_join (SC := [[(q10, .inr (0, [.int 0, .int 0, .int 0, .int 0, .int 0, .int 0]))]]) (SR := [[(h0, .inr (4, [.ref (u2 0), .ref (u5.1 0), .ref (u8 0), .null, .null, .int 0]))], stW cI u2 s0S, svO cO (u5.1) (saF u5.2) z0S, stW cI (u5.2 0) s0S, stW cI (u5.2 1) s0S, stW cI (u5.2 2) s0S, stW cI (u5.2 3) s0S, stW cI (u5.2 4) s0S, stW cI (u5.2 5) s0S, ocW cI u8 z0S]) (S1 := [rdW (fun _ => q10) (fun _ => uI (uI (uI (uI (uI (uI (fun _ => 0) 0 0) 1 0) 2 0) 3 0) 4 (-1)) 5 0)]) hP hD [10] [0, 1, 2, 3, 4, 5, 6, 7, 8, 9] rfl rfl (by decide) (by decide) hk1 hFc hP1 hD1
  generalize H1 = H at hP hS ⊢
  have hP : va_P D vwCl (fl [[(h0, .inr (4, [.ref (u2 0), .ref (u5.1 0), .ref (u8 0), .null, .null, .int 0]))], stW cI u2 s0S, svO cO (u5.1) (saF u5.2) z0S, stW cI (u5.2 0) s0S, stW cI (u5.2 1) s0S, stW cI (u5.2 2) s0S, stW cI (u5.2 3) s0S, stW cI (u5.2 4) s0S, stW cI (u5.2 5) s0S, ocW cI u8 z0S, rdW (fun _ => q10) (fun _ => uI (uI (uI (uI (uI (uI (fun _ => 0) 0 0) 1 0) 2 0) 3 0) 4 (-1)) 5 0)]) H := hP
  have hD : va_D A (fl [[(h0, .inr (4, [.ref (u2 0), .ref (u5.1 0), .ref (u8 0), .null, .null, .int 0]))], stW cI u2 s0S, svO cO (u5.1) (saF u5.2) z0S, stW cI (u5.2 0) s0S, stW cI (u5.2 1) s0S, stW cI (u5.2 2) s0S, stW cI (u5.2 3) s0S, stW cI (u5.2 4) s0S, stW cI (u5.2 5) s0S, ocW cI u8 z0S, rdW (fun _ => q10) (fun _ => uI (uI (uI (uI (uI (uI (fun _ => 0) 0 0) 1 0) 2 0) 3 0) 4 (-1)) 5 0)]) := hD
  refine va_putF (D := D) (ci := 4) (v := .ref (q10)) (ty := tyX4 3) (C := RX4) (T := TX4) (N := 6) hx hb hts hin_X4 tyX4 tyX4_ok nmX4 hown hK hP hD hS 0 rfl rfl 3 (by decide) hw_22 (fun _ h9 => h9) rfl hin9 rfl (by decide +kernel) rfl rfl (Nat.le_of_ble_eq_true rfl) dX4_init_45 (fun H locs hP hD hS => ?_)
  have hP : va_P D vwCl (fl [[(h0, .inr (4, [.ref (u2 0), .ref (u5.1 0), .ref (u8 0), .ref (q10), .null, .int 0]))], stW cI u2 s0S, svO cO (u5.1) (saF u5.2) z0S, stW cI (u5.2 0) s0S, stW cI (u5.2 1) s0S, stW cI (u5.2 2) s0S, stW cI (u5.2 3) s0S, stW cI (u5.2 4) s0S, stW cI (u5.2 5) s0S, ocW cI u8 z0S, rdW (fun _ => q10) (fun _ => uI (uI (uI (uI (uI (uI (fun _ => 0) 0 0) 1 0) 2 0) 3 0) 4 (-1)) 5 0)]) H := hP
  have hD : va_D A (fl [[(h0, .inr (4, [.ref (u2 0), .ref (u5.1 0), .ref (u8 0), .ref (q10), .null, .int 0]))], stW cI u2 s0S, svO cO (u5.1) (saF u5.2) z0S, stW cI (u5.2 0) s0S, stW cI (u5.2 1) s0S, stW cI (u5.2 2) s0S, stW cI (u5.2 3) s0S, stW cI (u5.2 4) s0S, stW cI (u5.2 5) s0S, ocW cI u8 z0S, rdW (fun _ => q10) (fun _ => uI (uI (uI (uI (uI (uI (fun _ => 0) 0 0) 1 0) 2 0) 3 0) 4 (-1)) 5 0)]) := hD
  refine lv_aload_n hx hb dX4_init_48 rfl (lv_at hl 0 rfl) ?_
  refine wi_bipush hx hb dX4_init_49 (by decide) ?_
  refine wn_newa hx hb (atype := .char) hw_23 rfl rfl hK hP hD hS hA 2 (cA := cC) rfl (fun _ _ z1 z2 => Option.some.inj (z1.symm.trans z2)) (n := 60) (N := 60) rfl (by decide) (by decide) (Nat.le_of_ble_eq_true rfl) (Nat.le_of_ble_eq_true rfl) dX4_init_51 (fun q13 H hP hD hS => ?_)
  have hP : va_P D vwCl (fl [[(h0, .inr (4, [.ref (u2 0), .ref (u5.1 0), .ref (u8 0), .ref (q10), .null, .int 0]))], stW cI u2 s0S, svO cO (u5.1) (saF u5.2) z0S, stW cI (u5.2 0) s0S, stW cI (u5.2 1) s0S, stW cI (u5.2 2) s0S, stW cI (u5.2 3) s0S, stW cI (u5.2 4) s0S, stW cI (u5.2 5) s0S, ocW cI u8 z0S, rdW (fun _ => q10) (fun _ => uI (uI (uI (uI (uI (uI (fun _ => 0) 0 0) 1 0) 2 0) 3 0) 4 (-1)) 5 0), [(q13, .inl (cC, 60, .inl (rI (fun _ => 0))))]]) H := hP
  have hD : va_D A (fl [[(h0, .inr (4, [.ref (u2 0), .ref (u5.1 0), .ref (u8 0), .ref (q10), .null, .int 0]))], stW cI u2 s0S, svO cO (u5.1) (saF u5.2) z0S, stW cI (u5.2 0) s0S, stW cI (u5.2 1) s0S, stW cI (u5.2 2) s0S, stW cI (u5.2 3) s0S, stW cI (u5.2 4) s0S, stW cI (u5.2 5) s0S, ocW cI u8 z0S, rdW (fun _ => q10) (fun _ => uI (uI (uI (uI (uI (uI (fun _ => 0) 0 0) 1 0) 2 0) 3 0) 4 (-1)) 5 0), [(q13, .inl (cC, 60, .inl (rI (fun _ => 0))))]]) := hD
  refine va_putF (D := D) (ci := 4) (v := .ref (q13)) (ty := tyX4 4) (C := RX4) (T := TX4) (N := 6) hx hb hts hin_X4 tyX4 tyX4_ok nmX4 hown hK hP hD hS 0 rfl rfl 4 (by decide) hw_24 (fun _ h9 => h9) rfl hin9 rfl (by decide +kernel) rfl rfl (Nat.le_of_ble_eq_true rfl) dX4_init_53 (fun H locs hP hD hS => ?_)
  have hP : va_P D vwCl (fl [[(h0, .inr (4, [.ref (u2 0), .ref (u5.1 0), .ref (u8 0), .ref (q10), .ref (q13), .int 0]))], stW cI u2 s0S, svO cO (u5.1) (saF u5.2) z0S, stW cI (u5.2 0) s0S, stW cI (u5.2 1) s0S, stW cI (u5.2 2) s0S, stW cI (u5.2 3) s0S, stW cI (u5.2 4) s0S, stW cI (u5.2 5) s0S, ocW cI u8 z0S, rdW (fun _ => q10) (fun _ => uI (uI (uI (uI (uI (uI (fun _ => 0) 0 0) 1 0) 2 0) 3 0) 4 (-1)) 5 0), [(q13, .inl (cC, 60, .inl (rI (fun _ => 0))))]]) H := hP
  have hD : va_D A (fl [[(h0, .inr (4, [.ref (u2 0), .ref (u5.1 0), .ref (u8 0), .ref (q10), .ref (q13), .int 0]))], stW cI u2 s0S, svO cO (u5.1) (saF u5.2) z0S, stW cI (u5.2 0) s0S, stW cI (u5.2 1) s0S, stW cI (u5.2 2) s0S, stW cI (u5.2 3) s0S, stW cI (u5.2 4) s0S, stW cI (u5.2 5) s0S, ocW cI u8 z0S, rdW (fun _ => q10) (fun _ => uI (uI (uI (uI (uI (uI (fun _ => 0) 0 0) 1 0) 2 0) 3 0) 4 (-1)) 5 0), [(q13, .inl (cC, 60, .inl (rI (fun _ => 0))))]]) := hD
  refine lv_aload_n hx hb dX4_init_56 rfl (lv_at hl 0 rfl) ?_
  refine wi_iconst hx hb dX4_init_57 ?_
  refine va_put (D := D) (ci := 4) (v := .int (iI (0))) (ty := .int) (C := RX4) (T := TX4) (N := 6) hx hb hts hin_X4 tyX4 tyX4_ok nmX4 hown hK hP hD hS 0 rfl rfl 5 (by decide) hw_25 (fun _ h9 => h9) rfl (by decide +kernel) rfl rfl (Nat.le_of_ble_eq_true rfl) dX4_init_58 (fun H locs hP hD hS => ?_)
  have hP : va_P D vwCl (fl [[(h0, .inr (4, [.ref (u2 0), .ref (u5.1 0), .ref (u8 0), .ref (q10), .ref (q13), .int (iI (0))]))], stW cI u2 s0S, svO cO (u5.1) (saF u5.2) z0S, stW cI (u5.2 0) s0S, stW cI (u5.2 1) s0S, stW cI (u5.2 2) s0S, stW cI (u5.2 3) s0S, stW cI (u5.2 4) s0S, stW cI (u5.2 5) s0S, ocW cI u8 z0S, rdW (fun _ => q10) (fun _ => uI (uI (uI (uI (uI (uI (fun _ => 0) 0 0) 1 0) 2 0) 3 0) 4 (-1)) 5 0), [(q13, .inl (cC, 60, .inl (rI (fun _ => 0))))]]) H := hP
  have hD : va_D A (fl [[(h0, .inr (4, [.ref (u2 0), .ref (u5.1 0), .ref (u8 0), .ref (q10), .ref (q13), .int (iI (0))]))], stW cI u2 s0S, svO cO (u5.1) (saF u5.2) z0S, stW cI (u5.2 0) s0S, stW cI (u5.2 1) s0S, stW cI (u5.2 2) s0S, stW cI (u5.2 3) s0S, stW cI (u5.2 4) s0S, stW cI (u5.2 5) s0S, ocW cI u8 z0S, rdW (fun _ => q10) (fun _ => uI (uI (uI (uI (uI (uI (fun _ => 0) 0 0) 1 0) 2 0) 3 0) 4 (-1)) 5 0), [(q13, .inl (cC, 60, .inl (rI (fun _ => 0))))]]) := hD
  have hP : va_P D vwCl (fl [mnW (fun _ => h0) u2 u5.1 u8 (fun _ => q10) (fun _ => q13) z0S, stW cI u2 s0S, svO cO u5.1 (saF u5.2) z0S, stW cI (u5.2 0) s0S, stW cI (u5.2 1) s0S, stW cI (u5.2 2) s0S, stW cI (u5.2 3) s0S, stW cI (u5.2 4) s0S, stW cI (u5.2 5) s0S, ocW cI u8 z0S, rdW (fun _ => q10) (fun _ => uI (uI (uI (uI (uI (uI (fun _ => 0) 0 0) 1 0) 2 0) 3 0) 4 (-1)) 5 0), bfW cC (fun _ => q13) z0S]) H := hP
  have hD : va_D A (fl [mnW (fun _ => h0) u2 u5.1 u8 (fun _ => q10) (fun _ => q13) z0S, stW cI u2 s0S, svO cO u5.1 (saF u5.2) z0S, stW cI (u5.2 0) s0S, stW cI (u5.2 1) s0S, stW cI (u5.2 2) s0S, stW cI (u5.2 3) s0S, stW cI (u5.2 4) s0S, stW cI (u5.2 5) s0S, ocW cI u8 z0S, rdW (fun _ => q10) (fun _ => uI (uI (uI (uI (uI (uI (fun _ => 0) 0 0) 1 0) 2 0) 3 0) 4 (-1)) 5 0), bfW cC (fun _ => q13) z0S]) := hD
  exact W.vret hx hb hr (fun t9 ht9 hW9 => ⟨⟨(u2, u5, u8, q10, q13), rfl, (trivial), ⟨by rw [ht9]; exact hP, va_K.moved hW9.alike hK, hD⟩⟩, hS.F ht9⟩) hS.2.2 dX4_init_61 hlocks
