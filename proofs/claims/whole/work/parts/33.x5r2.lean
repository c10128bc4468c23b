set_option maxHeartbeats 4000000 in
set_option maxRecDepth 100000 in
theorem c_X5_isAt (l : Launch) (D : va_G) (cI cO cC cL : ClassId) (b : Nat → Nat) (μ : Nat → Int → Int) (lo hi : Int) (hx9 : 0 ≤ μ 0 3 ∧ μ 0 3 ≤ μ 0 1 ∧ μ 0 1 ≤ 60) (ht9 : TXT (μ 0 1) (μ 3)) (hlo : R32 lo) (hhi : R32 hi) : Met l yX5_isAt wsX5_isAt ({ frames := 1, cells := 0, slots := 0, locals := 22 } : Room) (pcR D [(cI, FieldType.int)] [.ref (b 0), .int (iI (lo)), .int (iI (hi))] (fl [mdW cI b μ])) (wr_Si (fun r => r = (if μ 0 3 < μ 0 1 ∧ lo ≤ μ 3 (μ 0 3) ∧ μ 3 (μ 0 3) ≤ hi then 1 else 0))) 0 0 (fun _ => False) := by
  refine Met.ofW (cc := cX5_isAt) (maxL := 3) (ret := (some .boolean)) (by decide) rfl ?_
  intro p9 e9 s m args9 below9 meth9 c9 s₁ B hml hv
  obtain ⟨rfl, hP, hK⟩ := hv
  have hx := B.exec
  have hb := B.bytes
  have hr := B.returns
  have hts := atoms_spec (ws := wsX5_isAt) B.pre
  have hown : s.vm.findClass RX5 = some m.cls := findClass_of_methodNamed B.named
  have hlocks := B.notSynchronized
  have hl := lv_entry ([.ref (b 0), .int (iI (lo)), .int (iI (hi))]) (n := 3) (Nat.le_of_ble_eq_true rfl)
  rw [lg_entry_eq]
  generalize (lg_sl ([.ref (b 0), .int (iI (lo)), .int (iI (hi))]) ++ List.replicate (3 - (lg_sl ([.ref (b 0), .int (iI (lo)), .int (iI (hi))])).length) Slot.unset).toArray = ls at hl ⊢
  have hl : lv_has ls 3 [(0, .ref (b 0)), (1, .int (iI (lo))), (2, .int (iI (hi)))] := hl
  have hw_0 := hts (.fieldLink RX5 97 "PromisedCountersModel" "at" "I") (by decide +kernel)
  have hin_X5 : ∀ w ∈ u_ws RX5 TX5 12, w ∈ wsX5_isAt := by decide +kernel
  have hw_1 := hts (.fieldLink RX5 94 "PromisedCountersModel" "typed" "I") (by decide +kernel)
  have hw_2 := hts (.fieldLink RX5 16 "PromisedCountersModel" "text" "[I") (by decide +kernel)
  refine lv_aload_n hx hb dX5_isAt_0 rfl (lv_at hl 0 rfl) ?_
  refine va_get (D := D) (ci := 5) (v := .int (iI ((μ 0 3)))) (C := RX5) (T := TX5) (N := 12) hx hb hts hin_X5 hown hK hP 0 rfl rfl 6 (by decide) hw_0 (fun _ h9 => h9) rfl dX5_isAt_1 ?_
  refine lv_aload_n hx hb dX5_isAt_4 rfl (lv_at hl 0 rfl) ?_
  refine va_get (D := D) (ci := 5) (v := .int (iI ((μ 0 1)))) (C := RX5) (T := TX5) (N := 12) hx hb hts hin_X5 hown hK hP 0 rfl rfl 4 (by decide) hw_1 (fun _ h9 => h9) rfl dX5_isAt_5 ?_
  refine wi_icmp_ge (tgt := 32) hx hb dX5_isAt_8 (by decide) (by omega) (fun c_8 => ?_) (fun c_8 => ?_)
  · skip
    refine wi_iconst hx hb dX5_isAt_32 ?_
    exact W.zret (v := iI (0)) hx hb hr (nar_z (by omega)) (fun t9 ht9 hW9 => ⟨(0), rfl, (by omega), ht9⟩) (fun _ h => nomatch h) dX5_isAt_33 hlocks
  · skip
    have ht8 := ht9 (μ 0 3) (by omega) (by omega)
    refine lv_aload_n hx hb dX5_isAt_11 rfl (lv_at hl 0 rfl) ?_
    refine va_get (D := D) (ci := 5) (v := .ref (b 3)) (C := RX5) (T := TX5) (N := 12) hx hb hts hin_X5 hown hK hP 0 rfl rfl 3 (by decide) hw_2 (fun _ h9 => h9) rfl dX5_isAt_12 ?_
    refine lv_aload_n hx hb dX5_isAt_15 rfl (lv_at hl 0 rfl) ?_
    refine va_get (D := D) (ci := 5) (v := .int (iI ((μ 0 3)))) (C := RX5) (T := TX5) (N := 12) hx hb hts hin_X5 hown hK hP 0 rfl rfl 6 (by decide) hw_0 (fun _ h9 => h9) rfl dX5_isAt_16 ?_
    refine wi_iald hx hb hK hP 3 0 (n := 60) (f := μ 3) rfl rfl (i := (μ 0 3)) (by omega) (by decide) dX5_isAt_19 ?_
    refine lv_iload_n hx hb dX5_isAt_20 rfl (lv_at hl 1 rfl) ?_
    refine lv_iload_n hx hb dX5_isAt_21 rfl (lv_at hl 2 rfl) ?_
    refine wr_calli (va_runS (As := [.int (iI ((μ 3 ((μ 0 3))))), .int (iI (lo)), .int (iI (hi))]) (rest := []) ⟨hx, hb, hml, hown, hts⟩ (c_X5_in l D cI cO cC cL ((μ 3 ((μ 0 3)))) (lo) (hi) (by omega) (by omega) (by omega)) (cwS 3 hts gX5_isAt_X5_in rfl rfl rfl (by decide +kernel) ⟨Nat.le_of_ble_eq_true rfl, Nat.le_of_ble_eq_true rfl⟩) ⟨fun _ _ _ _ h => h, fun U hU hW => ⟨rfl, trivial⟩⟩ rfl rfl hl.1 rfl (lv_room (Nat.le_of_ble_eq_true rfl)) dX5_isAt_22 ⟨(Nat.zero_le _), (Nat.zero_le _)⟩) (fun r1 hr1 => ?_)
    subst hr1
    refine wi_if_eq (tgt := 32) hx hb dX5_isAt_25 (by decide) (by omega) (fun c_25 => ?_) (fun c_25 => ?_)
    · skip
      refine wi_iconst hx hb dX5_isAt_32 ?_
      exact W.zret (v := iI (0)) hx hb hr (nar_z (by omega)) (fun t9 ht9 hW9 => ⟨(0), rfl, (by omega), ht9⟩) (fun _ h => nomatch h) dX5_isAt_33 hlocks
    · skip
      refine wi_iconst hx hb dX5_isAt_28 ?_
      refine lv_goto (tgt := 33) hx hb dX5_isAt_29 (by decide) ?_
      exact W.zret (v := iI (1)) hx hb hr (nar_z (by omega)) (fun t9 ht9 hW9 => ⟨(1), rfl, (by omega), ht9⟩) (fun _ h => nomatch h) dX5_isAt_33 hlocks
set_option maxHeartbeats 4000000 in
set_option maxRecDepth 100000 in
theorem c_X5_stops (l : Launch) (D : va_G) (cI cO cC cL : ClassId) (sz : Nat) (b : Nat → Nat) (μ : Nat → Int → Int) (hx9 : R32 (μ 0 3) ∧ R32 (μ 0 1)) : Met l yX5_stops wsX5_stops ({ frames := 0, cells := 0, slots := 0, locals := 0 } : Room) (pcW D [(cI, FieldType.int)] [.ref (b 0)] (fl [mdW cI b μ]) sz) (wq_i (fun (r : Int) (η : Int → Int) => STQ (μ 0) r η) (fun (η : Int → Int) => (bW D [(cI, FieldType.int)] (fl [mdW cI b (sR μ 0 η)]) (va_A (fl [mdW cI b μ]) sz))) (va_A (fl [mdW cI b μ]) sz)) 0 0 (va_A (fl [mdW cI b μ]) sz) := by
  refine Met.ofW (cc := cX5_stops) (maxL := 1) (ret := (some .boolean)) (by decide) rfl ?_
  intro p9 e9 s m args9 below9 meth9 c9 s₁ B hml hv
  obtain ⟨rfl, hsz, hP, hK, hD0⟩ := hv
  have hx := B.exec
  have hb := B.bytes
  have hr := B.returns
  have hts := atoms_spec (ws := wsX5_stops) B.pre
  have hown : s.vm.findClass RX5 = some m.cls := findClass_of_methodNamed B.named
  have hlocks := B.notSynchronized
  subst hsz
  have hD := hD0.self (sz := s.heap.size)
  generalize hAe : va_A (fl [mdW cI b μ]) s.heap.size = A at hD ⊢
  have hA : ∀ q : Nat, s.heap.size ≤ q → A q := fun q h => by rw [← hAe]; exact Or.inr h
  have hS : va_S A s.heap s.heap [] := va_S.rf
  have hP : va_P D vwCl (fl [mdW cI b μ]) s.heap := hP
  have hl := lv_entry ([.ref (b 0)]) (n := 1) (Nat.le_of_ble_eq_true rfl)
  rw [lg_entry_eq]
  generalize (lg_sl ([.ref (b 0)]) ++ List.replicate (1 - (lg_sl ([.ref (b 0)])).length) Slot.unset).toArray = ls at hl ⊢
  have hl : lv_has ls 1 [(0, .ref (b 0))] := hl
  have hw_0 := hts (.fieldLink RX5 97 "PromisedCountersModel" "at" "I") (by decide +kernel)
  have hin_X5 : ∀ w ∈ u_ws RX5 TX5 12, w ∈ wsX5_stops := by decide +kernel
  have hw_1 := hts (.fieldLink RX5 94 "PromisedCountersModel" "typed" "I") (by decide +kernel)
  have hw_2 := hts (.fieldLink RX5 100 "PromisedCountersModel" "isFault" "Z") (by decide +kernel)
  refine lv_aload_n hx hb dX5_stops_0 rfl (lv_at hl 0 rfl) ?_
  refine lv_aload_n hx hb dX5_stops_1 rfl (lv_at hl 0 rfl) ?_
  refine va_get (D := D) (ci := 5) (v := .int (iI ((μ 0 3)))) (C := RX5) (T := TX5) (N := 12) hx hb hts hin_X5 hown hK hP 0 rfl rfl 6 (by decide) hw_0 (fun _ h9 => h9) rfl dX5_stops_2 ?_
  refine lv_aload_n hx hb dX5_stops_5 rfl (lv_at hl 0 rfl) ?_
  refine va_get (D := D) (ci := 5) (v := .int (iI ((μ 0 1)))) (C := RX5) (T := TX5) (N := 12) hx hb hts hin_X5 hown hK hP 0 rfl rfl 4 (by decide) hw_1 (fun _ h9 => h9) rfl dX5_stops_6 ?_
  refine wi_icmp_ge (tgt := 16) hx hb dX5_stops_9 (by decide) (by omega) (fun c_9 => ?_) (fun c_9 => ?_)
  · skip
    refine wi_iconst hx hb dX5_stops_16 ?_
    refine va_put (D := D) (ci := 5) (v := .int (iI (0))) (ty := .boolean) (C := RX5) (T := TX5) (N := 12) hx hb hts hin_X5 tyX5 tyX5_ok nmX5 hown hK hP hD hS 0 rfl rfl 7 (by decide) hw_2 (fun _ h9 => h9) rfl (by decide +kernel) (nar_z (by omega)) rfl (Nat.le_of_ble_eq_true rfl) dX5_stops_17 (fun H locs hP hD hS => ?_)
    have hP : va_P D vwCl (fl [mdW cI b (sU μ 0 (4) (0))]) H := hP
    have hD : va_D A (fl [mdW cI b (sU μ 0 (4) (0))]) := hD
    refine wi_iconst hx hb dX5_stops_20 ?_
    have hP : va_P D vwCl (fl [mdW cI b (sR μ 0 ((uI (μ 0) (4) (0))))]) H := hP
    have hD : va_D A (fl [mdW cI b (sR μ 0 ((uI (μ 0) (4) (0))))]) := hD
    exact W.zret (v := iI (0)) hx hb hr (nar_z (by omega)) (fun t9 ht9 hW9 => ⟨⟨(0), ((uI (μ 0) (4) (0))), rfl, (⟨rfl, (FRW.rf _).u _ _ (by omega), uI_n (by omega), by rw [uI_s]; omega⟩), ⟨by rw [ht9]; exact hP, va_K.moved hW9.alike hK, hD⟩⟩, hS.F ht9⟩) hS.2.2 dX5_stops_21 hlocks
  · skip
    refine wi_iconst hx hb dX5_stops_12 ?_
    refine lv_goto (tgt := 17) hx hb dX5_stops_13 (by decide) ?_
    refine va_put (D := D) (ci := 5) (v := .int (iI (1))) (ty := .boolean) (C := RX5) (T := TX5) (N := 12) hx hb hts hin_X5 tyX5 tyX5_ok nmX5 hown hK hP hD hS 0 rfl rfl 7 (by decide) hw_2 (fun _ h9 => h9) rfl (by decide +kernel) (nar_z (by omega)) rfl (Nat.le_of_ble_eq_true rfl) dX5_stops_17 (fun H locs hP hD hS => ?_)
    have hP : va_P D vwCl (fl [mdW cI b (sU μ 0 (4) (1))]) H := hP
    have hD : va_D A (fl [mdW cI b (sU μ 0 (4) (1))]) := hD
    refine wi_iconst hx hb dX5_stops_20 ?_
    have hP : va_P D vwCl (fl [mdW cI b (sR μ 0 ((uI (μ 0) (4) (1))))]) H := hP
    have hD : va_D A (fl [mdW cI b (sR μ 0 ((uI (μ 0) (4) (1))))]) := hD
    exact W.zret (v := iI (0)) hx hb hr (nar_z (by omega)) (fun t9 ht9 hW9 => ⟨⟨(0), ((uI (μ 0) (4) (1))), rfl, (⟨rfl, (FRW.rf _).u _ _ (by omega), uI_n (by omega), by rw [uI_s]; omega⟩), ⟨by rw [ht9]; exact hP, va_K.moved hW9.alike hK, hD⟩⟩, hS.F ht9⟩) hS.2.2 dX5_stops_21 hlocks
set_option maxHeartbeats 4000000 in
set_option maxRecDepth 100000 in
theorem c_X5_isFigure (l : Launch) (D : va_G) (cI cO cC cL : ClassId) (sz : Nat) (b : Nat → Nat) (μ : Nat → Int → Int) (hi but : Int) (hx9 : 0 ≤ μ 0 3 ∧ μ 0 3 ≤ μ 0 1 ∧ μ 0 1 ≤ 60) (ht9 : TXT (μ 0 1) (μ 3)) (hhi : 0 ≤ hi ∧ hi ≤ 127) (hbut : -1 ≤ but ∧ but ≤ 65535) : Met l yX5_isFigure wsX5_isFigure ({ frames := 2, cells := 0, slots := 0, locals := 44 } : Room) (pcW D [(cI, FieldType.int)] [.ref (b 0), .int (iI (hi)), .int (iI (but))] (fl [mdW cI b μ]) sz) (wq_i (fun (r : Int) (η : Int → Int) => FGQ (μ 0) (μ 3) hi but r η) (fun (η : Int → Int) => (bW D [(cI, FieldType.int)] (fl [mdW cI b (sR μ 0 η)]) (va_A (fl [mdW cI b μ]) sz))) (va_A (fl [mdW cI b μ]) sz)) 0 0 (va_A (fl [mdW cI b μ]) sz) := by
  refine Met.ofW (cc := cX5_isFigure) (maxL := 3) (ret := (some .boolean)) (by decide) rfl ?_
  intro p9 e9 s m args9 below9 meth9 c9 s₁ B hml hv
  obtain ⟨rfl, hsz, hP, hK, hD0⟩ := hv
  have hx := B.exec
  have hb := B.bytes
  have hr := B.returns
  have hts := atoms_spec (ws := wsX5_isFigure) B.pre
  have hown : s.vm.findClass RX5 = some m.cls := findClass_of_methodNamed B.named
  have hlocks := B.notSynchronized
  subst hsz
  have hD := hD0.self (sz := s.heap.size)
  generalize hAe : va_A (fl [mdW cI b μ]) s.heap.size = A at hD ⊢
  have hA : ∀ q : Nat, s.heap.size ≤ q → A q := fun q h => by rw [← hAe]; exact Or.inr h
  have hS : va_S A s.heap s.heap [] := va_S.rf
  have hP : va_P D vwCl (fl [mdW cI b μ]) s.heap := hP
  have hl := lv_entry ([.ref (b 0), .int (iI (hi)), .int (iI (but))]) (n := 3) (Nat.le_of_ble_eq_true rfl)
  rw [lg_entry_eq]
  generalize (lg_sl ([.ref (b 0), .int (iI (hi)), .int (iI (but))]) ++ List.replicate (3 - (lg_sl ([.ref (b 0), .int (iI (hi)), .int (iI (but))])).length) Slot.unset).toArray = ls at hl ⊢
  have hl : lv_has ls 3 [(0, .ref (b 0)), (1, .int (iI (hi))), (2, .int (iI (but)))] := hl
  have hw_0 := hts (.fieldLink RX5 16 "PromisedCountersModel" "text" "[I") (by decide +kernel)
  have hin_X5 : ∀ w ∈ u_ws RX5 TX5 12, w ∈ wsX5_isFigure := by decide +kernel
  have hw_1 := hts (.fieldLink RX5 97 "PromisedCountersModel" "at" "I") (by decide +kernel)
  have hw_2 := hts (.fieldLink RX5 112 "PromisedCountersModel" "value" "I") (by decide +kernel)
  refine lv_aload_n hx hb dX5_isFigure_0 rfl (lv_at hl 0 rfl) ?_
  refine wi_bipush hx hb dX5_isFigure_1 (by decide) ?_
  refine lv_iload_n hx hb dX5_isFigure_3 rfl (lv_at hl 1 rfl) ?_
  refine wr_calli (va_runV (As := [.int (iI (48)), .int (iI (hi))]) (rest := []) ⟨hx, hb, hml, hown, hts⟩ (c_X5_isAt l D cI cO cC cL b μ (48) (hi) (hx9) (ht9) (by omega) (by omega)) (cwV 2 hts gX5_isFigure_X5_isAt rfl rfl rfl (by decide +kernel) ⟨Nat.le_of_ble_eq_true rfl, Nat.le_of_ble_eq_true rfl⟩) ⟨pcR_blind, va_recv hK hP (ci := 5) (q0 := 0) rfl rfl, pcR_of hP hK⟩ rfl rfl hl.1 rfl (lv_room (Nat.le_of_ble_eq_true rfl)) dX5_isFigure_4 ⟨(Nat.zero_le _), (Nat.zero_le _)⟩) (fun r1 hr1 => ?_)
  subst hr1
  refine wi_if_eq (tgt := 26) hx hb dX5_isFigure_7 (by decide) (by omega) (fun c_7 => ?_) (fun c_7 => ?_)
  · skip
    refine lv_aload_n hx hb dX5_isFigure_26 rfl (lv_at hl 0 rfl) ?_
    have hFc := fl_free (SC := [mdW cI b μ]) hD hS hA [0] rfl
    refine wq_calli (va_runV (As := []) (rest := []) ⟨hx, hb, hml, hown, hts⟩ (c_X5_stops l D cI cO cC cL s.heap.size b μ (by omega)) (cwV 0 hts gX5_isFigure_X5_stops rfl rfl rfl (by decide +kernel) ⟨Nat.le_of_ble_eq_true rfl, Nat.le_of_ble_eq_true rfl⟩) ⟨pcW_blind, va_recv hK hP (ci := 5) (q0 := 0) rfl rfl, pcW_of hP hK hD⟩ rfl rfl hl.1 rfl (lv_room (Nat.le_of_ble_eq_true rfl)) dX5_isFigure_27 ⟨(Nat.zero_le _), (Nat.zero_le _)⟩) hS (fun q _ h => hFc q h) hFc (fun r2 u4 t9 H1 locs ht9 hvm hcl3 hB hz1 hk1 hS => ?_)
    obtain ⟨hP1, hK1, hD1⟩ := hB
    rw [ht9] at hP1
    obtain ⟨hP, hD⟩ := fl_join (SR := []) (S1 := [mdW cI b (sR μ 0 u4)]) hP hD [0] [] rfl rfl (by decide) (by decide) hk1 hFc hP1 hD1
    generalize H1 = H at hP hS ⊢
    have hP : va_P D vwCl (fl [mdW cI b (sR μ 0 u4)]) H := hP
    have hD : va_D A (fl [mdW cI b (sR μ 0 u4)]) := hD
    obtain ⟨hz9, -⟩ := id hcl3
    have hP : va_P D vwCl (fl [mdW cI b (sR μ 0 (u4))]) H := hP
    have hD : va_D A (fl [mdW cI b (sR μ 0 (u4))]) := hD
    exact W.zret (v := iI (r2)) hx hb hr (nar_z (by omega)) (fun t9 ht9 hW9 => ⟨⟨(r2), (u4), rfl, (⟨hcl3.2.1, fun h9 => by exfalso; omega, fun h9 => ⟨hcl3.1, hcl3.2.2⟩⟩), ⟨by rw [ht9]; exact hP, va_K.moved hW9.alike hK, hD⟩⟩, hS.F ht9⟩) hS.2.2 dX5_isFigure_30 hlocks
  · skip
    have ht8 := ht9 (μ 0 3) (by omega) (by omega)
    refine lv_aload_n hx hb dX5_isFigure_10 rfl (lv_at hl 0 rfl) ?_
    refine va_get (D := D) (ci := 5) (v := .ref (b 3)) (C := RX5) (T := TX5) (N := 12) hx hb hts hin_X5 hown hK hP 0 rfl rfl 3 (by decide) hw_0 (fun _ h9 => h9) rfl dX5_isFigure_11 ?_
    refine lv_aload_n hx hb dX5_isFigure_14 rfl (lv_at hl 0 rfl) ?_
    refine va_get (D := D) (ci := 5) (v := .int (iI ((μ 0 3)))) (C := RX5) (T := TX5) (N := 12) hx hb hts hin_X5 hown hK hP 0 rfl rfl 6 (by decide) hw_1 (fun _ h9 => h9) rfl dX5_isFigure_15 ?_
    refine wi_iald hx hb hK hP 3 0 (n := 60) (f := μ 3) rfl rfl (i := (μ 0 3)) (by omega) (by decide) dX5_isFigure_18 ?_
    refine wi_bipush hx hb dX5_isFigure_19 (by decide) ?_
    refine wi_isub hx hb dX5_isFigure_21 ?_
    refine lv_iload_n hx hb dX5_isFigure_22 rfl (lv_at hl 2 rfl) ?_
    refine wi_icmp_ne (tgt := 31) hx hb dX5_isFigure_23 (by decide) (by omega) (fun c_23 => ?_) (fun c_23 => ?_)
    · skip
      refine lv_aload_n hx hb dX5_isFigure_31 rfl (lv_at hl 0 rfl) ?_
      refine lv_aload_n hx hb dX5_isFigure_32 rfl (lv_at hl 0 rfl) ?_
      refine va_get (D := D) (ci := 5) (v := .ref (b 3)) (C := RX5) (T := TX5) (N := 12) hx hb hts hin_X5 hown hK hP 0 rfl rfl 3 (by decide) hw_0 (fun _ h9 => h9) rfl dX5_isFigure_33 ?_
      refine lv_aload_n hx hb dX5_isFigure_36 rfl (lv_at hl 0 rfl) ?_
      refine va_get (D := D) (ci := 5) (v := .int (iI ((μ 0 3)))) (C := RX5) (T := TX5) (N := 12) hx hb hts hin_X5 hown hK hP 0 rfl rfl 6 (by decide) hw_1 (fun _ h9 => h9) rfl dX5_isFigure_37 ?_
      refine wi_iald hx hb hK hP 3 0 (n := 60) (f := μ 3) rfl rfl (i := (μ 0 3)) (by omega) (by decide) dX5_isFigure_40 ?_
      refine wi_bipush hx hb dX5_isFigure_41 (by decide) ?_
      refine wi_isub hx hb dX5_isFigure_43 ?_
      refine va_put (D := D) (ci := 5) (v := .int (iI (((μ 3 ((μ 0 3))) - 48)))) (ty := .int) (C := RX5) (T := TX5) (N := 12) hx hb hts hin_X5 tyX5 tyX5_ok nmX5 hown hK hP hD hS 0 rfl rfl 8 (by decide) hw_2 (fun _ h9 => h9) rfl (by decide +kernel) rfl rfl (Nat.le_of_ble_eq_true rfl) dX5_isFigure_44 (fun H locs hP hD hS => ?_)
      have hP : va_P D vwCl (fl [mdW cI b (sU μ 0 (5) (((μ 3 ((μ 0 3))) - 48)))]) H := hP
      have hD : va_D A (fl [mdW cI b (sU μ 0 (5) (((μ 3 ((μ 0 3))) - 48)))]) := hD
      refine lv_aload_n hx hb dX5_isFigure_47 rfl (lv_at hl 0 rfl) ?_
      refine lv_dup hx hb dX5_isFigure_48 rfl ?_
      refine va_get (D := D) (ci := 5) (v := .int (iI (((uI (μ 0) (5) (((μ 3 ((μ 0 3))) - 48))) 3)))) (C := RX5) (T := TX5) (N := 12) hx hb hts hin_X5 hown hK hP 0 rfl rfl 6 (by decide) hw_1 (fun _ h9 => h9) rfl dX5_isFigure_49 ?_
      refine wi_iconst hx hb dX5_isFigure_52 ?_
      refine wi_iadd hx hb dX5_isFigure_53 ?_
      refine va_put (D := D) (ci := 5) (v := .int (iI ((((uI (μ 0) (5) (((μ 3 ((μ 0 3))) - 48))) 3) + 1)))) (ty := .int) (C := RX5) (T := TX5) (N := 12) hx hb hts hin_X5 tyX5 tyX5_ok nmX5 hown hK hP hD hS 0 rfl rfl 6 (by decide) hw_1 (fun _ h9 => h9) rfl (by decide +kernel) rfl rfl (Nat.le_of_ble_eq_true rfl) dX5_isFigure_54 (fun H locs hP hD hS => ?_)
      have hP : va_P D vwCl (fl [mdW cI b (sU (sU μ 0 (5) (((μ 3 ((μ 0 3))) - 48))) 0 (3) ((((uI (μ 0) (5) (((μ 3 ((μ 0 3))) - 48))) 3) + 1)))]) H := hP
      have hD : va_D A (fl [mdW cI b (sU (sU μ 0 (5) (((μ 3 ((μ 0 3))) - 48))) 0 (3) ((((uI (μ 0) (5) (((μ 3 ((μ 0 3))) - 48))) 3) + 1)))]) := hD
      refine wi_iconst hx hb dX5_isFigure_57 ?_
      have hP : va_P D vwCl (fl [mdW cI b (sR μ 0 ((uI ((uI (μ 0) (5) (((μ 3 ((μ 0 3))) - 48)))) (3) ((((uI (μ 0) (5) (((μ 3 ((μ 0 3))) - 48))) 3) + 1)))))]) H := hP
      have hD : va_D A (fl [mdW cI b (sR μ 0 ((uI ((uI (μ 0) (5) (((μ 3 ((μ 0 3))) - 48)))) (3) ((((uI (μ 0) (5) (((μ 3 ((μ 0 3))) - 48))) 3) + 1)))))]) := hD
      exact W.zret (v := iI (1)) hx hb hr (nar_z (by omega)) (fun t9 ht9 hW9 => ⟨⟨(1), ((uI ((uI (μ 0) (5) (((μ 3 ((μ 0 3))) - 48)))) (3) ((((uI (μ 0) (5) (((μ 3 ((μ 0 3))) - 48))) 3) + 1)))), rfl, (⟨((FRW.rf _).u _ _ (by omega)).u _ _ (by omega), fun h9 => ⟨rfl, by simp (disch := omega) only [uI_e, uI_n], by simp (disch := omega) only [uI_e, uI_n]⟩, fun h9 => by exfalso; omega⟩), ⟨by rw [ht9]; exact hP, va_K.moved hW9.alike hK, hD⟩⟩, hS.F ht9⟩) hS.2.2 dX5_isFigure_58 hlocks
    · skip
      refine lv_aload_n hx hb dX5_isFigure_26 rfl (lv_at hl 0 rfl) ?_
      have hFc := fl_free (SC := [mdW cI b μ]) hD hS hA [0] rfl
      refine wq_calli (va_runV (As := []) (rest := []) ⟨hx, hb, hml, hown, hts⟩ (c_X5_stops l D cI cO cC cL s.heap.size b μ (by omega)) (cwV 0 hts gX5_isFigure_X5_stops rfl rfl rfl (by decide +kernel) ⟨Nat.le_of_ble_eq_true rfl, Nat.le_of_ble_eq_true rfl⟩) ⟨pcW_blind, va_recv hK hP (ci := 5) (q0 := 0) rfl rfl, pcW_of hP hK hD⟩ rfl rfl hl.1 rfl (lv_room (Nat.le_of_ble_eq_true rfl)) dX5_isFigure_27 ⟨(Nat.zero_le _), (Nat.zero_le _)⟩) hS (fun q _ h => hFc q h) hFc (fun r5 u7 t9 H1 locs ht9 hvm hcl6 hB hz1 hk1 hS => ?_)
      obtain ⟨hP1, hK1, hD1⟩ := hB
      rw [ht9] at hP1
      obtain ⟨hP, hD⟩ := fl_join (SR := []) (S1 := [mdW cI b (sR μ 0 u7)]) hP hD [0] [] rfl rfl (by decide) (by decide) hk1 hFc hP1 hD1
      generalize H1 = H at hP hS ⊢
      have hP : va_P D vwCl (fl [mdW cI b (sR μ 0 u7)]) H := hP
      have hD : va_D A (fl [mdW cI b (sR μ 0 u7)]) := hD
      obtain ⟨hz9, -⟩ := id hcl6
      have hP : va_P D vwCl (fl [mdW cI b (sR μ 0 (u7))]) H := hP
      have hD : va_D A (fl [mdW cI b (sR μ 0 (u7))]) := hD
      exact W.zret (v := iI (r5)) hx hb hr (nar_z (by omega)) (fun t9 ht9 hW9 => ⟨⟨(r5), (u7), rfl, (⟨hcl6.2.1, fun h9 => by exfalso; omega, fun h9 => ⟨hcl6.1, hcl6.2.2⟩⟩), ⟨by rw [ht9]; exact hP, va_K.moved hW9.alike hK, hD⟩⟩, hS.F ht9⟩) hS.2.2 dX5_isFigure_30 hlocks
set_option maxHeartbeats 4000000 in
set_option maxRecDepth 100000 in
theorem c_X5_isNumber (l : Launch) (D : va_G) (cI cO cC cL : ClassId) (sz : Nat) (b : Nat → Nat) (μ : Nat → Int → Int) (hx9 : 0 ≤ μ 0 3 ∧ μ 0 3 ≤ μ 0 1 ∧ μ 0 1 ≤ 60) (ht9 : TXT (μ 0 1) (μ 3)) : Met l yX5_isNumber wsX5_isNumber ({ frames := 2, cells := 0, slots := 0, locals := 44 } : Room) (pcW D [(cI, FieldType.int)] [.ref (b 0)] (fl [mdW cI b μ]) sz) (wq_i (fun (r : Int) (η : Int → Int) => NMQ (μ 0) (μ 3) r η) (fun (η : Int → Int) => (bW D [(cI, FieldType.int)] (fl [mdW cI b (sR μ 0 η)]) (va_A (fl [mdW cI b μ]) sz))) (va_A (fl [mdW cI b μ]) sz)) 0 0 (va_A (fl [mdW cI b μ]) sz) := by
  refine Met.ofW (cc := cX5_isNumber) (maxL := 1) (ret := (some .boolean)) (by decide) rfl ?_
  intro p9 e9 s m args9 below9 meth9 c9 s₁ B hml hv
  obtain ⟨rfl, hsz, hP, hK, hD0⟩ := hv
  have hx := B.exec
  have hb := B.bytes
  have hr := B.returns
  have hts := atoms_spec (ws := wsX5_isNumber) B.pre
  have hown : s.vm.findClass RX5 = some m.cls := findClass_of_methodNamed B.named
  have hlocks := B.notSynchronized
  subst hsz
  have hD := hD0.self (sz := s.heap.size)
  generalize hAe : va_A (fl [mdW cI b μ]) s.heap.size = A at hD ⊢
  have hA : ∀ q : Nat, s.heap.size ≤ q → A q := fun q h => by rw [← hAe]; exact Or.inr h
  have hS : va_S A s.heap s.heap [] := va_S.rf
  have hP : va_P D vwCl (fl [mdW cI b μ]) s.heap := hP
  have hl := lv_entry ([.ref (b 0)]) (n := 1) (Nat.le_of_ble_eq_true rfl)
  rw [lg_entry_eq]
  generalize (lg_sl ([.ref (b 0)]) ++ List.replicate (1 - (lg_sl ([.ref (b 0)])).length) Slot.unset).toArray = ls at hl ⊢
  have hl : lv_has ls 1 [(0, .ref (b 0))] := hl
  have hw_0 := hts (.fieldLink RX5 16 "PromisedCountersModel" "text" "[I") (by decide +kernel)
  have hin_X5 : ∀ w ∈ u_ws RX5 TX5 12, w ∈ wsX5_isNumber := by decide +kernel
  have hw_1 := hts (.fieldLink RX5 97 "PromisedCountersModel" "at" "I") (by decide +kernel)
  have hw_2 := hts (.fieldLink RX5 112 "PromisedCountersModel" "value" "I") (by decide +kernel)
  refine lv_aload_n hx hb dX5_isNumber_0 rfl (lv_at hl 0 rfl) ?_
  refine wi_bipush hx hb dX5_isNumber_1 (by decide) ?_
  refine wi_bipush hx hb dX5_isNumber_3 (by decide) ?_
  refine wr_calli (va_runV (As := [.int (iI (49)), .int (iI (57))]) (rest := []) ⟨hx, hb, hml, hown, hts⟩ (c_X5_isAt l D cI cO cC cL b μ (49) (57) (hx9) (ht9) (by omega) (by omega)) (cwV 2 hts gX5_isNumber_X5_isAt rfl rfl rfl (by decide +kernel) ⟨Nat.le_of_ble_eq_true rfl, Nat.le_of_ble_eq_true rfl⟩) ⟨pcR_blind, va_recv hK hP (ci := 5) (q0 := 0) rfl rfl, pcR_of hP hK⟩ rfl rfl hl.1 rfl (lv_room (Nat.le_of_ble_eq_true rfl)) dX5_isNumber_5 ⟨(Nat.zero_le _), (Nat.zero_le _)⟩) (fun r1 hr1 => ?_)
  subst hr1
  refine wi_if_ne (tgt := 16) hx hb dX5_isNumber_8 (by decide) (by omega) (fun c_8 => ?_) (fun c_8 => ?_)
  · skip
    have ht8 := ht9 (μ 0 3) (by omega) (by omega)
    refine lv_aload_n hx hb dX5_isNumber_16 rfl (lv_at hl 0 rfl) ?_
    refine lv_aload_n hx hb dX5_isNumber_17 rfl (lv_at hl 0 rfl) ?_
    refine va_get (D := D) (ci := 5) (v := .ref (b 3)) (C := RX5) (T := TX5) (N := 12) hx hb hts hin_X5 hown hK hP 0 rfl rfl 3 (by decide) hw_0 (fun _ h9 => h9) rfl dX5_isNumber_18 ?_
    refine lv_aload_n hx hb dX5_isNumber_21 rfl (lv_at hl 0 rfl) ?_
    refine va_get (D := D) (ci := 5) (v := .int (iI ((μ 0 3)))) (C := RX5) (T := TX5) (N := 12) hx hb hts hin_X5 hown hK hP 0 rfl rfl 6 (by decide) hw_1 (fun _ h9 => h9) rfl dX5_isNumber_22 ?_
    refine wi_iald hx hb hK hP 3 0 (n := 60) (f := μ 3) rfl rfl (i := (μ 0 3)) (by omega) (by decide) dX5_isNumber_25 ?_
    refine wi_bipush hx hb dX5_isNumber_26 (by decide) ?_
    refine wi_isub hx hb dX5_isNumber_28 ?_
    refine va_put (D := D) (ci := 5) (v := .int (iI (((μ 3 ((μ 0 3))) - 48)))) (ty := .int) (C := RX5) (T := TX5) (N := 12) hx hb hts hin_X5 tyX5 tyX5_ok nmX5 hown hK hP hD hS 0 rfl rfl 8 (by decide) hw_2 (fun _ h9 => h9) rfl (by decide +kernel) rfl rfl (Nat.le_of_ble_eq_true rfl) dX5_isNumber_29 (fun H locs hP hD hS => ?_)
    have hP : va_P D vwCl (fl [mdW cI b (sU μ 0 (5) (((μ 3 ((μ 0 3))) - 48)))]) H := hP
    have hD : va_D A (fl [mdW cI b (sU μ 0 (5) (((μ 3 ((μ 0 3))) - 48)))]) := hD
    refine lv_aload_n hx hb dX5_isNumber_32 rfl (lv_at hl 0 rfl) ?_
    refine lv_dup hx hb dX5_isNumber_33 rfl ?_
    refine va_get (D := D) (ci := 5) (v := .int (iI (((uI (μ 0) (5) (((μ 3 ((μ 0 3))) - 48))) 3)))) (C := RX5) (T := TX5) (N := 12) hx hb hts hin_X5 hown hK hP 0 rfl rfl 6 (by decide) hw_1 (fun _ h9 => h9) rfl dX5_isNumber_34 ?_
    refine wi_iconst hx hb dX5_isNumber_37 ?_
    refine wi_iadd hx hb dX5_isNumber_38 ?_
    refine va_put (D := D) (ci := 5) (v := .int (iI ((((uI (μ 0) (5) (((μ 3 ((μ 0 3))) - 48))) 3) + 1)))) (ty := .int) (C := RX5) (T := TX5) (N := 12) hx hb hts hin_X5 tyX5 tyX5_ok nmX5 hown hK hP hD hS 0 rfl rfl 6 (by decide) hw_1 (fun _ h9 => h9) rfl (by decide +kernel) rfl rfl (Nat.le_of_ble_eq_true rfl) dX5_isNumber_39 (fun H locs hP hD hS => ?_)
    have hP : va_P D vwCl (fl [mdW cI b (sU (sU μ 0 (5) (((μ 3 ((μ 0 3))) - 48))) 0 (3) ((((uI (μ 0) (5) (((μ 3 ((μ 0 3))) - 48))) 3) + 1)))]) H := hP
    have hD : va_D A (fl [mdW cI b (sU (sU μ 0 (5) (((μ 3 ((μ 0 3))) - 48))) 0 (3) ((((uI (μ 0) (5) (((μ 3 ((μ 0 3))) - 48))) 3) + 1)))]) := hD
    have L42 : ∀ (η : Int → Int), (FRW (μ 0) η) → (η 3 = μ 0 3 + 1) → (η 5 = μ 3 (μ 0 3) - 48) → ∀ (H : Heap) (locs : List Loc), va_P D vwCl (fl [mdW cI b (sR μ 0 η)]) H → va_D A (fl [mdW cI b (sR μ 0 η)]) → va_S A s.heap H locs → ∀ (ls : Array Slot), lv_has ls 1 [(0, .ref (b 0))] → W p9 l e9 ({ frames := 2, cells := 0, slots := 0, locals := 44 } : Room) s m ([.ref (b 0)] : List Value).toArray below9 meth9 c9 H locs 0 0 (MQ below9 (wq_i (fun (r : Int) (η : Int → Int) => NMQ (μ 0) (μ 3) r η) (fun (η : Int → Int) => (bW D [(cI, FieldType.int)] (fl [mdW cI b (sR μ 0 η)]) A)) A) ([.ref (b 0)] : List Value).toArray s 0 0 A) (F0 m 42 ls []) := by
      intro η hF he3 h5 H locs hP hD hS ls hl
      have hF1 := hF.2.1
      refine lv_aload_n hx hb dX5_isNumber_42 rfl (lv_at hl 0 rfl) ?_
      refine wi_bipush hx hb dX5_isNumber_43 (by decide) ?_
      refine wi_bipush hx hb dX5_isNumber_45 (by decide) ?_
      refine wr_calli (va_runV (As := [.int (iI (48)), .int (iI (57))]) (rest := []) ⟨hx, hb, hml, hown, hts⟩ (c_X5_isAt l D cI cO cC cL b (sR μ 0 η) (48) (57) ((show 0 ≤ η 3 ∧ η 3 ≤ η 1 ∧ η 1 ≤ 60 by omega)) (ht9.mv hF1) (by omega) (by omega)) (cwV 2 hts gX5_isNumber_X5_isAt rfl rfl rfl (by decide +kernel) ⟨Nat.le_of_ble_eq_true rfl, Nat.le_of_ble_eq_true rfl⟩) ⟨pcR_blind, va_recv hK hP (ci := 5) (q0 := 0) rfl rfl, pcR_of hP hK⟩ rfl rfl hl.1 rfl (lv_room (Nat.le_of_ble_eq_true rfl)) dX5_isNumber_47 ⟨(Nat.zero_le _), (Nat.zero_le _)⟩) (fun r2 hr2 => ?_)
      subst hr2
      refine wi_top (y := (if η 3 < η 1 ∧ (48) ≤ μ 3 (η 3) ∧ μ 3 (η 3) ≤ (57) then (1 : Int) else 0)) rfl ?_
      refine wi_if_eq (tgt := 87) hx hb dX5_isNumber_50 (by decide) (by omega) (fun c_50 => ?_) (fun c_50 => ?_)
      · skip
        refine wi_iconst hx hb dX5_isNumber_87 ?_
        have hP : va_P D vwCl (fl [mdW cI b (sR μ 0 (η))]) H := hP
        have hD : va_D A (fl [mdW cI b (sR μ 0 (η))]) := hD
        exact W.zret (v := iI (1)) hx hb hr (nar_z (by omega)) (fun t9 ht9 hW9 => ⟨⟨(1), (η), rfl, (⟨hF, fun h9 => by exfalso; omega, fun h9 h8 => ⟨rfl, he3, h5⟩, fun h9 h8 => by exfalso; rw [he3] at c_50; omega⟩), ⟨by rw [ht9]; exact hP, va_K.moved hW9.alike hK, hD⟩⟩, hS.F ht9⟩) hS.2.2 dX5_isNumber_88 hlocks
      · skip
        have ht7 := ht9 (η 3) (by omega) (by omega)
        refine lv_aload_n hx hb dX5_isNumber_53 rfl (lv_at hl 0 rfl) ?_
        refine wi_bipush hx hb dX5_isNumber_54 (by decide) ?_
        refine lv_aload_n hx hb dX5_isNumber_56 rfl (lv_at hl 0 rfl) ?_
        refine va_get (D := D) (ci := 5) (v := .int (iI ((η 5)))) (C := RX5) (T := TX5) (N := 12) hx hb hts hin_X5 hown hK hP 0 rfl rfl 8 (by decide) hw_2 (fun _ h9 => h9) rfl dX5_isNumber_57 ?_
        refine wi_imul hx hb dX5_isNumber_60 ?_
        refine lv_aload_n hx hb dX5_isNumber_61 rfl (lv_at hl 0 rfl) ?_
        refine va_get (D := D) (ci := 5) (v := .ref (b 3)) (C := RX5) (T := TX5) (N := 12) hx hb hts hin_X5 hown hK hP 0 rfl rfl 3 (by decide) hw_0 (fun _ h9 => h9) rfl dX5_isNumber_62 ?_
        refine lv_aload_n hx hb dX5_isNumber_65 rfl (lv_at hl 0 rfl) ?_
        refine va_get (D := D) (ci := 5) (v := .int (iI ((η 3)))) (C := RX5) (T := TX5) (N := 12) hx hb hts hin_X5 hown hK hP 0 rfl rfl 6 (by decide) hw_1 (fun _ h9 => h9) rfl dX5_isNumber_66 ?_
        refine wi_iald hx hb hK hP 3 0 (n := 60) (f := μ 3) rfl rfl (i := (η 3)) (by omega) (by decide) dX5_isNumber_69 ?_
        refine wi_iadd hx hb dX5_isNumber_70 ?_
        refine wi_bipush hx hb dX5_isNumber_71 (by decide) ?_
        refine wi_isub hx hb dX5_isNumber_73 ?_
        refine va_put (D := D) (ci := 5) (v := .int (iI ((((10 * (η 5)) + (μ 3 ((η 3)))) - 48)))) (ty := .int) (C := RX5) (T := TX5) (N := 12) hx hb hts hin_X5 tyX5 tyX5_ok nmX5 hown hK hP hD hS 0 rfl rfl 8 (by decide) hw_2 (fun _ h9 => h9) rfl (by decide +kernel) rfl rfl (Nat.le_of_ble_eq_true rfl) dX5_isNumber_74 (fun H locs hP hD hS => ?_)
        have hP : va_P D vwCl (fl [mdW cI b (sU (sR μ 0 η) 0 (5) ((((10 * (η 5)) + (μ 3 ((η 3)))) - 48)))]) H := hP
        have hD : va_D A (fl [mdW cI b (sU (sR μ 0 η) 0 (5) ((((10 * (η 5)) + (μ 3 ((η 3)))) - 48)))]) := hD
        refine lv_aload_n hx hb dX5_isNumber_77 rfl (lv_at hl 0 rfl) ?_
        refine lv_dup hx hb dX5_isNumber_78 rfl ?_
        refine va_get (D := D) (ci := 5) (v := .int (iI (((uI (η) (5) ((((10 * (η 5)) + (μ 3 ((η 3)))) - 48))) 3)))) (C := RX5) (T := TX5) (N := 12) hx hb hts hin_X5 hown hK hP 0 rfl rfl 6 (by decide) hw_1 (fun _ h9 => h9) rfl dX5_isNumber_79 ?_
        refine wi_iconst hx hb dX5_isNumber_82 ?_
        refine wi_iadd hx hb dX5_isNumber_83 ?_
        refine va_put (D := D) (ci := 5) (v := .int (iI ((((uI (η) (5) ((((10 * (η 5)) + (μ 3 ((η 3)))) - 48))) 3) + 1)))) (ty := .int) (C := RX5) (T := TX5) (N := 12) hx hb hts hin_X5 tyX5 tyX5_ok nmX5 hown hK hP hD hS 0 rfl rfl 6 (by decide) hw_1 (fun _ h9 => h9) rfl (by decide +kernel) rfl rfl (Nat.le_of_ble_eq_true rfl) dX5_isNumber_84 (fun H locs hP hD hS => ?_)
        have hP : va_P D vwCl (fl [mdW cI b (sU (sU (sR μ 0 η) 0 (5) ((((10 * (η 5)) + (μ 3 ((η 3)))) - 48))) 0 (3) ((((uI (η) (5) ((((10 * (η 5)) + (μ 3 ((η 3)))) - 48))) 3) + 1)))]) H := hP
        have hD : va_D A (fl [mdW cI b (sU (sU (sR μ 0 η) 0 (5) ((((10 * (η 5)) + (μ 3 ((η 3)))) - 48))) 0 (3) ((((uI (η) (5) ((((10 * (η 5)) + (μ 3 ((η 3)))) - 48))) 3) + 1)))]) := hD
        refine wi_iconst hx hb dX5_isNumber_87 ?_
        have hP : va_P D vwCl (fl [mdW cI b (sR μ 0 ((uI ((uI (η) (5) ((((10 * (η 5)) + (μ 3 ((η 3)))) - 48)))) (3) ((((uI (η) (5) ((((10 * (η 5)) + (μ 3 ((η 3)))) - 48))) 3) + 1)))))]) H := hP
        have hD : va_D A (fl [mdW cI b (sR μ 0 ((uI ((uI (η) (5) ((((10 * (η 5)) + (μ 3 ((η 3)))) - 48)))) (3) ((((uI (η) (5) ((((10 * (η 5)) + (μ 3 ((η 3)))) - 48))) 3) + 1)))))]) := hD
        exact W.zret (v := iI (1)) hx hb hr (nar_z (by omega)) (fun t9 ht9 hW9 => ⟨⟨(1), ((uI ((uI (η) (5) ((((10 * (η 5)) + (μ 3 ((η 3)))) - 48)))) (3) ((((uI (η) (5) ((((10 * (η 5)) + (μ 3 ((η 3)))) - 48))) 3) + 1)))), rfl, (⟨hF.tr (((FRW.rf _).u _ _ (by omega)).u _ _ (by omega)), fun h9 => by exfalso; omega, fun h9 h8 => by exfalso; rw [he3] at c_50; omega, fun h9 h8 => ⟨rfl, by simp (disch := omega) only [uI_e, uI_n]; omega, by simp (disch := omega) only [uI_e, uI_n]; rw [h5, he3]⟩⟩), ⟨by rw [ht9]; exact hP, va_K.moved hW9.alike hK, hD⟩⟩, hS.F ht9⟩) hS.2.2 dX5_isNumber_88 hlocks
    exact L42 ((uI ((uI (μ 0) (5) (((μ 3 ((μ 0 3))) - 48)))) (3) ((((uI (μ 0) (5) (((μ 3 ((μ 0 3))) - 48))) 3) + 1)))) (((FRW.rf _).u _ _ (by omega)).u _ _ (by omega)) (by simp (disch := omega) only [uI_e, uI_n]) (by simp (disch := omega) only [uI_e, uI_n]) _ _ hP hD hS ls (lv_sub hl [0] rfl)
  · skip
    refine lv_aload_n hx hb dX5_isNumber_11 rfl (lv_at hl 0 rfl) ?_
    have hFc := fl_free (SC := [mdW cI b μ]) hD hS hA [0] rfl
    refine wq_calli (va_runV (As := []) (rest := []) ⟨hx, hb, hml, hown, hts⟩ (c_X5_stops l D cI cO cC cL s.heap.size b μ (by omega)) (cwV 0 hts gX5_isNumber_X5_stops rfl rfl rfl (by decide +kernel) ⟨Nat.le_of_ble_eq_true rfl, Nat.le_of_ble_eq_true rfl⟩) ⟨pcW_blind, va_recv hK hP (ci := 5) (q0 := 0) rfl rfl, pcW_of hP hK hD⟩ rfl rfl hl.1 rfl (lv_room (Nat.le_of_ble_eq_true rfl)) dX5_isNumber_12 ⟨(Nat.zero_le _), (Nat.zero_le _)⟩) hS (fun q _ h => hFc q h) hFc (fun r3 u5 t9 H1 locs ht9 hvm hcl4 hB hz1 hk1 hS => ?_)
    obtain ⟨hP1, hK1, hD1⟩ := hB
    rw [ht9] at hP1
    obtain ⟨hP, hD⟩ := fl_join (SR := []) (S1 := [mdW cI b (sR μ 0 u5)]) hP hD [0] [] rfl rfl (by decide) (by decide) hk1 hFc hP1 hD1
    generalize H1 = H at hP hS ⊢
    have hP : va_P D vwCl (fl [mdW cI b (sR μ 0 u5)]) H := hP
    have hD : va_D A (fl [mdW cI b (sR μ 0 u5)]) := hD
    obtain ⟨hz9, -⟩ := id hcl4
    have hP : va_P D vwCl (fl [mdW cI b (sR μ 0 (u5))]) H := hP
    have hD : va_D A (fl [mdW cI b (sR μ 0 (u5))]) := hD
    exact W.zret (v := iI (r3)) hx hb hr (nar_z (by omega)) (fun t9 ht9 hW9 => ⟨⟨(r3), (u5), rfl, (⟨hcl4.2.1, fun h9 => ⟨hcl4.1, hcl4.2.2⟩, fun h9 => by exfalso; omega, fun h9 => by exfalso; omega⟩), ⟨by rw [ht9]; exact hP, va_K.moved hW9.alike hK, hD⟩⟩, hS.F ht9⟩) hS.2.2 dX5_isNumber_15 hlocks
