set_option maxHeartbeats 4000000 in
set_option maxRecDepth 100000 in
theorem c_X5_counter (l : Launch) (D : va_G) (cI cO cC cL : ClassId) (sz : Nat) (b : Nat → Nat) (μ σ : Nat → Int → Int) (ss : Nat → Nat → Int → Int) (β : Int → Int) (c w : Int) (hc : R32 c) (hw : R32 w) (hM : RelM σ (μ 0 0) ss (μ 0 1) β μ) (hG : GI σ (μ 0 0) ss (μ 0 1) β) : Met l yX5_counter wsX5_counter ({ frames := 5, cells := 0, slots := 0, locals := 113 } : Room) (pcW D [(cI, FieldType.int)] [.ref (b 0), .int (iI (c)), .int (iI (w))] (fl [mdW cI b μ]) sz) (wq_i (fun (r : Int) (μ' : Nat → Int → Int) => OPQ (cd2 (0 ≤ c ∧ c ≤ 3) (0 ≤ w ∧ w ≤ 9)) r (ctrS σ c w) (μ' 0 2) (RelM σ (μ 0 0) ss (μ 0 1) β μ') (RelM σ (μ 0 0) ss (μ 0 1) β μ')) (fun (μ' : Nat → Int → Int) => (bW D [(cI, FieldType.int)] (fl [mdW cI b μ']) (va_A (fl [mdW cI b μ]) sz))) (va_A (fl [mdW cI b μ]) sz)) 0 0 (va_A (fl [mdW cI b μ]) sz) := by
  refine Met.ofW (cc := cX5_counter) (maxL := 3) (ret := (some .int)) (by decide) rfl ?_
  intro p9 e9 s m args9 below9 meth9 c9 s₁ B hml hv
  obtain ⟨rfl, hsz, hP, hK, hD0⟩ := hv
  have hx := B.exec
  have hb := B.bytes
  have hr := B.returns
  have hts := atoms_spec (ws := wsX5_counter) B.pre
  have hown : s.vm.findClass RX5 = some m.cls := findClass_of_methodNamed B.named
  have hlocks := B.notSynchronized
  subst hsz
  have hD := hD0.self (sz := s.heap.size)
  generalize hAe : va_A (fl [mdW cI b μ]) s.heap.size = A at hD ⊢
  have hA : ∀ q : Nat, s.heap.size ≤ q → A q := fun q h => by rw [← hAe]; exact Or.inr h
  have hS : va_S A s.heap s.heap [] := va_S.rf
  have hP : va_P D vwCl (fl [mdW cI b μ]) s.heap := hP
  have hl := lv_entry ([.ref (b 0), .int (iI (c)), .int (iI (w))]) (n := 3) (Nat.le_of_ble_eq_true rfl)
  rw [lg_entry_eq]
  generalize (lg_sl ([.ref (b 0), .int (iI (c)), .int (iI (w))]) ++ List.replicate (3 - (lg_sl ([.ref (b 0), .int (iI (c)), .int (iI (w))])).length) Slot.unset).toArray = ls at hl ⊢
  have hl : lv_has ls 3 [(0, .ref (b 0)), (1, .int (iI (c))), (2, .int (iI (w)))] := hl
  have hw_0 := hts (.fieldLink RX5 25 "PromisedCountersModel" "thrown" "I") (by decide +kernel)
  have hin_X5 : ∀ w ∈ u_ws RX5 TX5 12, w ∈ wsX5_counter := by decide +kernel
  have hI := hG.1
  have hR := hM.1
  have hn := hI.n
  have hti := hI.t
  obtain ⟨hm0, hm1, hm2, hm3, hm4⟩ := hR.1
  refine lv_aload_n hx hb dX5_counter_0 rfl (lv_at hl 0 rfl) ?_
  refine wi_iconst hx hb dX5_counter_1 ?_
  refine va_put (D := D) (ci := 5) (v := .int (iI (0))) (ty := .int) (C := RX5) (T := TX5) (N := 12) hx hb hts hin_X5 tyX5 tyX5_ok nmX5 hown hK hP hD hS 0 rfl rfl 5 (by decide) hw_0 (fun _ h9 => h9) rfl (by decide +kernel) rfl rfl (Nat.le_of_ble_eq_true rfl) dX5_counter_2 (fun H locs hP hD hS => ?_)
  have hP : va_P D vwCl (fl [mdW cI b (sU μ 0 (2) (0))]) H := hP
  have hD : va_D A (fl [mdW cI b (sU μ 0 (2) (0))]) := hD
  refine lv_iload_n hx hb dX5_counter_5 rfl (lv_at hl 1 rfl) ?_
  refine wr_calli (va_runS (As := [.int (iI (c))]) (rest := []) ⟨hx, hb, hml, hown, hts⟩ (c_X5_isCounter l D cI cO cC cL (c) (by omega)) (cwS 1 hts gX5_counter_X5_isCounter rfl rfl rfl (by decide +kernel) ⟨Nat.le_of_ble_eq_true rfl, Nat.le_of_ble_eq_true rfl⟩) ⟨fun _ _ _ _ h => h, fun U hU hW => ⟨rfl, trivial⟩⟩ rfl rfl hl.1 rfl (lv_room (Nat.le_of_ble_eq_true rfl)) dX5_counter_6 ⟨(Nat.zero_le _), (Nat.zero_le _)⟩) (fun r1 hr1 => ?_)
  subst hr1
  refine wi_if_ne (tgt := 18) hx hb dX5_counter_9 (by decide) (by omega) (fun c_9 => ?_) (fun c_9 => ?_)
  · skip
    refine lv_iload_n hx hb dX5_counter_18 rfl (lv_at hl 2 rfl) ?_
    refine wi_iconst hx hb dX5_counter_19 ?_
    refine wi_bipush hx hb dX5_counter_20 (by decide) ?_
    refine wr_calli (va_runS (As := [.int (iI (w)), .int (iI (0)), .int (iI (9))]) (rest := []) ⟨hx, hb, hml, hown, hts⟩ (c_X5_in l D cI cO cC cL (w) (0) (9) (by omega) (by omega) (by omega)) (cwS 3 hts gX5_counter_X5_in rfl rfl rfl (by decide +kernel) ⟨Nat.le_of_ble_eq_true rfl, Nat.le_of_ble_eq_true rfl⟩) ⟨fun _ _ _ _ h => h, fun U hU hW => ⟨rfl, trivial⟩⟩ rfl rfl hl.1 rfl (lv_room (Nat.le_of_ble_eq_true rfl)) dX5_counter_22 ⟨(Nat.zero_le _), (Nat.zero_le _)⟩) (fun r2 hr2 => ?_)
    subst hr2
    refine wi_if_eq (tgt := 37) hx hb dX5_counter_25 (by decide) (by omega) (fun c_25 => ?_) (fun c_25 => ?_)
    · skip
      refine lv_aload_n hx hb dX5_counter_37 rfl (lv_at hl 0 rfl) ?_
      refine wi_iconst hx hb dX5_counter_38 ?_
      have hFc := fl_free (SC := [mdW cI b (sU μ 0 (2) (0))]) hD hS hA [0] rfl
      refine wq_calli (va_runV (As := [.int (iI (2))]) (rest := []) ⟨hx, hb, hml, hown, hts⟩ (c_X5_fails l D cI cO cC cL H.size b (sU μ 0 (2) (0)) (2) ) (cwV 1 hts gX5_counter_X5_fails rfl rfl rfl (by decide +kernel) ⟨Nat.le_of_ble_eq_true rfl, Nat.le_of_ble_eq_true rfl⟩) ⟨pcW_blind, va_recv hK hP (ci := 5) (q0 := 0) rfl rfl, pcW_of hP hK hD⟩ rfl rfl hl.1 rfl (lv_room (Nat.le_of_ble_eq_true rfl)) dX5_counter_39 ⟨(Nat.zero_le _), (Nat.zero_le _)⟩) hS (fun q _ h => hFc q h) hFc (fun r3 u5 t9 H1 locs ht9 hvm hcl4 hB hz1 hk1 hS => ?_)
      obtain ⟨hP1, hK1, hD1⟩ := hB
      rw [ht9] at hP1
      obtain ⟨hP, hD⟩ := fl_join (SR := []) (S1 := [mdW cI b (sU (sU μ 0 (2) (0)) 0 2 (2))]) hP hD [0] [] rfl rfl (by decide) (by decide) hk1 hFc hP1 hD1
      generalize H1 = H at hP hS ⊢
      have hP : va_P D vwCl (fl [mdW cI b (sU (sU μ 0 (2) (0)) 0 2 (2))]) H := hP
      have hD : va_D A (fl [mdW cI b (sU (sU μ 0 (2) (0)) 0 2 (2))]) := hD
      exact W.iret (v := iI (r3)) hx hb hr (fun t9 ht9 hW9 => ⟨⟨(r3), (sU (sU μ 0 (2) (0)) 0 2 (2)), rfl, (OPQ.bad (k := 2) (by unfold cd2; first | (rw [if_pos (by omega)] <;> rfl) | (rw [if_neg (by omega), if_pos (by omega)] <;> rfl) | (rw [if_neg (by omega), if_neg (by omega)] <;> rfl)) (by decide) rfl hM), ⟨by rw [ht9]; exact hP, va_K.moved hW9.alike hK, hD⟩⟩, hS.F ht9⟩) hS.2.2 dX5_counter_42 hlocks
    · skip
      refine lv_aload_n hx hb dX5_counter_28 rfl (lv_at hl 0 rfl) ?_
      refine lv_iload_n hx hb dX5_counter_29 rfl (lv_at hl 1 rfl) ?_
      refine lv_iload_n hx hb dX5_counter_30 rfl (lv_at hl 2 rfl) ?_
      have hFc := fl_free (SC := [mdW cI b (sU μ 0 (2) (0))]) hD hS hA [0] rfl
      refine wq_calli (va_runV (As := [.int (iI (c)), .int (iI (w))]) (rest := []) ⟨hx, hb, hml, hown, hts⟩ (c_X5_ofCounter l D cI cO cC cL H.size b (sU μ 0 (2) (0)) σ (c) (w) (by omega) (by omega) (hR) (hI)) (cwV 2 hts gX5_counter_X5_ofCounter rfl rfl rfl (by decide +kernel) ⟨Nat.le_of_ble_eq_true rfl, Nat.le_of_ble_eq_true rfl⟩) ⟨pcW_blind, va_recv hK hP (ci := 5) (q0 := 0) rfl rfl, pcW_of hP hK hD⟩ rfl rfl hl.1 rfl (lv_room (Nat.le_of_ble_eq_true rfl)) dX5_counter_31 ⟨(Nat.zero_le _), (Nat.zero_le _)⟩) hS (fun q _ h => hFc q h) hFc (fun r6 u8 t9 H1 locs ht9 hvm hcl7 hB hz1 hk1 hS => ?_)
      obtain ⟨hP1, hK1, hD1⟩ := hB
      rw [ht9] at hP1
      obtain ⟨hP, hD⟩ := fl_join (SR := []) (S1 := [mdW cI b (sR (sU μ 0 (2) (0)) 5 u8)]) hP hD [0] [] rfl rfl (by decide) (by decide) hk1 hFc hP1 hD1
      generalize H1 = H at hP hS ⊢
      have hP : va_P D vwCl (fl [mdW cI b (sR (sU μ 0 (2) (0)) 5 u8)]) H := hP
      have hD : va_D A (fl [mdW cI b (sR (sU μ 0 (2) (0)) 5 u8)]) := hD
      refine lv_goto (tgt := 42) hx hb dX5_counter_34 (by decide) ?_
      exact W.iret (v := iI (r6)) hx hb hr (fun t9 ht9 hW9 => ⟨⟨(r6), (sR (sU μ 0 (2) (0)) 5 u8), rfl, (OPQ.good (by unfold cd2; first | (rw [if_pos (by omega)] <;> rfl) | (rw [if_neg (by omega), if_pos (by omega)] <;> rfl) | (rw [if_neg (by omega), if_neg (by omega)] <;> rfl)) rfl (hcl7) (hM)), ⟨by rw [ht9]; exact hP, va_K.moved hW9.alike hK, hD⟩⟩, hS.F ht9⟩) hS.2.2 dX5_counter_42 hlocks
  · skip
    refine lv_aload_n hx hb dX5_counter_12 rfl (lv_at hl 0 rfl) ?_
    refine wi_iconst hx hb dX5_counter_13 ?_
    have hFc := fl_free (SC := [mdW cI b (sU μ 0 (2) (0))]) hD hS hA [0] rfl
    refine wq_calli (va_runV (As := [.int (iI (1))]) (rest := []) ⟨hx, hb, hml, hown, hts⟩ (c_X5_fails l D cI cO cC cL H.size b (sU μ 0 (2) (0)) (1) ) (cwV 1 hts gX5_counter_X5_fails rfl rfl rfl (by decide +kernel) ⟨Nat.le_of_ble_eq_true rfl, Nat.le_of_ble_eq_true rfl⟩) ⟨pcW_blind, va_recv hK hP (ci := 5) (q0 := 0) rfl rfl, pcW_of hP hK hD⟩ rfl rfl hl.1 rfl (lv_room (Nat.le_of_ble_eq_true rfl)) dX5_counter_14 ⟨(Nat.zero_le _), (Nat.zero_le _)⟩) hS (fun q _ h => hFc q h) hFc (fun r9 u11 t9 H1 locs ht9 hvm hcl10 hB hz1 hk1 hS => ?_)
    obtain ⟨hP1, hK1, hD1⟩ := hB
    rw [ht9] at hP1
    obtain ⟨hP, hD⟩ := fl_join (SR := []) (S1 := [mdW cI b (sU (sU μ 0 (2) (0)) 0 2 (1))]) hP hD [0] [] rfl rfl (by decide) (by decide) hk1 hFc hP1 hD1
    generalize H1 = H at hP hS ⊢
    have hP : va_P D vwCl (fl [mdW cI b (sU (sU μ 0 (2) (0)) 0 2 (1))]) H := hP
    have hD : va_D A (fl [mdW cI b (sU (sU μ 0 (2) (0)) 0 2 (1))]) := hD
    exact W.iret (v := iI (r9)) hx hb hr (fun t9 ht9 hW9 => ⟨⟨(r9), (sU (sU μ 0 (2) (0)) 0 2 (1)), rfl, (OPQ.bad (k := 1) (by unfold cd2; first | (rw [if_pos (by omega)] <;> rfl) | (rw [if_neg (by omega), if_pos (by omega)] <;> rfl) | (rw [if_neg (by omega), if_neg (by omega)] <;> rfl)) (by decide) rfl hM), ⟨by rw [ht9]; exact hP, va_K.moved hW9.alike hK, hD⟩⟩, hS.F ht9⟩) hS.2.2 dX5_counter_17 hlocks
set_option maxHeartbeats 4000000 in
set_option maxRecDepth 100000 in
theorem c_X5_promiseOf (l : Launch) (D : va_G) (cI cO cC cL : ClassId) (sz : Nat) (b : Nat → Nat) (μ σ : Nat → Int → Int) (ss : Nat → Nat → Int → Int) (β : Int → Int) (p w : Int) (hp : R32 p) (hw : R32 w) (hM : RelM σ (μ 0 0) ss (μ 0 1) β μ) (hG : GI σ (μ 0 0) ss (μ 0 1) β) : Met l yX5_promiseOf wsX5_promiseOf ({ frames := 2, cells := 0, slots := 0, locals := 44 } : Room) (pcW D [(cI, FieldType.int)] [.ref (b 0), .int (iI (p)), .int (iI (w))] (fl [mdW cI b μ]) sz) (wq_i (fun (r : Int) (μ' : Nat → Int → Int) => OPQ (cd2 (0 ≤ p ∧ p < σ 0 1) (0 ≤ w ∧ w ≤ 5)) r (prmS σ p w) (μ' 0 2) (RelM σ (μ 0 0) ss (μ 0 1) β μ') (RelM σ (μ 0 0) ss (μ 0 1) β μ')) (fun (μ' : Nat → Int → Int) => (bW D [(cI, FieldType.int)] (fl [mdW cI b μ']) (va_A (fl [mdW cI b μ]) sz))) (va_A (fl [mdW cI b μ]) sz)) 0 0 (va_A (fl [mdW cI b μ]) sz) := by
  refine Met.ofW (cc := cX5_promiseOf) (maxL := 3) (ret := (some .int)) (by decide) rfl ?_
  intro p9 e9 s m args9 below9 meth9 c9 s₁ B hml hv
  obtain ⟨rfl, hsz, hP, hK, hD0⟩ := hv
  have hx := B.exec
  have hb := B.bytes
  have hr := B.returns
  have hts := atoms_spec (ws := wsX5_promiseOf) B.pre
  have hown : s.vm.findClass RX5 = some m.cls := findClass_of_methodNamed B.named
  have hlocks := B.notSynchronized
  subst hsz
  have hD := hD0.self (sz := s.heap.size)
  generalize hAe : va_A (fl [mdW cI b μ]) s.heap.size = A at hD ⊢
  have hA : ∀ q : Nat, s.heap.size ≤ q → A q := fun q h => by rw [← hAe]; exact Or.inr h
  have hS : va_S A s.heap s.heap [] := va_S.rf
  have hP : va_P D vwCl (fl [mdW cI b μ]) s.heap := hP
  have hl := lv_entry ([.ref (b 0), .int (iI (p)), .int (iI (w))]) (n := 3) (Nat.le_of_ble_eq_true rfl)
  rw [lg_entry_eq]
  generalize (lg_sl ([.ref (b 0), .int (iI (p)), .int (iI (w))]) ++ List.replicate (3 - (lg_sl ([.ref (b 0), .int (iI (p)), .int (iI (w))])).length) Slot.unset).toArray = ls at hl ⊢
  have hl : lv_has ls 3 [(0, .ref (b 0)), (1, .int (iI (p))), (2, .int (iI (w)))] := hl
  have hw_0 := hts (.fieldLink RX5 25 "PromisedCountersModel" "thrown" "I") (by decide +kernel)
  have hin_X5 : ∀ w ∈ u_ws RX5 TX5 12, w ∈ wsX5_promiseOf := by decide +kernel
  have hI := hG.1
  have hR := hM.1
  have hn := hI.n
  have hti := hI.t
  obtain ⟨hm0, hm1, hm2, hm3, hm4⟩ := hR.1
  refine lv_aload_n hx hb dX5_promiseOf_0 rfl (lv_at hl 0 rfl) ?_
  refine wi_iconst hx hb dX5_promiseOf_1 ?_
  refine va_put (D := D) (ci := 5) (v := .int (iI (0))) (ty := .int) (C := RX5) (T := TX5) (N := 12) hx hb hts hin_X5 tyX5 tyX5_ok nmX5 hown hK hP hD hS 0 rfl rfl 5 (by decide) hw_0 (fun _ h9 => h9) rfl (by decide +kernel) rfl rfl (Nat.le_of_ble_eq_true rfl) dX5_promiseOf_2 (fun H locs hP hD hS => ?_)
  have hP : va_P D vwCl (fl [mdW cI b (sU μ 0 (2) (0))]) H := hP
  have hD : va_D A (fl [mdW cI b (sU μ 0 (2) (0))]) := hD
  refine lv_aload_n hx hb dX5_promiseOf_5 rfl (lv_at hl 0 rfl) ?_
  refine lv_iload_n hx hb dX5_promiseOf_6 rfl (lv_at hl 1 rfl) ?_
  refine wr_calli (va_runV (As := [.int (iI (p))]) (rest := []) ⟨hx, hb, hml, hown, hts⟩ (c_X5_isPromise l D cI cO cC cL b (sU μ 0 (2) (0)) σ (p) (by omega) (hR) (hI)) (cwV 1 hts gX5_promiseOf_X5_isPromise rfl rfl rfl (by decide +kernel) ⟨Nat.le_of_ble_eq_true rfl, Nat.le_of_ble_eq_true rfl⟩) ⟨pcR_blind, va_recv hK hP (ci := 5) (q0 := 0) rfl rfl, pcR_of hP hK⟩ rfl rfl hl.1 rfl (lv_room (Nat.le_of_ble_eq_true rfl)) dX5_promiseOf_7 ⟨(Nat.zero_le _), (Nat.zero_le _)⟩) (fun r1 hr1 => ?_)
  subst hr1
  refine wi_top (y := (if 0 ≤ (p) ∧ (p) < σ 0 1 then (1 : Int) else 0)) rfl ?_
  refine wi_if_ne (tgt := 19) hx hb dX5_promiseOf_10 (by decide) (by omega) (fun c_10 => ?_) (fun c_10 => ?_)
  · skip
    refine lv_iload_n hx hb dX5_promiseOf_19 rfl (lv_at hl 2 rfl) ?_
    refine wi_iconst hx hb dX5_promiseOf_20 ?_
    refine wi_iconst hx hb dX5_promiseOf_21 ?_
    refine wr_calli (va_runS (As := [.int (iI (w)), .int (iI (0)), .int (iI (5))]) (rest := []) ⟨hx, hb, hml, hown, hts⟩ (c_X5_in l D cI cO cC cL (w) (0) (5) (by omega) (by omega) (by omega)) (cwS 3 hts gX5_promiseOf_X5_in rfl rfl rfl (by decide +kernel) ⟨Nat.le_of_ble_eq_true rfl, Nat.le_of_ble_eq_true rfl⟩) ⟨fun _ _ _ _ h => h, fun U hU hW => ⟨rfl, trivial⟩⟩ rfl rfl hl.1 rfl (lv_room (Nat.le_of_ble_eq_true rfl)) dX5_promiseOf_22 ⟨(Nat.zero_le _), (Nat.zero_le _)⟩) (fun r2 hr2 => ?_)
    subst hr2
    refine wi_if_eq (tgt := 37) hx hb dX5_promiseOf_25 (by decide) (by omega) (fun c_25 => ?_) (fun c_25 => ?_)
    · skip
      refine lv_aload_n hx hb dX5_promiseOf_37 rfl (lv_at hl 0 rfl) ?_
      refine wi_iconst hx hb dX5_promiseOf_38 ?_
      have hFc := fl_free (SC := [mdW cI b (sU μ 0 (2) (0))]) hD hS hA [0] rfl
      refine wq_calli (va_runV (As := [.int (iI (2))]) (rest := []) ⟨hx, hb, hml, hown, hts⟩ (c_X5_fails l D cI cO cC cL H.size b (sU μ 0 (2) (0)) (2) ) (cwV 1 hts gX5_promiseOf_X5_fails rfl rfl rfl (by decide +kernel) ⟨Nat.le_of_ble_eq_true rfl, Nat.le_of_ble_eq_true rfl⟩) ⟨pcW_blind, va_recv hK hP (ci := 5) (q0 := 0) rfl rfl, pcW_of hP hK hD⟩ rfl rfl hl.1 rfl (lv_room (Nat.le_of_ble_eq_true rfl)) dX5_promiseOf_39 ⟨(Nat.zero_le _), (Nat.zero_le _)⟩) hS (fun q _ h => hFc q h) hFc (fun r3 u5 t9 H1 locs ht9 hvm hcl4 hB hz1 hk1 hS => ?_)
      obtain ⟨hP1, hK1, hD1⟩ := hB
      rw [ht9] at hP1
      obtain ⟨hP, hD⟩ := fl_join (SR := []) (S1 := [mdW cI b (sU (sU μ 0 (2) (0)) 0 2 (2))]) hP hD [0] [] rfl rfl (by decide) (by decide) hk1 hFc hP1 hD1
      generalize H1 = H at hP hS ⊢
      have hP : va_P D vwCl (fl [mdW cI b (sU (sU μ 0 (2) (0)) 0 2 (2))]) H := hP
      have hD : va_D A (fl [mdW cI b (sU (sU μ 0 (2) (0)) 0 2 (2))]) := hD
      exact W.iret (v := iI (r3)) hx hb hr (fun t9 ht9 hW9 => ⟨⟨(r3), (sU (sU μ 0 (2) (0)) 0 2 (2)), rfl, (OPQ.bad (k := 2) (by unfold cd2; first | (rw [if_pos (by omega)] <;> rfl) | (rw [if_neg (by omega), if_pos (by omega)] <;> rfl) | (rw [if_neg (by omega), if_neg (by omega)] <;> rfl)) (by decide) rfl hM), ⟨by rw [ht9]; exact hP, va_K.moved hW9.alike hK, hD⟩⟩, hS.F ht9⟩) hS.2.2 dX5_promiseOf_42 hlocks
    · skip
      refine lv_aload_n hx hb dX5_promiseOf_28 rfl (lv_at hl 0 rfl) ?_
      refine lv_iload_n hx hb dX5_promiseOf_29 rfl (lv_at hl 1 rfl) ?_
      refine lv_iload_n hx hb dX5_promiseOf_30 rfl (lv_at hl 2 rfl) ?_
      refine wr_calli (va_runV (As := [.int (iI (p)), .int (iI (w))]) (rest := []) ⟨hx, hb, hml, hown, hts⟩ (c_X5_ofPromise l D cI cO cC cL b (sU μ 0 (2) (0)) σ (p) (w) (by omega) (by omega) (hR) (hI)) (cwV 2 hts gX5_promiseOf_X5_ofPromise rfl rfl rfl (by decide +kernel) ⟨Nat.le_of_ble_eq_true rfl, Nat.le_of_ble_eq_true rfl⟩) ⟨pcR_blind, va_recv hK hP (ci := 5) (q0 := 0) rfl rfl, pcR_of hP hK⟩ rfl rfl hl.1 rfl (lv_room (Nat.le_of_ble_eq_true rfl)) dX5_promiseOf_31 ⟨(Nat.zero_le _), (Nat.zero_le _)⟩) (fun r6 hr6 => ?_)
      subst hr6
      refine wi_top (y := (prmS σ (p) (w))) rfl ?_
      refine lv_goto (tgt := 42) hx hb dX5_promiseOf_34 (by decide) ?_
      exact W.iret (v := iI ((prmS σ (p) (w)))) hx hb hr (fun t9 ht9 hW9 => ⟨⟨((prmS σ (p) (w))), (sU μ 0 (2) (0)), rfl, (OPQ.good (by unfold cd2; first | (rw [if_pos (by omega)] <;> rfl) | (rw [if_neg (by omega), if_pos (by omega)] <;> rfl) | (rw [if_neg (by omega), if_neg (by omega)] <;> rfl)) rfl (rfl) (hM)), ⟨by rw [ht9]; exact hP, va_K.moved hW9.alike hK, hD⟩⟩, hS.F ht9⟩) hS.2.2 dX5_promiseOf_42 hlocks
  · skip
    refine lv_aload_n hx hb dX5_promiseOf_13 rfl (lv_at hl 0 rfl) ?_
    refine wi_iconst hx hb dX5_promiseOf_14 ?_
    have hFc := fl_free (SC := [mdW cI b (sU μ 0 (2) (0))]) hD hS hA [0] rfl
    refine wq_calli (va_runV (As := [.int (iI (1))]) (rest := []) ⟨hx, hb, hml, hown, hts⟩ (c_X5_fails l D cI cO cC cL H.size b (sU μ 0 (2) (0)) (1) ) (cwV 1 hts gX5_promiseOf_X5_fails rfl rfl rfl (by decide +kernel) ⟨Nat.le_of_ble_eq_true rfl, Nat.le_of_ble_eq_true rfl⟩) ⟨pcW_blind, va_recv hK hP (ci := 5) (q0 := 0) rfl rfl, pcW_of hP hK hD⟩ rfl rfl hl.1 rfl (lv_room (Nat.le_of_ble_eq_true rfl)) dX5_promiseOf_15 ⟨(Nat.zero_le _), (Nat.zero_le _)⟩) hS (fun q _ h => hFc q h) hFc (fun r7 u9 t9 H1 locs ht9 hvm hcl8 hB hz1 hk1 hS => ?_)
    obtain ⟨hP1, hK1, hD1⟩ := hB
    rw [ht9] at hP1
    obtain ⟨hP, hD⟩ := fl_join (SR := []) (S1 := [mdW cI b (sU (sU μ 0 (2) (0)) 0 2 (1))]) hP hD [0] [] rfl rfl (by decide) (by decide) hk1 hFc hP1 hD1
    generalize H1 = H at hP hS ⊢
    have hP : va_P D vwCl (fl [mdW cI b (sU (sU μ 0 (2) (0)) 0 2 (1))]) H := hP
    have hD : va_D A (fl [mdW cI b (sU (sU μ 0 (2) (0)) 0 2 (1))]) := hD
    exact W.iret (v := iI (r7)) hx hb hr (fun t9 ht9 hW9 => ⟨⟨(r7), (sU (sU μ 0 (2) (0)) 0 2 (1)), rfl, (OPQ.bad (k := 1) (by unfold cd2; first | (rw [if_pos (by omega)] <;> rfl) | (rw [if_neg (by omega), if_pos (by omega)] <;> rfl) | (rw [if_neg (by omega), if_neg (by omega)] <;> rfl)) (by decide) rfl hM), ⟨by rw [ht9]; exact hP, va_K.moved hW9.alike hK, hD⟩⟩, hS.F ht9⟩) hS.2.2 dX5_promiseOf_18 hlocks
set_option maxHeartbeats 4000000 in
set_option maxRecDepth 100000 in
theorem c_X5_owner (l : Launch) (D : va_G) (cI cO cC cL : ClassId) (sz : Nat) (b : Nat → Nat) (μ σ : Nat → Int → Int) (ss : Nat → Nat → Int → Int) (β : Int → Int) (o w : Int) (ho : R32 o) (hw : R32 w) (hM : RelM σ (μ 0 0) ss (μ 0 1) β μ) (hG : GI σ (μ 0 0) ss (μ 0 1) β) : Met l yX5_owner wsX5_owner ({ frames := 3, cells := 0, slots := 0, locals := 70 } : Room) (pcW D [(cI, FieldType.int)] [.ref (b 0), .int (iI (o)), .int (iI (w))] (fl [mdW cI b μ]) sz) (wq_i (fun (r : Int) (μ' : Nat → Int → Int) => OPQ (cd2 (0 ≤ o ∧ o ≤ 5) (0 ≤ w ∧ w ≤ 4)) r (ownS σ o w) (μ' 0 2) (RelM σ (μ 0 0) ss (μ 0 1) β μ') (RelM σ (μ 0 0) ss (μ 0 1) β μ')) (fun (μ' : Nat → Int → Int) => (bW D [(cI, FieldType.int)] (fl [mdW cI b μ']) (va_A (fl [mdW cI b μ]) sz))) (va_A (fl [mdW cI b μ]) sz)) 0 0 (va_A (fl [mdW cI b μ]) sz) := by
  refine Met.ofW (cc := cX5_owner) (maxL := 3) (ret := (some .int)) (by decide) rfl ?_
  intro p9 e9 s m args9 below9 meth9 c9 s₁ B hml hv
  obtain ⟨rfl, hsz, hP, hK, hD0⟩ := hv
  have hx := B.exec
  have hb := B.bytes
  have hr := B.returns
  have hts := atoms_spec (ws := wsX5_owner) B.pre
  have hown : s.vm.findClass RX5 = some m.cls := findClass_of_methodNamed B.named
  have hlocks := B.notSynchronized
  subst hsz
  have hD := hD0.self (sz := s.heap.size)
  generalize hAe : va_A (fl [mdW cI b μ]) s.heap.size = A at hD ⊢
  have hA : ∀ q : Nat, s.heap.size ≤ q → A q := fun q h => by rw [← hAe]; exact Or.inr h
  have hS : va_S A s.heap s.heap [] := va_S.rf
  have hP : va_P D vwCl (fl [mdW cI b μ]) s.heap := hP
  have hl := lv_entry ([.ref (b 0), .int (iI (o)), .int (iI (w))]) (n := 3) (Nat.le_of_ble_eq_true rfl)
  rw [lg_entry_eq]
  generalize (lg_sl ([.ref (b 0), .int (iI (o)), .int (iI (w))]) ++ List.replicate (3 - (lg_sl ([.ref (b 0), .int (iI (o)), .int (iI (w))])).length) Slot.unset).toArray = ls at hl ⊢
  have hl : lv_has ls 3 [(0, .ref (b 0)), (1, .int (iI (o))), (2, .int (iI (w)))] := hl
  have hw_0 := hts (.fieldLink RX5 25 "PromisedCountersModel" "thrown" "I") (by decide +kernel)
  have hin_X5 : ∀ w ∈ u_ws RX5 TX5 12, w ∈ wsX5_owner := by decide +kernel
  have hI := hG.1
  have hR := hM.1
  have hn := hI.n
  have hti := hI.t
  obtain ⟨hm0, hm1, hm2, hm3, hm4⟩ := hR.1
  refine lv_aload_n hx hb dX5_owner_0 rfl (lv_at hl 0 rfl) ?_
  refine wi_iconst hx hb dX5_owner_1 ?_
  refine va_put (D := D) (ci := 5) (v := .int (iI (0))) (ty := .int) (C := RX5) (T := TX5) (N := 12) hx hb hts hin_X5 tyX5 tyX5_ok nmX5 hown hK hP hD hS 0 rfl rfl 5 (by decide) hw_0 (fun _ h9 => h9) rfl (by decide +kernel) rfl rfl (Nat.le_of_ble_eq_true rfl) dX5_owner_2 (fun H locs hP hD hS => ?_)
  have hP : va_P D vwCl (fl [mdW cI b (sU μ 0 (2) (0))]) H := hP
  have hD : va_D A (fl [mdW cI b (sU μ 0 (2) (0))]) := hD
  refine lv_iload_n hx hb dX5_owner_5 rfl (lv_at hl 1 rfl) ?_
  refine wr_calli (va_runS (As := [.int (iI (o))]) (rest := []) ⟨hx, hb, hml, hown, hts⟩ (c_X5_isOwner l D cI cO cC cL (o) (by omega)) (cwS 1 hts gX5_owner_X5_isOwner rfl rfl rfl (by decide +kernel) ⟨Nat.le_of_ble_eq_true rfl, Nat.le_of_ble_eq_true rfl⟩) ⟨fun _ _ _ _ h => h, fun U hU hW => ⟨rfl, trivial⟩⟩ rfl rfl hl.1 rfl (lv_room (Nat.le_of_ble_eq_true rfl)) dX5_owner_6 ⟨(Nat.zero_le _), (Nat.zero_le _)⟩) (fun r1 hr1 => ?_)
  subst hr1
  refine wi_if_ne (tgt := 18) hx hb dX5_owner_9 (by decide) (by omega) (fun c_9 => ?_) (fun c_9 => ?_)
  · skip
    refine lv_iload_n hx hb dX5_owner_18 rfl (lv_at hl 2 rfl) ?_
    refine wi_iconst hx hb dX5_owner_19 ?_
    refine wi_iconst hx hb dX5_owner_20 ?_
    refine wr_calli (va_runS (As := [.int (iI (w)), .int (iI (0)), .int (iI (4))]) (rest := []) ⟨hx, hb, hml, hown, hts⟩ (c_X5_in l D cI cO cC cL (w) (0) (4) (by omega) (by omega) (by omega)) (cwS 3 hts gX5_owner_X5_in rfl rfl rfl (by decide +kernel) ⟨Nat.le_of_ble_eq_true rfl, Nat.le_of_ble_eq_true rfl⟩) ⟨fun _ _ _ _ h => h, fun U hU hW => ⟨rfl, trivial⟩⟩ rfl rfl hl.1 rfl (lv_room (Nat.le_of_ble_eq_true rfl)) dX5_owner_21 ⟨(Nat.zero_le _), (Nat.zero_le _)⟩) (fun r2 hr2 => ?_)
    subst hr2
    refine wi_if_eq (tgt := 36) hx hb dX5_owner_24 (by decide) (by omega) (fun c_24 => ?_) (fun c_24 => ?_)
    · skip
      refine lv_aload_n hx hb dX5_owner_36 rfl (lv_at hl 0 rfl) ?_
      refine wi_iconst hx hb dX5_owner_37 ?_
      have hFc := fl_free (SC := [mdW cI b (sU μ 0 (2) (0))]) hD hS hA [0] rfl
      refine wq_calli (va_runV (As := [.int (iI (2))]) (rest := []) ⟨hx, hb, hml, hown, hts⟩ (c_X5_fails l D cI cO cC cL H.size b (sU μ 0 (2) (0)) (2) ) (cwV 1 hts gX5_owner_X5_fails rfl rfl rfl (by decide +kernel) ⟨Nat.le_of_ble_eq_true rfl, Nat.le_of_ble_eq_true rfl⟩) ⟨pcW_blind, va_recv hK hP (ci := 5) (q0 := 0) rfl rfl, pcW_of hP hK hD⟩ rfl rfl hl.1 rfl (lv_room (Nat.le_of_ble_eq_true rfl)) dX5_owner_38 ⟨(Nat.zero_le _), (Nat.zero_le _)⟩) hS (fun q _ h => hFc q h) hFc (fun r3 u5 t9 H1 locs ht9 hvm hcl4 hB hz1 hk1 hS => ?_)
      obtain ⟨hP1, hK1, hD1⟩ := hB
      rw [ht9] at hP1
      obtain ⟨hP, hD⟩ := fl_join (SR := []) (S1 := [mdW cI b (sU (sU μ 0 (2) (0)) 0 2 (2))]) hP hD [0] [] rfl rfl (by decide) (by decide) hk1 hFc hP1 hD1
      generalize H1 = H at hP hS ⊢
      have hP : va_P D vwCl (fl [mdW cI b (sU (sU μ 0 (2) (0)) 0 2 (2))]) H := hP
      have hD : va_D A (fl [mdW cI b (sU (sU μ 0 (2) (0)) 0 2 (2))]) := hD
      exact W.iret (v := iI (r3)) hx hb hr (fun t9 ht9 hW9 => ⟨⟨(r3), (sU (sU μ 0 (2) (0)) 0 2 (2)), rfl, (OPQ.bad (k := 2) (by unfold cd2; first | (rw [if_pos (by omega)] <;> rfl) | (rw [if_neg (by omega), if_pos (by omega)] <;> rfl) | (rw [if_neg (by omega), if_neg (by omega)] <;> rfl)) (by decide) rfl hM), ⟨by rw [ht9]; exact hP, va_K.moved hW9.alike hK, hD⟩⟩, hS.F ht9⟩) hS.2.2 dX5_owner_41 hlocks
    · skip
      refine lv_aload_n hx hb dX5_owner_27 rfl (lv_at hl 0 rfl) ?_
      refine lv_iload_n hx hb dX5_owner_28 rfl (lv_at hl 1 rfl) ?_
      refine lv_iload_n hx hb dX5_owner_29 rfl (lv_at hl 2 rfl) ?_
      refine wr_calli (va_runV (As := [.int (iI (o)), .int (iI (w))]) (rest := []) ⟨hx, hb, hml, hown, hts⟩ (c_X5_ofOwner l D cI cO cC cL b (sU μ 0 (2) (0)) σ (o) (w) (by omega) (by omega) (hR) (hI)) (cwV 2 hts gX5_owner_X5_ofOwner rfl rfl rfl (by decide +kernel) ⟨Nat.le_of_ble_eq_true rfl, Nat.le_of_ble_eq_true rfl⟩) ⟨pcR_blind, va_recv hK hP (ci := 5) (q0 := 0) rfl rfl, pcR_of hP hK⟩ rfl rfl hl.1 rfl (lv_room (Nat.le_of_ble_eq_true rfl)) dX5_owner_30 ⟨(Nat.zero_le _), (Nat.zero_le _)⟩) (fun r6 hr6 => ?_)
      subst hr6
      refine wi_top (y := (ownS σ (o) (w))) rfl ?_
      refine lv_goto (tgt := 41) hx hb dX5_owner_33 (by decide) ?_
      exact W.iret (v := iI ((ownS σ (o) (w)))) hx hb hr (fun t9 ht9 hW9 => ⟨⟨((ownS σ (o) (w))), (sU μ 0 (2) (0)), rfl, (OPQ.good (by unfold cd2; first | (rw [if_pos (by omega)] <;> rfl) | (rw [if_neg (by omega), if_pos (by omega)] <;> rfl) | (rw [if_neg (by omega), if_neg (by omega)] <;> rfl)) rfl (rfl) (hM)), ⟨by rw [ht9]; exact hP, va_K.moved hW9.alike hK, hD⟩⟩, hS.F ht9⟩) hS.2.2 dX5_owner_41 hlocks
  · skip
    refine lv_aload_n hx hb dX5_owner_12 rfl (lv_at hl 0 rfl) ?_
    refine wi_iconst hx hb dX5_owner_13 ?_
    have hFc := fl_free (SC := [mdW cI b (sU μ 0 (2) (0))]) hD hS hA [0] rfl
    refine wq_calli (va_runV (As := [.int (iI (1))]) (rest := []) ⟨hx, hb, hml, hown, hts⟩ (c_X5_fails l D cI cO cC cL H.size b (sU μ 0 (2) (0)) (1) ) (cwV 1 hts gX5_owner_X5_fails rfl rfl rfl (by decide +kernel) ⟨Nat.le_of_ble_eq_true rfl, Nat.le_of_ble_eq_true rfl⟩) ⟨pcW_blind, va_recv hK hP (ci := 5) (q0 := 0) rfl rfl, pcW_of hP hK hD⟩ rfl rfl hl.1 rfl (lv_room (Nat.le_of_ble_eq_true rfl)) dX5_owner_14 ⟨(Nat.zero_le _), (Nat.zero_le _)⟩) hS (fun q _ h => hFc q h) hFc (fun r7 u9 t9 H1 locs ht9 hvm hcl8 hB hz1 hk1 hS => ?_)
    obtain ⟨hP1, hK1, hD1⟩ := hB
    rw [ht9] at hP1
    obtain ⟨hP, hD⟩ := fl_join (SR := []) (S1 := [mdW cI b (sU (sU μ 0 (2) (0)) 0 2 (1))]) hP hD [0] [] rfl rfl (by decide) (by decide) hk1 hFc hP1 hD1
    generalize H1 = H at hP hS ⊢
    have hP : va_P D vwCl (fl [mdW cI b (sU (sU μ 0 (2) (0)) 0 2 (1))]) H := hP
    have hD : va_D A (fl [mdW cI b (sU (sU μ 0 (2) (0)) 0 2 (1))]) := hD
    exact W.iret (v := iI (r7)) hx hb hr (fun t9 ht9 hW9 => ⟨⟨(r7), (sU (sU μ 0 (2) (0)) 0 2 (1)), rfl, (OPQ.bad (k := 1) (by unfold cd2; first | (rw [if_pos (by omega)] <;> rfl) | (rw [if_neg (by omega), if_pos (by omega)] <;> rfl) | (rw [if_neg (by omega), if_neg (by omega)] <;> rfl)) (by decide) rfl hM), ⟨by rw [ht9]; exact hP, va_K.moved hW9.alike hK, hD⟩⟩, hS.F ht9⟩) hS.2.2 dX5_owner_17 hlocks
set_option maxHeartbeats 4000000 in
set_option maxRecDepth 100000 in
theorem c_X5_count (l : Launch) (D : va_G) (cI cO cC cL : ClassId) (sz : Nat) (b : Nat → Nat) (μ σ : Nat → Int → Int) (ss : Nat → Nat → Int → Int) (β : Int → Int) (w : Int) (hw : R32 w) (hM : RelM σ (μ 0 0) ss (μ 0 1) β μ) (hG : GI σ (μ 0 0) ss (μ 0 1) β) : Met l yX5_count wsX5_count ({ frames := 3, cells := 0, slots := 0, locals := 65 } : Room) (pcW D [(cI, FieldType.int)] [.ref (b 0), .int (iI (w))] (fl [mdW cI b μ]) sz) (wq_i (fun (r : Int) (μ' : Nat → Int → Int) => OPQ (cd1 (0 ≤ w ∧ w ≤ 9)) r (cntS σ (μ 0 0) w) (μ' 0 2) (RelM σ (μ 0 0) ss (μ 0 1) β μ') (RelM σ (μ 0 0) ss (μ 0 1) β μ')) (fun (μ' : Nat → Int → Int) => (bW D [(cI, FieldType.int)] (fl [mdW cI b μ']) (va_A (fl [mdW cI b μ]) sz))) (va_A (fl [mdW cI b μ]) sz)) 0 0 (va_A (fl [mdW cI b μ]) sz) := by
  refine Met.ofW (cc := cX5_count) (maxL := 2) (ret := (some .int)) (by decide) rfl ?_
  intro p9 e9 s m args9 below9 meth9 c9 s₁ B hml hv
  obtain ⟨rfl, hsz, hP, hK, hD0⟩ := hv
  have hx := B.exec
  have hb := B.bytes
  have hr := B.returns
  have hts := atoms_spec (ws := wsX5_count) B.pre
  have hown : s.vm.findClass RX5 = some m.cls := findClass_of_methodNamed B.named
  have hlocks := B.notSynchronized
  subst hsz
  have hD := hD0.self (sz := s.heap.size)
  generalize hAe : va_A (fl [mdW cI b μ]) s.heap.size = A at hD ⊢
  have hA : ∀ q : Nat, s.heap.size ≤ q → A q := fun q h => by rw [← hAe]; exact Or.inr h
  have hS : va_S A s.heap s.heap [] := va_S.rf
  have hP : va_P D vwCl (fl [mdW cI b μ]) s.heap := hP
  have hl := lv_entry ([.ref (b 0), .int (iI (w))]) (n := 2) (Nat.le_of_ble_eq_true rfl)
  rw [lg_entry_eq]
  generalize (lg_sl ([.ref (b 0), .int (iI (w))]) ++ List.replicate (2 - (lg_sl ([.ref (b 0), .int (iI (w))])).length) Slot.unset).toArray = ls at hl ⊢
  have hl : lv_has ls 2 [(0, .ref (b 0)), (1, .int (iI (w)))] := hl
  have hw_0 := hts (.fieldLink RX5 25 "PromisedCountersModel" "thrown" "I") (by decide +kernel)
  have hin_X5 : ∀ w ∈ u_ws RX5 TX5 12, w ∈ wsX5_count := by decide +kernel
  have hI := hG.1
  have hR := hM.1
  have hn := hI.n
  have hti := hI.t
  obtain ⟨hm0, hm1, hm2, hm3, hm4⟩ := hR.1
  refine lv_aload_n hx hb dX5_count_0 rfl (lv_at hl 0 rfl) ?_
  refine wi_iconst hx hb dX5_count_1 ?_
  refine va_put (D := D) (ci := 5) (v := .int (iI (0))) (ty := .int) (C := RX5) (T := TX5) (N := 12) hx hb hts hin_X5 tyX5 tyX5_ok nmX5 hown hK hP hD hS 0 rfl rfl 5 (by decide) hw_0 (fun _ h9 => h9) rfl (by decide +kernel) rfl rfl (Nat.le_of_ble_eq_true rfl) dX5_count_2 (fun H locs hP hD hS => ?_)
  have hP : va_P D vwCl (fl [mdW cI b (sU μ 0 (2) (0))]) H := hP
  have hD : va_D A (fl [mdW cI b (sU μ 0 (2) (0))]) := hD
  refine lv_iload_n hx hb dX5_count_5 rfl (lv_at hl 1 rfl) ?_
  refine wi_iconst hx hb dX5_count_6 ?_
  refine wi_bipush hx hb dX5_count_7 (by decide) ?_
  refine wr_calli (va_runS (As := [.int (iI (w)), .int (iI (0)), .int (iI (9))]) (rest := []) ⟨hx, hb, hml, hown, hts⟩ (c_X5_in l D cI cO cC cL (w) (0) (9) (by omega) (by omega) (by omega)) (cwS 3 hts gX5_count_X5_in rfl rfl rfl (by decide +kernel) ⟨Nat.le_of_ble_eq_true rfl, Nat.le_of_ble_eq_true rfl⟩) ⟨fun _ _ _ _ h => h, fun U hU hW => ⟨rfl, trivial⟩⟩ rfl rfl hl.1 rfl (lv_room (Nat.le_of_ble_eq_true rfl)) dX5_count_9 ⟨(Nat.zero_le _), (Nat.zero_le _)⟩) (fun r1 hr1 => ?_)
  subst hr1
  refine wi_if_eq (tgt := 23) hx hb dX5_count_12 (by decide) (by omega) (fun c_12 => ?_) (fun c_12 => ?_)
  · skip
    refine lv_aload_n hx hb dX5_count_23 rfl (lv_at hl 0 rfl) ?_
    refine wi_iconst hx hb dX5_count_24 ?_
    have hFc := fl_free (SC := [mdW cI b (sU μ 0 (2) (0))]) hD hS hA [0] rfl
    refine wq_calli (va_runV (As := [.int (iI (1))]) (rest := []) ⟨hx, hb, hml, hown, hts⟩ (c_X5_fails l D cI cO cC cL H.size b (sU μ 0 (2) (0)) (1) ) (cwV 1 hts gX5_count_X5_fails rfl rfl rfl (by decide +kernel) ⟨Nat.le_of_ble_eq_true rfl, Nat.le_of_ble_eq_true rfl⟩) ⟨pcW_blind, va_recv hK hP (ci := 5) (q0 := 0) rfl rfl, pcW_of hP hK hD⟩ rfl rfl hl.1 rfl (lv_room (Nat.le_of_ble_eq_true rfl)) dX5_count_25 ⟨(Nat.zero_le _), (Nat.zero_le _)⟩) hS (fun q _ h => hFc q h) hFc (fun r2 u4 t9 H1 locs ht9 hvm hcl3 hB hz1 hk1 hS => ?_)
    obtain ⟨hP1, hK1, hD1⟩ := hB
    rw [ht9] at hP1
    obtain ⟨hP, hD⟩ := fl_join (SR := []) (S1 := [mdW cI b (sU (sU μ 0 (2) (0)) 0 2 (1))]) hP hD [0] [] rfl rfl (by decide) (by decide) hk1 hFc hP1 hD1
    generalize H1 = H at hP hS ⊢
    have hP : va_P D vwCl (fl [mdW cI b (sU (sU μ 0 (2) (0)) 0 2 (1))]) H := hP
    have hD : va_D A (fl [mdW cI b (sU (sU μ 0 (2) (0)) 0 2 (1))]) := hD
    exact W.iret (v := iI (r2)) hx hb hr (fun t9 ht9 hW9 => ⟨⟨(r2), (sU (sU μ 0 (2) (0)) 0 2 (1)), rfl, (OPQ.bad (k := 1) (by unfold cd1; first | (rw [if_pos (by omega)] <;> rfl) | (rw [if_neg (by omega)] <;> rfl)) (by decide) rfl hM), ⟨by rw [ht9]; exact hP, va_K.moved hW9.alike hK, hD⟩⟩, hS.F ht9⟩) hS.2.2 dX5_count_28 hlocks
  · skip
    refine lv_aload_n hx hb dX5_count_15 rfl (lv_at hl 0 rfl) ?_
    refine lv_iload_n hx hb dX5_count_16 rfl (lv_at hl 1 rfl) ?_
    refine wr_calli (va_runV (As := [.int (iI (w))]) (rest := []) ⟨hx, hb, hml, hown, hts⟩ (c_X5_counted l D cI cO cC cL b (sU μ 0 (2) (0)) σ (w) (by omega) (hR) (hI)) (cwV 1 hts gX5_count_X5_counted rfl rfl rfl (by decide +kernel) ⟨Nat.le_of_ble_eq_true rfl, Nat.le_of_ble_eq_true rfl⟩) ⟨pcR_blind, va_recv hK hP (ci := 5) (q0 := 0) rfl rfl, pcR_of hP hK⟩ rfl rfl hl.1 rfl (lv_room (Nat.le_of_ble_eq_true rfl)) dX5_count_17 ⟨(Nat.zero_le _), (Nat.zero_le _)⟩) (fun r5 hr5 => ?_)
    subst hr5
    refine wi_top (y := (cntS σ (((uI (μ 0) (2) (0))) 0) (w))) rfl ?_
    refine lv_goto (tgt := 28) hx hb dX5_count_20 (by decide) ?_
    exact W.iret (v := iI ((cntS σ (((uI (μ 0) (2) (0))) 0) (w)))) hx hb hr (fun t9 ht9 hW9 => ⟨⟨((cntS σ (((uI (μ 0) (2) (0))) 0) (w))), (sU μ 0 (2) (0)), rfl, (OPQ.good (by unfold cd1; first | (rw [if_pos (by omega)] <;> rfl) | (rw [if_neg (by omega)] <;> rfl)) rfl (rfl) (hM)), ⟨by rw [ht9]; exact hP, va_K.moved hW9.alike hK, hD⟩⟩, hS.F ht9⟩) hS.2.2 dX5_count_28 hlocks
set_option maxHeartbeats 4000000 in
set_option maxRecDepth 100000 in
theorem c_X5_setting (l : Launch) (D : va_G) (cI cO cC cL : ClassId) (sz : Nat) (b : Nat → Nat) (μ σ : Nat → Int → Int) (ss : Nat → Nat → Int → Int) (β : Int → Int) (k : Int) (hk : R32 k) (hM : RelM σ (μ 0 0) ss (μ 0 1) β μ) (hG : GI σ (μ 0 0) ss (μ 0 1) β) : Met l yX5_setting wsX5_setting ({ frames := 1, cells := 0, slots := 0, locals := 22 } : Room) (pcW D [(cI, FieldType.int)] [.ref (b 0), .int (iI (k))] (fl [mdW cI b μ]) sz) (wq_i (fun (r : Int) (μ' : Nat → Int → Int) => OPQ (cd1 (0 ≤ k ∧ k ≤ 1)) r (σ 1 k) (μ' 0 2) (RelM σ (μ 0 0) ss (μ 0 1) β μ') (RelM σ (μ 0 0) ss (μ 0 1) β μ')) (fun (μ' : Nat → Int → Int) => (bW D [(cI, FieldType.int)] (fl [mdW cI b μ']) (va_A (fl [mdW cI b μ]) sz))) (va_A (fl [mdW cI b μ]) sz)) 0 0 (va_A (fl [mdW cI b μ]) sz) := by
  refine Met.ofW (cc := cX5_setting) (maxL := 2) (ret := (some .int)) (by decide) rfl ?_
  intro p9 e9 s m args9 below9 meth9 c9 s₁ B hml hv
  obtain ⟨rfl, hsz, hP, hK, hD0⟩ := hv
  have hx := B.exec
  have hb := B.bytes
  have hr := B.returns
  have hts := atoms_spec (ws := wsX5_setting) B.pre
  have hown : s.vm.findClass RX5 = some m.cls := findClass_of_methodNamed B.named
  have hlocks := B.notSynchronized
  subst hsz
  have hD := hD0.self (sz := s.heap.size)
  generalize hAe : va_A (fl [mdW cI b μ]) s.heap.size = A at hD ⊢
  have hA : ∀ q : Nat, s.heap.size ≤ q → A q := fun q h => by rw [← hAe]; exact Or.inr h
  have hS : va_S A s.heap s.heap [] := va_S.rf
  have hP : va_P D vwCl (fl [mdW cI b μ]) s.heap := hP
  have hl := lv_entry ([.ref (b 0), .int (iI (k))]) (n := 2) (Nat.le_of_ble_eq_true rfl)
  rw [lg_entry_eq]
  generalize (lg_sl ([.ref (b 0), .int (iI (k))]) ++ List.replicate (2 - (lg_sl ([.ref (b 0), .int (iI (k))])).length) Slot.unset).toArray = ls at hl ⊢
  have hl : lv_has ls 2 [(0, .ref (b 0)), (1, .int (iI (k)))] := hl
  have hw_0 := hts (.fieldLink RX5 25 "PromisedCountersModel" "thrown" "I") (by decide +kernel)
  have hin_X5 : ∀ w ∈ u_ws RX5 TX5 12, w ∈ wsX5_setting := by decide +kernel
  have hw_1 := hts (.fieldLink RX5 7 "PromisedCountersModel" "now" "[I") (by decide +kernel)
  have hI := hG.1
  have hR := hM.1
  have hn := hI.n
  have hti := hI.t
  obtain ⟨hm0, hm1, hm2, hm3, hm4⟩ := hR.1
  refine lv_aload_n hx hb dX5_setting_0 rfl (lv_at hl 0 rfl) ?_
  refine wi_iconst hx hb dX5_setting_1 ?_
  refine va_put (D := D) (ci := 5) (v := .int (iI (0))) (ty := .int) (C := RX5) (T := TX5) (N := 12) hx hb hts hin_X5 tyX5 tyX5_ok nmX5 hown hK hP hD hS 0 rfl rfl 5 (by decide) hw_0 (fun _ h9 => h9) rfl (by decide +kernel) rfl rfl (Nat.le_of_ble_eq_true rfl) dX5_setting_2 (fun H locs hP hD hS => ?_)
  have hP : va_P D vwCl (fl [mdW cI b (sU μ 0 (2) (0))]) H := hP
  have hD : va_D A (fl [mdW cI b (sU μ 0 (2) (0))]) := hD
  refine lv_iload_n hx hb dX5_setting_5 rfl (lv_at hl 1 rfl) ?_
  refine wi_iconst hx hb dX5_setting_6 ?_
  refine wi_iconst hx hb dX5_setting_7 ?_
  refine wr_calli (va_runS (As := [.int (iI (k)), .int (iI (0)), .int (iI (1))]) (rest := []) ⟨hx, hb, hml, hown, hts⟩ (c_X5_in l D cI cO cC cL (k) (0) (1) (by omega) (by omega) (by omega)) (cwS 3 hts gX5_setting_X5_in rfl rfl rfl (by decide +kernel) ⟨Nat.le_of_ble_eq_true rfl, Nat.le_of_ble_eq_true rfl⟩) ⟨fun _ _ _ _ h => h, fun U hU hW => ⟨rfl, trivial⟩⟩ rfl rfl hl.1 rfl (lv_room (Nat.le_of_ble_eq_true rfl)) dX5_setting_8 ⟨(Nat.zero_le _), (Nat.zero_le _)⟩) (fun r1 hr1 => ?_)
  subst hr1
  refine wi_if_eq (tgt := 25) hx hb dX5_setting_11 (by decide) (by omega) (fun c_11 => ?_) (fun c_11 => ?_)
  · skip
    refine lv_aload_n hx hb dX5_setting_25 rfl (lv_at hl 0 rfl) ?_
    refine wi_iconst hx hb dX5_setting_26 ?_
    have hFc := fl_free (SC := [mdW cI b (sU μ 0 (2) (0))]) hD hS hA [0] rfl
    refine wq_calli (va_runV (As := [.int (iI (1))]) (rest := []) ⟨hx, hb, hml, hown, hts⟩ (c_X5_fails l D cI cO cC cL H.size b (sU μ 0 (2) (0)) (1) ) (cwV 1 hts gX5_setting_X5_fails rfl rfl rfl (by decide +kernel) ⟨Nat.le_of_ble_eq_true rfl, Nat.le_of_ble_eq_true rfl⟩) ⟨pcW_blind, va_recv hK hP (ci := 5) (q0 := 0) rfl rfl, pcW_of hP hK hD⟩ rfl rfl hl.1 rfl (lv_room (Nat.le_of_ble_eq_true rfl)) dX5_setting_27 ⟨(Nat.zero_le _), (Nat.zero_le _)⟩) hS (fun q _ h => hFc q h) hFc (fun r2 u4 t9 H1 locs ht9 hvm hcl3 hB hz1 hk1 hS => ?_)
    obtain ⟨hP1, hK1, hD1⟩ := hB
    rw [ht9] at hP1
    obtain ⟨hP, hD⟩ := fl_join (SR := []) (S1 := [mdW cI b (sU (sU μ 0 (2) (0)) 0 2 (1))]) hP hD [0] [] rfl rfl (by decide) (by decide) hk1 hFc hP1 hD1
    generalize H1 = H at hP hS ⊢
    have hP : va_P D vwCl (fl [mdW cI b (sU (sU μ 0 (2) (0)) 0 2 (1))]) H := hP
    have hD : va_D A (fl [mdW cI b (sU (sU μ 0 (2) (0)) 0 2 (1))]) := hD
    exact W.iret (v := iI (r2)) hx hb hr (fun t9 ht9 hW9 => ⟨⟨(r2), (sU (sU μ 0 (2) (0)) 0 2 (1)), rfl, (OPQ.bad (k := 1) (by unfold cd1; first | (rw [if_pos (by omega)] <;> rfl) | (rw [if_neg (by omega)] <;> rfl)) (by decide) rfl hM), ⟨by rw [ht9]; exact hP, va_K.moved hW9.alike hK, hD⟩⟩, hS.F ht9⟩) hS.2.2 dX5_setting_30 hlocks
  · skip
    refine lv_aload_n hx hb dX5_setting_14 rfl (lv_at hl 0 rfl) ?_
    refine va_get (D := D) (ci := 5) (v := .ref (b 1)) (C := RX5) (T := TX5) (N := 12) hx hb hts hin_X5 hown hK hP 0 rfl rfl 0 (by decide) hw_1 (fun _ h9 => h9) rfl dX5_setting_15 ?_
    refine wi_iconst hx hb dX5_setting_18 ?_
    refine lv_iload_n hx hb dX5_setting_19 rfl (lv_at hl 1 rfl) ?_
    refine wi_iadd hx hb dX5_setting_20 ?_
    refine wi_iald hx hb hK hP 1 0 (n := 115) (f := μ 1) rfl rfl (i := (1 + k)) (by omega) (by decide) dX5_setting_21 ?_
    refine lv_goto (tgt := 30) hx hb dX5_setting_22 (by decide) ?_
    exact W.iret (v := iI ((μ 1 ((1 + k))))) hx hb hr (fun t9 ht9 hW9 => ⟨⟨((μ 1 ((1 + k)))), (sU μ 0 (2) (0)), rfl, (OPQ.good (by unfold cd1; first | (rw [if_pos (by omega)] <;> rfl) | (rw [if_neg (by omega)] <;> rfl)) rfl (by rcases (show k = 0 ∨ k = 1 by omega) with q | q <;> rw [q] <;> first | exact hm1 | exact hm2) (hM)), ⟨by rw [ht9]; exact hP, va_K.moved hW9.alike hK, hD⟩⟩, hS.F ht9⟩) hS.2.2 dX5_setting_30 hlocks
set_option maxHeartbeats 4000000 in
set_option maxRecDepth 100000 in
theorem c_X5_whyNot (l : Launch) (D : va_G) (cI cO cC cL : ClassId) (sz : Nat) (b : Nat → Nat) (μ σ : Nat → Int → Int) (ss : Nat → Nat → Int → Int) (β : Int → Int) (o c y : Int) (ho : R32 o) (hc : R32 c) (hy : R32 y) (hM : RelM σ (μ 0 0) ss (μ 0 1) β μ) (hG : GI σ (μ 0 0) ss (μ 0 1) β) : Met l yX5_whyNot wsX5_whyNot ({ frames := 5, cells := 0, slots := 0, locals := 118 } : Room) (pcW D [(cI, FieldType.int)] [.ref (b 0), .int (iI (o)), .int (iI (c)), .int (iI (y))] (fl [mdW cI b μ]) sz) (wq_i (fun (r : Int) (μ' : Nat → Int → Int) => OPQ (cd2 ((0 ≤ o ∧ o ≤ 5) ∧ (0 ≤ c ∧ c ≤ 3)) (y ≠ 0 ∧ -99 ≤ y ∧ y ≤ 99)) r (reasonS σ o c y (-1)) (μ' 0 2) (RelM σ (μ 0 0) ss (μ 0 1) β μ') (RelM σ (μ 0 0) ss (μ 0 1) β μ')) (fun (μ' : Nat → Int → Int) => (bW D [(cI, FieldType.int)] (fl [mdW cI b μ']) (va_A (fl [mdW cI b μ]) sz))) (va_A (fl [mdW cI b μ]) sz)) 0 0 (va_A (fl [mdW cI b μ]) sz) := by
  refine Met.ofW (cc := cX5_whyNot) (maxL := 4) (ret := (some .int)) (by decide) rfl ?_
  intro p9 e9 s m args9 below9 meth9 c9 s₁ B hml hv
  obtain ⟨rfl, hsz, hP, hK, hD0⟩ := hv
  have hx := B.exec
  have hb := B.bytes
  have hr := B.returns
  have hts := atoms_spec (ws := wsX5_whyNot) B.pre
  have hown : s.vm.findClass RX5 = some m.cls := findClass_of_methodNamed B.named
  have hlocks := B.notSynchronized
  subst hsz
  have hD := hD0.self (sz := s.heap.size)
  generalize hAe : va_A (fl [mdW cI b μ]) s.heap.size = A at hD ⊢
  have hA : ∀ q : Nat, s.heap.size ≤ q → A q := fun q h => by rw [← hAe]; exact Or.inr h
  have hS : va_S A s.heap s.heap [] := va_S.rf
  have hP : va_P D vwCl (fl [mdW cI b μ]) s.heap := hP
  have hl := lv_entry ([.ref (b 0), .int (iI (o)), .int (iI (c)), .int (iI (y))]) (n := 4) (Nat.le_of_ble_eq_true rfl)
  rw [lg_entry_eq]
  generalize (lg_sl ([.ref (b 0), .int (iI (o)), .int (iI (c)), .int (iI (y))]) ++ List.replicate (4 - (lg_sl ([.ref (b 0), .int (iI (o)), .int (iI (c)), .int (iI (y))])).length) Slot.unset).toArray = ls at hl ⊢
  have hl : lv_has ls 4 [(0, .ref (b 0)), (1, .int (iI (o))), (2, .int (iI (c))), (3, .int (iI (y)))] := hl
  have hw_0 := hts (.fieldLink RX5 25 "PromisedCountersModel" "thrown" "I") (by decide +kernel)
  have hin_X5 : ∀ w ∈ u_ws RX5 TX5 12, w ∈ wsX5_whyNot := by decide +kernel
  have hI := hG.1
  have hR := hM.1
  have hn := hI.n
  have hti := hI.t
  obtain ⟨hm0, hm1, hm2, hm3, hm4⟩ := hR.1
  refine lv_aload_n hx hb dX5_whyNot_0 rfl (lv_at hl 0 rfl) ?_
  refine wi_iconst hx hb dX5_whyNot_1 ?_
  refine va_put (D := D) (ci := 5) (v := .int (iI (0))) (ty := .int) (C := RX5) (T := TX5) (N := 12) hx hb hts hin_X5 tyX5 tyX5_ok nmX5 hown hK hP hD hS 0 rfl rfl 5 (by decide) hw_0 (fun _ h9 => h9) rfl (by decide +kernel) rfl rfl (Nat.le_of_ble_eq_true rfl) dX5_whyNot_2 (fun H locs hP hD hS => ?_)
  have hP : va_P D vwCl (fl [mdW cI b (sU μ 0 (2) (0))]) H := hP
  have hD : va_D A (fl [mdW cI b (sU μ 0 (2) (0))]) := hD
  refine lv_iload_n hx hb dX5_whyNot_5 rfl (lv_at hl 1 rfl) ?_
  refine wr_calli (va_runS (As := [.int (iI (o))]) (rest := []) ⟨hx, hb, hml, hown, hts⟩ (c_X5_isOwner l D cI cO cC cL (o) (by omega)) (cwS 1 hts gX5_whyNot_X5_isOwner rfl rfl rfl (by decide +kernel) ⟨Nat.le_of_ble_eq_true rfl, Nat.le_of_ble_eq_true rfl⟩) ⟨fun _ _ _ _ h => h, fun U hU hW => ⟨rfl, trivial⟩⟩ rfl rfl hl.1 rfl (lv_room (Nat.le_of_ble_eq_true rfl)) dX5_whyNot_6 ⟨(Nat.zero_le _), (Nat.zero_le _)⟩) (fun r1 hr1 => ?_)
  subst hr1
  refine wi_if_eq (tgt := 19) hx hb dX5_whyNot_9 (by decide) (by omega) (fun c_9 => ?_) (fun c_9 => ?_)
  · skip
    refine lv_aload_n hx hb dX5_whyNot_19 rfl (lv_at hl 0 rfl) ?_
    refine wi_iconst hx hb dX5_whyNot_20 ?_
    have hFc := fl_free (SC := [mdW cI b (sU μ 0 (2) (0))]) hD hS hA [0] rfl
    refine wq_calli (va_runV (As := [.int (iI (1))]) (rest := []) ⟨hx, hb, hml, hown, hts⟩ (c_X5_fails l D cI cO cC cL H.size b (sU μ 0 (2) (0)) (1) ) (cwV 1 hts gX5_whyNot_X5_fails rfl rfl rfl (by decide +kernel) ⟨Nat.le_of_ble_eq_true rfl, Nat.le_of_ble_eq_true rfl⟩) ⟨pcW_blind, va_recv hK hP (ci := 5) (q0 := 0) rfl rfl, pcW_of hP hK hD⟩ rfl rfl hl.1 rfl (lv_room (Nat.le_of_ble_eq_true rfl)) dX5_whyNot_21 ⟨(Nat.zero_le _), (Nat.zero_le _)⟩) hS (fun q _ h => hFc q h) hFc (fun r2 u4 t9 H1 locs ht9 hvm hcl3 hB hz1 hk1 hS => ?_)
    obtain ⟨hP1, hK1, hD1⟩ := hB
    rw [ht9] at hP1
    obtain ⟨hP, hD⟩ := fl_join (SR := []) (S1 := [mdW cI b (sU (sU μ 0 (2) (0)) 0 2 (1))]) hP hD [0] [] rfl rfl (by decide) (by decide) hk1 hFc hP1 hD1
    generalize H1 = H at hP hS ⊢
    have hP : va_P D vwCl (fl [mdW cI b (sU (sU μ 0 (2) (0)) 0 2 (1))]) H := hP
    have hD : va_D A (fl [mdW cI b (sU (sU μ 0 (2) (0)) 0 2 (1))]) := hD
    exact W.iret (v := iI (r2)) hx hb hr (fun t9 ht9 hW9 => ⟨⟨(r2), (sU (sU μ 0 (2) (0)) 0 2 (1)), rfl, (OPQ.bad (k := 1) (by unfold cd2; first | (rw [if_pos (by omega)] <;> rfl) | (rw [if_neg (by omega), if_pos (by omega)] <;> rfl) | (rw [if_neg (by omega), if_neg (by omega)] <;> rfl)) (by decide) rfl hM), ⟨by rw [ht9]; exact hP, va_K.moved hW9.alike hK, hD⟩⟩, hS.F ht9⟩) hS.2.2 dX5_whyNot_24 hlocks
  · skip
    refine lv_iload_n hx hb dX5_whyNot_12 rfl (lv_at hl 2 rfl) ?_
    refine wr_calli (va_runS (As := [.int (iI (c))]) (rest := []) ⟨hx, hb, hml, hown, hts⟩ (c_X5_isCounter l D cI cO cC cL (c) (by omega)) (cwS 1 hts gX5_whyNot_X5_isCounter rfl rfl rfl (by decide +kernel) ⟨Nat.le_of_ble_eq_true rfl, Nat.le_of_ble_eq_true rfl⟩) ⟨fun _ _ _ _ h => h, fun U hU hW => ⟨rfl, trivial⟩⟩ rfl rfl hl.1 rfl (lv_room (Nat.le_of_ble_eq_true rfl)) dX5_whyNot_13 ⟨(Nat.zero_le _), (Nat.zero_le _)⟩) (fun r5 hr5 => ?_)
    subst hr5
    refine wi_if_ne (tgt := 25) hx hb dX5_whyNot_16 (by decide) (by omega) (fun c_16 => ?_) (fun c_16 => ?_)
    · skip
      refine lv_iload_n hx hb dX5_whyNot_25 rfl (lv_at hl 3 rfl) ?_
      refine wr_calli (va_runS (As := [.int (iI (y))]) (rest := []) ⟨hx, hb, hml, hown, hts⟩ (c_X5_isChange l D cI cO cC cL (y) (by omega)) (cwS 1 hts gX5_whyNot_X5_isChange rfl rfl rfl (by decide +kernel) ⟨Nat.le_of_ble_eq_true rfl, Nat.le_of_ble_eq_true rfl⟩) ⟨fun _ _ _ _ h => h, fun U hU hW => ⟨rfl, trivial⟩⟩ rfl rfl hl.1 rfl (lv_room (Nat.le_of_ble_eq_true rfl)) dX5_whyNot_26 ⟨(Nat.zero_le _), (Nat.zero_le _)⟩) (fun r6 hr6 => ?_)
      subst hr6
      refine wi_if_eq (tgt := 43) hx hb dX5_whyNot_29 (by decide) (by omega) (fun c_29 => ?_) (fun c_29 => ?_)
      · skip
        refine lv_aload_n hx hb dX5_whyNot_43 rfl (lv_at hl 0 rfl) ?_
        refine wi_iconst hx hb dX5_whyNot_44 ?_
        have hFc := fl_free (SC := [mdW cI b (sU μ 0 (2) (0))]) hD hS hA [0] rfl
        refine wq_calli (va_runV (As := [.int (iI (2))]) (rest := []) ⟨hx, hb, hml, hown, hts⟩ (c_X5_fails l D cI cO cC cL H.size b (sU μ 0 (2) (0)) (2) ) (cwV 1 hts gX5_whyNot_X5_fails rfl rfl rfl (by decide +kernel) ⟨Nat.le_of_ble_eq_true rfl, Nat.le_of_ble_eq_true rfl⟩) ⟨pcW_blind, va_recv hK hP (ci := 5) (q0 := 0) rfl rfl, pcW_of hP hK hD⟩ rfl rfl hl.1 rfl (lv_room (Nat.le_of_ble_eq_true rfl)) dX5_whyNot_45 ⟨(Nat.zero_le _), (Nat.zero_le _)⟩) hS (fun q _ h => hFc q h) hFc (fun r7 u9 t9 H1 locs ht9 hvm hcl8 hB hz1 hk1 hS => ?_)
        obtain ⟨hP1, hK1, hD1⟩ := hB
        rw [ht9] at hP1
        obtain ⟨hP, hD⟩ := fl_join (SR := []) (S1 := [mdW cI b (sU (sU μ 0 (2) (0)) 0 2 (2))]) hP hD [0] [] rfl rfl (by decide) (by decide) hk1 hFc hP1 hD1
        generalize H1 = H at hP hS ⊢
        have hP : va_P D vwCl (fl [mdW cI b (sU (sU μ 0 (2) (0)) 0 2 (2))]) H := hP
        have hD : va_D A (fl [mdW cI b (sU (sU μ 0 (2) (0)) 0 2 (2))]) := hD
        exact W.iret (v := iI (r7)) hx hb hr (fun t9 ht9 hW9 => ⟨⟨(r7), (sU (sU μ 0 (2) (0)) 0 2 (2)), rfl, (OPQ.bad (k := 2) (by unfold cd2; first | (rw [if_pos (by omega)] <;> rfl) | (rw [if_neg (by omega), if_pos (by omega)] <;> rfl) | (rw [if_neg (by omega), if_neg (by omega)] <;> rfl)) (by decide) rfl hM), ⟨by rw [ht9]; exact hP, va_K.moved hW9.alike hK, hD⟩⟩, hS.F ht9⟩) hS.2.2 dX5_whyNot_48 hlocks
      · skip
        refine lv_aload_n hx hb dX5_whyNot_32 rfl (lv_at hl 0 rfl) ?_
        refine lv_iload_n hx hb dX5_whyNot_33 rfl (lv_at hl 1 rfl) ?_
        refine lv_iload_n hx hb dX5_whyNot_34 rfl (lv_at hl 2 rfl) ?_
        refine lv_iload_n hx hb dX5_whyNot_35 rfl (lv_at hl 3 rfl) ?_
        refine wi_iconst hx hb dX5_whyNot_36 ?_
        refine wr_calli (va_runV (As := [.int (iI (o)), .int (iI (c)), .int (iI (y)), .int (iI (-1))]) (rest := []) ⟨hx, hb, hml, hown, hts⟩ (c_X5_reason l D cI cO cC cL b (sU μ 0 (2) (0)) σ (o) (c) (y) (-1) (by omega) (by omega) (by omega) (by omega) (hR) (hI)) (cwV 4 hts gX5_whyNot_X5_reason rfl rfl rfl (by decide +kernel) ⟨Nat.le_of_ble_eq_true rfl, Nat.le_of_ble_eq_true rfl⟩) ⟨pcR_blind, va_recv hK hP (ci := 5) (q0 := 0) rfl rfl, pcR_of hP hK⟩ rfl rfl hl.1 rfl (lv_room (Nat.le_of_ble_eq_true rfl)) dX5_whyNot_37 ⟨(Nat.zero_le _), (Nat.zero_le _)⟩) (fun r10 hr10 => ?_)
        subst hr10
        refine wi_top (y := (reasonS σ (o) (c) (y) (-1))) rfl ?_
        refine lv_goto (tgt := 48) hx hb dX5_whyNot_40 (by decide) ?_
        exact W.iret (v := iI ((reasonS σ (o) (c) (y) (-1)))) hx hb hr (fun t9 ht9 hW9 => ⟨⟨((reasonS σ (o) (c) (y) (-1))), (sU μ 0 (2) (0)), rfl, (OPQ.good (by unfold cd2; first | (rw [if_pos (by omega)] <;> rfl) | (rw [if_neg (by omega), if_pos (by omega)] <;> rfl) | (rw [if_neg (by omega), if_neg (by omega)] <;> rfl)) rfl (rfl) (hM)), ⟨by rw [ht9]; exact hP, va_K.moved hW9.alike hK, hD⟩⟩, hS.F ht9⟩) hS.2.2 dX5_whyNot_48 hlocks
    · skip
      refine lv_aload_n hx hb dX5_whyNot_19 rfl (lv_at hl 0 rfl) ?_
      refine wi_iconst hx hb dX5_whyNot_20 ?_
      have hFc := fl_free (SC := [mdW cI b (sU μ 0 (2) (0))]) hD hS hA [0] rfl
      refine wq_calli (va_runV (As := [.int (iI (1))]) (rest := []) ⟨hx, hb, hml, hown, hts⟩ (c_X5_fails l D cI cO cC cL H.size b (sU μ 0 (2) (0)) (1) ) (cwV 1 hts gX5_whyNot_X5_fails rfl rfl rfl (by decide +kernel) ⟨Nat.le_of_ble_eq_true rfl, Nat.le_of_ble_eq_true rfl⟩) ⟨pcW_blind, va_recv hK hP (ci := 5) (q0 := 0) rfl rfl, pcW_of hP hK hD⟩ rfl rfl hl.1 rfl (lv_room (Nat.le_of_ble_eq_true rfl)) dX5_whyNot_21 ⟨(Nat.zero_le _), (Nat.zero_le _)⟩) hS (fun q _ h => hFc q h) hFc (fun r11 u13 t9 H1 locs ht9 hvm hcl12 hB hz1 hk1 hS => ?_)
      obtain ⟨hP1, hK1, hD1⟩ := hB
      rw [ht9] at hP1
      obtain ⟨hP, hD⟩ := fl_join (SR := []) (S1 := [mdW cI b (sU (sU μ 0 (2) (0)) 0 2 (1))]) hP hD [0] [] rfl rfl (by decide) (by decide) hk1 hFc hP1 hD1
      generalize H1 = H at hP hS ⊢
      have hP : va_P D vwCl (fl [mdW cI b (sU (sU μ 0 (2) (0)) 0 2 (1))]) H := hP
      have hD : va_D A (fl [mdW cI b (sU (sU μ 0 (2) (0)) 0 2 (1))]) := hD
      exact W.iret (v := iI (r11)) hx hb hr (fun t9 ht9 hW9 => ⟨⟨(r11), (sU (sU μ 0 (2) (0)) 0 2 (1)), rfl, (OPQ.bad (k := 1) (by unfold cd2; first | (rw [if_pos (by omega)] <;> rfl) | (rw [if_neg (by omega), if_pos (by omega)] <;> rfl) | (rw [if_neg (by omega), if_neg (by omega)] <;> rfl)) (by decide) rfl hM), ⟨by rw [ht9]; exact hP, va_K.moved hW9.alike hK, hD⟩⟩, hS.F ht9⟩) hS.2.2 dX5_whyNot_24 hlocks
set_option maxHeartbeats 4000000 in
set_option maxRecDepth 100000 in
theorem c_X5_canBe (l : Launch) (D : va_G) (cI cO cC cL : ClassId) (sz : Nat) (b : Nat → Nat) (μ σ : Nat → Int → Int) (ss : Nat → Nat → Int → Int) (β : Int → Int) (c x : Int) (hc : R32 c) (hx : R32 x) (hM : RelM σ (μ 0 0) ss (μ 0 1) β μ) (hG : GI σ (μ 0 0) ss (μ 0 1) β) : Met l yX5_canBe wsX5_canBe ({ frames := 5, cells := 0, slots := 0, locals := 113 } : Room) (pcW D [(cI, FieldType.int)] [.ref (b 0), .int (iI (c)), .int (iI (x))] (fl [mdW cI b μ]) sz) (wq_i (fun (r : Int) (μ' : Nat → Int → Int) => OPQ (cd1 (0 ≤ c ∧ c ≤ 3)) r (fewS σ c x) (μ' 0 2) (RelM σ (μ 0 0) ss (μ 0 1) β μ') (RelM σ (μ 0 0) ss (μ 0 1) β μ')) (fun (μ' : Nat → Int → Int) => (bW D [(cI, FieldType.int)] (fl [mdW cI b μ']) (va_A (fl [mdW cI b μ]) sz))) (va_A (fl [mdW cI b μ]) sz)) 0 0 (va_A (fl [mdW cI b μ]) sz) := by
  refine Met.ofW (cc := cX5_canBe) (maxL := 3) (ret := (some .int)) (by decide) rfl ?_
  intro p9 e9 s m args9 below9 meth9 c9 s₁ B hml hv
  obtain ⟨rfl, hsz, hP, hK, hD0⟩ := hv
  have hx := B.exec
  have hb := B.bytes
  have hr := B.returns
  have hts := atoms_spec (ws := wsX5_canBe) B.pre
  have hown : s.vm.findClass RX5 = some m.cls := findClass_of_methodNamed B.named
  have hlocks := B.notSynchronized
  subst hsz
  have hD := hD0.self (sz := s.heap.size)
  generalize hAe : va_A (fl [mdW cI b μ]) s.heap.size = A at hD ⊢
  have hA : ∀ q : Nat, s.heap.size ≤ q → A q := fun q h => by rw [← hAe]; exact Or.inr h
  have hS : va_S A s.heap s.heap [] := va_S.rf
  have hP : va_P D vwCl (fl [mdW cI b μ]) s.heap := hP
  have hl := lv_entry ([.ref (b 0), .int (iI (c)), .int (iI (x))]) (n := 3) (Nat.le_of_ble_eq_true rfl)
  rw [lg_entry_eq]
  generalize (lg_sl ([.ref (b 0), .int (iI (c)), .int (iI (x))]) ++ List.replicate (3 - (lg_sl ([.ref (b 0), .int (iI (c)), .int (iI (x))])).length) Slot.unset).toArray = ls at hl ⊢
  have hl : lv_has ls 3 [(0, .ref (b 0)), (1, .int (iI (c))), (2, .int (iI (x)))] := hl
  have hw_0 := hts (.fieldLink RX5 25 "PromisedCountersModel" "thrown" "I") (by decide +kernel)
  have hin_X5 : ∀ w ∈ u_ws RX5 TX5 12, w ∈ wsX5_canBe := by decide +kernel
  have hI := hG.1
  have hR := hM.1
  have hn := hI.n
  have hti := hI.t
  obtain ⟨hm0, hm1, hm2, hm3, hm4⟩ := hR.1
  refine lv_aload_n hx hb dX5_canBe_0 rfl (lv_at hl 0 rfl) ?_
  refine wi_iconst hx hb dX5_canBe_1 ?_
  refine va_put (D := D) (ci := 5) (v := .int (iI (0))) (ty := .int) (C := RX5) (T := TX5) (N := 12) hx hb hts hin_X5 tyX5 tyX5_ok nmX5 hown hK hP hD hS 0 rfl rfl 5 (by decide) hw_0 (fun _ h9 => h9) rfl (by decide +kernel) rfl rfl (Nat.le_of_ble_eq_true rfl) dX5_canBe_2 (fun H locs hP hD hS => ?_)
  have hP : va_P D vwCl (fl [mdW cI b (sU μ 0 (2) (0))]) H := hP
  have hD : va_D A (fl [mdW cI b (sU μ 0 (2) (0))]) := hD
  refine lv_iload_n hx hb dX5_canBe_5 rfl (lv_at hl 1 rfl) ?_
  refine wr_calli (va_runS (As := [.int (iI (c))]) (rest := []) ⟨hx, hb, hml, hown, hts⟩ (c_X5_isCounter l D cI cO cC cL (c) (by omega)) (cwS 1 hts gX5_canBe_X5_isCounter rfl rfl rfl (by decide +kernel) ⟨Nat.le_of_ble_eq_true rfl, Nat.le_of_ble_eq_true rfl⟩) ⟨fun _ _ _ _ h => h, fun U hU hW => ⟨rfl, trivial⟩⟩ rfl rfl hl.1 rfl (lv_room (Nat.le_of_ble_eq_true rfl)) dX5_canBe_6 ⟨(Nat.zero_le _), (Nat.zero_le _)⟩) (fun r1 hr1 => ?_)
  subst hr1
  refine wi_if_eq (tgt := 21) hx hb dX5_canBe_9 (by decide) (by omega) (fun c_9 => ?_) (fun c_9 => ?_)
  · skip
    refine lv_aload_n hx hb dX5_canBe_21 rfl (lv_at hl 0 rfl) ?_
    refine wi_iconst hx hb dX5_canBe_22 ?_
    have hFc := fl_free (SC := [mdW cI b (sU μ 0 (2) (0))]) hD hS hA [0] rfl
    refine wq_calli (va_runV (As := [.int (iI (1))]) (rest := []) ⟨hx, hb, hml, hown, hts⟩ (c_X5_fails l D cI cO cC cL H.size b (sU μ 0 (2) (0)) (1) ) (cwV 1 hts gX5_canBe_X5_fails rfl rfl rfl (by decide +kernel) ⟨Nat.le_of_ble_eq_true rfl, Nat.le_of_ble_eq_true rfl⟩) ⟨pcW_blind, va_recv hK hP (ci := 5) (q0 := 0) rfl rfl, pcW_of hP hK hD⟩ rfl rfl hl.1 rfl (lv_room (Nat.le_of_ble_eq_true rfl)) dX5_canBe_23 ⟨(Nat.zero_le _), (Nat.zero_le _)⟩) hS (fun q _ h => hFc q h) hFc (fun r2 u4 t9 H1 locs ht9 hvm hcl3 hB hz1 hk1 hS => ?_)
    obtain ⟨hP1, hK1, hD1⟩ := hB
    rw [ht9] at hP1
    obtain ⟨hP, hD⟩ := fl_join (SR := []) (S1 := [mdW cI b (sU (sU μ 0 (2) (0)) 0 2 (1))]) hP hD [0] [] rfl rfl (by decide) (by decide) hk1 hFc hP1 hD1
    generalize H1 = H at hP hS ⊢
    have hP : va_P D vwCl (fl [mdW cI b (sU (sU μ 0 (2) (0)) 0 2 (1))]) H := hP
    have hD : va_D A (fl [mdW cI b (sU (sU μ 0 (2) (0)) 0 2 (1))]) := hD
    exact W.iret (v := iI (r2)) hx hb hr (fun t9 ht9 hW9 => ⟨⟨(r2), (sU (sU μ 0 (2) (0)) 0 2 (1)), rfl, (OPQ.bad (k := 1) (by unfold cd1; first | (rw [if_pos (by omega)] <;> rfl) | (rw [if_neg (by omega)] <;> rfl)) (by decide) rfl hM), ⟨by rw [ht9]; exact hP, va_K.moved hW9.alike hK, hD⟩⟩, hS.F ht9⟩) hS.2.2 dX5_canBe_26 hlocks
  · skip
    refine lv_aload_n hx hb dX5_canBe_12 rfl (lv_at hl 0 rfl) ?_
    refine lv_iload_n hx hb dX5_canBe_13 rfl (lv_at hl 1 rfl) ?_
    refine lv_iload_n hx hb dX5_canBe_14 rfl (lv_at hl 2 rfl) ?_
    have hFc := fl_free (SC := [mdW cI b (sU μ 0 (2) (0))]) hD hS hA [0] rfl
    refine wq_calli (va_runV (As := [.int (iI (c)), .int (iI (x))]) (rest := []) ⟨hx, hb, hml, hown, hts⟩ (c_X5_fewestFor l D cI cO cC cL H.size b (sU μ 0 (2) (0)) σ (c) (x) (by omega) (by omega) (hR) (hI)) (cwV 2 hts gX5_canBe_X5_fewestFor rfl rfl rfl (by decide +kernel) ⟨Nat.le_of_ble_eq_true rfl, Nat.le_of_ble_eq_true rfl⟩) ⟨pcW_blind, va_recv hK hP (ci := 5) (q0 := 0) rfl rfl, pcW_of hP hK hD⟩ rfl rfl hl.1 rfl (lv_room (Nat.le_of_ble_eq_true rfl)) dX5_canBe_15 ⟨(Nat.zero_le _), (Nat.zero_le _)⟩) hS (fun q _ h => hFc q h) hFc (fun r5 u7 t9 H1 locs ht9 hvm hcl6 hB hz1 hk1 hS => ?_)
    obtain ⟨hP1, hK1, hD1⟩ := hB
    rw [ht9] at hP1
    obtain ⟨hP, hD⟩ := fl_join (SR := []) (S1 := [mdW cI b (sR (sU μ 0 (2) (0)) 5 u7)]) hP hD [0] [] rfl rfl (by decide) (by decide) hk1 hFc hP1 hD1
    generalize H1 = H at hP hS ⊢
    have hP : va_P D vwCl (fl [mdW cI b (sR (sU μ 0 (2) (0)) 5 u7)]) H := hP
    have hD : va_D A (fl [mdW cI b (sR (sU μ 0 (2) (0)) 5 u7)]) := hD
    refine lv_goto (tgt := 26) hx hb dX5_canBe_18 (by decide) ?_
    exact W.iret (v := iI (r5)) hx hb hr (fun t9 ht9 hW9 => ⟨⟨(r5), (sR (sU μ 0 (2) (0)) 5 u7), rfl, (OPQ.good (by unfold cd1; first | (rw [if_pos (by omega)] <;> rfl) | (rw [if_neg (by omega)] <;> rfl)) rfl (hcl6) (hM)), ⟨by rw [ht9]; exact hP, va_K.moved hW9.alike hK, hD⟩⟩, hS.F ht9⟩) hS.2.2 dX5_canBe_26 hlocks
set_option maxHeartbeats 4000000 in
set_option maxRecDepth 100000 in
theorem c_X5_mostFor (l : Launch) (D : va_G) (cI cO cC cL : ClassId) (sz : Nat) (b : Nat → Nat) (μ σ : Nat → Int → Int) (ss : Nat → Nat → Int → Int) (β : Int → Int) (o c im : Int) (ho : R32 o) (hc : R32 c) (him : im = 0 ∨ im = 1) (hM : RelM σ (μ 0 0) ss (μ 0 1) β μ) (hG : GI σ (μ 0 0) ss (μ 0 1) β) : Met l yX5_mostFor wsX5_mostFor ({ frames := 6, cells := 0, slots := 0, locals := 142 } : Room) (pcW D [(cI, FieldType.int)] [.ref (b 0), .int (iI (o)), .int (iI (c)), .int (iI (im))] (fl [mdW cI b μ]) sz) (wq_i (fun (r : Int) (μ' : Nat → Int → Int) => OPQ (cd1 ((0 ≤ o ∧ o ≤ 5) ∧ (0 ≤ c ∧ c ≤ 3))) r (mostS σ o c im) (μ' 0 2) (RelM σ (μ 0 0) ss (μ 0 1) β μ') (RelM σ (μ 0 0) ss (μ 0 1) β μ')) (fun (μ' : Nat → Int → Int) => (bW D [(cI, FieldType.int)] (fl [mdW cI b μ']) (va_A (fl [mdW cI b μ]) sz))) (va_A (fl [mdW cI b μ]) sz)) 0 0 (va_A (fl [mdW cI b μ]) sz) := by
  refine Met.ofW (cc := cX5_mostFor) (maxL := 4) (ret := (some .int)) (by decide) rfl ?_
  intro p9 e9 s m args9 below9 meth9 c9 s₁ B hml hv
  obtain ⟨rfl, hsz, hP, hK, hD0⟩ := hv
  have hx := B.exec
  have hb := B.bytes
  have hr := B.returns
  have hts := atoms_spec (ws := wsX5_mostFor) B.pre
  have hown : s.vm.findClass RX5 = some m.cls := findClass_of_methodNamed B.named
  have hlocks := B.notSynchronized
  subst hsz
  have hD := hD0.self (sz := s.heap.size)
  generalize hAe : va_A (fl [mdW cI b μ]) s.heap.size = A at hD ⊢
  have hA : ∀ q : Nat, s.heap.size ≤ q → A q := fun q h => by rw [← hAe]; exact Or.inr h
  have hS : va_S A s.heap s.heap [] := va_S.rf
  have hP : va_P D vwCl (fl [mdW cI b μ]) s.heap := hP
  have hl := lv_entry ([.ref (b 0), .int (iI (o)), .int (iI (c)), .int (iI (im))]) (n := 4) (Nat.le_of_ble_eq_true rfl)
  rw [lg_entry_eq]
  generalize (lg_sl ([.ref (b 0), .int (iI (o)), .int (iI (c)), .int (iI (im))]) ++ List.replicate (4 - (lg_sl ([.ref (b 0), .int (iI (o)), .int (iI (c)), .int (iI (im))])).length) Slot.unset).toArray = ls at hl ⊢
  have hl : lv_has ls 4 [(0, .ref (b 0)), (1, .int (iI (o))), (2, .int (iI (c))), (3, .int (iI (im)))] := hl
  have hw_0 := hts (.fieldLink RX5 25 "PromisedCountersModel" "thrown" "I") (by decide +kernel)
  have hin_X5 : ∀ w ∈ u_ws RX5 TX5 12, w ∈ wsX5_mostFor := by decide +kernel
  have hI := hG.1
  have hR := hM.1
  have hn := hI.n
  have hti := hI.t
  obtain ⟨hm0, hm1, hm2, hm3, hm4⟩ := hR.1
  refine lv_aload_n hx hb dX5_mostFor_0 rfl (lv_at hl 0 rfl) ?_
  refine wi_iconst hx hb dX5_mostFor_1 ?_
  refine va_put (D := D) (ci := 5) (v := .int (iI (0))) (ty := .int) (C := RX5) (T := TX5) (N := 12) hx hb hts hin_X5 tyX5 tyX5_ok nmX5 hown hK hP hD hS 0 rfl rfl 5 (by decide) hw_0 (fun _ h9 => h9) rfl (by decide +kernel) rfl rfl (Nat.le_of_ble_eq_true rfl) dX5_mostFor_2 (fun H locs hP hD hS => ?_)
  have hP : va_P D vwCl (fl [mdW cI b (sU μ 0 (2) (0))]) H := hP
  have hD : va_D A (fl [mdW cI b (sU μ 0 (2) (0))]) := hD
  refine lv_iload_n hx hb dX5_mostFor_5 rfl (lv_at hl 1 rfl) ?_
  refine wr_calli (va_runS (As := [.int (iI (o))]) (rest := []) ⟨hx, hb, hml, hown, hts⟩ (c_X5_isOwner l D cI cO cC cL (o) (by omega)) (cwS 1 hts gX5_mostFor_X5_isOwner rfl rfl rfl (by decide +kernel) ⟨Nat.le_of_ble_eq_true rfl, Nat.le_of_ble_eq_true rfl⟩) ⟨fun _ _ _ _ h => h, fun U hU hW => ⟨rfl, trivial⟩⟩ rfl rfl hl.1 rfl (lv_room (Nat.le_of_ble_eq_true rfl)) dX5_mostFor_6 ⟨(Nat.zero_le _), (Nat.zero_le _)⟩) (fun r1 hr1 => ?_)
  subst hr1
  refine wi_if_eq (tgt := 29) hx hb dX5_mostFor_9 (by decide) (by omega) (fun c_9 => ?_) (fun c_9 => ?_)
  · skip
    refine lv_aload_n hx hb dX5_mostFor_29 rfl (lv_at hl 0 rfl) ?_
    refine wi_iconst hx hb dX5_mostFor_30 ?_
    have hFc := fl_free (SC := [mdW cI b (sU μ 0 (2) (0))]) hD hS hA [0] rfl
    refine wq_calli (va_runV (As := [.int (iI (1))]) (rest := []) ⟨hx, hb, hml, hown, hts⟩ (c_X5_fails l D cI cO cC cL H.size b (sU μ 0 (2) (0)) (1) ) (cwV 1 hts gX5_mostFor_X5_fails rfl rfl rfl (by decide +kernel) ⟨Nat.le_of_ble_eq_true rfl, Nat.le_of_ble_eq_true rfl⟩) ⟨pcW_blind, va_recv hK hP (ci := 5) (q0 := 0) rfl rfl, pcW_of hP hK hD⟩ rfl rfl hl.1 rfl (lv_room (Nat.le_of_ble_eq_true rfl)) dX5_mostFor_31 ⟨(Nat.zero_le _), (Nat.zero_le _)⟩) hS (fun q _ h => hFc q h) hFc (fun r2 u4 t9 H1 locs ht9 hvm hcl3 hB hz1 hk1 hS => ?_)
    obtain ⟨hP1, hK1, hD1⟩ := hB
    rw [ht9] at hP1
    obtain ⟨hP, hD⟩ := fl_join (SR := []) (S1 := [mdW cI b (sU (sU μ 0 (2) (0)) 0 2 (1))]) hP hD [0] [] rfl rfl (by decide) (by decide) hk1 hFc hP1 hD1
    generalize H1 = H at hP hS ⊢
    have hP : va_P D vwCl (fl [mdW cI b (sU (sU μ 0 (2) (0)) 0 2 (1))]) H := hP
    have hD : va_D A (fl [mdW cI b (sU (sU μ 0 (2) (0)) 0 2 (1))]) := hD
    exact W.iret (v := iI (r2)) hx hb hr (fun t9 ht9 hW9 => ⟨⟨(r2), (sU (sU μ 0 (2) (0)) 0 2 (1)), rfl, (OPQ.bad (k := 1) (by unfold cd1; first | (rw [if_pos (by omega)] <;> rfl) | (rw [if_neg (by omega)] <;> rfl)) (by decide) rfl hM), ⟨by rw [ht9]; exact hP, va_K.moved hW9.alike hK, hD⟩⟩, hS.F ht9⟩) hS.2.2 dX5_mostFor_34 hlocks
  · skip
    refine lv_iload_n hx hb dX5_mostFor_12 rfl (lv_at hl 2 rfl) ?_
    refine wr_calli (va_runS (As := [.int (iI (c))]) (rest := []) ⟨hx, hb, hml, hown, hts⟩ (c_X5_isCounter l D cI cO cC cL (c) (by omega)) (cwS 1 hts gX5_mostFor_X5_isCounter rfl rfl rfl (by decide +kernel) ⟨Nat.le_of_ble_eq_true rfl, Nat.le_of_ble_eq_true rfl⟩) ⟨fun _ _ _ _ h => h, fun U hU hW => ⟨rfl, trivial⟩⟩ rfl rfl hl.1 rfl (lv_room (Nat.le_of_ble_eq_true rfl)) dX5_mostFor_13 ⟨(Nat.zero_le _), (Nat.zero_le _)⟩) (fun r5 hr5 => ?_)
    subst hr5
    refine wi_if_eq (tgt := 29) hx hb dX5_mostFor_16 (by decide) (by omega) (fun c_16 => ?_) (fun c_16 => ?_)
    · skip
      refine lv_aload_n hx hb dX5_mostFor_29 rfl (lv_at hl 0 rfl) ?_
      refine wi_iconst hx hb dX5_mostFor_30 ?_
      have hFc := fl_free (SC := [mdW cI b (sU μ 0 (2) (0))]) hD hS hA [0] rfl
      refine wq_calli (va_runV (As := [.int (iI (1))]) (rest := []) ⟨hx, hb, hml, hown, hts⟩ (c_X5_fails l D cI cO cC cL H.size b (sU μ 0 (2) (0)) (1) ) (cwV 1 hts gX5_mostFor_X5_fails rfl rfl rfl (by decide +kernel) ⟨Nat.le_of_ble_eq_true rfl, Nat.le_of_ble_eq_true rfl⟩) ⟨pcW_blind, va_recv hK hP (ci := 5) (q0 := 0) rfl rfl, pcW_of hP hK hD⟩ rfl rfl hl.1 rfl (lv_room (Nat.le_of_ble_eq_true rfl)) dX5_mostFor_31 ⟨(Nat.zero_le _), (Nat.zero_le _)⟩) hS (fun q _ h => hFc q h) hFc (fun r6 u8 t9 H1 locs ht9 hvm hcl7 hB hz1 hk1 hS => ?_)
      obtain ⟨hP1, hK1, hD1⟩ := hB
      rw [ht9] at hP1
      obtain ⟨hP, hD⟩ := fl_join (SR := []) (S1 := [mdW cI b (sU (sU μ 0 (2) (0)) 0 2 (1))]) hP hD [0] [] rfl rfl (by decide) (by decide) hk1 hFc hP1 hD1
      generalize H1 = H at hP hS ⊢
      have hP : va_P D vwCl (fl [mdW cI b (sU (sU μ 0 (2) (0)) 0 2 (1))]) H := hP
      have hD : va_D A (fl [mdW cI b (sU (sU μ 0 (2) (0)) 0 2 (1))]) := hD
      exact W.iret (v := iI (r6)) hx hb hr (fun t9 ht9 hW9 => ⟨⟨(r6), (sU (sU μ 0 (2) (0)) 0 2 (1)), rfl, (OPQ.bad (k := 1) (by unfold cd1; first | (rw [if_pos (by omega)] <;> rfl) | (rw [if_neg (by omega)] <;> rfl)) (by decide) rfl hM), ⟨by rw [ht9]; exact hP, va_K.moved hW9.alike hK, hD⟩⟩, hS.F ht9⟩) hS.2.2 dX5_mostFor_34 hlocks
    · skip
      refine lv_aload_n hx hb dX5_mostFor_19 rfl (lv_at hl 0 rfl) ?_
      refine lv_iload_n hx hb dX5_mostFor_20 rfl (lv_at hl 1 rfl) ?_
      refine lv_iload_n hx hb dX5_mostFor_21 rfl (lv_at hl 2 rfl) ?_
      refine lv_iload_n hx hb dX5_mostFor_22 rfl (lv_at hl 3 rfl) ?_
      refine wr_calli (va_runV (As := [.int (iI (o)), .int (iI (c)), .int (iI (im))]) (rest := []) ⟨hx, hb, hml, hown, hts⟩ (c_X5_mostOf l D cI cO cC cL b (sU μ 0 (2) (0)) σ (o) (c) (im) (by omega) (by omega) (him) (hR) (hI)) (cwV 3 hts gX5_mostFor_X5_mostOf rfl rfl rfl (by decide +kernel) ⟨Nat.le_of_ble_eq_true rfl, Nat.le_of_ble_eq_true rfl⟩) ⟨pcR_blind, va_recv hK hP (ci := 5) (q0 := 0) rfl rfl, pcR_of hP hK⟩ rfl rfl hl.1 rfl (lv_room (Nat.le_of_ble_eq_true rfl)) dX5_mostFor_23 ⟨(Nat.zero_le _), (Nat.zero_le _)⟩) (fun r9 hr9 => ?_)
      subst hr9
      refine wi_top (y := (mostS σ (o) (c) (im))) rfl ?_
      refine lv_goto (tgt := 34) hx hb dX5_mostFor_26 (by decide) ?_
      exact W.iret (v := iI ((mostS σ (o) (c) (im)))) hx hb hr (fun t9 ht9 hW9 => ⟨⟨((mostS σ (o) (c) (im))), (sU μ 0 (2) (0)), rfl, (OPQ.good (by unfold cd1; first | (rw [if_pos (by omega)] <;> rfl) | (rw [if_neg (by omega)] <;> rfl)) rfl (rfl) (hM)), ⟨by rw [ht9]; exact hP, va_K.moved hW9.alike hK, hD⟩⟩, hS.F ht9⟩) hS.2.2 dX5_mostFor_34 hlocks
set_option maxHeartbeats 4000000 in
set_option maxRecDepth 100000 in
theorem c_X5_ifPassed (l : Launch) (D : va_G) (cI cO cC cL : ClassId) (sz : Nat) (b : Nat → Nat) (μ σ : Nat → Int → Int) (ss : Nat → Nat → Int → Int) (β : Int → Int) (u w : Int) (hu : R32 u) (hw : R32 w) (hM : RelM σ (μ 0 0) ss (μ 0 1) β μ) (hG : GI σ (μ 0 0) ss (μ 0 1) β) : Met l yX5_ifPassed wsX5_ifPassed ({ frames := 4, cells := 0, slots := 0, locals := 94 } : Room) (pcW D [(cI, FieldType.int)] [.ref (b 0), .int (iI (u)), .int (iI (w))] (fl [mdW cI b μ]) sz) (wq_i (fun (r : Int) (μ' : Nat → Int → Int) => OPQ (cd1 ((0 ≤ u ∧ u ≤ 200) ∧ (0 ≤ w ∧ w ≤ 4))) r (pasS σ u w) (μ' 0 2) (RelM σ (μ 0 0) ss (μ 0 1) β μ') (RelM σ (μ 0 0) ss (μ 0 1) β μ')) (fun (μ' : Nat → Int → Int) => (bW D [(cI, FieldType.int)] (fl [mdW cI b μ']) (va_A (fl [mdW cI b μ]) sz))) (va_A (fl [mdW cI b μ]) sz)) 0 0 (va_A (fl [mdW cI b μ]) sz) := by
  refine Met.ofW (cc := cX5_ifPassed) (maxL := 3) (ret := (some .int)) (by decide) rfl ?_
  intro p9 e9 s m args9 below9 meth9 c9 s₁ B hml hv
  obtain ⟨rfl, hsz, hP, hK, hD0⟩ := hv
  have hx := B.exec
  have hb := B.bytes
  have hr := B.returns
  have hts := atoms_spec (ws := wsX5_ifPassed) B.pre
  have hown : s.vm.findClass RX5 = some m.cls := findClass_of_methodNamed B.named
  have hlocks := B.notSynchronized
  subst hsz
  have hD := hD0.self (sz := s.heap.size)
  generalize hAe : va_A (fl [mdW cI b μ]) s.heap.size = A at hD ⊢
  have hA : ∀ q : Nat, s.heap.size ≤ q → A q := fun q h => by rw [← hAe]; exact Or.inr h
  have hS : va_S A s.heap s.heap [] := va_S.rf
  have hP : va_P D vwCl (fl [mdW cI b μ]) s.heap := hP
  have hl := lv_entry ([.ref (b 0), .int (iI (u)), .int (iI (w))]) (n := 3) (Nat.le_of_ble_eq_true rfl)
  rw [lg_entry_eq]
  generalize (lg_sl ([.ref (b 0), .int (iI (u)), .int (iI (w))]) ++ List.replicate (3 - (lg_sl ([.ref (b 0), .int (iI (u)), .int (iI (w))])).length) Slot.unset).toArray = ls at hl ⊢
  have hl : lv_has ls 3 [(0, .ref (b 0)), (1, .int (iI (u))), (2, .int (iI (w)))] := hl
  have hw_0 := hts (.fieldLink RX5 25 "PromisedCountersModel" "thrown" "I") (by decide +kernel)
  have hin_X5 : ∀ w ∈ u_ws RX5 TX5 12, w ∈ wsX5_ifPassed := by decide +kernel
  have hI := hG.1
  have hR := hM.1
  have hn := hI.n
  have hti := hI.t
  obtain ⟨hm0, hm1, hm2, hm3, hm4⟩ := hR.1
  refine lv_aload_n hx hb dX5_ifPassed_0 rfl (lv_at hl 0 rfl) ?_
  refine wi_iconst hx hb dX5_ifPassed_1 ?_
  refine va_put (D := D) (ci := 5) (v := .int (iI (0))) (ty := .int) (C := RX5) (T := TX5) (N := 12) hx hb hts hin_X5 tyX5 tyX5_ok nmX5 hown hK hP hD hS 0 rfl rfl 5 (by decide) hw_0 (fun _ h9 => h9) rfl (by decide +kernel) rfl rfl (Nat.le_of_ble_eq_true rfl) dX5_ifPassed_2 (fun H locs hP hD hS => ?_)
  have hP : va_P D vwCl (fl [mdW cI b (sU μ 0 (2) (0))]) H := hP
  have hD : va_D A (fl [mdW cI b (sU μ 0 (2) (0))]) := hD
  refine lv_iload_n hx hb dX5_ifPassed_5 rfl (lv_at hl 1 rfl) ?_
  refine wi_iconst hx hb dX5_ifPassed_6 ?_
  refine wi_sipush hx hb dX5_ifPassed_7 (by decide) ?_
  refine wr_calli (va_runS (As := [.int (iI (u)), .int (iI (0)), .int (iI (200))]) (rest := []) ⟨hx, hb, hml, hown, hts⟩ (c_X5_in l D cI cO cC cL (u) (0) (200) (by omega) (by omega) (by omega)) (cwS 3 hts gX5_ifPassed_X5_in rfl rfl rfl (by decide +kernel) ⟨Nat.le_of_ble_eq_true rfl, Nat.le_of_ble_eq_true rfl⟩) ⟨fun _ _ _ _ h => h, fun U hU hW => ⟨rfl, trivial⟩⟩ rfl rfl hl.1 rfl (lv_room (Nat.le_of_ble_eq_true rfl)) dX5_ifPassed_10 ⟨(Nat.zero_le _), (Nat.zero_le _)⟩) (fun r1 hr1 => ?_)
  subst hr1
  refine wi_if_eq (tgt := 34) hx hb dX5_ifPassed_13 (by decide) (by omega) (fun c_13 => ?_) (fun c_13 => ?_)
  · skip
    refine lv_aload_n hx hb dX5_ifPassed_34 rfl (lv_at hl 0 rfl) ?_
    refine wi_iconst hx hb dX5_ifPassed_35 ?_
    have hFc := fl_free (SC := [mdW cI b (sU μ 0 (2) (0))]) hD hS hA [0] rfl
    refine wq_calli (va_runV (As := [.int (iI (1))]) (rest := []) ⟨hx, hb, hml, hown, hts⟩ (c_X5_fails l D cI cO cC cL H.size b (sU μ 0 (2) (0)) (1) ) (cwV 1 hts gX5_ifPassed_X5_fails rfl rfl rfl (by decide +kernel) ⟨Nat.le_of_ble_eq_true rfl, Nat.le_of_ble_eq_true rfl⟩) ⟨pcW_blind, va_recv hK hP (ci := 5) (q0 := 0) rfl rfl, pcW_of hP hK hD⟩ rfl rfl hl.1 rfl (lv_room (Nat.le_of_ble_eq_true rfl)) dX5_ifPassed_36 ⟨(Nat.zero_le _), (Nat.zero_le _)⟩) hS (fun q _ h => hFc q h) hFc (fun r2 u4 t9 H1 locs ht9 hvm hcl3 hB hz1 hk1 hS => ?_)
    obtain ⟨hP1, hK1, hD1⟩ := hB
    rw [ht9] at hP1
    obtain ⟨hP, hD⟩ := fl_join (SR := []) (S1 := [mdW cI b (sU (sU μ 0 (2) (0)) 0 2 (1))]) hP hD [0] [] rfl rfl (by decide) (by decide) hk1 hFc hP1 hD1
    generalize H1 = H at hP hS ⊢
    have hP : va_P D vwCl (fl [mdW cI b (sU (sU μ 0 (2) (0)) 0 2 (1))]) H := hP
    have hD : va_D A (fl [mdW cI b (sU (sU μ 0 (2) (0)) 0 2 (1))]) := hD
    exact W.iret (v := iI (r2)) hx hb hr (fun t9 ht9 hW9 => ⟨⟨(r2), (sU (sU μ 0 (2) (0)) 0 2 (1)), rfl, (OPQ.bad (k := 1) (by unfold cd1; first | (rw [if_pos (by omega)] <;> rfl) | (rw [if_neg (by omega)] <;> rfl)) (by decide) rfl hM), ⟨by rw [ht9]; exact hP, va_K.moved hW9.alike hK, hD⟩⟩, hS.F ht9⟩) hS.2.2 dX5_ifPassed_39 hlocks
  · skip
    refine lv_iload_n hx hb dX5_ifPassed_16 rfl (lv_at hl 2 rfl) ?_
    refine wi_iconst hx hb dX5_ifPassed_17 ?_
    refine wi_iconst hx hb dX5_ifPassed_18 ?_
    refine wr_calli (va_runS (As := [.int (iI (w)), .int (iI (0)), .int (iI (4))]) (rest := []) ⟨hx, hb, hml, hown, hts⟩ (c_X5_in l D cI cO cC cL (w) (0) (4) (by omega) (by omega) (by omega)) (cwS 3 hts gX5_ifPassed_X5_in rfl rfl rfl (by decide +kernel) ⟨Nat.le_of_ble_eq_true rfl, Nat.le_of_ble_eq_true rfl⟩) ⟨fun _ _ _ _ h => h, fun U hU hW => ⟨rfl, trivial⟩⟩ rfl rfl hl.1 rfl (lv_room (Nat.le_of_ble_eq_true rfl)) dX5_ifPassed_19 ⟨(Nat.zero_le _), (Nat.zero_le _)⟩) (fun r5 hr5 => ?_)
    subst hr5
    refine wi_if_eq (tgt := 34) hx hb dX5_ifPassed_22 (by decide) (by omega) (fun c_22 => ?_) (fun c_22 => ?_)
    · skip
      refine lv_aload_n hx hb dX5_ifPassed_34 rfl (lv_at hl 0 rfl) ?_
      refine wi_iconst hx hb dX5_ifPassed_35 ?_
      have hFc := fl_free (SC := [mdW cI b (sU μ 0 (2) (0))]) hD hS hA [0] rfl
      refine wq_calli (va_runV (As := [.int (iI (1))]) (rest := []) ⟨hx, hb, hml, hown, hts⟩ (c_X5_fails l D cI cO cC cL H.size b (sU μ 0 (2) (0)) (1) ) (cwV 1 hts gX5_ifPassed_X5_fails rfl rfl rfl (by decide +kernel) ⟨Nat.le_of_ble_eq_true rfl, Nat.le_of_ble_eq_true rfl⟩) ⟨pcW_blind, va_recv hK hP (ci := 5) (q0 := 0) rfl rfl, pcW_of hP hK hD⟩ rfl rfl hl.1 rfl (lv_room (Nat.le_of_ble_eq_true rfl)) dX5_ifPassed_36 ⟨(Nat.zero_le _), (Nat.zero_le _)⟩) hS (fun q _ h => hFc q h) hFc (fun r6 u8 t9 H1 locs ht9 hvm hcl7 hB hz1 hk1 hS => ?_)
      obtain ⟨hP1, hK1, hD1⟩ := hB
      rw [ht9] at hP1
      obtain ⟨hP, hD⟩ := fl_join (SR := []) (S1 := [mdW cI b (sU (sU μ 0 (2) (0)) 0 2 (1))]) hP hD [0] [] rfl rfl (by decide) (by decide) hk1 hFc hP1 hD1
      generalize H1 = H at hP hS ⊢
      have hP : va_P D vwCl (fl [mdW cI b (sU (sU μ 0 (2) (0)) 0 2 (1))]) H := hP
      have hD : va_D A (fl [mdW cI b (sU (sU μ 0 (2) (0)) 0 2 (1))]) := hD
      exact W.iret (v := iI (r6)) hx hb hr (fun t9 ht9 hW9 => ⟨⟨(r6), (sU (sU μ 0 (2) (0)) 0 2 (1)), rfl, (OPQ.bad (k := 1) (by unfold cd1; first | (rw [if_pos (by omega)] <;> rfl) | (rw [if_neg (by omega)] <;> rfl)) (by decide) rfl hM), ⟨by rw [ht9]; exact hP, va_K.moved hW9.alike hK, hD⟩⟩, hS.F ht9⟩) hS.2.2 dX5_ifPassed_39 hlocks
    · skip
      refine lv_aload_n hx hb dX5_ifPassed_25 rfl (lv_at hl 0 rfl) ?_
      refine lv_iload_n hx hb dX5_ifPassed_26 rfl (lv_at hl 1 rfl) ?_
      refine lv_iload_n hx hb dX5_ifPassed_27 rfl (lv_at hl 2 rfl) ?_
      refine wr_calli (va_runV (As := [.int (iI (u)), .int (iI (w))]) (rest := []) ⟨hx, hb, hml, hown, hts⟩ (c_X5_passedBy l D cI cO cC cL b (sU μ 0 (2) (0)) σ (u) (w) (by omega) (by omega) (hR) (hI)) (cwV 2 hts gX5_ifPassed_X5_passedBy rfl rfl rfl (by decide +kernel) ⟨Nat.le_of_ble_eq_true rfl, Nat.le_of_ble_eq_true rfl⟩) ⟨pcR_blind, va_recv hK hP (ci := 5) (q0 := 0) rfl rfl, pcR_of hP hK⟩ rfl rfl hl.1 rfl (lv_room (Nat.le_of_ble_eq_true rfl)) dX5_ifPassed_28 ⟨(Nat.zero_le _), (Nat.zero_le _)⟩) (fun r9 hr9 => ?_)
      subst hr9
      refine wi_top (y := (pasS σ (u) (w))) rfl ?_
      refine lv_goto (tgt := 39) hx hb dX5_ifPassed_31 (by decide) ?_
      exact W.iret (v := iI ((pasS σ (u) (w)))) hx hb hr (fun t9 ht9 hW9 => ⟨⟨((pasS σ (u) (w))), (sU μ 0 (2) (0)), rfl, (OPQ.good (by unfold cd1; first | (rw [if_pos (by omega)] <;> rfl) | (rw [if_neg (by omega)] <;> rfl)) rfl (rfl) (hM)), ⟨by rw [ht9]; exact hP, va_K.moved hW9.alike hK, hD⟩⟩, hS.F ht9⟩) hS.2.2 dX5_ifPassed_39 hlocks
