set_option maxHeartbeats 4000000 in
set_option maxRecDepth 100000 in
theorem c_X5_firstError (l : Launch) (D : va_G) (cI cO cC cL : ClassId) (sz : Nat) (b : Nat → Nat) (μ σ : Nat → Int → Int) (ss : Nat → Nat → Int → Int) (β : Int → Int) (δ : Int → Int) (hM : RelM σ (μ 0 0) ss (μ 0 1) β μ) (hG : GI σ (μ 0 0) ss (μ 0 1) β) (hd0 : δ 0 = 0) : Met l yX5_firstError wsX5_firstError ({ frames := 5, cells := 0, slots := 0, locals := 110 } : Room) (pcW D [(cI, FieldType.int)] [.ref (b 0)] (fl [mdW cI b μ]) sz) (wq_i (fun (r : Int) (μ' : Nat → Int → Int) => OPQ 0 r (feR β (μ 0 1 - 0).toNat δ 0) (μ' 0 2) (RelM σ (μ 0 0) ss (μ 0 1) β μ) (RelM σ (μ 0 0) ss (μ 0 1) β μ')) (fun (μ' : Nat → Int → Int) => (bW D [(cI, FieldType.int)] (fl [mdW cI b μ']) (va_A (fl [mdW cI b μ]) sz))) (va_A (fl [mdW cI b μ]) sz)) 0 0 (va_A (fl [mdW cI b μ]) sz) := by
  refine Met.ofW (cc := cX5_firstError) (maxL := 2) (ret := (some .int)) (by decide) rfl ?_
  intro p9 e9 s m args9 below9 meth9 c9 s₁ B hml hv
  obtain ⟨rfl, hsz, hP, hK, hD0⟩ := hv
  have hx := B.exec
  have hb := B.bytes
  have hr := B.returns
  have hts := atoms_spec (ws := wsX5_firstError) B.pre
  have hown : s.vm.findClass RX5 = some m.cls := findClass_of_methodNamed B.named
  have hlocks := B.notSynchronized
  subst hsz
  have hD := hD0.self (sz := s.heap.size)
  generalize hAe : va_A (fl [mdW cI b μ]) s.heap.size = A at hD ⊢
  have hA : ∀ q : Nat, s.heap.size ≤ q → A q := fun q h => by rw [← hAe]; exact Or.inr h
  have hS : va_S A s.heap s.heap [] := va_S.rf
  have hP : va_P D vwCl (fl [mdW cI b μ]) s.heap := hP
  have hl := lv_entry ([.ref (b 0)]) (n := 2) (Nat.le_of_ble_eq_true rfl)
  rw [lg_entry_eq]
  generalize (lg_sl ([.ref (b 0)]) ++ List.replicate (2 - (lg_sl ([.ref (b 0)])).length) Slot.unset).toArray = ls at hl ⊢
  have hl : lv_has ls 2 [(0, .ref (b 0))] := hl
  have hw_0 := hts (.fieldLink RX5 25 "PromisedCountersModel" "thrown" "I") (by decide +kernel)
  have hin_X5 : ∀ w ∈ u_ws RX5 TX5 12, w ∈ wsX5_firstError := by decide +kernel
  have hw_1 := hts (.fieldLink RX5 94 "PromisedCountersModel" "typed" "I") (by decide +kernel)
  have hw_2 := hts (.fieldLink RX5 100 "PromisedCountersModel" "isFault" "Z") (by decide +kernel)
  have hw_3 := hts (.fieldLink RX5 97 "PromisedCountersModel" "at" "I") (by decide +kernel)
  have hln := hG.2.2.2.1
  have htx : TXT (μ 0 1) (μ 3) := fun j j0 j1 => by rw [hM.2.2.2.2 j j0 j1]; have := hG.2.2.2.2 j j0 j1; omega
  refine lv_aload_n hx hb dX5_firstError_0 rfl (lv_at hl 0 rfl) ?_
  refine wi_iconst hx hb dX5_firstError_1 ?_
  refine va_put (D := D) (ci := 5) (v := .int (iI (0))) (ty := .int) (C := RX5) (T := TX5) (N := 12) hx hb hts hin_X5 tyX5 tyX5_ok nmX5 hown hK hP hD hS 0 rfl rfl 5 (by decide) hw_0 (fun _ h9 => h9) rfl (by decide +kernel) rfl rfl (Nat.le_of_ble_eq_true rfl) dX5_firstError_2 (fun H locs hP hD hS => ?_)
  have hP : va_P D vwCl (fl [mdW cI b (sU μ 0 (2) (0))]) H := hP
  have hD : va_D A (fl [mdW cI b (sU μ 0 (2) (0))]) := hD
  refine lv_aload_n hx hb dX5_firstError_5 rfl (lv_at hl 0 rfl) ?_
  have hFc := fl_free (SC := [mdW cI b (sU μ 0 (2) (0))]) hD hS hA [0] rfl
  refine wq_calli (va_runV (As := []) (rest := []) ⟨hx, hb, hml, hown, hts⟩ (c_X5_isText l D cI cO cC cL H.size b (sU μ 0 (2) (0)) δ ((show 0 ≤ μ 0 1 ∧ μ 0 1 ≤ 60 from hln)) (htx) (hd0)) (cwV 0 hts gX5_firstError_X5_isText rfl rfl rfl (by decide +kernel) ⟨Nat.le_of_ble_eq_true rfl, Nat.le_of_ble_eq_true rfl⟩) ⟨pcW_blind, va_recv hK hP (ci := 5) (q0 := 0) rfl rfl, pcW_of hP hK hD⟩ rfl rfl hl.1 rfl (lv_room (Nat.le_of_ble_eq_true rfl)) dX5_firstError_6 ⟨(Nat.zero_le _), (Nat.zero_le _)⟩) hS (fun q _ h => hFc q h) hFc (fun r1 u3 t9 H1 locs ht9 hvm hcl2 hB hz1 hk1 hS => ?_)
  obtain ⟨hP1, hK1, hD1⟩ := hB
  rw [ht9] at hP1
  obtain ⟨hP, hD⟩ := fl_join (SR := []) (S1 := [mdW cI b (sR (sR (sU μ 0 (2) (0)) 0 (u3 0)) 4 (u3 4))]) hP hD [0] [] rfl rfl (by decide) (by decide) hk1 hFc hP1 hD1
  generalize H1 = H at hP hS ⊢
  have hP : va_P D vwCl (fl [mdW cI b (sR (sR (sU μ 0 (2) (0)) 0 (u3 0)) 4 (u3 4))]) H := hP
  have hD : va_D A (fl [mdW cI b (sR (sR (sU μ 0 (2) (0)) 0 (u3 0)) 4 (u3 4))]) := hD
  have hT : TTQ (μ 3) (μ 0 1) δ r1 (u3 0) (u3 4) ∧ u3 0 0 = μ 0 0 ∧ u3 0 1 = μ 0 1 ∧ u3 0 2 = 0 := hcl2
  clear hcl2
  obtain ⟨hT, hu0, hu1, hu2⟩ := hT
  have hr9 := hT.1
  have h49 := hT.2.2.2.2.1
  have hff := hT.2.2.2.2.2
  have h33 := hT.2.2.2.1
  refine lv_istore_n (lv' := [(1, .int (iI (r1))), (0, .ref (b 0))]) hx hb dX5_firstError_9 rfl hl (by decide) rfl (fun ls hl => ?_)
  refine lv_iload_n hx hb dX5_firstError_10 rfl (lv_at hl 0 rfl) ?_
  refine wi_if_ne (tgt := 28) hx hb dX5_firstError_11 (by decide) (by omega) (fun c_11 => ?_) (fun c_11 => ?_)
  · skip
    refine lv_aload_n hx hb dX5_firstError_28 rfl (lv_at hl 1 rfl) ?_
    refine va_get (D := D) (ci := 5) (v := .int (iI (((u3 0) 1)))) (C := RX5) (T := TX5) (N := 12) hx hb hts hin_X5 hown hK hP 0 rfl rfl 4 (by decide) hw_1 (fun _ h9 => h9) rfl dX5_firstError_29 ?_
    exact W.iret (v := iI (((u3 0) 1))) hx hb hr (fun t9 ht9 hW9 => ⟨⟨(((u3 0) 1)), (sR (sR (sU μ 0 (2) (0)) 0 (u3 0)) 4 (u3 4)), rfl, (OPQ.good rfl hu2 (by rw [← feR_c (μ 0 1 - 0).toNat δ 0 (fun j j0 j1 => hM.2.2.2.2 j j0 (by omega)), ← hff]; first | (rw [if_pos (by omega)]; done) | (rw [if_neg (by omega)]; omega)) ⟨hM.1, hu0, hM.2.2.1, hu1, hM.2.2.2.2⟩), ⟨by rw [ht9]; exact hP, va_K.moved hW9.alike hK, hD⟩⟩, hS.F ht9⟩) hS.2.2 dX5_firstError_32 hlocks
  · skip
    refine lv_aload_n hx hb dX5_firstError_14 rfl (lv_at hl 1 rfl) ?_
    refine va_get (D := D) (ci := 5) (v := .int (iI (((u3 0) 4)))) (C := RX5) (T := TX5) (N := 12) hx hb hts hin_X5 hown hK hP 0 rfl rfl 7 (by decide) hw_2 (fun _ h9 => h9) rfl dX5_firstError_15 ?_
    refine wi_if_eq (tgt := 28) hx hb dX5_firstError_18 (by decide) (by omega) (fun c_18 => ?_) (fun c_18 => ?_)
    · skip
      refine lv_aload_n hx hb dX5_firstError_28 rfl (lv_at hl 1 rfl) ?_
      refine va_get (D := D) (ci := 5) (v := .int (iI (((u3 0) 1)))) (C := RX5) (T := TX5) (N := 12) hx hb hts hin_X5 hown hK hP 0 rfl rfl 4 (by decide) hw_1 (fun _ h9 => h9) rfl dX5_firstError_29 ?_
      exact W.iret (v := iI (((u3 0) 1))) hx hb hr (fun t9 ht9 hW9 => ⟨⟨(((u3 0) 1)), (sR (sR (sU μ 0 (2) (0)) 0 (u3 0)) 4 (u3 4)), rfl, (OPQ.good rfl hu2 (by rw [← feR_c (μ 0 1 - 0).toNat δ 0 (fun j j0 j1 => hM.2.2.2.2 j j0 (by omega)), ← hff]; first | (rw [if_pos (by omega)]; done) | (rw [if_neg (by omega)]; omega)) ⟨hM.1, hu0, hM.2.2.1, hu1, hM.2.2.2.2⟩), ⟨by rw [ht9]; exact hP, va_K.moved hW9.alike hK, hD⟩⟩, hS.F ht9⟩) hS.2.2 dX5_firstError_32 hlocks
    · skip
      refine lv_aload_n hx hb dX5_firstError_21 rfl (lv_at hl 1 rfl) ?_
      refine va_get (D := D) (ci := 5) (v := .int (iI (((u3 0) 3)))) (C := RX5) (T := TX5) (N := 12) hx hb hts hin_X5 hown hK hP 0 rfl rfl 6 (by decide) hw_3 (fun _ h9 => h9) rfl dX5_firstError_22 ?_
      refine lv_goto (tgt := 32) hx hb dX5_firstError_25 (by decide) ?_
      exact W.iret (v := iI (((u3 0) 3))) hx hb hr (fun t9 ht9 hW9 => ⟨⟨(((u3 0) 3)), (sR (sR (sU μ 0 (2) (0)) 0 (u3 0)) 4 (u3 4)), rfl, (OPQ.good rfl hu2 (by rw [← feR_c (μ 0 1 - 0).toNat δ 0 (fun j j0 j1 => hM.2.2.2.2 j j0 (by omega)), ← hff]; first | (rw [if_pos (by omega)]; done) | (rw [if_neg (by omega)]; omega)) ⟨hM.1, hu0, hM.2.2.1, hu1, hM.2.2.2.2⟩), ⟨by rw [ht9]; exact hP, va_K.moved hW9.alike hK, hD⟩⟩, hS.F ht9⟩) hS.2.2 dX5_firstError_32 hlocks
set_option maxHeartbeats 4000000 in
set_option maxRecDepth 100000 in
theorem c_X5_mayCome (l : Launch) (D : va_G) (cI cO cC cL : ClassId) (b : Nat → Nat) (μ σ : Nat → Int → Int) (k : Int) (hk : 0 ≤ k ∧ k < 17) (hpo : PO (μ 4 (4 * k + 3), μ 4 (4 * k), μ 4 (4 * k + 1), μ 4 (4 * k + 2))) (hR : RelN σ (μ 1)) (hI : Inv σ) : Met l yX5_mayCome wsX5_mayCome ({ frames := 5, cells := 0, slots := 0, locals := 118 } : Room) (pcR D [(cI, FieldType.int)] [.ref (b 0), .int (iI (k))] (fl [mdW cI b μ])) (wr_Si (fun r => r = (if reasonS σ (μ 4 (4 * k + 3)) (μ 4 (4 * k)) (μ 4 (4 * k + 1)) (μ 4 (4 * k + 2)) = 0 then 1 else 0))) 0 0 (fun _ => False) := by
  refine Met.ofW (cc := cX5_mayCome) (maxL := 2) (ret := (some .boolean)) (by decide) rfl ?_
  intro p9 e9 s m args9 below9 meth9 c9 s₁ B hml hv
  obtain ⟨rfl, hP, hK⟩ := hv
  have hx := B.exec
  have hb := B.bytes
  have hr := B.returns
  have hts := atoms_spec (ws := wsX5_mayCome) B.pre
  have hown : s.vm.findClass RX5 = some m.cls := findClass_of_methodNamed B.named
  have hlocks := B.notSynchronized
  have hl := lv_entry ([.ref (b 0), .int (iI (k))]) (n := 2) (Nat.le_of_ble_eq_true rfl)
  rw [lg_entry_eq]
  generalize (lg_sl ([.ref (b 0), .int (iI (k))]) ++ List.replicate (2 - (lg_sl ([.ref (b 0), .int (iI (k))])).length) Slot.unset).toArray = ls at hl ⊢
  have hl : lv_has ls 2 [(0, .ref (b 0)), (1, .int (iI (k)))] := hl
  have hw_0 := hts (.fieldLink RX5 19 "PromisedCountersModel" "told" "[I") (by decide +kernel)
  have hin_X5 : ∀ w ∈ u_ws RX5 TX5 12, w ∈ wsX5_mayCome := by decide +kernel
  have hn := hI.n
  have hti := hI.t
  obtain ⟨hm0, hm1, hm2, hm3, hm4⟩ := hR.1
  have hpo1 := hpo.1
  have hpo2 := hpo.2.1
  have hpo3 := hpo.2.2.1
  have hpo4 := hpo.2.2.2
  refine lv_aload_n hx hb dX5_mayCome_0 rfl (lv_at hl 0 rfl) ?_
  refine lv_aload_n hx hb dX5_mayCome_1 rfl (lv_at hl 0 rfl) ?_
  refine va_get (D := D) (ci := 5) (v := .ref (b 4)) (C := RX5) (T := TX5) (N := 12) hx hb hts hin_X5 hown hK hP 0 rfl rfl 9 (by decide) hw_0 (fun _ h9 => h9) rfl dX5_mayCome_2 ?_
  refine wi_iconst hx hb dX5_mayCome_5 ?_
  refine lv_iload_n hx hb dX5_mayCome_6 rfl (lv_at hl 1 rfl) ?_
  refine wi_imul hx hb dX5_mayCome_7 ?_
  refine wi_iconst hx hb dX5_mayCome_8 ?_
  refine wi_iadd hx hb dX5_mayCome_9 ?_
  refine wi_iald hx hb hK hP 4 0 (n := 68) (f := μ 4) rfl rfl (i := ((4 * k) + 3)) (by omega) (by decide) dX5_mayCome_10 ?_
  refine lv_aload_n hx hb dX5_mayCome_11 rfl (lv_at hl 0 rfl) ?_
  refine va_get (D := D) (ci := 5) (v := .ref (b 4)) (C := RX5) (T := TX5) (N := 12) hx hb hts hin_X5 hown hK hP 0 rfl rfl 9 (by decide) hw_0 (fun _ h9 => h9) rfl dX5_mayCome_12 ?_
  refine wi_iconst hx hb dX5_mayCome_15 ?_
  refine lv_iload_n hx hb dX5_mayCome_16 rfl (lv_at hl 1 rfl) ?_
  refine wi_imul hx hb dX5_mayCome_17 ?_
  refine wi_iald hx hb hK hP 4 0 (n := 68) (f := μ 4) rfl rfl (i := (4 * k)) (by omega) (by decide) dX5_mayCome_18 ?_
  refine lv_aload_n hx hb dX5_mayCome_19 rfl (lv_at hl 0 rfl) ?_
  refine va_get (D := D) (ci := 5) (v := .ref (b 4)) (C := RX5) (T := TX5) (N := 12) hx hb hts hin_X5 hown hK hP 0 rfl rfl 9 (by decide) hw_0 (fun _ h9 => h9) rfl dX5_mayCome_20 ?_
  refine wi_iconst hx hb dX5_mayCome_23 ?_
  refine lv_iload_n hx hb dX5_mayCome_24 rfl (lv_at hl 1 rfl) ?_
  refine wi_imul hx hb dX5_mayCome_25 ?_
  refine wi_iconst hx hb dX5_mayCome_26 ?_
  refine wi_iadd hx hb dX5_mayCome_27 ?_
  refine wi_iald hx hb hK hP 4 0 (n := 68) (f := μ 4) rfl rfl (i := ((4 * k) + 1)) (by omega) (by decide) dX5_mayCome_28 ?_
  refine lv_aload_n hx hb dX5_mayCome_29 rfl (lv_at hl 0 rfl) ?_
  refine va_get (D := D) (ci := 5) (v := .ref (b 4)) (C := RX5) (T := TX5) (N := 12) hx hb hts hin_X5 hown hK hP 0 rfl rfl 9 (by decide) hw_0 (fun _ h9 => h9) rfl dX5_mayCome_30 ?_
  refine wi_iconst hx hb dX5_mayCome_33 ?_
  refine lv_iload_n hx hb dX5_mayCome_34 rfl (lv_at hl 1 rfl) ?_
  refine wi_imul hx hb dX5_mayCome_35 ?_
  refine wi_iconst hx hb dX5_mayCome_36 ?_
  refine wi_iadd hx hb dX5_mayCome_37 ?_
  refine wi_iald hx hb hK hP 4 0 (n := 68) (f := μ 4) rfl rfl (i := ((4 * k) + 2)) (by omega) (by decide) dX5_mayCome_38 ?_
  refine wr_calli (va_runV (As := [.int (iI ((μ 4 (((4 * k) + 3))))), .int (iI ((μ 4 ((4 * k))))), .int (iI ((μ 4 (((4 * k) + 1))))), .int (iI ((μ 4 (((4 * k) + 2)))))]) (rest := []) ⟨hx, hb, hml, hown, hts⟩ (c_X5_reason l D cI cO cC cL b μ σ ((μ 4 (((4 * k) + 3)))) ((μ 4 ((4 * k)))) ((μ 4 (((4 * k) + 1)))) ((μ 4 (((4 * k) + 2)))) ((show R32 (μ 4 (4 * k + 3)) by have h : 0 ≤ μ 4 (4 * k + 3) ∧ μ 4 (4 * k + 3) ≤ 5 := hpo1; omega)) ((show 0 ≤ μ 4 (4 * k) ∧ μ 4 (4 * k) < 4 by have h : 0 ≤ μ 4 (4 * k) ∧ μ 4 (4 * k) ≤ 3 := hpo2; omega)) (hpo3) ((show μ 4 (4 * k + 2) = -1 ∨ (0 ≤ μ 4 (4 * k + 2) ∧ μ 4 (4 * k + 2) < 4 ∧ μ 4 (4 * k + 1) < 0) by have h : μ 4 (4 * k + 2) = -1 ∨ (0 ≤ μ 4 (4 * k + 2) ∧ μ 4 (4 * k + 2) ≤ 3 ∧ μ 4 (4 * k + 2) ≠ μ 4 (4 * k) ∧ μ 4 (4 * k + 1) < 0) := hpo4; omega)) (hR) (hI)) (cwV 4 hts gX5_mayCome_X5_reason rfl rfl rfl (by decide +kernel) ⟨Nat.le_of_ble_eq_true rfl, Nat.le_of_ble_eq_true rfl⟩) ⟨pcR_blind, va_recv hK hP (ci := 5) (q0 := 0) rfl rfl, pcR_of hP hK⟩ rfl rfl hl.1 rfl (lv_room (Nat.le_of_ble_eq_true rfl)) dX5_mayCome_39 ⟨(Nat.zero_le _), (Nat.zero_le _)⟩) (fun r1 hr1 => ?_)
  subst hr1
  refine wi_if_ne (tgt := 49) hx hb dX5_mayCome_42 (by decide) (by have := reason_r σ (μ 4 (4 * k + 3)) (μ 4 (4 * k)) (μ 4 (4 * k + 1)) (μ 4 (4 * k + 2)); omega) (fun c_42 => ?_) (fun c_42 => ?_)
  · skip
    refine wi_iconst hx hb dX5_mayCome_49 ?_
    exact W.zret (v := iI (0)) hx hb hr (nar_z (by omega)) (fun t9 ht9 hW9 => ⟨(0), rfl, (by omega), ht9⟩) (fun _ h => nomatch h) dX5_mayCome_50 hlocks
  · skip
    refine wi_iconst hx hb dX5_mayCome_45 ?_
    refine lv_goto (tgt := 50) hx hb dX5_mayCome_46 (by decide) ?_
    exact W.zret (v := iI (1)) hx hb hr (nar_z (by omega)) (fun t9 ht9 hW9 => ⟨(1), rfl, (by omega), ht9⟩) (fun _ h => nomatch h) dX5_mayCome_50 hlocks
