set_option maxHeartbeats 4000000 in
set_option maxRecDepth 100000 in
theorem c_X4_firstError (l : Launch) (D : va_G) (cI cO cC cL : ClassId) (sz : Nat) (x a sv o rd bu : Nat → Nat) (ln ρ β : Nat → Int → Int) (hl9 : 0 ≤ ln 0 0 ∧ ln 0 0 ≤ 60) (hb9 : ∀ j : Int, 0 ≤ j → j < ln 0 0 → 33 ≤ β 1 j ∧ β 1 j ≤ 126) (hf9 : R32 (ρ 0 3)) : Met l yX4_firstError wsX4_firstError ({ frames := 3, cells := 0, slots := 0, locals := 64 } : Room) (pcW D [(cI, FieldType.int), (cO, FieldType.object "PromisedCounters$State"), (cC, FieldType.char)] [.ref (x 0)] (fl [mnW x a sv o rd bu ln, rdW rd ρ, bfW cC bu β]) sz) (wq_i (fun (r : Int) (η : Int → Int) => r = feR (β 1) (ln 0 0 - 0).toNat (uI (ρ 0) 0 0) 0 ∧ (r = ln 0 0 → η = endR (β 1) (ln 0 0 - 0).toNat (uI (ρ 0) 0 0) 0 ∧ dWf η ∧ R32 (η 3))) (fun (η : Int → Int) => (bW D [(cI, FieldType.int), (cO, FieldType.object "PromisedCounters$State"), (cC, FieldType.char)] (fl [mnW x a sv o rd bu ln, rdW rd (sR ρ 0 η), bfW cC bu β]) (va_A (fl [mnW x a sv o rd bu ln, rdW rd ρ, bfW cC bu β]) sz))) (va_A (fl [mnW x a sv o rd bu ln, rdW rd ρ, bfW cC bu β]) sz)) 0 0 (va_A (fl [mnW x a sv o rd bu ln, rdW rd ρ, bfW cC bu β]) sz) := by
  refine Met.ofW (cc := cX4_firstError) (maxL := 2) (ret := (some .int)) (by decide) rfl ?_
  intro p9 e9 s m args9 below9 meth9 c9 s₁ B hml hv
  obtain ⟨rfl, hsz, hP, hK, hD0⟩ := hv
  have hx := B.exec
  have hb := B.bytes
  have hr := B.returns
  have hts := atoms_spec (ws := wsX4_firstError) B.pre
  have hown : s.vm.findClass RX4 = some m.cls := findClass_of_methodNamed B.named
  have hlocks := B.notSynchronized
  subst hsz
  have hD := hD0.self (sz := s.heap.size)
  generalize hAe : va_A (fl [mnW x a sv o rd bu ln, rdW rd ρ, bfW cC bu β]) s.heap.size = A at hD ⊢
  have hA : ∀ q : Nat, s.heap.size ≤ q → A q := fun q h => by rw [← hAe]; exact Or.inr h
  have hS : va_S A s.heap s.heap [] := va_S.rf
  have hP : va_P D vwCl (fl [mnW x a sv o rd bu ln, rdW rd ρ, bfW cC bu β]) s.heap := hP
  have hl := lv_entry ([.ref (x 0)]) (n := 2) (Nat.le_of_ble_eq_true rfl)
  rw [lg_entry_eq]
  generalize (lg_sl ([.ref (x 0)]) ++ List.replicate (2 - (lg_sl ([.ref (x 0)])).length) Slot.unset).toArray = ls at hl ⊢
  have hl : lv_has ls 2 [(0, .ref (x 0))] := hl
  have hw_0 := hts (.fieldLink RX4 33 "PromisedCounters" "reader" "LPromisedCounters$ChangeReader;") (by decide +kernel)
  have hin_X4 : ∀ w ∈ u_ws RX4 TX4 6, w ∈ wsX4_firstError := by decide +kernel
  have hw_1 := hts (.fieldLink RX4 41 "PromisedCounters" "length" "I") (by decide +kernel)
  have hw_2 := hts (.fieldLink RX4 37 "PromisedCounters" "buffer" "[C") (by decide +kernel)
  refine lv_aload_n hx hb dX4_firstError_0 rfl (lv_at hl 0 rfl) ?_
  refine va_get (D := D) (ci := 4) (v := .ref (rd 0)) (C := RX4) (T := TX4) (N := 6) hx hb hts hin_X4 hown hK hP 0 rfl rfl 3 (by decide) hw_0 (fun _ h9 => h9) rfl dX4_firstError_1 ?_
  have hPc := fl_P (S' := [rdW rd ρ]) hP [1] rfl
  have hKc := hK.sub (tys' := [(cI, FieldType.int)]) [0] rfl
  have hDc := fl_D (S' := [rdW rd ρ]) hD [1] (by decide) rfl
  have hFc := fl_free (SC := [rdW rd ρ]) hD hS hA [1] rfl
  refine va_callv (va_runV (As := []) (rest := []) ⟨hx, hb, hml, hown, hts⟩ (c_X0_begin l D cI cO cC cL s.heap.size rd ρ ) (cwV 0 hts gX4_firstError_X0_begin rfl rfl rfl (by decide +kernel) ⟨Nat.le_of_ble_eq_true rfl, Nat.le_of_ble_eq_true rfl⟩) ⟨pcW_blind, va_recv hKc hPc (ci := 0) (q0 := 0) rfl rfl, pcW_of hPc hKc hDc⟩ rfl rfl hl.1 rfl (lv_room (Nat.le_of_ble_eq_true rfl)) dX4_firstError_4 ⟨(Nat.zero_le _), (Nat.zero_le _)⟩) hS (fun q _ h => hFc q h) hFc (fun  u2 t9 H1 locs ht9 hvm hcl1 hB hz1 hk1 hS => ?_)
  obtain ⟨hP1, hK1, hD1⟩ := hB
  rw [ht9] at hP1
  obtain ⟨hP, hD⟩ := fl_join (SR := [mnW x a sv o rd bu ln, bfW cC bu β]) (S1 := [rdW rd (sU ρ 0 0 0)]) hP hD [1] [0, 2] rfl rfl (by decide) (by decide) hk1 hFc hP1 hD1
  generalize H1 = H at hP hS ⊢
  have hP := fl_P (S' := [mnW x a sv o rd bu ln, rdW rd (sU ρ 0 0 0), bfW cC bu β]) hP [0, 2, 1] rfl
  have hD := fl_D (S' := [mnW x a sv o rd bu ln, rdW rd (sU ρ 0 0 0), bfW cC bu β]) hD [0, 2, 1] (by decide) rfl
  refine wi_iconst hx hb dX4_firstError_7 ?_
  refine lv_istore_n (lv' := [(1, .int (iI (0))), (0, .ref (x 0))]) hx hb dX4_firstError_8 rfl hl (by decide) rfl (fun ls hl => ?_)
  have L9 : ∀ (k9 : Nat), ∀ (δ : Int → Int) (i : Int), (ln 0 0 - i).toNat < k9 → (0 ≤ i ∧ i ≤ ln 0 0) → (dWf δ) → (R32 (δ 3)) → (feR (β 1) (ln 0 0 - i).toNat δ i = feR (β 1) (ln 0 0 - 0).toNat (uI (ρ 0) 0 0) 0) → (endR (β 1) (ln 0 0 - i).toNat δ i = endR (β 1) (ln 0 0 - 0).toNat (uI (ρ 0) 0 0) 0) → ∀ (H : Heap) (locs : List Loc), va_P D vwCl (fl [mnW x a sv o rd bu ln, rdW rd (sR ρ 0 δ), bfW cC bu β]) H → va_D A (fl [mnW x a sv o rd bu ln, rdW rd (sR ρ 0 δ), bfW cC bu β]) → va_S A s.heap H locs → ∀ (ls : Array Slot), lv_has ls 2 [(1, .int (iI (i))), (0, .ref (x 0))] → W p9 l e9 ({ frames := 3, cells := 0, slots := 0, locals := 64 } : Room) s m ([.ref (x 0)] : List Value).toArray below9 meth9 c9 H locs 0 0 (MQ below9 (wq_i (fun (r : Int) (η : Int → Int) => r = feR (β 1) (ln 0 0 - 0).toNat (uI (ρ 0) 0 0) 0 ∧ (r = ln 0 0 → η = endR (β 1) (ln 0 0 - 0).toNat (uI (ρ 0) 0 0) 0 ∧ dWf η ∧ R32 (η 3))) (fun (η : Int → Int) => (bW D [(cI, FieldType.int), (cO, FieldType.object "PromisedCounters$State"), (cC, FieldType.char)] (fl [mnW x a sv o rd bu ln, rdW rd (sR ρ 0 η), bfW cC bu β]) A)) A) ([.ref (x 0)] : List Value).toArray s 0 0 A) (F0 m 9 ls []) := by
    intro k9
    induction k9 with
    | zero =>
      intro δ i hm
      exact absurd hm (Nat.not_lt_zero _)
    | succ k9 ih9 =>
      intro δ i hm9 hi hw h3 hfe hen H locs hP hD hS ls hl
      refine lv_iload_n hx hb dX4_firstError_9 rfl (lv_at hl 0 rfl) ?_
      refine lv_aload_n hx hb dX4_firstError_10 rfl (lv_at hl 1 rfl) ?_
      refine va_get (D := D) (ci := 4) (v := .int (iI ((ln 0 0)))) (C := RX4) (T := TX4) (N := 6) hx hb hts hin_X4 hown hK hP 0 rfl rfl 5 (by decide) hw_1 (fun _ h9 => h9) rfl dX4_firstError_11 ?_
      refine wi_icmp_ge (tgt := 41) hx hb dX4_firstError_14 (by decide) (by omega) (fun c_14 => ?_) (fun c_14 => ?_)
      · skip
        refine lv_aload_n hx hb dX4_firstError_41 rfl (lv_at hl 1 rfl) ?_
        refine va_get (D := D) (ci := 4) (v := .int (iI ((ln 0 0)))) (C := RX4) (T := TX4) (N := 6) hx hb hts hin_X4 hown hK hP 0 rfl rfl 5 (by decide) hw_1 (fun _ h9 => h9) rfl dX4_firstError_42 ?_
        have hP : va_P D vwCl (fl [mnW x a sv o rd bu ln, rdW rd (sR ρ 0 (δ)), bfW cC bu β]) H := hP
        have hD : va_D A (fl [mnW x a sv o rd bu ln, rdW rd (sR ρ 0 (δ)), bfW cC bu β]) := hD
        exact W.iret (v := iI ((ln 0 0))) hx hb hr (fun t9 ht9 hW9 => ⟨⟨((ln 0 0)), (δ), rfl, (⟨by rw [← hfe, fe_end (by omega)]; omega, fun _ => ⟨by rw [← hen, en_end (by omega)], hw, h3⟩⟩), ⟨by rw [ht9]; exact hP, va_K.moved hW9.alike hK, hD⟩⟩, hS.F ht9⟩) hS.2.2 dX4_firstError_45 hlocks
      · skip
        have hci : 0 ≤ β 1 i ∧ β 1 i ≤ 65535 := by have := hb9 i (by omega) (by omega); omega
        refine lv_aload_n hx hb dX4_firstError_17 rfl (lv_at hl 1 rfl) ?_
        refine va_get (D := D) (ci := 4) (v := .ref (rd 0)) (C := RX4) (T := TX4) (N := 6) hx hb hts hin_X4 hown hK hP 0 rfl rfl 3 (by decide) hw_0 (fun _ h9 => h9) rfl dX4_firstError_18 ?_
        refine lv_aload_n hx hb dX4_firstError_21 rfl (lv_at hl 1 rfl) ?_
        refine va_get (D := D) (ci := 4) (v := .ref (bu 0)) (C := RX4) (T := TX4) (N := 6) hx hb hts hin_X4 hown hK hP 0 rfl rfl 4 (by decide) hw_2 (fun _ h9 => h9) rfl dX4_firstError_22 ?_
        refine lv_iload_n hx hb dX4_firstError_25 rfl (lv_at hl 0 rfl) ?_
        refine wi_cald hx hb hK hP 2 2 (n := 60) (f := β 1) rfl rfl (i := i) (by omega) (by decide) dX4_firstError_26 ?_
        have hPc := fl_P (S' := [rdW rd (sR ρ 0 δ)]) hP [1] rfl
        have hKc := hK.sub (tys' := [(cI, FieldType.int)]) [0] rfl
        have hDc := fl_D (S' := [rdW rd (sR ρ 0 δ)]) hD [1] (by decide) rfl
        have hFc := fl_free (SC := [rdW rd (sR ρ 0 δ)]) hD hS hA [1] rfl
        refine wq_calli (va_runV (As := [.int (iI ((β 1 (i))))]) (rest := []) ⟨hx, hb, hml, hown, hts⟩ (c_X0_reads l D cI cO cC cL H.size rd (sR ρ 0 δ) ((β 1 (i))) (hci) ((show 0 ≤ δ 0 ∧ δ 0 ≤ 8 from hw.1)) (h3)) (cwV 1 hts gX4_firstError_X0_reads rfl rfl rfl (by decide +kernel) ⟨Nat.le_of_ble_eq_true rfl, Nat.le_of_ble_eq_true rfl⟩) ⟨pcW_blind, va_recv hKc hPc (ci := 0) (q0 := 0) rfl rfl, pcW_of hPc hKc hDc⟩ rfl rfl hl.1 rfl (lv_room (Nat.le_of_ble_eq_true rfl)) dX4_firstError_27 ⟨(Nat.zero_le _), (Nat.zero_le _)⟩) hS (fun q _ h => hFc q h) hFc (fun r3 u5 t9 H1 locs ht9 hvm hcl4 hB hz1 hk1 hS => ?_)
        obtain ⟨hP1, hK1, hD1⟩ := hB
        rw [ht9] at hP1
        obtain ⟨hP, hD⟩ := fl_join (SR := [mnW x a sv o rd bu ln, bfW cC bu β]) (S1 := [rdW rd (sR (sR ρ 0 δ) 0 u5)]) hP hD [1] [0, 2] rfl rfl (by decide) (by decide) hk1 hFc hP1 hD1
        generalize H1 = H at hP hS ⊢
        have hP := fl_P (S' := [mnW x a sv o rd bu ln, rdW rd (sR (sR ρ 0 δ) 0 u5), bfW cC bu β]) hP [0, 2, 1] rfl
        have hD := fl_D (S' := [mnW x a sv o rd bu ln, rdW rd (sR (sR ρ 0 δ) 0 u5), bfW cC bu β]) hD [0, 2, 1] (by decide) rfl
        have hq9 : RDQ δ (β 1 i) r3 u5 := hcl4
        clear hcl4
        have hqz := hq9.z
        refine wi_if_ne (tgt := 35) hx hb dX4_firstError_30 (by decide) (by omega) (fun c_30 => ?_) (fun c_30 => ?_)
        · skip
          have hgo := hq9.go (n := ln 0 0) (by omega) (by omega) hw h3 hci
          refine wi_iinc (lv' := [(1, .int (iI ((i + 1)))), (0, .ref (x 0))]) hx hb dX4_firstError_35 hl (k := 0) rfl (by decide) rfl (fun ls hl => ?_)
          refine lv_goto (tgt := 9) hx hb dX4_firstError_38 (by decide) ?_
          exact ih9 (u5) ((i + 1)) (by omega) (by omega) (hgo.1) (hgo.2.1) (hgo.2.2.1.symm.trans hfe) (hgo.2.2.2.1.symm.trans hen) _ _ hP hD hS ls (lv_sub hl [0, 1] rfl)
        · skip
          refine lv_iload_n hx hb dX4_firstError_33 rfl (lv_at hl 0 rfl) ?_
          have hP : va_P D vwCl (fl [mnW x a sv o rd bu ln, rdW rd (sR ρ 0 (u5)), bfW cC bu β]) H := hP
          have hD : va_D A (fl [mnW x a sv o rd bu ln, rdW rd (sR ρ 0 (u5)), bfW cC bu β]) := hD
          exact W.iret (v := iI (i)) hx hb hr (fun t9 ht9 hW9 => ⟨⟨(i), (u5), rfl, (⟨by rw [← hfe]; exact (hq9.st (by omega) (by omega)).symm, fun h9 => by omega⟩), ⟨by rw [ht9]; exact hP, va_K.moved hW9.alike hK, hD⟩⟩, hS.F ht9⟩) hS.2.2 dX4_firstError_34 hlocks
  exact L9 _ ((uI ((ρ 0)) 0 0)) (0) (Nat.lt_succ_self _) (by omega) (dWf_0 (uI_s _ _ _)) (by rw [uI_n (by omega)]; exact hf9) (rfl) (rfl) _ _ hP hD hS ls (lv_sub hl [0, 1] rfl)
