set_option maxHeartbeats 4000000 in
set_option maxRecDepth 100000 in
theorem c_X4_promiseParts (l : Launch) (D : va_G) (cI cO cC cL : ClassId) (sz : Nat) (x a sv o rd bu : Nat → Nat) (ln σ ρ β : Nat → Int → Int) (hl9 : 0 ≤ ln 0 0 ∧ ln 0 0 ≤ 60) (hb9 : ∀ j : Int, 0 ≤ j → j < ln 0 0 → 33 ≤ β 1 j ∧ β 1 j ≤ 126) (hf9 : R32 (ρ 0 3)) (hval : VAL (β 1) (ln 0 0) (uI (ρ 0) 0 0)) (hI : Inv σ) : Met l yX4_promiseParts wsX4_promiseParts ({ frames := 4, cells := 0, slots := 0, locals := 95 } : Room) (pcW D [(cI, FieldType.int), (cO, FieldType.object "PromisedCounters$State"), (cC, FieldType.char)] [.ref (x 0)] (fl [mnW x a sv o rd bu ln, stW cI a σ, rdW rd ρ, bfW cC bu β]) sz) (wq_i (fun (r : Int) (η : Int → Int) => r = prC (plR (β 1) (ln 0 0 - 0).toNat (uI (ρ 0) 0 0) 0) σ) (fun (η : Int → Int) => (bW D [(cI, FieldType.int), (cO, FieldType.object "PromisedCounters$State"), (cC, FieldType.char)] (fl [mnW x a sv o rd bu ln, stW cI a (prS (plR (β 1) (ln 0 0 - 0).toNat (uI (ρ 0) 0 0) 0) σ), rdW rd (sR ρ 0 η), bfW cC bu β]) (va_A (fl [mnW x a sv o rd bu ln, stW cI a σ, rdW rd ρ, bfW cC bu β]) sz))) (va_A (fl [mnW x a sv o rd bu ln, stW cI a σ, rdW rd ρ, bfW cC bu β]) sz)) 0 0 (va_A (fl [mnW x a sv o rd bu ln, stW cI a σ, rdW rd ρ, bfW cC bu β]) sz) := by
  refine Met.ofW (cc := cX4_promiseParts) (maxL := 4) (ret := (some .int)) (by decide) rfl ?_
  intro p9 e9 s m args9 below9 meth9 c9 s₁ B hml hv
  obtain ⟨rfl, hsz, hP, hK, hD0⟩ := hv
  have hx := B.exec
  have hb := B.bytes
  have hr := B.returns
  have hts := atoms_spec (ws := wsX4_promiseParts) B.pre
  have hown : s.vm.findClass RX4 = some m.cls := findClass_of_methodNamed B.named
  have hlocks := B.notSynchronized
  subst hsz
  have hD := hD0.self (sz := s.heap.size)
  generalize hAe : va_A (fl [mnW x a sv o rd bu ln, stW cI a σ, rdW rd ρ, bfW cC bu β]) s.heap.size = A at hD ⊢
  have hA : ∀ q : Nat, s.heap.size ≤ q → A q := fun q h => by rw [← hAe]; exact Or.inr h
  have hS : va_S A s.heap s.heap [] := va_S.rf
  have hP : va_P D vwCl (fl [mnW x a sv o rd bu ln, stW cI a σ, rdW rd ρ, bfW cC bu β]) s.heap := hP
  have hl := lv_entry ([.ref (x 0)]) (n := 4) (Nat.le_of_ble_eq_true rfl)
  rw [lg_entry_eq]
  generalize (lg_sl ([.ref (x 0)]) ++ List.replicate (4 - (lg_sl ([.ref (x 0)])).length) Slot.unset).toArray = ls at hl ⊢
  have hl : lv_has ls 4 [(0, .ref (x 0))] := hl
  have hw_0 := hts (.fieldLink RX4 33 "PromisedCounters" "reader" "LPromisedCounters$ChangeReader;") (by decide +kernel)
  have hin_X4 : ∀ w ∈ u_ws RX4 TX4 6, w ∈ wsX4_promiseParts := by decide +kernel
  have hw_1 := hts (.fieldLink RX4 41 "PromisedCounters" "length" "I") (by decide +kernel)
  have hw_2 := hts (.fieldLink RX4 37 "PromisedCounters" "buffer" "[C") (by decide +kernel)
  have hw_3 := hts (.fieldLink RX4 10 "PromisedCounters" "state" "LPromisedCounters$State;") (by decide +kernel)
  have hw_4 := hts (.fieldLink RX4 291 "PromisedCounters$ChangeReader" "who" "I") (by decide +kernel)
  have hin_X0 : ∀ w ∈ u_ws RX0 TX0 6, w ∈ wsX4_promiseParts := by decide +kernel
  have hw_5 := hts (.fieldLink RX4 294 "PromisedCounters$ChangeReader" "from" "I") (by decide +kernel)
  have hw_6 := hts (.fieldLink RX4 300 "PromisedCounters$ChangeReader" "to" "I") (by decide +kernel)
  refine wi_iconst hx hb dX4_promiseParts_0 ?_
  refine lv_istore_n (lv' := [(1, .int (iI (0))), (0, .ref (x 0))]) hx hb dX4_promiseParts_1 rfl hl (by decide) rfl (fun ls hl => ?_)
  refine lv_aload_n hx hb dX4_promiseParts_2 rfl (lv_at hl 1 rfl) ?_
  refine va_get (D := D) (ci := 4) (v := .ref (rd 0)) (C := RX4) (T := TX4) (N := 6) hx hb hts hin_X4 hown hK hP 0 rfl rfl 3 (by decide) hw_0 (fun _ h9 => h9) rfl dX4_promiseParts_3 ?_
  have hPc := fl_P (S' := [rdW rd ρ]) hP [2] rfl
  have hKc := hK.sub (tys' := [(cI, FieldType.int)]) [0] rfl
  have hDc := fl_D (S' := [rdW rd ρ]) hD [2] (by decide) rfl
  have hFc := fl_free (SC := [rdW rd ρ]) hD hS hA [2] rfl
  refine va_callv (va_runV (As := []) (rest := []) ⟨hx, hb, hml, hown, hts⟩ (c_X0_begin l D cI cO cC cL s.heap.size rd ρ ) (cwV 0 hts gX4_promiseParts_X0_begin rfl rfl rfl (by decide +kernel) ⟨Nat.le_of_ble_eq_true rfl, Nat.le_of_ble_eq_true rfl⟩) ⟨pcW_blind, va_recv hKc hPc (ci := 0) (q0 := 0) rfl rfl, pcW_of hPc hKc hDc⟩ rfl rfl hl.1 rfl (lv_room (Nat.le_of_ble_eq_true rfl)) dX4_promiseParts_6 ⟨(Nat.zero_le _), (Nat.zero_le _)⟩) hS (fun q _ h => hFc q h) hFc (fun  u2 t9 H1 locs ht9 hvm hcl1 hB hz1 hk1 hS => ?_)
  obtain ⟨hP1, hK1, hD1⟩ := hB
  rw [ht9] at hP1
  obtain ⟨hP, hD⟩ := fl_join (SR := [mnW x a sv o rd bu ln, stW cI a σ, bfW cC bu β]) (S1 := [rdW rd (sU ρ 0 0 0)]) hP hD [2] [0, 1, 3] rfl rfl (by decide) (by decide) hk1 hFc hP1 hD1
  generalize H1 = H at hP hS ⊢
  have hP := fl_P (S' := [mnW x a sv o rd bu ln, stW cI a σ, rdW rd (sU ρ 0 0 0), bfW cC bu β]) hP [0, 1, 3, 2] rfl
  have hD := fl_D (S' := [mnW x a sv o rd bu ln, stW cI a σ, rdW rd (sU ρ 0 0 0), bfW cC bu β]) hD [0, 1, 3, 2] (by decide) rfl
  refine wi_iconst hx hb dX4_promiseParts_9 ?_
  refine lv_istore_n (lv' := [(2, .int (iI (0))), (1, .int (iI (0))), (0, .ref (x 0))]) hx hb dX4_promiseParts_10 rfl hl (by decide) rfl (fun ls hl => ?_)
  have L11 : ∀ (k11 : Nat), ∀ (ψ : Nat → Int → Int) (δ : Int → Int) (k : Int) (i : Int), (ln 0 0 - i).toNat < k11 → (0 ≤ i ∧ i ≤ ln 0 0) → (0 ≤ k ∧ k ≤ i) → (dWf δ) → (R32 (δ 3)) → (feR (β 1) (ln 0 0 - i).toNat δ i = ln 0 0) → (FINd (endR (β 1) (ln 0 0 - i).toNat δ i)) → (Inv ψ) → (prS (plR (β 1) (ln 0 0 - i).toNat δ i) ψ = prS (plR (β 1) (ln 0 0 - 0).toNat (uI (ρ 0) 0 0) 0) σ) → (prC (plR (β 1) (ln 0 0 - i).toNat δ i) ψ + k = prC (plR (β 1) (ln 0 0 - 0).toNat (uI (ρ 0) 0 0) 0) σ) → ∀ (H : Heap) (locs : List Loc), va_P D vwCl (fl [mnW x a sv o rd bu ln, stW cI a ψ, rdW rd (sR ρ 0 δ), bfW cC bu β]) H → va_D A (fl [mnW x a sv o rd bu ln, stW cI a ψ, rdW rd (sR ρ 0 δ), bfW cC bu β]) → va_S A s.heap H locs → ∀ (ls : Array Slot), lv_has ls 4 [(2, .int (iI (i))), (1, .int (iI (k))), (0, .ref (x 0))] → W p9 l e9 ({ frames := 4, cells := 0, slots := 0, locals := 95 } : Room) s m ([.ref (x 0)] : List Value).toArray below9 meth9 c9 H locs 0 0 (MQ below9 (wq_i (fun (r : Int) (η : Int → Int) => r = prC (plR (β 1) (ln 0 0 - 0).toNat (uI (ρ 0) 0 0) 0) σ) (fun (η : Int → Int) => (bW D [(cI, FieldType.int), (cO, FieldType.object "PromisedCounters$State"), (cC, FieldType.char)] (fl [mnW x a sv o rd bu ln, stW cI a (prS (plR (β 1) (ln 0 0 - 0).toNat (uI (ρ 0) 0 0) 0) σ), rdW rd (sR ρ 0 η), bfW cC bu β]) A)) A) ([.ref (x 0)] : List Value).toArray s 0 0 A) (F0 m 11 ls []) := by
    intro k11
    induction k11 with
    | zero =>
      intro ψ δ k i hm
      exact absurd hm (Nat.not_lt_zero _)
    | succ k11 ih11 =>
      intro ψ δ k i hm11 hi hkk hw h3 hfe hen hps_i hps hpc H locs hP hD hS ls hl
      refine lv_iload_n hx hb dX4_promiseParts_11 rfl (lv_at hl 0 rfl) ?_
      refine lv_aload_n hx hb dX4_promiseParts_12 rfl (lv_at hl 2 rfl) ?_
      refine va_get (D := D) (ci := 4) (v := .int (iI ((ln 0 0)))) (C := RX4) (T := TX4) (N := 6) hx hb hts hin_X4 hown hK hP 0 rfl rfl 5 (by decide) hw_1 (fun _ h9 => h9) rfl dX4_promiseParts_13 ?_
      refine wi_icmp_ge (tgt := 151) hx hb dX4_promiseParts_16 (by decide) (by omega) (fun c_16 => ?_) (fun c_16 => ?_)
      · skip
        have hend : ψ = prS (plR (β 1) (ln 0 0 - 0).toNat (uI (ρ 0) 0 0) 0) σ ∧ k = prC (plR (β 1) (ln 0 0 - 0).toNat (uI (ρ 0) 0 0) 0) σ := by
          rw [← hps, ← hpc, pl_end (by omega)]
          exact ⟨rfl, by show k = 0 + k; omega⟩
        refine lv_iload_n hx hb dX4_promiseParts_151 rfl (lv_at hl 1 rfl) ?_
        have hP : va_P D vwCl (fl [mnW x a sv o rd bu ln, stW cI a (prS (plR (β 1) (ln 0 0 - 0).toNat (uI (ρ 0) 0 0) 0) σ), rdW rd (sR ρ 0 (δ)), bfW cC bu β]) H := hend.1 ▸ hP
        have hD : va_D A (fl [mnW x a sv o rd bu ln, stW cI a (prS (plR (β 1) (ln 0 0 - 0).toNat (uI (ρ 0) 0 0) 0) σ), rdW rd (sR ρ 0 (δ)), bfW cC bu β]) := hend.1 ▸ hD
        exact W.iret (v := iI (k)) hx hb hr (fun t9 ht9 hW9 => ⟨⟨(k), (δ), rfl, (hend.2), ⟨by rw [ht9]; exact hP, va_K.moved hW9.alike hK, hD⟩⟩, hS.F ht9⟩) hS.2.2 dX4_promiseParts_152 hlocks
      · skip
        refine lv_aload_n hx hb dX4_promiseParts_19 rfl (lv_at hl 2 rfl) ?_
        refine va_get (D := D) (ci := 4) (v := .ref (rd 0)) (C := RX4) (T := TX4) (N := 6) hx hb hts hin_X4 hown hK hP 0 rfl rfl 3 (by decide) hw_0 (fun _ h9 => h9) rfl dX4_promiseParts_20 ?_
        have hci : 0 ≤ β 1 i ∧ β 1 i ≤ 65535 := by have := hb9 i (by omega) (by omega); omega
        refine lv_aload_n hx hb dX4_promiseParts_23 rfl (lv_at hl 2 rfl) ?_
        refine va_get (D := D) (ci := 4) (v := .ref (bu 0)) (C := RX4) (T := TX4) (N := 6) hx hb hts hin_X4 hown hK hP 0 rfl rfl 4 (by decide) hw_2 (fun _ h9 => h9) rfl dX4_promiseParts_24 ?_
        refine lv_iload_n hx hb dX4_promiseParts_27 rfl (lv_at hl 0 rfl) ?_
        refine wi_cald hx hb hK hP 15 2 (n := 60) (f := β 1) rfl rfl (i := i) (by omega) (by decide) dX4_promiseParts_28 ?_
        have hPc := fl_P (S' := [rdW rd (sR ρ 0 δ)]) hP [2] rfl
        have hKc := hK.sub (tys' := [(cI, FieldType.int)]) [0] rfl
        have hDc := fl_D (S' := [rdW rd (sR ρ 0 δ)]) hD [2] (by decide) rfl
        have hFc := fl_free (SC := [rdW rd (sR ρ 0 δ)]) hD hS hA [2] rfl
        refine wq_calli (va_runV (As := [.int (iI ((β 1 (i))))]) (rest := []) ⟨hx, hb, hml, hown, hts⟩ (c_X0_reads l D cI cO cC cL H.size rd (sR ρ 0 δ) ((β 1 (i))) (hci) ((show 0 ≤ δ 0 ∧ δ 0 ≤ 8 from hw.1)) (h3)) (cwV 1 hts gX4_promiseParts_X0_reads rfl rfl rfl (by decide +kernel) ⟨Nat.le_of_ble_eq_true rfl, Nat.le_of_ble_eq_true rfl⟩) ⟨pcW_blind, va_recv hKc hPc (ci := 0) (q0 := 0) rfl rfl, pcW_of hPc hKc hDc⟩ rfl rfl hl.1 rfl (lv_room (Nat.le_of_ble_eq_true rfl)) dX4_promiseParts_29 ⟨(Nat.zero_le _), (Nat.zero_le _)⟩) hS (fun q _ h => hFc q h) hFc (fun r3 u5 t9 H1 locs ht9 hvm hcl4 hB hz1 hk1 hS => ?_)
        obtain ⟨hP1, hK1, hD1⟩ := hB
        rw [ht9] at hP1
        obtain ⟨hP, hD⟩ := fl_join (SR := [mnW x a sv o rd bu ln, stW cI a ψ, bfW cC bu β]) (S1 := [rdW rd (sR (sR ρ 0 δ) 0 u5)]) hP hD [2] [0, 1, 3] rfl rfl (by decide) (by decide) hk1 hFc hP1 hD1
        generalize H1 = H at hP hS ⊢
        have hP := fl_P (S' := [mnW x a sv o rd bu ln, stW cI a ψ, rdW rd (sR (sR ρ 0 δ) 0 u5), bfW cC bu β]) hP [0, 1, 3, 2] rfl
        have hD := fl_D (S' := [mnW x a sv o rd bu ln, stW cI a ψ, rdW rd (sR (sR ρ 0 δ) 0 u5), bfW cC bu β]) hD [0, 1, 3, 2] (by decide) rfl
        have hq9 : RDQ δ (β 1 i) r3 u5 := hcl4
        clear hcl4
        have hqz := hq9.z
        refine lv_pop hx hb dX4_promiseParts_32 rfl ?_
        have hr0 : ¬ (r3 = 0) := fun h9 => by have := hq9.st (n := ln 0 0) h9 (by omega); omega
        have hgo := hq9.go (n := ln 0 0) hr0 (by omega) hw h3 hci
        refine lv_iload_n hx hb dX4_promiseParts_33 rfl (lv_at hl 0 rfl) ?_
        refine wi_iconst hx hb dX4_promiseParts_34 ?_
        refine wi_iadd hx hb dX4_promiseParts_35 ?_
        refine lv_aload_n hx hb dX4_promiseParts_36 rfl (lv_at hl 2 rfl) ?_
        refine va_get (D := D) (ci := 4) (v := .int (iI ((ln 0 0)))) (C := RX4) (T := TX4) (N := 6) hx hb hts hin_X4 hown hK hP 0 rfl rfl 5 (by decide) hw_1 (fun _ h9 => h9) rfl dX4_promiseParts_37 ?_
        refine wi_icmp_eq (tgt := 56) hx hb dX4_promiseParts_40 (by decide) (by omega) (fun c_40 => ?_) (fun c_40 => ?_)
        · skip
          refine wi_iconst hx hb dX4_promiseParts_56 ?_
          refine lv_goto (tgt := 61) hx hb dX4_promiseParts_57 (by decide) ?_
          refine lv_istore_n (lv' := [(3, .int (iI (1))), (2, .int (iI (i))), (1, .int (iI (k))), (0, .ref (x 0))]) hx hb dX4_promiseParts_61 rfl hl (by decide) rfl (fun ls hl => ?_)
          refine lv_iload_n hx hb dX4_promiseParts_62 rfl (lv_at hl 0 rfl) ?_
          refine wi_if_eq (tgt := 145) hx hb dX4_promiseParts_63 (by decide) (by omega) (fun c_63 => ?_) (fun c_63 => ?_)
          · skip
            exfalso; omega
          · skip
            have hplc := hgo.2.2.2.2.1 (by omega)
            have hfi : FINd u5 := fin_cut hgo.1 (by rw [← hgo.2.2.1]; exact hfe) (by rw [← hgo.2.2.2.1]; exact hen) (by omega) (by omega)
            have hpo : PO (u5 5, u5 3, byD u5, u5 4) := PO_of hgo.1 hfi
            obtain ⟨hq1, hq2, hq3, hq4⟩ : (0 ≤ u5 5 ∧ u5 5 ≤ 5) ∧ (0 ≤ u5 3 ∧ u5 3 ≤ 3) ∧ (-99 ≤ byD u5 ∧ byD u5 ≤ 99 ∧ byD u5 ≠ 0) ∧ (u5 4 = -1 ∨ (0 ≤ u5 4 ∧ u5 4 ≤ 3 ∧ u5 4 ≠ u5 3 ∧ byD u5 < 0)) := hpo
            have hrr := reason_r ψ (u5 5) (u5 3) (byD u5) (u5 4)
            refine lv_aload_n hx hb dX4_promiseParts_66 rfl (lv_at hl 3 rfl) ?_
            refine va_get (D := D) (ci := 4) (v := .ref (a 0)) (C := RX4) (T := TX4) (N := 6) hx hb hts hin_X4 hown hK hP 0 rfl rfl 0 (by decide) hw_3 (fun _ h9 => h9) rfl dX4_promiseParts_67 ?_
            refine lv_aload_n hx hb dX4_promiseParts_70 rfl (lv_at hl 3 rfl) ?_
            refine va_get (D := D) (ci := 4) (v := .ref (rd 0)) (C := RX4) (T := TX4) (N := 6) hx hb hts hin_X4 hown hK hP 0 rfl rfl 3 (by decide) hw_0 (fun _ h9 => h9) rfl dX4_promiseParts_71 ?_
            refine va_get (D := D) (ci := 0) (v := .int (iI ((u5 5)))) (C := RX0) (T := TX0) (N := 6) hx hb hts hin_X0 hown hK hP 14 rfl rfl 5 (by decide) hw_4 (fun _ h9 => h9) rfl dX4_promiseParts_74 ?_
            refine lv_aload_n hx hb dX4_promiseParts_77 rfl (lv_at hl 3 rfl) ?_
            refine va_get (D := D) (ci := 4) (v := .ref (rd 0)) (C := RX4) (T := TX4) (N := 6) hx hb hts hin_X4 hown hK hP 0 rfl rfl 3 (by decide) hw_0 (fun _ h9 => h9) rfl dX4_promiseParts_78 ?_
            refine va_get (D := D) (ci := 0) (v := .int (iI ((u5 3)))) (C := RX0) (T := TX0) (N := 6) hx hb hts hin_X0 hown hK hP 14 rfl rfl 3 (by decide) hw_5 (fun _ h9 => h9) rfl dX4_promiseParts_81 ?_
            refine lv_aload_n hx hb dX4_promiseParts_84 rfl (lv_at hl 3 rfl) ?_
            refine va_get (D := D) (ci := 4) (v := .ref (rd 0)) (C := RX4) (T := TX4) (N := 6) hx hb hts hin_X4 hown hK hP 0 rfl rfl 3 (by decide) hw_0 (fun _ h9 => h9) rfl dX4_promiseParts_85 ?_
            have hPc := fl_P (S' := [rdW rd (sR (sR ρ 0 δ) 0 u5)]) hP [2] rfl
            have hKc := hK.sub (tys' := [(cI, FieldType.int)]) [0] rfl
            refine wr_calli (va_runV (As := []) (rest := [.int (iI ((u5 3))), .int (iI ((u5 5))), .ref (a 0)]) ⟨hx, hb, hml, hown, hts⟩ (c_X0_by l D cI cO cC cL rd (sR (sR ρ 0 δ) 0 u5) ((show R32 (u5 1) from by1 hgo.1 hfi))) (cwV 0 hts gX4_promiseParts_X0_by rfl rfl rfl (by decide +kernel) ⟨Nat.le_of_ble_eq_true rfl, Nat.le_of_ble_eq_true rfl⟩) ⟨pcR_blind, va_recv hKc hPc (ci := 0) (q0 := 0) rfl rfl, pcR_of hPc hKc⟩ rfl rfl hl.1 rfl (lv_room (Nat.le_of_ble_eq_true rfl)) dX4_promiseParts_88 ⟨(Nat.zero_le _), (Nat.zero_le _)⟩) (fun r6 hr6 => ?_)
            subst hr6
            refine wi_top (y := (byD (u5))) rfl ?_
            refine lv_aload_n hx hb dX4_promiseParts_91 rfl (lv_at hl 3 rfl) ?_
            refine va_get (D := D) (ci := 4) (v := .ref (rd 0)) (C := RX4) (T := TX4) (N := 6) hx hb hts hin_X4 hown hK hP 0 rfl rfl 3 (by decide) hw_0 (fun _ h9 => h9) rfl dX4_promiseParts_92 ?_
            refine va_get (D := D) (ci := 0) (v := .int (iI ((u5 4)))) (C := RX0) (T := TX0) (N := 6) hx hb hts hin_X0 hown hK hP 14 rfl rfl 4 (by decide) hw_6 (fun _ h9 => h9) rfl dX4_promiseParts_95 ?_
            have hPc := fl_P (S' := [stW cI a ψ]) hP [1] rfl
            have hKc := hK.sub (tys' := [(cI, FieldType.int)]) [0] rfl
            refine wr_calli (va_runV (As := [.int (iI ((u5 5))), .int (iI ((u5 3))), .int (iI ((byD (u5)))), .int (iI ((u5 4)))]) (rest := []) ⟨hx, hb, hml, hown, hts⟩ (c_X3_reasonAgainst l D cI cO cC cL a ψ ((u5 5)) ((u5 3)) ((byD (u5))) ((u5 4)) (by omega) (by omega) (by omega) (by omega) (hps_i)) (cwV 4 hts gX4_promiseParts_X3_reasonAgainst rfl rfl rfl (by decide +kernel) ⟨Nat.le_of_ble_eq_true rfl, Nat.le_of_ble_eq_true rfl⟩) ⟨pcR_blind, va_recv hKc hPc (ci := 3) (q0 := 0) rfl rfl, pcR_of hPc hKc⟩ rfl rfl hl.1 rfl (lv_room (Nat.le_of_ble_eq_true rfl)) dX4_promiseParts_98 ⟨(Nat.zero_le _), (Nat.zero_le _)⟩) (fun r7 hr7 => ?_)
            subst hr7
            refine wi_if_eq (tgt := 106) hx hb dX4_promiseParts_101 (by decide) (by omega) (fun c_101 => ?_) (fun c_101 => ?_)
            · skip
              have h16 := reason_16 (σ := ψ) (o := u5 5) (c := u5 3) (y := byD u5) (to := u5 4) (by omega)
              have hn9 := hps_i.n
              refine lv_aload_n hx hb dX4_promiseParts_106 rfl (lv_at hl 3 rfl) ?_
              refine va_get (D := D) (ci := 4) (v := .ref (a 0)) (C := RX4) (T := TX4) (N := 6) hx hb hts hin_X4 hown hK hP 0 rfl rfl 0 (by decide) hw_3 (fun _ h9 => h9) rfl dX4_promiseParts_107 ?_
              refine lv_aload_n hx hb dX4_promiseParts_110 rfl (lv_at hl 3 rfl) ?_
              refine va_get (D := D) (ci := 4) (v := .ref (rd 0)) (C := RX4) (T := TX4) (N := 6) hx hb hts hin_X4 hown hK hP 0 rfl rfl 3 (by decide) hw_0 (fun _ h9 => h9) rfl dX4_promiseParts_111 ?_
              refine va_get (D := D) (ci := 0) (v := .int (iI ((u5 5)))) (C := RX0) (T := TX0) (N := 6) hx hb hts hin_X0 hown hK hP 14 rfl rfl 5 (by decide) hw_4 (fun _ h9 => h9) rfl dX4_promiseParts_114 ?_
              refine lv_aload_n hx hb dX4_promiseParts_117 rfl (lv_at hl 3 rfl) ?_
              refine va_get (D := D) (ci := 4) (v := .ref (rd 0)) (C := RX4) (T := TX4) (N := 6) hx hb hts hin_X4 hown hK hP 0 rfl rfl 3 (by decide) hw_0 (fun _ h9 => h9) rfl dX4_promiseParts_118 ?_
              refine va_get (D := D) (ci := 0) (v := .int (iI ((u5 3)))) (C := RX0) (T := TX0) (N := 6) hx hb hts hin_X0 hown hK hP 14 rfl rfl 3 (by decide) hw_5 (fun _ h9 => h9) rfl dX4_promiseParts_121 ?_
              refine lv_aload_n hx hb dX4_promiseParts_124 rfl (lv_at hl 3 rfl) ?_
              refine va_get (D := D) (ci := 4) (v := .ref (rd 0)) (C := RX4) (T := TX4) (N := 6) hx hb hts hin_X4 hown hK hP 0 rfl rfl 3 (by decide) hw_0 (fun _ h9 => h9) rfl dX4_promiseParts_125 ?_
              have hPc := fl_P (S' := [rdW rd (sR (sR ρ 0 δ) 0 u5)]) hP [2] rfl
              have hKc := hK.sub (tys' := [(cI, FieldType.int)]) [0] rfl
              refine wr_calli (va_runV (As := []) (rest := [.int (iI ((u5 3))), .int (iI ((u5 5))), .ref (a 0)]) ⟨hx, hb, hml, hown, hts⟩ (c_X0_by l D cI cO cC cL rd (sR (sR ρ 0 δ) 0 u5) ((show R32 (u5 1) from by1 hgo.1 hfi))) (cwV 0 hts gX4_promiseParts_X0_by rfl rfl rfl (by decide +kernel) ⟨Nat.le_of_ble_eq_true rfl, Nat.le_of_ble_eq_true rfl⟩) ⟨pcR_blind, va_recv hKc hPc (ci := 0) (q0 := 0) rfl rfl, pcR_of hPc hKc⟩ rfl rfl hl.1 rfl (lv_room (Nat.le_of_ble_eq_true rfl)) dX4_promiseParts_128 ⟨(Nat.zero_le _), (Nat.zero_le _)⟩) (fun r8 hr8 => ?_)
              subst hr8
              refine wi_top (y := (byD (u5))) rfl ?_
              refine lv_aload_n hx hb dX4_promiseParts_131 rfl (lv_at hl 3 rfl) ?_
              refine va_get (D := D) (ci := 4) (v := .ref (rd 0)) (C := RX4) (T := TX4) (N := 6) hx hb hts hin_X4 hown hK hP 0 rfl rfl 3 (by decide) hw_0 (fun _ h9 => h9) rfl dX4_promiseParts_132 ?_
              refine va_get (D := D) (ci := 0) (v := .int (iI ((u5 4)))) (C := RX0) (T := TX0) (N := 6) hx hb hts hin_X0 hown hK hP 14 rfl rfl 4 (by decide) hw_6 (fun _ h9 => h9) rfl dX4_promiseParts_135 ?_
              have hPc := fl_P (S' := [stW cI a ψ]) hP [1] rfl
              have hKc := hK.sub (tys' := [(cI, FieldType.int)]) [0] rfl
              have hDc := fl_D (S' := [stW cI a ψ]) hD [1] (by decide) rfl
              have hFc := fl_free (SC := [stW cI a ψ]) hD hS hA [1] rfl
              refine wq_calli (va_runV (As := [.int (iI ((u5 5))), .int (iI ((u5 3))), .int (iI ((byD (u5)))), .int (iI ((u5 4)))]) (rest := []) ⟨hx, hb, hml, hown, hts⟩ (c_X3_addPromise l D cI cO cC cL H.size a ψ ((u5 5)) ((u5 3)) ((byD (u5))) ((u5 4)) (by omega)) (cwV 4 hts gX4_promiseParts_X3_addPromise rfl rfl rfl (by decide +kernel) ⟨Nat.le_of_ble_eq_true rfl, Nat.le_of_ble_eq_true rfl⟩) ⟨pcW_blind, va_recv hKc hPc (ci := 3) (q0 := 0) rfl rfl, pcW_of hPc hKc hDc⟩ rfl rfl hl.1 rfl (lv_room (Nat.le_of_ble_eq_true rfl)) dX4_promiseParts_138 ⟨(Nat.zero_le _), (Nat.zero_le _)⟩) hS (fun q _ h => hFc q h) hFc (fun r9 u11 t9 H1 locs ht9 hvm hcl10 hB hz1 hk1 hS => ?_)
              obtain ⟨hP1, hK1, hD1⟩ := hB
              rw [ht9] at hP1
              obtain ⟨hP, hD⟩ := fl_join (SR := [mnW x a sv o rd bu ln, rdW rd (sR (sR ρ 0 δ) 0 u5), bfW cC bu β]) (S1 := [stW cI a (addS ψ ((u5 5)) ((u5 3)) ((byD (u5))) ((u5 4)))]) hP hD [1] [0, 2, 3] rfl rfl (by decide) (by decide) hk1 hFc hP1 hD1
              generalize H1 = H at hP hS ⊢
              have hP := fl_P (S' := [mnW x a sv o rd bu ln, stW cI a (addS ψ ((u5 5)) ((u5 3)) ((byD (u5))) ((u5 4))), rdW rd (sR (sR ρ 0 δ) 0 u5), bfW cC bu β]) hP [0, 3, 1, 2] rfl
              have hD := fl_D (S' := [mnW x a sv o rd bu ln, stW cI a (addS ψ ((u5 5)) ((u5 3)) ((byD (u5))) ((u5 4))), rdW rd (sR (sR ρ 0 δ) 0 u5), bfW cC bu β]) hD [0, 3, 1, 2] (by decide) rfl
              refine lv_pop hx hb dX4_promiseParts_141 rfl ?_
              refine wi_iinc (lv' := [(1, .int (iI ((k + 1)))), (3, .int (iI (1))), (2, .int (iI (i))), (0, .ref (x 0))]) hx hb dX4_promiseParts_142 hl (k := 2) rfl (by decide) rfl (fun ls hl => ?_)
              refine wi_iinc (lv' := [(2, .int (iI ((i + 1)))), (1, .int (iI ((k + 1)))), (3, .int (iI (1))), (0, .ref (x 0))]) hx hb dX4_promiseParts_145 hl (k := 2) rfl (by decide) rfl (fun ls hl => ?_)
              refine lv_goto (tgt := 11) hx hb dX4_promiseParts_148 (by decide) ?_
              exact ih11 ((addS ψ ((u5 5)) ((u5 3)) ((byD (u5))) ((u5 4)))) (u5) ((k + 1)) ((i + 1)) (by omega) (by omega) (by omega) (hgo.1) (hgo.2.1) (hgo.2.2.1.symm.trans hfe) (by rw [← hgo.2.2.2.1]; exact hen) (hps_i.add hq1 (by have := hq2; omega) hq3 hq4 (by omega)) (by rw [← hps, hplc]; exact (pr_on4 (by omega)).1.symm) (by rw [← hpc, hplc, (pr_on4 (by omega)).2]; omega) _ _ hP hD hS ls (lv_sub hl [0, 1, 3] rfl)
            · skip
              have hstop : ψ = prS (plR (β 1) (ln 0 0 - 0).toNat (uI (ρ 0) 0 0) 0) σ ∧ k = prC (plR (β 1) (ln 0 0 - 0).toNat (uI (ρ 0) 0 0) 0) σ := by
                rw [← hps, ← hpc, hplc]
                exact ⟨(pr_stop4 (by omega)).1.symm, by rw [(pr_stop4 (by omega)).2]; omega⟩
              refine lv_iload_n hx hb dX4_promiseParts_104 rfl (lv_at hl 2 rfl) ?_
              have hP : va_P D vwCl (fl [mnW x a sv o rd bu ln, stW cI a (prS (plR (β 1) (ln 0 0 - 0).toNat (uI (ρ 0) 0 0) 0) σ), rdW rd (sR ρ 0 (u5)), bfW cC bu β]) H := hstop.1 ▸ hP
              have hD : va_D A (fl [mnW x a sv o rd bu ln, stW cI a (prS (plR (β 1) (ln 0 0 - 0).toNat (uI (ρ 0) 0 0) 0) σ), rdW rd (sR ρ 0 (u5)), bfW cC bu β]) := hstop.1 ▸ hD
              exact W.iret (v := iI (k)) hx hb hr (fun t9 ht9 hW9 => ⟨⟨(k), (u5), rfl, (hstop.2), ⟨by rw [ht9]; exact hP, va_K.moved hW9.alike hK, hD⟩⟩, hS.F ht9⟩) hS.2.2 dX4_promiseParts_105 hlocks
        · skip
          have hbn := hb9 (i + 1) (by omega) (by omega)
          refine lv_aload_n hx hb dX4_promiseParts_43 rfl (lv_at hl 2 rfl) ?_
          refine va_get (D := D) (ci := 4) (v := .ref (bu 0)) (C := RX4) (T := TX4) (N := 6) hx hb hts hin_X4 hown hK hP 0 rfl rfl 4 (by decide) hw_2 (fun _ h9 => h9) rfl dX4_promiseParts_44 ?_
          refine lv_iload_n hx hb dX4_promiseParts_47 rfl (lv_at hl 0 rfl) ?_
          refine wi_iconst hx hb dX4_promiseParts_48 ?_
          refine wi_iadd hx hb dX4_promiseParts_49 ?_
          refine wi_cald hx hb hK hP 15 2 (n := 60) (f := β 1) rfl rfl (i := (i + 1)) (by omega) (by decide) dX4_promiseParts_50 ?_
          refine wi_bipush hx hb dX4_promiseParts_51 (by decide) ?_
          refine wi_icmp_ne (tgt := 60) hx hb dX4_promiseParts_53 (by decide) (by omega) (fun c_53 => ?_) (fun c_53 => ?_)
          · skip
            refine wi_iconst hx hb dX4_promiseParts_60 ?_
            refine lv_istore_n (lv' := [(3, .int (iI (0))), (2, .int (iI (i))), (1, .int (iI (k))), (0, .ref (x 0))]) hx hb dX4_promiseParts_61 rfl hl (by decide) rfl (fun ls hl => ?_)
            refine lv_iload_n hx hb dX4_promiseParts_62 rfl (lv_at hl 0 rfl) ?_
            refine wi_if_eq (tgt := 145) hx hb dX4_promiseParts_63 (by decide) (by omega) (fun c_63 => ?_) (fun c_63 => ?_)
            · skip
              refine wi_iinc (lv' := [(2, .int (iI ((i + 1)))), (3, .int (iI (0))), (1, .int (iI (k))), (0, .ref (x 0))]) hx hb dX4_promiseParts_145 hl (k := 1) rfl (by decide) rfl (fun ls hl => ?_)
              refine lv_goto (tgt := 11) hx hb dX4_promiseParts_148 (by decide) ?_
              exact ih11 (ψ) (u5) (k) ((i + 1)) (by omega) (by omega) (by omega) (hgo.1) (hgo.2.1) (hgo.2.2.1.symm.trans hfe) (by rw [← hgo.2.2.2.1]; exact hen) (hps_i) (by rw [← hps, hgo.2.2.2.2.2 (by omega) (by omega)]) (by rw [← hpc, hgo.2.2.2.2.2 (by omega) (by omega)]) _ _ hP hD hS ls (lv_sub hl [0, 2, 3] rfl)
            · skip
              exfalso; omega
          · skip
            refine wi_iconst hx hb dX4_promiseParts_56 ?_
            refine lv_goto (tgt := 61) hx hb dX4_promiseParts_57 (by decide) ?_
            refine lv_istore_n (lv' := [(3, .int (iI (1))), (2, .int (iI (i))), (1, .int (iI (k))), (0, .ref (x 0))]) hx hb dX4_promiseParts_61 rfl hl (by decide) rfl (fun ls hl => ?_)
            refine lv_iload_n hx hb dX4_promiseParts_62 rfl (lv_at hl 0 rfl) ?_
            refine wi_if_eq (tgt := 145) hx hb dX4_promiseParts_63 (by decide) (by omega) (fun c_63 => ?_) (fun c_63 => ?_)
            · skip
              exfalso; omega
            · skip
              have hplc := hgo.2.2.2.2.1 (by omega)
              have hfi : FINd u5 := fin_cut hgo.1 (by rw [← hgo.2.2.1]; exact hfe) (by rw [← hgo.2.2.2.1]; exact hen) (by omega) (by omega)
              have hpo : PO (u5 5, u5 3, byD u5, u5 4) := PO_of hgo.1 hfi
              obtain ⟨hq1, hq2, hq3, hq4⟩ : (0 ≤ u5 5 ∧ u5 5 ≤ 5) ∧ (0 ≤ u5 3 ∧ u5 3 ≤ 3) ∧ (-99 ≤ byD u5 ∧ byD u5 ≤ 99 ∧ byD u5 ≠ 0) ∧ (u5 4 = -1 ∨ (0 ≤ u5 4 ∧ u5 4 ≤ 3 ∧ u5 4 ≠ u5 3 ∧ byD u5 < 0)) := hpo
              have hrr := reason_r ψ (u5 5) (u5 3) (byD u5) (u5 4)
              refine lv_aload_n hx hb dX4_promiseParts_66 rfl (lv_at hl 3 rfl) ?_
              refine va_get (D := D) (ci := 4) (v := .ref (a 0)) (C := RX4) (T := TX4) (N := 6) hx hb hts hin_X4 hown hK hP 0 rfl rfl 0 (by decide) hw_3 (fun _ h9 => h9) rfl dX4_promiseParts_67 ?_
              refine lv_aload_n hx hb dX4_promiseParts_70 rfl (lv_at hl 3 rfl) ?_
              refine va_get (D := D) (ci := 4) (v := .ref (rd 0)) (C := RX4) (T := TX4) (N := 6) hx hb hts hin_X4 hown hK hP 0 rfl rfl 3 (by decide) hw_0 (fun _ h9 => h9) rfl dX4_promiseParts_71 ?_
              refine va_get (D := D) (ci := 0) (v := .int (iI ((u5 5)))) (C := RX0) (T := TX0) (N := 6) hx hb hts hin_X0 hown hK hP 14 rfl rfl 5 (by decide) hw_4 (fun _ h9 => h9) rfl dX4_promiseParts_74 ?_
              refine lv_aload_n hx hb dX4_promiseParts_77 rfl (lv_at hl 3 rfl) ?_
              refine va_get (D := D) (ci := 4) (v := .ref (rd 0)) (C := RX4) (T := TX4) (N := 6) hx hb hts hin_X4 hown hK hP 0 rfl rfl 3 (by decide) hw_0 (fun _ h9 => h9) rfl dX4_promiseParts_78 ?_
              refine va_get (D := D) (ci := 0) (v := .int (iI ((u5 3)))) (C := RX0) (T := TX0) (N := 6) hx hb hts hin_X0 hown hK hP 14 rfl rfl 3 (by decide) hw_5 (fun _ h9 => h9) rfl dX4_promiseParts_81 ?_
              refine lv_aload_n hx hb dX4_promiseParts_84 rfl (lv_at hl 3 rfl) ?_
              refine va_get (D := D) (ci := 4) (v := .ref (rd 0)) (C := RX4) (T := TX4) (N := 6) hx hb hts hin_X4 hown hK hP 0 rfl rfl 3 (by decide) hw_0 (fun _ h9 => h9) rfl dX4_promiseParts_85 ?_
              have hPc := fl_P (S' := [rdW rd (sR (sR ρ 0 δ) 0 u5)]) hP [2] rfl
              have hKc := hK.sub (tys' := [(cI, FieldType.int)]) [0] rfl
              refine wr_calli (va_runV (As := []) (rest := [.int (iI ((u5 3))), .int (iI ((u5 5))), .ref (a 0)]) ⟨hx, hb, hml, hown, hts⟩ (c_X0_by l D cI cO cC cL rd (sR (sR ρ 0 δ) 0 u5) ((show R32 (u5 1) from by1 hgo.1 hfi))) (cwV 0 hts gX4_promiseParts_X0_by rfl rfl rfl (by decide +kernel) ⟨Nat.le_of_ble_eq_true rfl, Nat.le_of_ble_eq_true rfl⟩) ⟨pcR_blind, va_recv hKc hPc (ci := 0) (q0 := 0) rfl rfl, pcR_of hPc hKc⟩ rfl rfl hl.1 rfl (lv_room (Nat.le_of_ble_eq_true rfl)) dX4_promiseParts_88 ⟨(Nat.zero_le _), (Nat.zero_le _)⟩) (fun r12 hr12 => ?_)
              subst hr12
              refine wi_top (y := (byD (u5))) rfl ?_
              refine lv_aload_n hx hb dX4_promiseParts_91 rfl (lv_at hl 3 rfl) ?_
              refine va_get (D := D) (ci := 4) (v := .ref (rd 0)) (C := RX4) (T := TX4) (N := 6) hx hb hts hin_X4 hown hK hP 0 rfl rfl 3 (by decide) hw_0 (fun _ h9 => h9) rfl dX4_promiseParts_92 ?_
              refine va_get (D := D) (ci := 0) (v := .int (iI ((u5 4)))) (C := RX0) (T := TX0) (N := 6) hx hb hts hin_X0 hown hK hP 14 rfl rfl 4 (by decide) hw_6 (fun _ h9 => h9) rfl dX4_promiseParts_95 ?_
              have hPc := fl_P (S' := [stW cI a ψ]) hP [1] rfl
              have hKc := hK.sub (tys' := [(cI, FieldType.int)]) [0] rfl
              refine wr_calli (va_runV (As := [.int (iI ((u5 5))), .int (iI ((u5 3))), .int (iI ((byD (u5)))), .int (iI ((u5 4)))]) (rest := []) ⟨hx, hb, hml, hown, hts⟩ (c_X3_reasonAgainst l D cI cO cC cL a ψ ((u5 5)) ((u5 3)) ((byD (u5))) ((u5 4)) (by omega) (by omega) (by omega) (by omega) (hps_i)) (cwV 4 hts gX4_promiseParts_X3_reasonAgainst rfl rfl rfl (by decide +kernel) ⟨Nat.le_of_ble_eq_true rfl, Nat.le_of_ble_eq_true rfl⟩) ⟨pcR_blind, va_recv hKc hPc (ci := 3) (q0 := 0) rfl rfl, pcR_of hPc hKc⟩ rfl rfl hl.1 rfl (lv_room (Nat.le_of_ble_eq_true rfl)) dX4_promiseParts_98 ⟨(Nat.zero_le _), (Nat.zero_le _)⟩) (fun r13 hr13 => ?_)
              subst hr13
              refine wi_if_eq (tgt := 106) hx hb dX4_promiseParts_101 (by decide) (by omega) (fun c_101 => ?_) (fun c_101 => ?_)
              · skip
                have h16 := reason_16 (σ := ψ) (o := u5 5) (c := u5 3) (y := byD u5) (to := u5 4) (by omega)
                have hn9 := hps_i.n
                refine lv_aload_n hx hb dX4_promiseParts_106 rfl (lv_at hl 3 rfl) ?_
                refine va_get (D := D) (ci := 4) (v := .ref (a 0)) (C := RX4) (T := TX4) (N := 6) hx hb hts hin_X4 hown hK hP 0 rfl rfl 0 (by decide) hw_3 (fun _ h9 => h9) rfl dX4_promiseParts_107 ?_
                refine lv_aload_n hx hb dX4_promiseParts_110 rfl (lv_at hl 3 rfl) ?_
                refine va_get (D := D) (ci := 4) (v := .ref (rd 0)) (C := RX4) (T := TX4) (N := 6) hx hb hts hin_X4 hown hK hP 0 rfl rfl 3 (by decide) hw_0 (fun _ h9 => h9) rfl dX4_promiseParts_111 ?_
                refine va_get (D := D) (ci := 0) (v := .int (iI ((u5 5)))) (C := RX0) (T := TX0) (N := 6) hx hb hts hin_X0 hown hK hP 14 rfl rfl 5 (by decide) hw_4 (fun _ h9 => h9) rfl dX4_promiseParts_114 ?_
                refine lv_aload_n hx hb dX4_promiseParts_117 rfl (lv_at hl 3 rfl) ?_
                refine va_get (D := D) (ci := 4) (v := .ref (rd 0)) (C := RX4) (T := TX4) (N := 6) hx hb hts hin_X4 hown hK hP 0 rfl rfl 3 (by decide) hw_0 (fun _ h9 => h9) rfl dX4_promiseParts_118 ?_
                refine va_get (D := D) (ci := 0) (v := .int (iI ((u5 3)))) (C := RX0) (T := TX0) (N := 6) hx hb hts hin_X0 hown hK hP 14 rfl rfl 3 (by decide) hw_5 (fun _ h9 => h9) rfl dX4_promiseParts_121 ?_
                refine lv_aload_n hx hb dX4_promiseParts_124 rfl (lv_at hl 3 rfl) ?_
                refine va_get (D := D) (ci := 4) (v := .ref (rd 0)) (C := RX4) (T := TX4) (N := 6) hx hb hts hin_X4 hown hK hP 0 rfl rfl 3 (by decide) hw_0 (fun _ h9 => h9) rfl dX4_promiseParts_125 ?_
                have hPc := fl_P (S' := [rdW rd (sR (sR ρ 0 δ) 0 u5)]) hP [2] rfl
                have hKc := hK.sub (tys' := [(cI, FieldType.int)]) [0] rfl
                refine wr_calli (va_runV (As := []) (rest := [.int (iI ((u5 3))), .int (iI ((u5 5))), .ref (a 0)]) ⟨hx, hb, hml, hown, hts⟩ (c_X0_by l D cI cO cC cL rd (sR (sR ρ 0 δ) 0 u5) ((show R32 (u5 1) from by1 hgo.1 hfi))) (cwV 0 hts gX4_promiseParts_X0_by rfl rfl rfl (by decide +kernel) ⟨Nat.le_of_ble_eq_true rfl, Nat.le_of_ble_eq_true rfl⟩) ⟨pcR_blind, va_recv hKc hPc (ci := 0) (q0 := 0) rfl rfl, pcR_of hPc hKc⟩ rfl rfl hl.1 rfl (lv_room (Nat.le_of_ble_eq_true rfl)) dX4_promiseParts_128 ⟨(Nat.zero_le _), (Nat.zero_le _)⟩) (fun r14 hr14 => ?_)
                subst hr14
                refine wi_top (y := (byD (u5))) rfl ?_
                refine lv_aload_n hx hb dX4_promiseParts_131 rfl (lv_at hl 3 rfl) ?_
                refine va_get (D := D) (ci := 4) (v := .ref (rd 0)) (C := RX4) (T := TX4) (N := 6) hx hb hts hin_X4 hown hK hP 0 rfl rfl 3 (by decide) hw_0 (fun _ h9 => h9) rfl dX4_promiseParts_132 ?_
                refine va_get (D := D) (ci := 0) (v := .int (iI ((u5 4)))) (C := RX0) (T := TX0) (N := 6) hx hb hts hin_X0 hown hK hP 14 rfl rfl 4 (by decide) hw_6 (fun _ h9 => h9) rfl dX4_promiseParts_135 ?_
                have hPc := fl_P (S' := [stW cI a ψ]) hP [1] rfl
                have hKc := hK.sub (tys' := [(cI, FieldType.int)]) [0] rfl
                have hDc := fl_D (S' := [stW cI a ψ]) hD [1] (by decide) rfl
                have hFc := fl_free (SC := [stW cI a ψ]) hD hS hA [1] rfl
                refine wq_calli (va_runV (As := [.int (iI ((u5 5))), .int (iI ((u5 3))), .int (iI ((byD (u5)))), .int (iI ((u5 4)))]) (rest := []) ⟨hx, hb, hml, hown, hts⟩ (c_X3_addPromise l D cI cO cC cL H.size a ψ ((u5 5)) ((u5 3)) ((byD (u5))) ((u5 4)) (by omega)) (cwV 4 hts gX4_promiseParts_X3_addPromise rfl rfl rfl (by decide +kernel) ⟨Nat.le_of_ble_eq_true rfl, Nat.le_of_ble_eq_true rfl⟩) ⟨pcW_blind, va_recv hKc hPc (ci := 3) (q0 := 0) rfl rfl, pcW_of hPc hKc hDc⟩ rfl rfl hl.1 rfl (lv_room (Nat.le_of_ble_eq_true rfl)) dX4_promiseParts_138 ⟨(Nat.zero_le _), (Nat.zero_le _)⟩) hS (fun q _ h => hFc q h) hFc (fun r15 u17 t9 H1 locs ht9 hvm hcl16 hB hz1 hk1 hS => ?_)
                obtain ⟨hP1, hK1, hD1⟩ := hB
                rw [ht9] at hP1
                obtain ⟨hP, hD⟩ := fl_join (SR := [mnW x a sv o rd bu ln, rdW rd (sR (sR ρ 0 δ) 0 u5), bfW cC bu β]) (S1 := [stW cI a (addS ψ ((u5 5)) ((u5 3)) ((byD (u5))) ((u5 4)))]) hP hD [1] [0, 2, 3] rfl rfl (by decide) (by decide) hk1 hFc hP1 hD1
                generalize H1 = H at hP hS ⊢
                have hP := fl_P (S' := [mnW x a sv o rd bu ln, stW cI a (addS ψ ((u5 5)) ((u5 3)) ((byD (u5))) ((u5 4))), rdW rd (sR (sR ρ 0 δ) 0 u5), bfW cC bu β]) hP [0, 3, 1, 2] rfl
                have hD := fl_D (S' := [mnW x a sv o rd bu ln, stW cI a (addS ψ ((u5 5)) ((u5 3)) ((byD (u5))) ((u5 4))), rdW rd (sR (sR ρ 0 δ) 0 u5), bfW cC bu β]) hD [0, 3, 1, 2] (by decide) rfl
                refine lv_pop hx hb dX4_promiseParts_141 rfl ?_
                refine wi_iinc (lv' := [(1, .int (iI ((k + 1)))), (3, .int (iI (1))), (2, .int (iI (i))), (0, .ref (x 0))]) hx hb dX4_promiseParts_142 hl (k := 2) rfl (by decide) rfl (fun ls hl => ?_)
                refine wi_iinc (lv' := [(2, .int (iI ((i + 1)))), (1, .int (iI ((k + 1)))), (3, .int (iI (1))), (0, .ref (x 0))]) hx hb dX4_promiseParts_145 hl (k := 2) rfl (by decide) rfl (fun ls hl => ?_)
                refine lv_goto (tgt := 11) hx hb dX4_promiseParts_148 (by decide) ?_
                exact ih11 ((addS ψ ((u5 5)) ((u5 3)) ((byD (u5))) ((u5 4)))) (u5) ((k + 1)) ((i + 1)) (by omega) (by omega) (by omega) (hgo.1) (hgo.2.1) (hgo.2.2.1.symm.trans hfe) (by rw [← hgo.2.2.2.1]; exact hen) (hps_i.add hq1 (by have := hq2; omega) hq3 hq4 (by omega)) (by rw [← hps, hplc]; exact (pr_on4 (by omega)).1.symm) (by rw [← hpc, hplc, (pr_on4 (by omega)).2]; omega) _ _ hP hD hS ls (lv_sub hl [0, 1, 3] rfl)
              · skip
                have hstop : ψ = prS (plR (β 1) (ln 0 0 - 0).toNat (uI (ρ 0) 0 0) 0) σ ∧ k = prC (plR (β 1) (ln 0 0 - 0).toNat (uI (ρ 0) 0 0) 0) σ := by
                  rw [← hps, ← hpc, hplc]
                  exact ⟨(pr_stop4 (by omega)).1.symm, by rw [(pr_stop4 (by omega)).2]; omega⟩
                refine lv_iload_n hx hb dX4_promiseParts_104 rfl (lv_at hl 2 rfl) ?_
                have hP : va_P D vwCl (fl [mnW x a sv o rd bu ln, stW cI a (prS (plR (β 1) (ln 0 0 - 0).toNat (uI (ρ 0) 0 0) 0) σ), rdW rd (sR ρ 0 (u5)), bfW cC bu β]) H := hstop.1 ▸ hP
                have hD : va_D A (fl [mnW x a sv o rd bu ln, stW cI a (prS (plR (β 1) (ln 0 0 - 0).toNat (uI (ρ 0) 0 0) 0) σ), rdW rd (sR ρ 0 (u5)), bfW cC bu β]) := hstop.1 ▸ hD
                exact W.iret (v := iI (k)) hx hb hr (fun t9 ht9 hW9 => ⟨⟨(k), (u5), rfl, (hstop.2), ⟨by rw [ht9]; exact hP, va_K.moved hW9.alike hK, hD⟩⟩, hS.F ht9⟩) hS.2.2 dX4_promiseParts_105 hlocks
  exact L11 _ (σ) ((uI ((ρ 0)) 0 0)) (0) (0) (Nat.lt_succ_self _) (by omega) (by omega) (dWf_0 (uI_s _ _ _)) (by rw [uI_n (by omega)]; exact hf9) (hval.1) (hval.2) (hI) (rfl) (Int.add_zero _) _ _ hP hD hS ls (lv_sub hl [0, 1, 2] rfl)
set_option maxHeartbeats 4000000 in
set_option maxRecDepth 100000 in
theorem c_X4_promiseAll (l : Launch) (D : va_G) (cI cO cC cL : ClassId) (sz : Nat) (x a sv o rd bu : Nat → Nat) (ln σ ρ β κ : Nat → Int → Int) (sa : Nat → Nat → Nat) (ss : Nat → Nat → Int → Int) (hl9 : 0 ≤ ln 0 0 ∧ ln 0 0 ≤ 60) (hb9 : ∀ j : Int, 0 ≤ j → j < ln 0 0 → 33 ≤ β 1 j ∧ β 1 j ≤ 126) (hf9 : R32 (ρ 0 3)) (hval : VAL (β 1) (ln 0 0) (uI (ρ 0) 0 0)) (hk : 0 ≤ κ 0 0 ∧ κ 0 0 ≤ 6) (hI : Inv σ) : Met l yX4_promiseAll wsX4_promiseAll ({ frames := 6, cells := 0, slots := 0, locals := 120 } : Room) (pcW D [(cI, FieldType.int), (cO, FieldType.object "PromisedCounters$State"), (cC, FieldType.char)] [.ref (x 0)] (fl [mnW x a sv o rd bu ln, stW cI a σ, rdW rd ρ, bfW cC bu β, svO cO sv (saF sa) κ, stW cI (sa 0) (ss 0), stW cI (sa 1) (ss 1), stW cI (sa 2) (ss 2), stW cI (sa 3) (ss 3), stW cI (sa 4) (ss 4), stW cI (sa 5) (ss 5)]) sz) (wq_i (fun (r : Int) (ζ : Int → Int) => r = prC (plR (β 1) (ln 0 0 - 0).toNat (uI (endR (β 1) (ln 0 0 - 0).toNat (uI (ρ 0) 0 0) 0) 0 0) 0) σ) (fun (ζ : Int → Int) => (bW D [(cI, FieldType.int), (cO, FieldType.object "PromisedCounters$State"), (cC, FieldType.char)] (fl [mnW x a sv o rd bu (sU ln 0 0 0), stW cI a (prS (plR (β 1) (ln 0 0 - 0).toNat (uI (endR (β 1) (ln 0 0 - 0).toNat (uI (ρ 0) 0 0) 0) 0 0) 0) σ), rdW rd (sR ρ 0 ζ), bfW cC bu β, svO cO sv (saF (pushA (κ 0 0) sa)) (sU κ 0 0 (pushK (κ 0 0))), stW cI (pushA (κ 0 0) sa 0) (pushS (κ 0 0) ss σ 0), stW cI (pushA (κ 0 0) sa 1) (pushS (κ 0 0) ss σ 1), stW cI (pushA (κ 0 0) sa 2) (pushS (κ 0 0) ss σ 2), stW cI (pushA (κ 0 0) sa 3) (pushS (κ 0 0) ss σ 3), stW cI (pushA (κ 0 0) sa 4) (pushS (κ 0 0) ss σ 4), stW cI (pushA (κ 0 0) sa 5) (pushS (κ 0 0) ss σ 5)]) (va_A (fl [mnW x a sv o rd bu ln, stW cI a σ, rdW rd ρ, bfW cC bu β, svO cO sv (saF sa) κ, stW cI (sa 0) (ss 0), stW cI (sa 1) (ss 1), stW cI (sa 2) (ss 2), stW cI (sa 3) (ss 3), stW cI (sa 4) (ss 4), stW cI (sa 5) (ss 5)]) sz))) (va_A (fl [mnW x a sv o rd bu ln, stW cI a σ, rdW rd ρ, bfW cC bu β, svO cO sv (saF sa) κ, stW cI (sa 0) (ss 0), stW cI (sa 1) (ss 1), stW cI (sa 2) (ss 2), stW cI (sa 3) (ss 3), stW cI (sa 4) (ss 4), stW cI (sa 5) (ss 5)]) sz)) 0 0 (va_A (fl [mnW x a sv o rd bu ln, stW cI a σ, rdW rd ρ, bfW cC bu β, svO cO sv (saF sa) κ, stW cI (sa 0) (ss 0), stW cI (sa 1) (ss 1), stW cI (sa 2) (ss 2), stW cI (sa 3) (ss 3), stW cI (sa 4) (ss 4), stW cI (sa 5) (ss 5)]) sz) := by
  refine Met.ofW (cc := cX4_promiseAll) (maxL := 2) (ret := (some .int)) (by decide) rfl ?_
  intro p9 e9 s m args9 below9 meth9 c9 s₁ B hml hv
  obtain ⟨rfl, hsz, hP, hK, hD0⟩ := hv
  have hx := B.exec
  have hb := B.bytes
  have hr := B.returns
  have hts := atoms_spec (ws := wsX4_promiseAll) B.pre
  have hown : s.vm.findClass RX4 = some m.cls := findClass_of_methodNamed B.named
  have hlocks := B.notSynchronized
  subst hsz
  have hD := hD0.self (sz := s.heap.size)
  generalize hAe : va_A (fl [mnW x a sv o rd bu ln, stW cI a σ, rdW rd ρ, bfW cC bu β, svO cO sv (saF sa) κ, stW cI (sa 0) (ss 0), stW cI (sa 1) (ss 1), stW cI (sa 2) (ss 2), stW cI (sa 3) (ss 3), stW cI (sa 4) (ss 4), stW cI (sa 5) (ss 5)]) s.heap.size = A at hD ⊢
  have hA : ∀ q : Nat, s.heap.size ≤ q → A q := fun q h => by rw [← hAe]; exact Or.inr h
  have hS : va_S A s.heap s.heap [] := va_S.rf
  have hP : va_P D vwCl (fl [mnW x a sv o rd bu ln, stW cI a σ, rdW rd ρ, bfW cC bu β, svO cO sv (saF sa) κ, stW cI (sa 0) (ss 0), stW cI (sa 1) (ss 1), stW cI (sa 2) (ss 2), stW cI (sa 3) (ss 3), stW cI (sa 4) (ss 4), stW cI (sa 5) (ss 5)]) s.heap := hP
  have hl := lv_entry ([.ref (x 0)]) (n := 2) (Nat.le_of_ble_eq_true rfl)
  rw [lg_entry_eq]
  generalize (lg_sl ([.ref (x 0)]) ++ List.replicate (2 - (lg_sl ([.ref (x 0)])).length) Slot.unset).toArray = ls at hl ⊢
  have hl : lv_has ls 2 [(0, .ref (x 0))] := hl
  have hw_0 := hts (.fieldLink RX4 41 "PromisedCounters" "length" "I") (by decide +kernel)
  have hin_X4 : ∀ w ∈ u_ws RX4 TX4 6, w ∈ wsX4_promiseAll := by decide +kernel
  have hw_1 := hts (.fieldLink RX4 33 "PromisedCounters" "reader" "LPromisedCounters$ChangeReader;") (by decide +kernel)
  have hw_2 := hts (.fieldLink RX4 19 "PromisedCounters" "saved" "LPromisedCounters$SavedStates;") (by decide +kernel)
  have hw_3 := hts (.fieldLink RX4 10 "PromisedCounters" "state" "LPromisedCounters$State;") (by decide +kernel)
  refine lv_aload_n hx hb dX4_promiseAll_0 rfl (lv_at hl 0 rfl) ?_
  have hPc := fl_P (S' := [mnW x a sv o rd bu ln, rdW rd ρ, bfW cC bu β]) hP [0, 2, 3] rfl
  have hDc := fl_D (S' := [mnW x a sv o rd bu ln, rdW rd ρ, bfW cC bu β]) hD [0, 2, 3] (by decide) rfl
  have hFc := fl_free (SC := [mnW x a sv o rd bu ln, rdW rd ρ, bfW cC bu β]) hD hS hA [0, 2, 3] rfl
  refine wq_calli (va_runV (As := []) (rest := []) ⟨hx, hb, hml, hown, hts⟩ (c_X4_firstError l D cI cO cC cL s.heap.size x a sv o rd bu ln ρ β (hl9) (hb9) (hf9)) (cwV 0 hts gX4_promiseAll_X4_firstError rfl rfl rfl (by decide +kernel) ⟨Nat.le_of_ble_eq_true rfl, Nat.le_of_ble_eq_true rfl⟩) ⟨pcW_blind, va_recv hK hPc (ci := 4) (q0 := 0) rfl rfl, pcW_of hPc hK hDc⟩ rfl rfl hl.1 rfl (lv_room (Nat.le_of_ble_eq_true rfl)) dX4_promiseAll_1 ⟨(Nat.zero_le _), (Nat.zero_le _)⟩) hS (fun q _ h => hFc q h) hFc (fun r1 u3 t9 H1 locs ht9 hvm hcl2 hB hz1 hk1 hS => ?_)
  obtain ⟨hP1, hK1, hD1⟩ := hB
  rw [ht9] at hP1
  obtain ⟨hP, hD⟩ := fl_join (SR := [stW cI a σ, svO cO sv (saF sa) κ, stW cI (sa 0) (ss 0), stW cI (sa 1) (ss 1), stW cI (sa 2) (ss 2), stW cI (sa 3) (ss 3), stW cI (sa 4) (ss 4), stW cI (sa 5) (ss 5)]) (S1 := [mnW x a sv o rd bu ln, rdW rd (sR ρ 0 u3), bfW cC bu β]) hP hD [0, 2, 3] [1, 4, 5, 6, 7, 8, 9, 10] rfl rfl (by decide) (by decide) hk1 hFc hP1 hD1
  generalize H1 = H at hP hS ⊢
  have hP := fl_P (S' := [mnW x a sv o rd bu ln, stW cI a σ, rdW rd (sR ρ 0 u3), bfW cC bu β, svO cO sv (saF sa) κ, stW cI (sa 0) (ss 0), stW cI (sa 1) (ss 1), stW cI (sa 2) (ss 2), stW cI (sa 3) (ss 3), stW cI (sa 4) (ss 4), stW cI (sa 5) (ss 5)]) hP [8, 0, 9, 10, 1, 2, 3, 4, 5, 6, 7] rfl
  have hD := fl_D (S' := [mnW x a sv o rd bu ln, stW cI a σ, rdW rd (sR ρ 0 u3), bfW cC bu β, svO cO sv (saF sa) κ, stW cI (sa 0) (ss 0), stW cI (sa 1) (ss 1), stW cI (sa 2) (ss 2), stW cI (sa 3) (ss 3), stW cI (sa 4) (ss 4), stW cI (sa 5) (ss 5)]) hD [8, 0, 9, 10, 1, 2, 3, 4, 5, 6, 7] (by decide) rfl
  obtain ⟨hfr, hfe9⟩ := hcl2
  have hrl : r1 = ln 0 0 := by rw [hfr]; exact hval.1
  obtain ⟨hE9, hw9, h39⟩ := hfe9 hrl
  subst hE9
  have hpl9 := hw9.1
  have hval2 : VAL (β 1) (ln 0 0) (uI (endR (β 1) (ln 0 0 - 0).toNat (uI (ρ 0) 0 0) 0) 0 0) := (VAL_ag (uI_s _ _ _) (uI_s _ _ _)).mpr hval
  refine lv_aload_n hx hb dX4_promiseAll_4 rfl (lv_at hl 0 rfl) ?_
  refine va_get (D := D) (ci := 4) (v := .int (iI ((ln 0 0)))) (C := RX4) (T := TX4) (N := 6) hx hb hts hin_X4 hown hK hP 0 rfl rfl 5 (by decide) hw_0 (fun _ h9 => h9) rfl dX4_promiseAll_5 ?_
  refine wi_icmp_lt (tgt := 21) hx hb dX4_promiseAll_8 (by decide) (by omega) (fun c_8 => ?_) (fun c_8 => ?_)
  · skip
    exfalso; omega
  · skip
    refine lv_aload_n hx hb dX4_promiseAll_11 rfl (lv_at hl 0 rfl) ?_
    refine va_get (D := D) (ci := 4) (v := .ref (rd 0)) (C := RX4) (T := TX4) (N := 6) hx hb hts hin_X4 hown hK hP 0 rfl rfl 3 (by decide) hw_1 (fun _ h9 => h9) rfl dX4_promiseAll_12 ?_
    have hPc := fl_P (S' := [rdW rd (sR ρ 0 (endR (β 1) (ln 0 0 - 0).toNat (uI (ρ 0) 0 0) 0))]) hP [2] rfl
    have hKc := hK.sub (tys' := [(cI, FieldType.int)]) [0] rfl
    refine wr_calli (va_runV (As := []) (rest := []) ⟨hx, hb, hml, hown, hts⟩ (c_X0_isComplete l D cI cO cC cL rd (sR ρ 0 (endR (β 1) (ln 0 0 - 0).toNat (uI (ρ 0) 0 0) 0)) (hpl9)) (cwV 0 hts gX4_promiseAll_X0_isComplete rfl rfl rfl (by decide +kernel) ⟨Nat.le_of_ble_eq_true rfl, Nat.le_of_ble_eq_true rfl⟩) ⟨pcR_blind, va_recv hKc hPc (ci := 0) (q0 := 0) rfl rfl, pcR_of hPc hKc⟩ rfl rfl hl.1 rfl (lv_room (Nat.le_of_ble_eq_true rfl)) dX4_promiseAll_15 ⟨(Nat.zero_le _), (Nat.zero_le _)⟩) (fun r4 hr4 => ?_)
    subst hr4
    refine wi_top (y := (if dFin (((endR (β 1) (ln 0 0 - 0).toNat (uI (ρ 0) 0 0) 0))) then (1 : Int) else 0)) rfl ?_
    refine wi_if_ne (tgt := 31) hx hb dX4_promiseAll_18 (by decide) (by split <;> omega) (fun c_18 => ?_) (fun c_18 => ?_)
    · skip
      refine lv_aload_n hx hb dX4_promiseAll_31 rfl (lv_at hl 0 rfl) ?_
      refine va_get (D := D) (ci := 4) (v := .ref (sv 0)) (C := RX4) (T := TX4) (N := 6) hx hb hts hin_X4 hown hK hP 0 rfl rfl 1 (by decide) hw_2 (fun _ h9 => h9) rfl dX4_promiseAll_32 ?_
      refine lv_aload_n hx hb dX4_promiseAll_35 rfl (lv_at hl 0 rfl) ?_
      refine va_get (D := D) (ci := 4) (v := .ref (a 0)) (C := RX4) (T := TX4) (N := 6) hx hb hts hin_X4 hown hK hP 0 rfl rfl 0 (by decide) hw_3 (fun _ h9 => h9) rfl dX4_promiseAll_36 ?_
      have hPc := fl_P (S' := [stW cI a σ, svO cO sv (saF sa) κ, stW cI (sa 0) (ss 0), stW cI (sa 1) (ss 1), stW cI (sa 2) (ss 2), stW cI (sa 3) (ss 3), stW cI (sa 4) (ss 4), stW cI (sa 5) (ss 5)]) hP [1, 4, 5, 6, 7, 8, 9, 10] rfl
      have hKc := hK.sub (tys' := [(cI, FieldType.int), (cO, FieldType.object "PromisedCounters$State")]) [0, 1] rfl
      have hDc := fl_D (S' := [stW cI a σ, svO cO sv (saF sa) κ, stW cI (sa 0) (ss 0), stW cI (sa 1) (ss 1), stW cI (sa 2) (ss 2), stW cI (sa 3) (ss 3), stW cI (sa 4) (ss 4), stW cI (sa 5) (ss 5)]) hD [1, 4, 5, 6, 7, 8, 9, 10] (by decide) rfl
      have hFc := fl_free (SC := [stW cI a σ, svO cO sv (saF sa) κ, stW cI (sa 0) (ss 0), stW cI (sa 1) (ss 1), stW cI (sa 2) (ss 2), stW cI (sa 3) (ss 3), stW cI (sa 4) (ss 4), stW cI (sa 5) (ss 5)]) hD hS hA [1, 4, 5, 6, 7, 8, 9, 10] rfl
      refine va_callv (va_runV (As := [.ref (a 0)]) (rest := []) ⟨hx, hb, hml, hown, hts⟩ (c_X2_save l D cI cO cC cL H.size a σ sv κ sa ss (hk)) (cwV 1 hts gX4_promiseAll_X2_save rfl rfl rfl (by decide +kernel) ⟨Nat.le_of_ble_eq_true rfl, Nat.le_of_ble_eq_true rfl⟩) ⟨pcW_blind, va_recv hKc hPc (ci := 2) (q0 := 13) rfl rfl, pcW_of hPc hKc hDc⟩ rfl rfl hl.1 rfl (lv_room (Nat.le_of_ble_eq_true rfl)) dX4_promiseAll_39 ⟨(Nat.zero_le _), (Nat.zero_le _)⟩) hS (fun q _ h => hFc q h) hFc (fun  u6 t9 H1 locs ht9 hvm hcl5 hB hz1 hk1 hS => ?_)
      obtain ⟨hP1, hK1, hD1⟩ := hB
      rw [ht9] at hP1
      obtain ⟨hP, hD⟩ := fl_join (SR := [mnW x a sv o rd bu ln, rdW rd (sR ρ 0 (endR (β 1) (ln 0 0 - 0).toNat (uI (ρ 0) 0 0) 0)), bfW cC bu β]) (S1 := [stW cI a σ, svO cO sv (saF (pushA (κ 0 0) sa)) (sU κ 0 0 (pushK (κ 0 0))), stW cI (pushA (κ 0 0) sa 0) (pushS (κ 0 0) ss σ 0), stW cI (pushA (κ 0 0) sa 1) (pushS (κ 0 0) ss σ 1), stW cI (pushA (κ 0 0) sa 2) (pushS (κ 0 0) ss σ 2), stW cI (pushA (κ 0 0) sa 3) (pushS (κ 0 0) ss σ 3), stW cI (pushA (κ 0 0) sa 4) (pushS (κ 0 0) ss σ 4), stW cI (pushA (κ 0 0) sa 5) (pushS (κ 0 0) ss σ 5)]) hP hD [1, 4, 5, 6, 7, 8, 9, 10] [0, 2, 3] rfl rfl (by decide) (by decide) hk1 hFc hP1 hD1
      generalize H1 = H at hP hS ⊢
      have hP := fl_P (S' := [mnW x a sv o rd bu ln, stW cI a σ, rdW rd (sR ρ 0 (endR (β 1) (ln 0 0 - 0).toNat (uI (ρ 0) 0 0) 0)), bfW cC bu β, svO cO sv (saF (pushA (κ 0 0) sa)) (sU κ 0 0 (pushK (κ 0 0))), stW cI (pushA (κ 0 0) sa 0) (pushS (κ 0 0) ss σ 0), stW cI (pushA (κ 0 0) sa 1) (pushS (κ 0 0) ss σ 1), stW cI (pushA (κ 0 0) sa 2) (pushS (κ 0 0) ss σ 2), stW cI (pushA (κ 0 0) sa 3) (pushS (κ 0 0) ss σ 3), stW cI (pushA (κ 0 0) sa 4) (pushS (κ 0 0) ss σ 4), stW cI (pushA (κ 0 0) sa 5) (pushS (κ 0 0) ss σ 5)]) hP [0, 3, 1, 2, 4, 5, 6, 7, 8, 9, 10] rfl
      have hD := fl_D (S' := [mnW x a sv o rd bu ln, stW cI a σ, rdW rd (sR ρ 0 (endR (β 1) (ln 0 0 - 0).toNat (uI (ρ 0) 0 0) 0)), bfW cC bu β, svO cO sv (saF (pushA (κ 0 0) sa)) (sU κ 0 0 (pushK (κ 0 0))), stW cI (pushA (κ 0 0) sa 0) (pushS (κ 0 0) ss σ 0), stW cI (pushA (κ 0 0) sa 1) (pushS (κ 0 0) ss σ 1), stW cI (pushA (κ 0 0) sa 2) (pushS (κ 0 0) ss σ 2), stW cI (pushA (κ 0 0) sa 3) (pushS (κ 0 0) ss σ 3), stW cI (pushA (κ 0 0) sa 4) (pushS (κ 0 0) ss σ 4), stW cI (pushA (κ 0 0) sa 5) (pushS (κ 0 0) ss σ 5)]) hD [0, 3, 1, 2, 4, 5, 6, 7, 8, 9, 10] (by decide) rfl
      refine lv_aload_n hx hb dX4_promiseAll_42 rfl (lv_at hl 0 rfl) ?_
      have hPc := fl_P (S' := [mnW x a sv o rd bu ln, stW cI a σ, rdW rd (sR ρ 0 (endR (β 1) (ln 0 0 - 0).toNat (uI (ρ 0) 0 0) 0)), bfW cC bu β]) hP [0, 1, 2, 3] rfl
      have hDc := fl_D (S' := [mnW x a sv o rd bu ln, stW cI a σ, rdW rd (sR ρ 0 (endR (β 1) (ln 0 0 - 0).toNat (uI (ρ 0) 0 0) 0)), bfW cC bu β]) hD [0, 1, 2, 3] (by decide) rfl
      have hFc := fl_free (SC := [mnW x a sv o rd bu ln, stW cI a σ, rdW rd (sR ρ 0 (endR (β 1) (ln 0 0 - 0).toNat (uI (ρ 0) 0 0) 0)), bfW cC bu β]) hD hS hA [0, 1, 2, 3] rfl
      refine wq_calli (va_runV (As := []) (rest := []) ⟨hx, hb, hml, hown, hts⟩ (c_X4_promiseParts l D cI cO cC cL H.size x a sv o rd bu ln σ (sR ρ 0 (endR (β 1) (ln 0 0 - 0).toNat (uI (ρ 0) 0 0) 0)) β (hl9) (hb9) ((show R32 ((endR (β 1) (ln 0 0 - 0).toNat (uI (ρ 0) 0 0) 0) 3) from h39)) (hval2) (hI)) (cwV 0 hts gX4_promiseAll_X4_promiseParts rfl rfl rfl (by decide +kernel) ⟨Nat.le_of_ble_eq_true rfl, Nat.le_of_ble_eq_true rfl⟩) ⟨pcW_blind, va_recv hK hPc (ci := 4) (q0 := 0) rfl rfl, pcW_of hPc hK hDc⟩ rfl rfl hl.1 rfl (lv_room (Nat.le_of_ble_eq_true rfl)) dX4_promiseAll_43 ⟨(Nat.zero_le _), (Nat.zero_le _)⟩) hS (fun q _ h => hFc q h) hFc (fun r7 u9 t9 H1 locs ht9 hvm hcl8 hB hz1 hk1 hS => ?_)
      obtain ⟨hP1, hK1, hD1⟩ := hB
      rw [ht9] at hP1
      obtain ⟨hP, hD⟩ := fl_join (SR := [svO cO sv (saF (pushA (κ 0 0) sa)) (sU κ 0 0 (pushK (κ 0 0))), stW cI (pushA (κ 0 0) sa 0) (pushS (κ 0 0) ss σ 0), stW cI (pushA (κ 0 0) sa 1) (pushS (κ 0 0) ss σ 1), stW cI (pushA (κ 0 0) sa 2) (pushS (κ 0 0) ss σ 2), stW cI (pushA (κ 0 0) sa 3) (pushS (κ 0 0) ss σ 3), stW cI (pushA (κ 0 0) sa 4) (pushS (κ 0 0) ss σ 4), stW cI (pushA (κ 0 0) sa 5) (pushS (κ 0 0) ss σ 5)]) (S1 := [mnW x a sv o rd bu ln, stW cI a (prS (plR (β 1) (ln 0 0 - 0).toNat (uI ((sR ρ 0 (endR (β 1) (ln 0 0 - 0).toNat (uI (ρ 0) 0 0) 0)) 0) 0 0) 0) σ), rdW rd (sR (sR ρ 0 (endR (β 1) (ln 0 0 - 0).toNat (uI (ρ 0) 0 0) 0)) 0 u9), bfW cC bu β]) hP hD [0, 1, 2, 3] [4, 5, 6, 7, 8, 9, 10] rfl rfl (by decide) (by decide) hk1 hFc hP1 hD1
      generalize H1 = H at hP hS ⊢
      have hP := fl_P (S' := [mnW x a sv o rd bu ln, stW cI a (prS (plR (β 1) (ln 0 0 - 0).toNat (uI ((sR ρ 0 (endR (β 1) (ln 0 0 - 0).toNat (uI (ρ 0) 0 0) 0)) 0) 0 0) 0) σ), rdW rd (sR (sR ρ 0 (endR (β 1) (ln 0 0 - 0).toNat (uI (ρ 0) 0 0) 0)) 0 u9), bfW cC bu β, svO cO sv (saF (pushA (κ 0 0) sa)) (sU κ 0 0 (pushK (κ 0 0))), stW cI (pushA (κ 0 0) sa 0) (pushS (κ 0 0) ss σ 0), stW cI (pushA (κ 0 0) sa 1) (pushS (κ 0 0) ss σ 1), stW cI (pushA (κ 0 0) sa 2) (pushS (κ 0 0) ss σ 2), stW cI (pushA (κ 0 0) sa 3) (pushS (κ 0 0) ss σ 3), stW cI (pushA (κ 0 0) sa 4) (pushS (κ 0 0) ss σ 4), stW cI (pushA (κ 0 0) sa 5) (pushS (κ 0 0) ss σ 5)]) hP [7, 8, 9, 10, 0, 1, 2, 3, 4, 5, 6] rfl
      have hD := fl_D (S' := [mnW x a sv o rd bu ln, stW cI a (prS (plR (β 1) (ln 0 0 - 0).toNat (uI ((sR ρ 0 (endR (β 1) (ln 0 0 - 0).toNat (uI (ρ 0) 0 0) 0)) 0) 0 0) 0) σ), rdW rd (sR (sR ρ 0 (endR (β 1) (ln 0 0 - 0).toNat (uI (ρ 0) 0 0) 0)) 0 u9), bfW cC bu β, svO cO sv (saF (pushA (κ 0 0) sa)) (sU κ 0 0 (pushK (κ 0 0))), stW cI (pushA (κ 0 0) sa 0) (pushS (κ 0 0) ss σ 0), stW cI (pushA (κ 0 0) sa 1) (pushS (κ 0 0) ss σ 1), stW cI (pushA (κ 0 0) sa 2) (pushS (κ 0 0) ss σ 2), stW cI (pushA (κ 0 0) sa 3) (pushS (κ 0 0) ss σ 3), stW cI (pushA (κ 0 0) sa 4) (pushS (κ 0 0) ss σ 4), stW cI (pushA (κ 0 0) sa 5) (pushS (κ 0 0) ss σ 5)]) hD [7, 8, 9, 10, 0, 1, 2, 3, 4, 5, 6] (by decide) rfl
      refine lv_istore_n (lv' := [(1, .int (iI (r7))), (0, .ref (x 0))]) hx hb dX4_promiseAll_46 rfl hl (by decide) rfl (fun ls hl => ?_)
      refine lv_aload_n hx hb dX4_promiseAll_47 rfl (lv_at hl 1 rfl) ?_
      refine wi_iconst hx hb dX4_promiseAll_48 ?_
      refine va_put (D := D) (ci := 4) (v := .int (iI (0))) (ty := .int) (C := RX4) (T := TX4) (N := 6) hx hb hts hin_X4 tyX4 tyX4_ok nmX4 hown hK hP hD hS 0 rfl rfl 5 (by decide) hw_0 (fun _ h9 => h9) rfl (by decide +kernel) rfl rfl (Nat.le_of_ble_eq_true rfl) dX4_promiseAll_49 (fun H locs hP hD hS => ?_)
      have hP : va_P D vwCl (fl [mnW x a sv o rd bu (sU ln 0 (0) (0)), stW cI a (prS (plR (β 1) (ln 0 0 - 0).toNat (uI ((sR ρ 0 (endR (β 1) (ln 0 0 - 0).toNat (uI (ρ 0) 0 0) 0)) 0) 0 0) 0) σ), rdW rd (sR (sR ρ 0 (endR (β 1) (ln 0 0 - 0).toNat (uI (ρ 0) 0 0) 0)) 0 u9), bfW cC bu β, svO cO sv (saF (pushA (κ 0 0) sa)) (sU κ 0 0 (pushK (κ 0 0))), stW cI (pushA (κ 0 0) sa 0) (pushS (κ 0 0) ss σ 0), stW cI (pushA (κ 0 0) sa 1) (pushS (κ 0 0) ss σ 1), stW cI (pushA (κ 0 0) sa 2) (pushS (κ 0 0) ss σ 2), stW cI (pushA (κ 0 0) sa 3) (pushS (κ 0 0) ss σ 3), stW cI (pushA (κ 0 0) sa 4) (pushS (κ 0 0) ss σ 4), stW cI (pushA (κ 0 0) sa 5) (pushS (κ 0 0) ss σ 5)]) H := hP
      have hD : va_D A (fl [mnW x a sv o rd bu (sU ln 0 (0) (0)), stW cI a (prS (plR (β 1) (ln 0 0 - 0).toNat (uI ((sR ρ 0 (endR (β 1) (ln 0 0 - 0).toNat (uI (ρ 0) 0 0) 0)) 0) 0 0) 0) σ), rdW rd (sR (sR ρ 0 (endR (β 1) (ln 0 0 - 0).toNat (uI (ρ 0) 0 0) 0)) 0 u9), bfW cC bu β, svO cO sv (saF (pushA (κ 0 0) sa)) (sU κ 0 0 (pushK (κ 0 0))), stW cI (pushA (κ 0 0) sa 0) (pushS (κ 0 0) ss σ 0), stW cI (pushA (κ 0 0) sa 1) (pushS (κ 0 0) ss σ 1), stW cI (pushA (κ 0 0) sa 2) (pushS (κ 0 0) ss σ 2), stW cI (pushA (κ 0 0) sa 3) (pushS (κ 0 0) ss σ 3), stW cI (pushA (κ 0 0) sa 4) (pushS (κ 0 0) ss σ 4), stW cI (pushA (κ 0 0) sa 5) (pushS (κ 0 0) ss σ 5)]) := hD
      refine lv_iload_n hx hb dX4_promiseAll_52 rfl (lv_at hl 0 rfl) ?_
      have hP : va_P D vwCl (fl [mnW x a sv o rd bu (sU ln 0 0 0), stW cI a (prS (plR (β 1) (ln 0 0 - 0).toNat (uI (endR (β 1) (ln 0 0 - 0).toNat (uI (ρ 0) 0 0) 0) 0 0) 0) σ), rdW rd (sR ρ 0 u9), bfW cC bu β, svO cO sv (saF (pushA (κ 0 0) sa)) (sU κ 0 0 (pushK (κ 0 0))), stW cI (pushA (κ 0 0) sa 0) (pushS (κ 0 0) ss σ 0), stW cI (pushA (κ 0 0) sa 1) (pushS (κ 0 0) ss σ 1), stW cI (pushA (κ 0 0) sa 2) (pushS (κ 0 0) ss σ 2), stW cI (pushA (κ 0 0) sa 3) (pushS (κ 0 0) ss σ 3), stW cI (pushA (κ 0 0) sa 4) (pushS (κ 0 0) ss σ 4), stW cI (pushA (κ 0 0) sa 5) (pushS (κ 0 0) ss σ 5)]) H := hP
      have hD : va_D A (fl [mnW x a sv o rd bu (sU ln 0 0 0), stW cI a (prS (plR (β 1) (ln 0 0 - 0).toNat (uI (endR (β 1) (ln 0 0 - 0).toNat (uI (ρ 0) 0 0) 0) 0 0) 0) σ), rdW rd (sR ρ 0 u9), bfW cC bu β, svO cO sv (saF (pushA (κ 0 0) sa)) (sU κ 0 0 (pushK (κ 0 0))), stW cI (pushA (κ 0 0) sa 0) (pushS (κ 0 0) ss σ 0), stW cI (pushA (κ 0 0) sa 1) (pushS (κ 0 0) ss σ 1), stW cI (pushA (κ 0 0) sa 2) (pushS (κ 0 0) ss σ 2), stW cI (pushA (κ 0 0) sa 3) (pushS (κ 0 0) ss σ 3), stW cI (pushA (κ 0 0) sa 4) (pushS (κ 0 0) ss σ 4), stW cI (pushA (κ 0 0) sa 5) (pushS (κ 0 0) ss σ 5)]) := hD
      exact W.iret (v := iI (r7)) hx hb hr (fun t9 ht9 hW9 => ⟨⟨(r7), (u9), rfl, (hcl8), ⟨by rw [ht9]; exact hP, va_K.moved hW9.alike hK, hD⟩⟩, hS.F ht9⟩) hS.2.2 dX4_promiseAll_53 hlocks
    · skip
      exfalso; rw [if_pos hval.2] at c_18; exact absurd c_18 (by decide)
