set_option maxHeartbeats 4000000 in
set_option maxRecDepth 100000 in
theorem c_X4_heldShare (l : Launch) (D : va_G) (cI cO cC cL : ClassId) (x a sv o rd bu : Nat → Nat) (ln σ : Nat → Int → Int) (hI : Inv σ) : Met l yX4_heldShare wsX4_heldShare ({ frames := 3, cells := 0, slots := 0, locals := 69 } : Room) (pcR D [(cI, FieldType.int), (cO, FieldType.object "PromisedCounters$State"), (cC, FieldType.char)] [.ref (x 0)] (fl [mnW x a sv o rd bu ln, stW cI a σ])) (vp_Sd (fun r => r = shrS σ)) 0 0 (fun _ => False) := by
  refine Met.ofW (cc := cX4_heldShare) (maxL := 4) (ret := (some .double)) (by decide) rfl ?_
  intro p9 e9 s m args9 below9 meth9 c9 s₁ B hml hv
  obtain ⟨rfl, hP, hK⟩ := hv
  have hx := B.exec
  have hb := B.bytes
  have hr := B.returns
  have hts := atoms_spec (ws := wsX4_heldShare) B.pre
  have hown : s.vm.findClass RX4 = some m.cls := findClass_of_methodNamed B.named
  have hlocks := B.notSynchronized
  have hl := lv_entry ([.ref (x 0)]) (n := 4) (Nat.le_of_ble_eq_true rfl)
  rw [lg_entry_eq]
  generalize (lg_sl ([.ref (x 0)]) ++ List.replicate (4 - (lg_sl ([.ref (x 0)])).length) Slot.unset).toArray = ls at hl ⊢
  have hl : lv_has ls 4 [(0, .ref (x 0))] := hl
  have hw_0 := hts (.fieldLink RX4 10 "PromisedCounters" "state" "LPromisedCounters$State;") (by decide +kernel)
  have hin_X4 : ∀ w ∈ u_ws RX4 TX4 6, w ∈ wsX4_heldShare := by decide +kernel
  have hw_1 := hts (.fieldLink RX4 71 "PromisedCounters$State" "most" "[I") (by decide +kernel)
  have hin_X3 : ∀ w ∈ u_ws RX3 TX3 15, w ∈ wsX4_heldShare := by decide +kernel
  have hw_2 := hts (.fieldLink RX4 75 "PromisedCounters$State" "least" "[I") (by decide +kernel)
  have hn := hI.n
  have hti := hI.t
  refine wi_iconst hx hb dX4_heldShare_0 ?_
  refine lv_istore_n (lv' := [(1, .int (iI (0))), (0, .ref (x 0))]) hx hb dX4_heldShare_1 rfl hl (by decide) rfl (fun ls hl => ?_)
  refine wi_iconst hx hb dX4_heldShare_2 ?_
  refine lv_istore_n (lv' := [(2, .int (iI (0))), (1, .int (iI (0))), (0, .ref (x 0))]) hx hb dX4_heldShare_3 rfl hl (by decide) rfl (fun ls hl => ?_)
  refine wi_iconst hx hb dX4_heldShare_4 ?_
  refine lv_istore_n (lv' := [(3, .int (iI (0))), (2, .int (iI (0))), (1, .int (iI (0))), (0, .ref (x 0))]) hx hb dX4_heldShare_5 rfl hl (by decide) rfl (fun ls hl => ?_)
  have L6 : ∀ (k6 : Nat), ∀ (g : Int) (k : Int) (c : Int), (4 - c).toNat < k6 → (0 ≤ c ∧ c ≤ 4) → (g = sm (fun c => highS σ c - lowS σ c (σ 0 0)) c.toNat) → (k = sm (fun c => σ 4 c - σ 3 c) c.toNat) → ∀ (ls : Array Slot), lv_has ls 4 [(3, .int (iI (c))), (2, .int (iI (k))), (1, .int (iI (g))), (0, .ref (x 0))] → W p9 l e9 ({ frames := 3, cells := 0, slots := 0, locals := 69 } : Room) s m ([.ref (x 0)] : List Value).toArray below9 meth9 c9 s.heap [] 0 0 (MQ below9 (vp_Sd (fun r => r = shrS σ)) ([.ref (x 0)] : List Value).toArray s 0 0 (fun _ => False)) (F0 m 6 ls []) := by
    intro k6
    induction k6 with
    | zero =>
      intro g k c hm
      exact absurd hm (Nat.not_lt_zero _)
    | succ k6 ih6 =>
      intro g k c hm6 hp ha1 ha2 ls hl
      refine lv_iload_n hx hb dX4_heldShare_6 rfl (lv_at hl 0 rfl) ?_
      refine wi_iconst hx hb dX4_heldShare_7 ?_
      refine wi_icmp_ge (tgt := 59) hx hb dX4_heldShare_8 (by decide) (by omega) (fun c_8 => ?_) (fun c_8 => ?_)
      · skip
        have hE1 : g = hldS σ := by rw [ha1, show c = 4 by omega]; rfl
        have hE2 : k = romS σ := by rw [ha2, show c = 4 by omega]; rfl
        have hhr := hld_r hI
        refine lv_iload_n hx hb dX4_heldShare_59 rfl (lv_at hl 1 rfl) ?_
        refine wi_if_ne (tgt := 67) hx hb dX4_heldShare_60 (by decide) (by omega) (fun c_60 => ?_) (fun c_60 => ?_)
        · skip
          refine lv_iload_n hx hb dX4_heldShare_67 rfl (lv_at hl 2 rfl) ?_
          refine lv_i2d hx hb dX4_heldShare_68 ?_
          refine lv_iload_n hx hb dX4_heldShare_69 rfl (lv_at hl 1 rfl) ?_
          refine lv_i2d hx hb dX4_heldShare_70 ?_
          refine lv_ddiv hx hb dX4_heldShare_71 (shr_n64 hI hE1 hE2 (by omega)) ?_
          exact W.dret (v := (FP.ddiv (FP.i2d (iI (g))) (FP.i2d (iI (k))))) hx hb hr (fun t9 ht9 hW9 => ⟨((FP.ddiv (FP.i2d (iI (g))) (FP.i2d (iI (k))))), rfl, (by unfold shrS; rw [← hE1, ← hE2]; unfold shD; first | rw [if_pos (by omega)] | rw [if_neg (by omega)]), ht9⟩) (fun _ h => nomatch h) dX4_heldShare_72 hlocks
        · skip
          refine lv_dconst0 hx hb dX4_heldShare_63 ?_
          refine lv_goto (tgt := 72) hx hb dX4_heldShare_64 (by decide) ?_
          exact W.dret (v := FP.dconst0) hx hb hr (fun t9 ht9 hW9 => ⟨(FP.dconst0), rfl, (by unfold shrS; rw [← hE1, ← hE2]; unfold shD; first | rw [if_pos (by omega)] | rw [if_neg (by omega)]), ht9⟩) (fun _ h => nomatch h) dX4_heldShare_72 hlocks
      · skip
        have hcc := hI.c (c := c) (by omega) (by omega)
        refine lv_iload_n hx hb dX4_heldShare_11 rfl (lv_at hl 2 rfl) ?_
        refine lv_aload_n hx hb dX4_heldShare_12 rfl (lv_at hl 3 rfl) ?_
        refine va_get (D := D) (ci := 4) (v := .ref (a 0)) (C := RX4) (T := TX4) (N := 6) hx hb hts hin_X4 hown hK hP 0 rfl rfl 0 (by decide) hw_0 (fun _ h9 => h9) rfl dX4_heldShare_13 ?_
        refine lv_iload_n hx hb dX4_heldShare_16 rfl (lv_at hl 0 rfl) ?_
        have hPc := fl_P (S' := [stW cI a σ]) hP [1] rfl
        have hKc := hK.sub (tys' := [(cI, FieldType.int)]) [0] rfl
        refine wr_calli (va_runV (As := [.int (iI (c))]) (rest := [.int (iI (g))]) ⟨hx, hb, hml, hown, hts⟩ (c_X3_highOf l D cI cO cC cL a σ (c) (by omega) (hI)) (cwV 1 hts gX4_heldShare_X3_highOf rfl rfl rfl (by decide +kernel) ⟨Nat.le_of_ble_eq_true rfl, Nat.le_of_ble_eq_true rfl⟩) ⟨pcR_blind, va_recv hKc hPc (ci := 3) (q0 := 0) rfl rfl, pcR_of hPc hKc⟩ rfl rfl hl.1 rfl (lv_room (Nat.le_of_ble_eq_true rfl)) dX4_heldShare_17 ⟨(Nat.zero_le _), (Nat.zero_le _)⟩) (fun r1 hr1 => ?_)
        subst hr1
        refine lv_aload_n hx hb dX4_heldShare_20 rfl (lv_at hl 3 rfl) ?_
        refine va_get (D := D) (ci := 4) (v := .ref (a 0)) (C := RX4) (T := TX4) (N := 6) hx hb hts hin_X4 hown hK hP 0 rfl rfl 0 (by decide) hw_0 (fun _ h9 => h9) rfl dX4_heldShare_21 ?_
        refine lv_iload_n hx hb dX4_heldShare_24 rfl (lv_at hl 0 rfl) ?_
        have hPc := fl_P (S' := [stW cI a σ]) hP [1] rfl
        have hKc := hK.sub (tys' := [(cI, FieldType.int)]) [0] rfl
        refine wr_calli (va_runV (As := [.int (iI (c))]) (rest := [.int (iI ((highS σ (c)))), .int (iI (g))]) ⟨hx, hb, hml, hown, hts⟩ (c_X3_lowOf l D cI cO cC cL a σ (c) (by omega) (hI)) (cwV 1 hts gX4_heldShare_X3_lowOf rfl rfl rfl (by decide +kernel) ⟨Nat.le_of_ble_eq_true rfl, Nat.le_of_ble_eq_true rfl⟩) ⟨pcR_blind, va_recv hKc hPc (ci := 3) (q0 := 0) rfl rfl, pcR_of hPc hKc⟩ rfl rfl hl.1 rfl (lv_room (Nat.le_of_ble_eq_true rfl)) dX4_heldShare_25 ⟨(Nat.zero_le _), (Nat.zero_le _)⟩) (fun r2 hr2 => ?_)
        subst hr2
        refine wi_isub hx hb dX4_heldShare_28 ?_
        refine wi_iadd hx hb dX4_heldShare_29 ?_
        refine lv_istore_n (lv' := [(1, .int (iI ((g + ((highS σ (c)) - (lowS σ (c) (σ 0 0))))))), (3, .int (iI (c))), (2, .int (iI (k))), (0, .ref (x 0))]) hx hb dX4_heldShare_30 rfl hl (by decide) rfl (fun ls hl => ?_)
        refine lv_iload_n hx hb dX4_heldShare_31 rfl (lv_at hl 2 rfl) ?_
        refine lv_aload_n hx hb dX4_heldShare_32 rfl (lv_at hl 3 rfl) ?_
        refine va_get (D := D) (ci := 4) (v := .ref (a 0)) (C := RX4) (T := TX4) (N := 6) hx hb hts hin_X4 hown hK hP 0 rfl rfl 0 (by decide) hw_0 (fun _ h9 => h9) rfl dX4_heldShare_33 ?_
        refine va_get (D := D) (ci := 3) (v := .ref (a 4)) (C := RX3) (T := TX3) (N := 15) hx hb hts hin_X3 hown hK hP 1 rfl rfl 6 (by decide) hw_1 (fun _ h9 => h9) rfl dX4_heldShare_36 ?_
        refine lv_iload_n hx hb dX4_heldShare_39 rfl (lv_at hl 1 rfl) ?_
        refine wi_iald hx hb hK hP 5 0 (n := 4) (f := σ 4) rfl rfl (i := c) (by omega) (by decide) dX4_heldShare_40 ?_
        refine lv_aload_n hx hb dX4_heldShare_41 rfl (lv_at hl 3 rfl) ?_
        refine va_get (D := D) (ci := 4) (v := .ref (a 0)) (C := RX4) (T := TX4) (N := 6) hx hb hts hin_X4 hown hK hP 0 rfl rfl 0 (by decide) hw_0 (fun _ h9 => h9) rfl dX4_heldShare_42 ?_
        refine va_get (D := D) (ci := 3) (v := .ref (a 3)) (C := RX3) (T := TX3) (N := 15) hx hb hts hin_X3 hown hK hP 1 rfl rfl 5 (by decide) hw_2 (fun _ h9 => h9) rfl dX4_heldShare_45 ?_
        refine lv_iload_n hx hb dX4_heldShare_48 rfl (lv_at hl 1 rfl) ?_
        refine wi_iald hx hb hK hP 4 0 (n := 4) (f := σ 3) rfl rfl (i := c) (by omega) (by decide) dX4_heldShare_49 ?_
        refine wi_isub hx hb dX4_heldShare_50 ?_
        refine wi_iadd hx hb dX4_heldShare_51 ?_
        refine lv_istore_n (lv' := [(2, .int (iI ((k + ((σ 4 (c)) - (σ 3 (c))))))), (1, .int (iI ((g + ((highS σ (c)) - (lowS σ (c) (σ 0 0))))))), (3, .int (iI (c))), (0, .ref (x 0))]) hx hb dX4_heldShare_52 rfl hl (by decide) rfl (fun ls hl => ?_)
        refine wi_iinc (lv' := [(3, .int (iI ((c + 1)))), (2, .int (iI ((k + ((σ 4 (c)) - (σ 3 (c))))))), (1, .int (iI ((g + ((highS σ (c)) - (lowS σ (c) (σ 0 0))))))), (0, .ref (x 0))]) hx hb dX4_heldShare_53 hl (k := 2) rfl (by decide) rfl (fun ls hl => ?_)
        refine lv_goto (tgt := 6) hx hb dX4_heldShare_56 (by decide) ?_
        exact ih6 ((g + ((highS σ (c)) - (lowS σ (c) (σ 0 0))))) ((k + ((σ 4 (c)) - (σ 3 (c))))) ((c + 1)) (by omega) (by omega) (by rw [sm_step (by omega)]; omega) (by rw [sm_step (by omega)]; omega)  ls (lv_sub hl [0, 1, 2, 3] rfl)
  exact L6 _ (0) (0) (0) (Nat.lt_succ_self _) (by omega) (rfl) (rfl)  ls (lv_sub hl [0, 1, 2, 3] rfl)
set_option maxHeartbeats 4000000 in
set_option maxRecDepth 100000 in
theorem c_X4_mixed (l : Launch) (D : va_G) (cI cO cC cL : ClassId) (h v : Int64)  : Met l yX4_mixed wsX4_mixed ({ frames := 0, cells := 0, slots := 0, locals := 0 } : Room) (va_Pc [.long (h), .long (v)] (fun _ => True)) (vp_Sl (fun r => r = mixL h v)) 0 0 (fun _ => False) := by
  refine Met.ofW (cc := cX4_mixed) (maxL := 4) (ret := (some .long)) (by decide) rfl ?_
  intro p9 e9 s m args9 below9 meth9 c9 s₁ B hml hv
  obtain ⟨rfl, -⟩ := hv
  have hx := B.exec
  have hb := B.bytes
  have hr := B.returns
  have hts := atoms_spec (ws := wsX4_mixed) B.pre
  have hown : s.vm.findClass RX4 = some m.cls := findClass_of_methodNamed B.named
  have hlocks := B.notSynchronized
  have hl := lv_entry ([.long (h), .long (v)]) (n := 4) (Nat.le_of_ble_eq_true rfl)
  rw [lg_entry_eq]
  generalize (lg_sl ([.long (h), .long (v)]) ++ List.replicate (4 - (lg_sl ([.long (h), .long (v)])).length) Slot.unset).toArray = ls at hl ⊢
  have hl : lv_has ls 4 [(0, .long (h)), (2, .long (v))] := hl
  have hw_0 := hts (Cond.constantLong RX4 283 (31)) (by decide +kernel)
  refine lv_ldc2 hx hb hown hw_0 dX4_mixed_0 ?_
  refine lv_lload_n hx hb dX4_mixed_3 rfl (lv_at hl 0 rfl) ?_
  refine lv_lmul hx hb dX4_mixed_4 ?_
  refine lv_lload_n hx hb dX4_mixed_5 rfl (lv_at hl 1 rfl) ?_
  refine lv_ladd hx hb dX4_mixed_6 ?_
  exact W.lret (v := (((31 : Int64) * h) + v)) hx hb hr (fun t9 ht9 hW9 => ⟨((((31 : Int64) * h) + v)), rfl, (rfl), ht9⟩) (fun _ h => nomatch h) dX4_mixed_7 hlocks
set_option maxHeartbeats 4000000 in
set_option maxRecDepth 100000 in
theorem c_X4_mixedCounters (l : Launch) (D : va_G) (cI cO cC cL : ClassId) (sz : Nat) (x a sv o rd bu : Nat → Nat) (ln σ : Nat → Int → Int) (φ : Nat → Int → Int) (h : Int64) (hI : Inv σ) : Met l yX4_mixedCounters wsX4_mixedCounters ({ frames := 8, cells := 0, slots := 0, locals := 165 } : Room) (pcW D [(cI, FieldType.int), (cO, FieldType.object "PromisedCounters$State"), (cC, FieldType.char)] [.ref (x 0), .long (h)] (fl [mnW x a sv o rd bu ln, stW cI a σ, ocW cI o φ]) sz) (va_Ql (fun (r : Int64) (θ : Nat → Int → Int) => r = dCtr σ h) (fun (θ : Nat → Int → Int) => (bW D [(cI, FieldType.int), (cO, FieldType.object "PromisedCounters$State"), (cC, FieldType.char)] (fl [mnW x a sv o rd bu ln, stW cI a σ, ocW cI o θ]) (va_A (fl [mnW x a sv o rd bu ln, stW cI a σ, ocW cI o φ]) sz))) (va_A (fl [mnW x a sv o rd bu ln, stW cI a σ, ocW cI o φ]) sz)) 0 0 (va_A (fl [mnW x a sv o rd bu ln, stW cI a σ, ocW cI o φ]) sz) := by
  refine Met.ofW (cc := cX4_mixedCounters) (maxL := 7) (ret := (some .long)) (by decide) rfl ?_
  intro p9 e9 s m args9 below9 meth9 c9 s₁ B hml hv
  obtain ⟨rfl, hsz, hP, hK, hD0⟩ := hv
  have hx := B.exec
  have hb := B.bytes
  have hr := B.returns
  have hts := atoms_spec (ws := wsX4_mixedCounters) B.pre
  have hown : s.vm.findClass RX4 = some m.cls := findClass_of_methodNamed B.named
  have hlocks := B.notSynchronized
  subst hsz
  have hD := hD0.self (sz := s.heap.size)
  generalize hAe : va_A (fl [mnW x a sv o rd bu ln, stW cI a σ, ocW cI o φ]) s.heap.size = A at hD ⊢
  have hA : ∀ q : Nat, s.heap.size ≤ q → A q := fun q h => by rw [← hAe]; exact Or.inr h
  have hS : va_S A s.heap s.heap [] := va_S.rf
  have hP : va_P D vwCl (fl [mnW x a sv o rd bu ln, stW cI a σ, ocW cI o φ]) s.heap := hP
  have hl := lv_entry ([.ref (x 0), .long (h)]) (n := 7) (Nat.le_of_ble_eq_true rfl)
  rw [lg_entry_eq]
  generalize (lg_sl ([.ref (x 0), .long (h)]) ++ List.replicate (7 - (lg_sl ([.ref (x 0), .long (h)])).length) Slot.unset).toArray = ls at hl ⊢
  have hl : lv_has ls 7 [(0, .ref (x 0)), (1, .long (h))] := hl
  have hn := hI.n
  have hti := hI.t
  refine lv_lload_n hx hb dX4_mixedCounters_0 rfl (lv_at hl 1 rfl) ?_
  refine lv_lstore_n (lv' := [(3, .long (h)), (0, .ref (x 0)), (1, .long (h))]) hx hb dX4_mixedCounters_1 rfl hl (by decide) rfl (fun ls hl => ?_)
  refine wi_iconst hx hb dX4_mixedCounters_2 ?_
  refine lv_istore (lv' := [(5, .int (iI (0))), (3, .long (h)), (0, .ref (x 0)), (1, .long (h))]) hx hb dX4_mixedCounters_3 hl (by decide) rfl (fun ls hl => ?_)
  have L5 : ∀ (k5 : Nat), ∀ (c : Int) (acc : Int64) (ψ : Nat → Int → Int), (4 - c).toNat < k5 → (0 ≤ c ∧ c ≤ 4) → (acc = itL (dCt1 σ) c.toNat (h)) → ∀ (H : Heap) (locs : List Loc), va_P D vwCl (fl [mnW x a sv o rd bu ln, stW cI a σ, ocW cI o ψ]) H → va_D A (fl [mnW x a sv o rd bu ln, stW cI a σ, ocW cI o ψ]) → va_S A s.heap H locs → ∀ (ls : Array Slot), lv_has ls 7 [(5, .int (iI (c))), (3, .long (acc)), (0, .ref (x 0)), (1, .long (h))] → W p9 l e9 ({ frames := 8, cells := 0, slots := 0, locals := 165 } : Room) s m ([.ref (x 0), .long (h)] : List Value).toArray below9 meth9 c9 H locs 0 0 (MQ below9 (va_Ql (fun (r : Int64) (θ : Nat → Int → Int) => r = dCtr σ h) (fun (θ : Nat → Int → Int) => (bW D [(cI, FieldType.int), (cO, FieldType.object "PromisedCounters$State"), (cC, FieldType.char)] (fl [mnW x a sv o rd bu ln, stW cI a σ, ocW cI o θ]) A)) A) ([.ref (x 0), .long (h)] : List Value).toArray s 0 0 A) (F0 m 5 ls []) := by
    intro k5
    induction k5 with
    | zero =>
      intro c acc ψ hm
      exact absurd hm (Nat.not_lt_zero _)
    | succ k5 ih5 =>
      intro c acc ψ hm5 hc hacc H locs hP hD hS ls hl
      refine lv_iload hx hb dX4_mixedCounters_5 (lv_at hl 0 rfl) ?_
      refine wi_iconst hx hb dX4_mixedCounters_7 ?_
      refine wi_icmp_ge (tgt := 88) hx hb dX4_mixedCounters_8 (by decide) (by omega) (fun c_8 => ?_) (fun c_8 => ?_)
      · skip
        refine lv_lload_n hx hb dX4_mixedCounters_88 rfl (lv_at hl 1 rfl) ?_
        exact W.lret (v := acc) hx hb hr (fun t9 ht9 hW9 => ⟨⟨(acc), ψ, rfl, (by rw [hacc, show c = 4 by omega]; rfl), ⟨by rw [ht9]; exact hP, va_K.moved hW9.alike hK, hD⟩⟩, hS.F ht9⟩) hS.2.2 dX4_mixedCounters_89 hlocks
      · skip
        refine wi_iconst hx hb dX4_mixedCounters_11 ?_
        refine lv_istore (lv' := [(6, .int (iI (0))), (5, .int (iI (c))), (3, .long (acc)), (0, .ref (x 0)), (1, .long (h))]) hx hb dX4_mixedCounters_12 hl (by decide) rfl (fun ls hl => ?_)
        have L14 : ∀ (k14 : Nat), ∀ (w : Int) (ac2 : Int64) (ω : Nat → Int → Int), (10 - w).toNat < k14 → (0 ≤ w ∧ w ≤ 10) → (ac2 = itL (fun w h => mixL h (iL (ctrS σ c w))) w.toNat (acc)) → ∀ (H : Heap) (locs : List Loc), va_P D vwCl (fl [mnW x a sv o rd bu ln, stW cI a σ, ocW cI o ω]) H → va_D A (fl [mnW x a sv o rd bu ln, stW cI a σ, ocW cI o ω]) → va_S A s.heap H locs → ∀ (ls : Array Slot), lv_has ls 7 [(6, .int (iI (w))), (5, .int (iI (c))), (3, .long (ac2)), (0, .ref (x 0)), (1, .long (h))] → W p9 l e9 ({ frames := 8, cells := 0, slots := 0, locals := 165 } : Room) s m ([.ref (x 0), .long (h)] : List Value).toArray below9 meth9 c9 H locs 0 0 (MQ below9 (va_Ql (fun (r : Int64) (θ : Nat → Int → Int) => r = dCtr σ h) (fun (θ : Nat → Int → Int) => (bW D [(cI, FieldType.int), (cO, FieldType.object "PromisedCounters$State"), (cC, FieldType.char)] (fl [mnW x a sv o rd bu ln, stW cI a σ, ocW cI o θ]) A)) A) ([.ref (x 0), .long (h)] : List Value).toArray s 0 0 A) (F0 m 14 ls []) := by
          intro k14
          induction k14 with
          | zero =>
            intro w ac2 ω hm
            exact absurd hm (Nat.not_lt_zero _)
          | succ k14 ih14 =>
            intro w ac2 ω hm14 hw hac2 H locs hP hD hS ls hl
            refine lv_iload hx hb dX4_mixedCounters_14 (lv_at hl 0 rfl) ?_
            refine wi_bipush hx hb dX4_mixedCounters_16 (by decide) ?_
            refine wi_icmp_gt (tgt := 41) hx hb dX4_mixedCounters_18 (by decide) (by omega) (fun c_18 => ?_) (fun c_18 => ?_)
            · skip
              refine lv_lload_n hx hb dX4_mixedCounters_41 rfl (lv_at hl 2 rfl) ?_
              refine lv_aload_n hx hb dX4_mixedCounters_42 rfl (lv_at hl 3 rfl) ?_
              refine lv_iload hx hb dX4_mixedCounters_43 (lv_at hl 1 rfl) ?_
              refine wi_iconst hx hb dX4_mixedCounters_45 ?_
              have hFc := fl_free (SC := [mnW x a sv o rd bu ln, stW cI a σ, ocW cI o ω]) hD hS hA [0, 1, 2] rfl
              refine wq_calli (va_runV (As := [.int (iI (c)), .int (iI (5))]) (rest := [.long (ac2)]) ⟨hx, hb, hml, hown, hts⟩ (c_X4_canBe l D cI cO cC cL H.size x a sv o rd bu ln σ ω (c) (5) (by omega) (by omega) (hI)) (cwV 2 hts gX4_mixedCounters_X4_canBe rfl rfl rfl (by decide +kernel) ⟨Nat.le_of_ble_eq_true rfl, Nat.le_of_ble_eq_true rfl⟩) ⟨pcW_blind, va_recv hK hP (ci := 4) (q0 := 0) rfl rfl, pcW_of hP hK hD⟩ rfl rfl hl.1 rfl (lv_room (Nat.le_of_ble_eq_true rfl)) dX4_mixedCounters_46 ⟨(Nat.zero_le _), (Nat.zero_le _)⟩) hS (fun q _ h => hFc q h) hFc (fun r1 u3 t9 H1 locs ht9 hvm hcl2 hB hz1 hk1 hS => ?_)
              obtain ⟨hP1, hK1, hD1⟩ := hB
              rw [ht9] at hP1
              obtain ⟨hP, hD⟩ := fl_join (SR := []) (S1 := [mnW x a sv o rd bu ln, stW cI a σ, ocW cI o u3]) hP hD [0, 1, 2] [] rfl rfl (by decide) (by decide) hk1 hFc hP1 hD1
              generalize H1 = H at hP hS ⊢
              have hP : va_P D vwCl (fl [mnW x a sv o rd bu ln, stW cI a σ, ocW cI o u3]) H := hP
              have hD : va_D A (fl [mnW x a sv o rd bu ln, stW cI a σ, ocW cI o u3]) := hD
              subst hcl2
              refine lv_i2l (v := iL ((fewS σ c 5))) hx hb dX4_mixedCounters_49 rfl ?_
              refine wr_calll (va_runS (As := [.long (ac2), .long ((iL ((fewS σ c 5))))]) (rest := []) ⟨hx, hb, hml, hown, hts⟩ (c_X4_mixed l D cI cO cC cL (ac2) ((iL ((fewS σ c 5)))) ) (cwS 2 hts gX4_mixedCounters_X4_mixed rfl rfl rfl (by decide +kernel) ⟨Nat.le_of_ble_eq_true rfl, Nat.le_of_ble_eq_true rfl⟩) ⟨fun _ _ _ _ h => h, fun U hU hW => ⟨rfl, trivial⟩⟩ rfl rfl hl.1 rfl (lv_room (Nat.le_of_ble_eq_true rfl)) dX4_mixedCounters_50 ⟨(Nat.zero_le _), (Nat.zero_le _)⟩) (fun r4 hr4 => ?_)
              subst hr4
              refine lv_lstore_n (lv' := [(3, .long ((mixL (ac2) ((iL ((fewS σ c 5))))))), (6, .int (iI (w))), (5, .int (iI (c))), (0, .ref (x 0)), (1, .long (h))]) hx hb dX4_mixedCounters_53 rfl hl (by decide) rfl (fun ls hl => ?_)
              refine lv_lload_n hx hb dX4_mixedCounters_54 rfl (lv_at hl 0 rfl) ?_
              refine lv_aload_n hx hb dX4_mixedCounters_55 rfl (lv_at hl 3 rfl) ?_
              refine wi_iconst hx hb dX4_mixedCounters_56 ?_
              refine lv_iload hx hb dX4_mixedCounters_57 (lv_at hl 2 rfl) ?_
              refine wi_iconst hx hb dX4_mixedCounters_59 ?_
              have hPc := fl_P (S' := [mnW x a sv o rd bu ln, stW cI a σ]) hP [0, 1] rfl
              refine wr_calli (va_runV (As := [.int (iI (0)), .int (iI (c)), .int (iI (1))]) (rest := [.long ((mixL (ac2) ((iL ((fewS σ c 5))))))]) ⟨hx, hb, hml, hown, hts⟩ (c_X4_mostFor l D cI cO cC cL x a sv o rd bu ln σ (0) (c) (1) (by omega) (by omega) (by omega) (hI)) (cwV 3 hts gX4_mixedCounters_X4_mostFor rfl rfl rfl (by decide +kernel) ⟨Nat.le_of_ble_eq_true rfl, Nat.le_of_ble_eq_true rfl⟩) ⟨pcR_blind, va_recv hK hPc (ci := 4) (q0 := 0) rfl rfl, pcR_of hPc hK⟩ rfl rfl hl.1 rfl (lv_room (Nat.le_of_ble_eq_true rfl)) dX4_mixedCounters_60 ⟨(Nat.zero_le _), (Nat.zero_le _)⟩) (fun r5 hr5 => ?_)
              subst hr5
              refine lv_i2l (v := iL ((mostS σ (0) (c) (1)))) hx hb dX4_mixedCounters_63 rfl ?_
              refine wr_calll (va_runS (As := [.long ((mixL (ac2) ((iL ((fewS σ c 5)))))), .long ((iL ((mostS σ (0) (c) (1)))))]) (rest := []) ⟨hx, hb, hml, hown, hts⟩ (c_X4_mixed l D cI cO cC cL ((mixL (ac2) ((iL ((fewS σ c 5)))))) ((iL ((mostS σ (0) (c) (1))))) ) (cwS 2 hts gX4_mixedCounters_X4_mixed rfl rfl rfl (by decide +kernel) ⟨Nat.le_of_ble_eq_true rfl, Nat.le_of_ble_eq_true rfl⟩) ⟨fun _ _ _ _ h => h, fun U hU hW => ⟨rfl, trivial⟩⟩ rfl rfl hl.1 rfl (lv_room (Nat.le_of_ble_eq_true rfl)) dX4_mixedCounters_64 ⟨(Nat.zero_le _), (Nat.zero_le _)⟩) (fun r6 hr6 => ?_)
              subst hr6
              refine lv_lstore_n (lv' := [(3, .long ((mixL ((mixL (ac2) ((iL ((fewS σ c 5)))))) ((iL ((mostS σ (0) (c) (1)))))))), (6, .int (iI (w))), (5, .int (iI (c))), (0, .ref (x 0)), (1, .long (h))]) hx hb dX4_mixedCounters_67 rfl hl (by decide) rfl (fun ls hl => ?_)
              refine lv_lload_n hx hb dX4_mixedCounters_68 rfl (lv_at hl 0 rfl) ?_
              refine lv_aload_n hx hb dX4_mixedCounters_69 rfl (lv_at hl 3 rfl) ?_
              refine wi_iconst hx hb dX4_mixedCounters_70 ?_
              refine lv_iload hx hb dX4_mixedCounters_71 (lv_at hl 2 rfl) ?_
              refine wi_iconst hx hb dX4_mixedCounters_73 ?_
              have hPc := fl_P (S' := [mnW x a sv o rd bu ln, stW cI a σ]) hP [0, 1] rfl
              refine wr_calli (va_runV (As := [.int (iI (0)), .int (iI (c)), .int (iI (0))]) (rest := [.long ((mixL ((mixL (ac2) ((iL ((fewS σ c 5)))))) ((iL ((mostS σ (0) (c) (1)))))))]) ⟨hx, hb, hml, hown, hts⟩ (c_X4_mostFor l D cI cO cC cL x a sv o rd bu ln σ (0) (c) (0) (by omega) (by omega) (by omega) (hI)) (cwV 3 hts gX4_mixedCounters_X4_mostFor rfl rfl rfl (by decide +kernel) ⟨Nat.le_of_ble_eq_true rfl, Nat.le_of_ble_eq_true rfl⟩) ⟨pcR_blind, va_recv hK hPc (ci := 4) (q0 := 0) rfl rfl, pcR_of hPc hK⟩ rfl rfl hl.1 rfl (lv_room (Nat.le_of_ble_eq_true rfl)) dX4_mixedCounters_74 ⟨(Nat.zero_le _), (Nat.zero_le _)⟩) (fun r7 hr7 => ?_)
              subst hr7
              refine lv_i2l (v := iL ((mostS σ (0) (c) (0)))) hx hb dX4_mixedCounters_77 rfl ?_
              refine wr_calll (va_runS (As := [.long ((mixL ((mixL (ac2) ((iL ((fewS σ c 5)))))) ((iL ((mostS σ (0) (c) (1))))))), .long ((iL ((mostS σ (0) (c) (0)))))]) (rest := []) ⟨hx, hb, hml, hown, hts⟩ (c_X4_mixed l D cI cO cC cL ((mixL ((mixL (ac2) ((iL ((fewS σ c 5)))))) ((iL ((mostS σ (0) (c) (1))))))) ((iL ((mostS σ (0) (c) (0))))) ) (cwS 2 hts gX4_mixedCounters_X4_mixed rfl rfl rfl (by decide +kernel) ⟨Nat.le_of_ble_eq_true rfl, Nat.le_of_ble_eq_true rfl⟩) ⟨fun _ _ _ _ h => h, fun U hU hW => ⟨rfl, trivial⟩⟩ rfl rfl hl.1 rfl (lv_room (Nat.le_of_ble_eq_true rfl)) dX4_mixedCounters_78 ⟨(Nat.zero_le _), (Nat.zero_le _)⟩) (fun r8 hr8 => ?_)
              subst hr8
              refine lv_lstore_n (lv' := [(3, .long ((mixL ((mixL ((mixL (ac2) ((iL ((fewS σ c 5)))))) ((iL ((mostS σ (0) (c) (1))))))) ((iL ((mostS σ (0) (c) (0)))))))), (6, .int (iI (w))), (5, .int (iI (c))), (0, .ref (x 0)), (1, .long (h))]) hx hb dX4_mixedCounters_81 rfl hl (by decide) rfl (fun ls hl => ?_)
              refine wi_iinc (lv' := [(5, .int (iI ((c + 1)))), (3, .long ((mixL ((mixL ((mixL (ac2) ((iL ((fewS σ c 5)))))) ((iL ((mostS σ (0) (c) (1))))))) ((iL ((mostS σ (0) (c) (0)))))))), (6, .int (iI (w))), (0, .ref (x 0)), (1, .long (h))]) hx hb dX4_mixedCounters_82 hl (k := 2) rfl (by decide) rfl (fun ls hl => ?_)
              refine lv_goto (tgt := 5) hx hb dX4_mixedCounters_85 (by decide) ?_
              exact ih5 ((c + 1)) ((mixL ((mixL ((mixL (ac2) ((iL ((fewS σ c 5)))))) ((iL ((mostS σ (0) (c) (1))))))) ((iL ((mostS σ (0) (c) (0))))))) (u3) (by omega) (by omega) (by rw [itL_s (by omega), ← hacc]; unfold dCt1; rw [show (10 : Nat) = (w : Int).toNat from (by omega), ← hac2]) _ _ hP hD hS ls (lv_sub hl [0, 1, 3, 4] rfl)
            · skip
              refine lv_lload_n hx hb dX4_mixedCounters_21 rfl (lv_at hl 2 rfl) ?_
              refine lv_aload_n hx hb dX4_mixedCounters_22 rfl (lv_at hl 3 rfl) ?_
              refine lv_iload hx hb dX4_mixedCounters_23 (lv_at hl 1 rfl) ?_
              refine lv_iload hx hb dX4_mixedCounters_25 (lv_at hl 0 rfl) ?_
              have hFc := fl_free (SC := [mnW x a sv o rd bu ln, stW cI a σ, ocW cI o ω]) hD hS hA [0, 1, 2] rfl
              refine wq_calli (va_runV (As := [.int (iI (c)), .int (iI (w))]) (rest := [.long (ac2)]) ⟨hx, hb, hml, hown, hts⟩ (c_X4_counter l D cI cO cC cL H.size x a sv o rd bu ln σ ω (c) (w) (by omega) (by omega) (hI)) (cwV 2 hts gX4_mixedCounters_X4_counter rfl rfl rfl (by decide +kernel) ⟨Nat.le_of_ble_eq_true rfl, Nat.le_of_ble_eq_true rfl⟩) ⟨pcW_blind, va_recv hK hP (ci := 4) (q0 := 0) rfl rfl, pcW_of hP hK hD⟩ rfl rfl hl.1 rfl (lv_room (Nat.le_of_ble_eq_true rfl)) dX4_mixedCounters_27 ⟨(Nat.zero_le _), (Nat.zero_le _)⟩) hS (fun q _ h => hFc q h) hFc (fun r9 u11 t9 H1 locs ht9 hvm hcl10 hB hz1 hk1 hS => ?_)
              obtain ⟨hP1, hK1, hD1⟩ := hB
              rw [ht9] at hP1
              obtain ⟨hP, hD⟩ := fl_join (SR := []) (S1 := [mnW x a sv o rd bu ln, stW cI a σ, ocW cI o u11]) hP hD [0, 1, 2] [] rfl rfl (by decide) (by decide) hk1 hFc hP1 hD1
              generalize H1 = H at hP hS ⊢
              have hP : va_P D vwCl (fl [mnW x a sv o rd bu ln, stW cI a σ, ocW cI o u11]) H := hP
              have hD : va_D A (fl [mnW x a sv o rd bu ln, stW cI a σ, ocW cI o u11]) := hD
              subst hcl10
              refine lv_i2l (v := iL ((ctrS σ c w))) hx hb dX4_mixedCounters_30 rfl ?_
              refine wr_calll (va_runS (As := [.long (ac2), .long ((iL ((ctrS σ c w))))]) (rest := []) ⟨hx, hb, hml, hown, hts⟩ (c_X4_mixed l D cI cO cC cL (ac2) ((iL ((ctrS σ c w)))) ) (cwS 2 hts gX4_mixedCounters_X4_mixed rfl rfl rfl (by decide +kernel) ⟨Nat.le_of_ble_eq_true rfl, Nat.le_of_ble_eq_true rfl⟩) ⟨fun _ _ _ _ h => h, fun U hU hW => ⟨rfl, trivial⟩⟩ rfl rfl hl.1 rfl (lv_room (Nat.le_of_ble_eq_true rfl)) dX4_mixedCounters_31 ⟨(Nat.zero_le _), (Nat.zero_le _)⟩) (fun r12 hr12 => ?_)
              subst hr12
              refine lv_lstore_n (lv' := [(3, .long ((mixL (ac2) ((iL ((ctrS σ c w))))))), (6, .int (iI (w))), (5, .int (iI (c))), (0, .ref (x 0)), (1, .long (h))]) hx hb dX4_mixedCounters_34 rfl hl (by decide) rfl (fun ls hl => ?_)
              refine wi_iinc (lv' := [(6, .int (iI ((w + 1)))), (3, .long ((mixL (ac2) ((iL ((ctrS σ c w))))))), (5, .int (iI (c))), (0, .ref (x 0)), (1, .long (h))]) hx hb dX4_mixedCounters_35 hl (k := 1) rfl (by decide) rfl (fun ls hl => ?_)
              refine lv_goto (tgt := 14) hx hb dX4_mixedCounters_38 (by decide) ?_
              exact ih14 ((w + 1)) ((mixL (ac2) ((iL ((ctrS σ c w)))))) (u11) (by omega) (by omega) (by rw [itL_s (by omega), ← hac2]) _ _ hP hD hS ls (lv_sub hl [0, 2, 1, 3, 4] rfl)
        exact L14 _ (0) (acc) (ψ) (Nat.lt_succ_self _) (by omega) (itL_0 _ _) _ _ hP hD hS ls (lv_sub hl [0, 1, 2, 3, 4] rfl)
  exact L5 _ (0) (h) (φ) (Nat.lt_succ_self _) (by omega) (itL_0 _ _) _ _ hP hD hS ls (lv_sub hl [0, 1, 2, 3] rfl)
set_option maxHeartbeats 4000000 in
set_option maxRecDepth 100000 in
theorem c_X4_mixedPromises (l : Launch) (D : va_G) (cI cO cC cL : ClassId) (x a sv o rd bu : Nat → Nat) (ln σ : Nat → Int → Int) (h : Int64) (hI : Inv σ) : Met l yX4_mixedPromises wsX4_mixedPromises ({ frames := 8, cells := 0, slots := 0, locals := 164 } : Room) (pcR D [(cI, FieldType.int), (cO, FieldType.object "PromisedCounters$State"), (cC, FieldType.char)] [.ref (x 0), .long (h)] (fl [mnW x a sv o rd bu ln, stW cI a σ])) (vp_Sl (fun r => r = dPrm σ h)) 0 0 (fun _ => False) := by
  refine Met.ofW (cc := cX4_mixedPromises) (maxL := 7) (ret := (some .long)) (by decide) rfl ?_
  intro p9 e9 s m args9 below9 meth9 c9 s₁ B hml hv
  obtain ⟨rfl, hP, hK⟩ := hv
  have hx := B.exec
  have hb := B.bytes
  have hr := B.returns
  have hts := atoms_spec (ws := wsX4_mixedPromises) B.pre
  have hown : s.vm.findClass RX4 = some m.cls := findClass_of_methodNamed B.named
  have hlocks := B.notSynchronized
  have hl := lv_entry ([.ref (x 0), .long (h)]) (n := 7) (Nat.le_of_ble_eq_true rfl)
  rw [lg_entry_eq]
  generalize (lg_sl ([.ref (x 0), .long (h)]) ++ List.replicate (7 - (lg_sl ([.ref (x 0), .long (h)])).length) Slot.unset).toArray = ls at hl ⊢
  have hl : lv_has ls 7 [(0, .ref (x 0)), (1, .long (h))] := hl
  have hw_0 := hts (.fieldLink RX4 10 "PromisedCounters" "state" "LPromisedCounters$State;") (by decide +kernel)
  have hin_X4 : ∀ w ∈ u_ws RX4 TX4 6, w ∈ wsX4_mixedPromises := by decide +kernel
  have hw_1 := hts (.fieldLink RX4 98 "PromisedCounters$State" "promises" "I") (by decide +kernel)
  have hin_X3 : ∀ w ∈ u_ws RX3 TX3 15, w ∈ wsX4_mixedPromises := by decide +kernel
  have hn := hI.n
  have hti := hI.t
  refine lv_lload_n hx hb dX4_mixedPromises_0 rfl (lv_at hl 1 rfl) ?_
  refine lv_lstore_n (lv' := [(3, .long (h)), (0, .ref (x 0)), (1, .long (h))]) hx hb dX4_mixedPromises_1 rfl hl (by decide) rfl (fun ls hl => ?_)
  refine wi_iconst hx hb dX4_mixedPromises_2 ?_
  refine lv_istore (lv' := [(5, .int (iI (0))), (3, .long (h)), (0, .ref (x 0)), (1, .long (h))]) hx hb dX4_mixedPromises_3 hl (by decide) rfl (fun ls hl => ?_)
  have L5 : ∀ (k5 : Nat), ∀ (p : Int) (acc : Int64), (σ 0 1 - p).toNat < k5 → (0 ≤ p ∧ p ≤ σ 0 1) → (acc = itL (dPr1 σ) p.toNat (h)) → ∀ (ls : Array Slot), lv_has ls 7 [(5, .int (iI (p))), (3, .long (acc)), (0, .ref (x 0)), (1, .long (h))] → W p9 l e9 ({ frames := 8, cells := 0, slots := 0, locals := 164 } : Room) s m ([.ref (x 0), .long (h)] : List Value).toArray below9 meth9 c9 s.heap [] 0 0 (MQ below9 (vp_Sl (fun r => r = dPrm σ h)) ([.ref (x 0), .long (h)] : List Value).toArray s 0 0 (fun _ => False)) (F0 m 5 ls []) := by
    intro k5
    induction k5 with
    | zero =>
      intro p acc hm
      exact absurd hm (Nat.not_lt_zero _)
    | succ k5 ih5 =>
      intro p acc hm5 hp hacc ls hl
      refine lv_iload hx hb dX4_mixedPromises_5 (lv_at hl 0 rfl) ?_
      refine lv_aload_n hx hb dX4_mixedPromises_7 rfl (lv_at hl 2 rfl) ?_
      refine va_get (D := D) (ci := 4) (v := .ref (a 0)) (C := RX4) (T := TX4) (N := 6) hx hb hts hin_X4 hown hK hP 0 rfl rfl 0 (by decide) hw_0 (fun _ h9 => h9) rfl dX4_mixedPromises_8 ?_
      refine va_get (D := D) (ci := 3) (v := .int (iI ((σ 0 1)))) (C := RX3) (T := TX3) (N := 15) hx hb hts hin_X3 hown hK hP 1 rfl rfl 1 (by decide) hw_1 (fun _ h9 => h9) rfl dX4_mixedPromises_11 ?_
      refine wi_icmp_ge (tgt := 52) hx hb dX4_mixedPromises_14 (by decide) (by omega) (fun c_14 => ?_) (fun c_14 => ?_)
      · skip
        refine lv_lload_n hx hb dX4_mixedPromises_52 rfl (lv_at hl 1 rfl) ?_
        exact W.lret (v := acc) hx hb hr (fun t9 ht9 hW9 => ⟨(acc), rfl, (by rw [hacc, show p = σ 0 1 by omega]; rfl), ht9⟩) (fun _ h => nomatch h) dX4_mixedPromises_53 hlocks
      · skip
        refine wi_iconst hx hb dX4_mixedPromises_17 ?_
        refine lv_istore (lv' := [(6, .int (iI (0))), (5, .int (iI (p))), (3, .long (acc)), (0, .ref (x 0)), (1, .long (h))]) hx hb dX4_mixedPromises_18 hl (by decide) rfl (fun ls hl => ?_)
        have L20 : ∀ (k20 : Nat), ∀ (w : Int) (ac2 : Int64), (6 - w).toNat < k20 → (0 ≤ w ∧ w ≤ 6) → (ac2 = itL (fun w h => mixL h (iL (prmS σ p w))) w.toNat (acc)) → ∀ (ls : Array Slot), lv_has ls 7 [(6, .int (iI (w))), (5, .int (iI (p))), (3, .long (ac2)), (0, .ref (x 0)), (1, .long (h))] → W p9 l e9 ({ frames := 8, cells := 0, slots := 0, locals := 164 } : Room) s m ([.ref (x 0), .long (h)] : List Value).toArray below9 meth9 c9 s.heap [] 0 0 (MQ below9 (vp_Sl (fun r => r = dPrm σ h)) ([.ref (x 0), .long (h)] : List Value).toArray s 0 0 (fun _ => False)) (F0 m 20 ls []) := by
          intro k20
          induction k20 with
          | zero =>
            intro w ac2 hm
            exact absurd hm (Nat.not_lt_zero _)
          | succ k20 ih20 =>
            intro w ac2 hm20 hw hac2 ls hl
            refine lv_iload hx hb dX4_mixedPromises_20 (lv_at hl 0 rfl) ?_
            refine wi_iconst hx hb dX4_mixedPromises_22 ?_
            refine wi_icmp_gt (tgt := 46) hx hb dX4_mixedPromises_23 (by decide) (by omega) (fun c_23 => ?_) (fun c_23 => ?_)
            · skip
              refine wi_iinc (lv' := [(5, .int (iI ((p + 1)))), (6, .int (iI (w))), (3, .long (ac2)), (0, .ref (x 0)), (1, .long (h))]) hx hb dX4_mixedPromises_46 hl (k := 1) rfl (by decide) rfl (fun ls hl => ?_)
              refine lv_goto (tgt := 5) hx hb dX4_mixedPromises_49 (by decide) ?_
              exact ih5 ((p + 1)) (ac2) (by omega) (by omega) (by rw [itL_s (by omega), ← hacc]; unfold dPr1; rw [show (6 : Nat) = (w : Int).toNat from (by omega), ← hac2])  ls (lv_sub hl [0, 2, 3, 4] rfl)
            · skip
              refine lv_lload_n hx hb dX4_mixedPromises_26 rfl (lv_at hl 2 rfl) ?_
              refine lv_aload_n hx hb dX4_mixedPromises_27 rfl (lv_at hl 3 rfl) ?_
              refine lv_iload hx hb dX4_mixedPromises_28 (lv_at hl 1 rfl) ?_
              refine lv_iload hx hb dX4_mixedPromises_30 (lv_at hl 0 rfl) ?_
              refine wr_calli (va_runV (As := [.int (iI (p)), .int (iI (w))]) (rest := [.long (ac2)]) ⟨hx, hb, hml, hown, hts⟩ (c_X4_promiseOf l D cI cO cC cL x a sv o rd bu ln σ (p) (w) (by omega) (by omega) (hI)) (cwV 2 hts gX4_mixedPromises_X4_promiseOf rfl rfl rfl (by decide +kernel) ⟨Nat.le_of_ble_eq_true rfl, Nat.le_of_ble_eq_true rfl⟩) ⟨pcR_blind, va_recv hK hP (ci := 4) (q0 := 0) rfl rfl, pcR_of hP hK⟩ rfl rfl hl.1 rfl (lv_room (Nat.le_of_ble_eq_true rfl)) dX4_mixedPromises_32 ⟨(Nat.zero_le _), (Nat.zero_le _)⟩) (fun r1 hr1 => ?_)
              subst hr1
              refine lv_i2l (v := iL ((prmS σ (p) (w)))) hx hb dX4_mixedPromises_35 rfl ?_
              refine wr_calll (va_runS (As := [.long (ac2), .long ((iL ((prmS σ (p) (w)))))]) (rest := []) ⟨hx, hb, hml, hown, hts⟩ (c_X4_mixed l D cI cO cC cL (ac2) ((iL ((prmS σ (p) (w))))) ) (cwS 2 hts gX4_mixedPromises_X4_mixed rfl rfl rfl (by decide +kernel) ⟨Nat.le_of_ble_eq_true rfl, Nat.le_of_ble_eq_true rfl⟩) ⟨fun _ _ _ _ h => h, fun U hU hW => ⟨rfl, trivial⟩⟩ rfl rfl hl.1 rfl (lv_room (Nat.le_of_ble_eq_true rfl)) dX4_mixedPromises_36 ⟨(Nat.zero_le _), (Nat.zero_le _)⟩) (fun r2 hr2 => ?_)
              subst hr2
              refine lv_lstore_n (lv' := [(3, .long ((mixL (ac2) ((iL ((prmS σ (p) (w)))))))), (6, .int (iI (w))), (5, .int (iI (p))), (0, .ref (x 0)), (1, .long (h))]) hx hb dX4_mixedPromises_39 rfl hl (by decide) rfl (fun ls hl => ?_)
              refine wi_iinc (lv' := [(6, .int (iI ((w + 1)))), (3, .long ((mixL (ac2) ((iL ((prmS σ (p) (w)))))))), (5, .int (iI (p))), (0, .ref (x 0)), (1, .long (h))]) hx hb dX4_mixedPromises_40 hl (k := 1) rfl (by decide) rfl (fun ls hl => ?_)
              refine lv_goto (tgt := 20) hx hb dX4_mixedPromises_43 (by decide) ?_
              exact ih20 ((w + 1)) ((mixL (ac2) ((iL ((prmS σ (p) (w))))))) (by omega) (by omega) (by rw [itL_s (by omega), ← hac2])  ls (lv_sub hl [0, 2, 1, 3, 4] rfl)
        exact L20 _ (0) (acc) (Nat.lt_succ_self _) (by omega) (itL_0 _ _)  ls (lv_sub hl [0, 1, 2, 3, 4] rfl)
  exact L5 _ (0) (h) (Nat.lt_succ_self _) (by omega) (itL_0 _ _)  ls (lv_sub hl [0, 1, 2, 3] rfl)
set_option maxHeartbeats 4000000 in
set_option maxRecDepth 100000 in
theorem c_X4_mixedOwners (l : Launch) (D : va_G) (cI cO cC cL : ClassId) (x a sv o rd bu : Nat → Nat) (ln σ : Nat → Int → Int) (h : Int64) (hI : Inv σ) : Met l yX4_mixedOwners wsX4_mixedOwners ({ frames := 9, cells := 0, slots := 0, locals := 185 } : Room) (pcR D [(cI, FieldType.int), (cO, FieldType.object "PromisedCounters$State"), (cC, FieldType.char)] [.ref (x 0), .long (h)] (fl [mnW x a sv o rd bu ln, stW cI a σ])) (vp_Sl (fun r => r = dOwn σ h)) 0 0 (fun _ => False) := by
  refine Met.ofW (cc := cX4_mixedOwners) (maxL := 7) (ret := (some .long)) (by decide) rfl ?_
  intro p9 e9 s m args9 below9 meth9 c9 s₁ B hml hv
  obtain ⟨rfl, hP, hK⟩ := hv
  have hx := B.exec
  have hb := B.bytes
  have hr := B.returns
  have hts := atoms_spec (ws := wsX4_mixedOwners) B.pre
  have hown : s.vm.findClass RX4 = some m.cls := findClass_of_methodNamed B.named
  have hlocks := B.notSynchronized
  have hl := lv_entry ([.ref (x 0), .long (h)]) (n := 7) (Nat.le_of_ble_eq_true rfl)
  rw [lg_entry_eq]
  generalize (lg_sl ([.ref (x 0), .long (h)]) ++ List.replicate (7 - (lg_sl ([.ref (x 0), .long (h)])).length) Slot.unset).toArray = ls at hl ⊢
  have hl : lv_has ls 7 [(0, .ref (x 0)), (1, .long (h))] := hl
  have hn := hI.n
  have hti := hI.t
  refine lv_lload_n hx hb dX4_mixedOwners_0 rfl (lv_at hl 1 rfl) ?_
  refine lv_lstore_n (lv' := [(3, .long (h)), (0, .ref (x 0)), (1, .long (h))]) hx hb dX4_mixedOwners_1 rfl hl (by decide) rfl (fun ls hl => ?_)
  refine wi_iconst hx hb dX4_mixedOwners_2 ?_
  refine lv_istore (lv' := [(5, .int (iI (0))), (3, .long (h)), (0, .ref (x 0)), (1, .long (h))]) hx hb dX4_mixedOwners_3 hl (by decide) rfl (fun ls hl => ?_)
  have L5 : ∀ (k5 : Nat), ∀ (q : Int) (acc : Int64), (6 - q).toNat < k5 → (0 ≤ q ∧ q ≤ 6) → (acc = itL (dOw1 σ) q.toNat (h)) → ∀ (ls : Array Slot), lv_has ls 7 [(5, .int (iI (q))), (3, .long (acc)), (0, .ref (x 0)), (1, .long (h))] → W p9 l e9 ({ frames := 9, cells := 0, slots := 0, locals := 185 } : Room) s m ([.ref (x 0), .long (h)] : List Value).toArray below9 meth9 c9 s.heap [] 0 0 (MQ below9 (vp_Sl (fun r => r = dOwn σ h)) ([.ref (x 0), .long (h)] : List Value).toArray s 0 0 (fun _ => False)) (F0 m 5 ls []) := by
    intro k5
    induction k5 with
    | zero =>
      intro q acc hm
      exact absurd hm (Nat.not_lt_zero _)
    | succ k5 ih5 =>
      intro q acc hm5 hq hacc ls hl
      refine lv_iload hx hb dX4_mixedOwners_5 (lv_at hl 0 rfl) ?_
      refine wi_bipush hx hb dX4_mixedOwners_7 (by decide) ?_
      refine wi_icmp_ge (tgt := 62) hx hb dX4_mixedOwners_9 (by decide) (by omega) (fun c_9 => ?_) (fun c_9 => ?_)
      · skip
        refine lv_lload_n hx hb dX4_mixedOwners_62 rfl (lv_at hl 1 rfl) ?_
        exact W.lret (v := acc) hx hb hr (fun t9 ht9 hW9 => ⟨(acc), rfl, (by rw [hacc, show q = 6 by omega]; rfl), ht9⟩) (fun _ h => nomatch h) dX4_mixedOwners_63 hlocks
      · skip
        refine wi_iconst hx hb dX4_mixedOwners_12 ?_
        refine lv_istore (lv' := [(6, .int (iI (0))), (5, .int (iI (q))), (3, .long (acc)), (0, .ref (x 0)), (1, .long (h))]) hx hb dX4_mixedOwners_13 hl (by decide) rfl (fun ls hl => ?_)
        have L15 : ∀ (k15 : Nat), ∀ (w : Int) (ac2 : Int64), (5 - w).toNat < k15 → (0 ≤ w ∧ w ≤ 5) → (ac2 = itL (fun w h => mixL h (iL (ownS σ q w))) w.toNat (acc)) → ∀ (ls : Array Slot), lv_has ls 7 [(6, .int (iI (w))), (5, .int (iI (q))), (3, .long (ac2)), (0, .ref (x 0)), (1, .long (h))] → W p9 l e9 ({ frames := 9, cells := 0, slots := 0, locals := 185 } : Room) s m ([.ref (x 0), .long (h)] : List Value).toArray below9 meth9 c9 s.heap [] 0 0 (MQ below9 (vp_Sl (fun r => r = dOwn σ h)) ([.ref (x 0), .long (h)] : List Value).toArray s 0 0 (fun _ => False)) (F0 m 15 ls []) := by
          intro k15
          induction k15 with
          | zero =>
            intro w ac2 hm
            exact absurd hm (Nat.not_lt_zero _)
          | succ k15 ih15 =>
            intro w ac2 hm15 hw hac2 ls hl
            refine lv_iload hx hb dX4_mixedOwners_15 (lv_at hl 0 rfl) ?_
            refine wi_iconst hx hb dX4_mixedOwners_17 ?_
            refine wi_icmp_gt (tgt := 41) hx hb dX4_mixedOwners_18 (by decide) (by omega) (fun c_18 => ?_) (fun c_18 => ?_)
            · skip
              refine lv_lload_n hx hb dX4_mixedOwners_41 rfl (lv_at hl 2 rfl) ?_
              refine lv_aload_n hx hb dX4_mixedOwners_42 rfl (lv_at hl 3 rfl) ?_
              refine lv_iload hx hb dX4_mixedOwners_43 (lv_at hl 1 rfl) ?_
              refine wi_iconst hx hb dX4_mixedOwners_45 ?_
              refine wi_bipush hx hb dX4_mixedOwners_46 (by decide) ?_
              refine wr_calli (va_runV (As := [.int (iI (q)), .int (iI (1)), .int (iI (7))]) (rest := [.long (ac2)]) ⟨hx, hb, hml, hown, hts⟩ (c_X4_whyNot l D cI cO cC cL x a sv o rd bu ln σ (q) (1) (7) (by omega) (by omega) (by omega) (hI)) (cwV 3 hts gX4_mixedOwners_X4_whyNot rfl rfl rfl (by decide +kernel) ⟨Nat.le_of_ble_eq_true rfl, Nat.le_of_ble_eq_true rfl⟩) ⟨pcR_blind, va_recv hK hP (ci := 4) (q0 := 0) rfl rfl, pcR_of hP hK⟩ rfl rfl hl.1 rfl (lv_room (Nat.le_of_ble_eq_true rfl)) dX4_mixedOwners_48 ⟨(Nat.zero_le _), (Nat.zero_le _)⟩) (fun r1 hr1 => ?_)
              subst hr1
              refine lv_i2l (v := iL ((reasonS σ (q) (1) (7) (-1)))) hx hb dX4_mixedOwners_51 rfl ?_
              refine wr_calll (va_runS (As := [.long (ac2), .long ((iL ((reasonS σ (q) (1) (7) (-1)))))]) (rest := []) ⟨hx, hb, hml, hown, hts⟩ (c_X4_mixed l D cI cO cC cL (ac2) ((iL ((reasonS σ (q) (1) (7) (-1))))) ) (cwS 2 hts gX4_mixedOwners_X4_mixed rfl rfl rfl (by decide +kernel) ⟨Nat.le_of_ble_eq_true rfl, Nat.le_of_ble_eq_true rfl⟩) ⟨fun _ _ _ _ h => h, fun U hU hW => ⟨rfl, trivial⟩⟩ rfl rfl hl.1 rfl (lv_room (Nat.le_of_ble_eq_true rfl)) dX4_mixedOwners_52 ⟨(Nat.zero_le _), (Nat.zero_le _)⟩) (fun r2 hr2 => ?_)
              subst hr2
              refine lv_lstore_n (lv' := [(3, .long ((mixL (ac2) ((iL ((reasonS σ (q) (1) (7) (-1)))))))), (6, .int (iI (w))), (5, .int (iI (q))), (0, .ref (x 0)), (1, .long (h))]) hx hb dX4_mixedOwners_55 rfl hl (by decide) rfl (fun ls hl => ?_)
              refine wi_iinc (lv' := [(5, .int (iI ((q + 1)))), (3, .long ((mixL (ac2) ((iL ((reasonS σ (q) (1) (7) (-1)))))))), (6, .int (iI (w))), (0, .ref (x 0)), (1, .long (h))]) hx hb dX4_mixedOwners_56 hl (k := 2) rfl (by decide) rfl (fun ls hl => ?_)
              refine lv_goto (tgt := 5) hx hb dX4_mixedOwners_59 (by decide) ?_
              exact ih5 ((q + 1)) ((mixL (ac2) ((iL ((reasonS σ (q) (1) (7) (-1))))))) (by omega) (by omega) (by rw [itL_s (by omega), ← hacc]; unfold dOw1; rw [show (5 : Nat) = (w : Int).toNat from (by omega), ← hac2])  ls (lv_sub hl [0, 1, 3, 4] rfl)
            · skip
              refine lv_lload_n hx hb dX4_mixedOwners_21 rfl (lv_at hl 2 rfl) ?_
              refine lv_aload_n hx hb dX4_mixedOwners_22 rfl (lv_at hl 3 rfl) ?_
              refine lv_iload hx hb dX4_mixedOwners_23 (lv_at hl 1 rfl) ?_
              refine lv_iload hx hb dX4_mixedOwners_25 (lv_at hl 0 rfl) ?_
              refine wr_calli (va_runV (As := [.int (iI (q)), .int (iI (w))]) (rest := [.long (ac2)]) ⟨hx, hb, hml, hown, hts⟩ (c_X4_owner l D cI cO cC cL x a sv o rd bu ln σ (q) (w) (by omega) (by omega) (hI)) (cwV 2 hts gX4_mixedOwners_X4_owner rfl rfl rfl (by decide +kernel) ⟨Nat.le_of_ble_eq_true rfl, Nat.le_of_ble_eq_true rfl⟩) ⟨pcR_blind, va_recv hK hP (ci := 4) (q0 := 0) rfl rfl, pcR_of hP hK⟩ rfl rfl hl.1 rfl (lv_room (Nat.le_of_ble_eq_true rfl)) dX4_mixedOwners_27 ⟨(Nat.zero_le _), (Nat.zero_le _)⟩) (fun r3 hr3 => ?_)
              subst hr3
              refine lv_i2l (v := iL ((ownS σ (q) (w)))) hx hb dX4_mixedOwners_30 rfl ?_
              refine wr_calll (va_runS (As := [.long (ac2), .long ((iL ((ownS σ (q) (w)))))]) (rest := []) ⟨hx, hb, hml, hown, hts⟩ (c_X4_mixed l D cI cO cC cL (ac2) ((iL ((ownS σ (q) (w))))) ) (cwS 2 hts gX4_mixedOwners_X4_mixed rfl rfl rfl (by decide +kernel) ⟨Nat.le_of_ble_eq_true rfl, Nat.le_of_ble_eq_true rfl⟩) ⟨fun _ _ _ _ h => h, fun U hU hW => ⟨rfl, trivial⟩⟩ rfl rfl hl.1 rfl (lv_room (Nat.le_of_ble_eq_true rfl)) dX4_mixedOwners_31 ⟨(Nat.zero_le _), (Nat.zero_le _)⟩) (fun r4 hr4 => ?_)
              subst hr4
              refine lv_lstore_n (lv' := [(3, .long ((mixL (ac2) ((iL ((ownS σ (q) (w)))))))), (6, .int (iI (w))), (5, .int (iI (q))), (0, .ref (x 0)), (1, .long (h))]) hx hb dX4_mixedOwners_34 rfl hl (by decide) rfl (fun ls hl => ?_)
              refine wi_iinc (lv' := [(6, .int (iI ((w + 1)))), (3, .long ((mixL (ac2) ((iL ((ownS σ (q) (w)))))))), (5, .int (iI (q))), (0, .ref (x 0)), (1, .long (h))]) hx hb dX4_mixedOwners_35 hl (k := 1) rfl (by decide) rfl (fun ls hl => ?_)
              refine lv_goto (tgt := 15) hx hb dX4_mixedOwners_38 (by decide) ?_
              exact ih15 ((w + 1)) ((mixL (ac2) ((iL ((ownS σ (q) (w))))))) (by omega) (by omega) (by rw [itL_s (by omega), ← hac2])  ls (lv_sub hl [0, 2, 1, 3, 4] rfl)
        exact L15 _ (0) (acc) (Nat.lt_succ_self _) (by omega) (itL_0 _ _)  ls (lv_sub hl [0, 1, 2, 3, 4] rfl)
  exact L5 _ (0) (h) (Nat.lt_succ_self _) (by omega) (itL_0 _ _)  ls (lv_sub hl [0, 1, 2, 3] rfl)
set_option maxHeartbeats 4000000 in
set_option maxRecDepth 100000 in
theorem c_X4_digest (l : Launch) (D : va_G) (cI cO cC cL : ClassId) (sz : Nat) (x a sv o rd bu : Nat → Nat) (ln σ κ φ β : Nat → Int → Int) (fs : Nat → Option Nat) (hl9 : 0 ≤ ln 0 0 ∧ ln 0 0 ≤ 60) (hb9 : ∀ j : Int, 0 ≤ j → j < ln 0 0 → 33 ≤ β 1 j ∧ β 1 j ≤ 126) (hI : Inv σ) : Met l yX4_digest wsX4_digest ({ frames := 10, cells := 0, slots := 0, locals := 211 } : Room) (pcW D [(cI, FieldType.int), (cO, FieldType.object "PromisedCounters$State"), (cC, FieldType.char)] [.ref (x 0)] (fl [mnW x a sv o rd bu ln, stW cI a σ, svO cO sv fs κ, ocW cI o φ, bfW cC bu β]) sz) (va_Ql (fun (r : Int64) (ψ : Nat → Int → Int) => r = digS σ (κ 0 0) (ln 0 0) (β 1)) (fun (ψ : Nat → Int → Int) => (bW D [(cI, FieldType.int), (cO, FieldType.object "PromisedCounters$State"), (cC, FieldType.char)] (fl [mnW x a sv o rd bu ln, stW cI a σ, svO cO sv fs κ, ocW cI o ψ, bfW cC bu β]) (va_A (fl [mnW x a sv o rd bu ln, stW cI a σ, svO cO sv fs κ, ocW cI o φ, bfW cC bu β]) sz))) (va_A (fl [mnW x a sv o rd bu ln, stW cI a σ, svO cO sv fs κ, ocW cI o φ, bfW cC bu β]) sz)) 0 0 (va_A (fl [mnW x a sv o rd bu ln, stW cI a σ, svO cO sv fs κ, ocW cI o φ, bfW cC bu β]) sz) := by
  refine Met.ofW (cc := cX4_digest) (maxL := 4) (ret := (some .long)) (by decide) rfl ?_
  intro p9 e9 s m args9 below9 meth9 c9 s₁ B hml hv
  obtain ⟨rfl, hsz, hP, hK, hD0⟩ := hv
  have hx := B.exec
  have hb := B.bytes
  have hr := B.returns
  have hts := atoms_spec (ws := wsX4_digest) B.pre
  have hown : s.vm.findClass RX4 = some m.cls := findClass_of_methodNamed B.named
  have hlocks := B.notSynchronized
  subst hsz
  have hD := hD0.self (sz := s.heap.size)
  generalize hAe : va_A (fl [mnW x a sv o rd bu ln, stW cI a σ, svO cO sv fs κ, ocW cI o φ, bfW cC bu β]) s.heap.size = A at hD ⊢
  have hA : ∀ q : Nat, s.heap.size ≤ q → A q := fun q h => by rw [← hAe]; exact Or.inr h
  have hS : va_S A s.heap s.heap [] := va_S.rf
  have hP : va_P D vwCl (fl [mnW x a sv o rd bu ln, stW cI a σ, svO cO sv fs κ, ocW cI o φ, bfW cC bu β]) s.heap := hP
  have hl := lv_entry ([.ref (x 0)]) (n := 4) (Nat.le_of_ble_eq_true rfl)
  rw [lg_entry_eq]
  generalize (lg_sl ([.ref (x 0)]) ++ List.replicate (4 - (lg_sl ([.ref (x 0)])).length) Slot.unset).toArray = ls at hl ⊢
  have hl : lv_has ls 4 [(0, .ref (x 0))] := hl
  have hw_0 := hts (Cond.constantLong RX4 232 (2713)) (by decide +kernel)
  have hw_1 := hts (.fieldLink RX4 41 "PromisedCounters" "length" "I") (by decide +kernel)
  have hin_X4 : ∀ w ∈ u_ws RX4 TX4 6, w ∈ wsX4_digest := by decide +kernel
  have hw_2 := hts (.fieldLink RX4 37 "PromisedCounters" "buffer" "[C") (by decide +kernel)
  have hn := hI.n
  have hti := hI.t
  refine lv_ldc2 hx hb hown hw_0 dX4_digest_0 ?_
  refine lv_lstore_n (lv' := [(1, .long ((2713 : Int64))), (0, .ref (x 0))]) hx hb dX4_digest_3 rfl hl (by decide) rfl (fun ls hl => ?_)
  refine wi_iconst hx hb dX4_digest_4 ?_
  refine lv_istore_n (lv' := [(3, .int (iI (0))), (1, .long ((2713 : Int64))), (0, .ref (x 0))]) hx hb dX4_digest_5 rfl hl (by decide) rfl (fun ls hl => ?_)
  have L6 : ∀ (k6 : Nat), ∀ (w : Int) (acc : Int64), (10 - w).toNat < k6 → (0 ≤ w ∧ w ≤ 10) → (acc = itL (fun w h => mixL h (iL (cntS σ (κ 0 0) w))) w.toNat (2713)) → ∀ (ls : Array Slot), lv_has ls 4 [(3, .int (iI (w))), (1, .long (acc)), (0, .ref (x 0))] → W p9 l e9 ({ frames := 10, cells := 0, slots := 0, locals := 211 } : Room) s m ([.ref (x 0)] : List Value).toArray below9 meth9 c9 s.heap [] 0 0 (MQ below9 (va_Ql (fun (r : Int64) (ψ : Nat → Int → Int) => r = digS σ (κ 0 0) (ln 0 0) (β 1)) (fun (ψ : Nat → Int → Int) => (bW D [(cI, FieldType.int), (cO, FieldType.object "PromisedCounters$State"), (cC, FieldType.char)] (fl [mnW x a sv o rd bu ln, stW cI a σ, svO cO sv fs κ, ocW cI o ψ, bfW cC bu β]) A)) A) ([.ref (x 0)] : List Value).toArray s 0 0 A) (F0 m 6 ls []) := by
    intro k6
    induction k6 with
    | zero =>
      intro w acc hm
      exact absurd hm (Nat.not_lt_zero _)
    | succ k6 ih6 =>
      intro w acc hm6 hw hacc ls hl
      refine lv_iload_n hx hb dX4_digest_6 rfl (lv_at hl 0 rfl) ?_
      refine wi_bipush hx hb dX4_digest_7 (by decide) ?_
      refine wi_icmp_gt (tgt := 29) hx hb dX4_digest_9 (by decide) (by omega) (fun c_9 => ?_) (fun c_9 => ?_)
      · skip
        have e_acc : acc = dCnt σ (κ 0 0) 2713 := by rw [hacc, show w.toNat = 10 by omega]; rfl
        subst e_acc
        refine wi_iconst hx hb dX4_digest_29 ?_
        refine lv_istore_n (lv' := [(3, .int (iI (0))), (1, .long ((dCnt σ (κ 0 0) 2713))), (0, .ref (x 0))]) hx hb dX4_digest_30 rfl hl (by decide) rfl (fun ls hl => ?_)
        have L31 : ∀ (k31 : Nat), ∀ (k : Int) (acc2 : Int64), (2 - k).toNat < k31 → (0 ≤ k ∧ k ≤ 2) → (acc2 = itL (fun k h => mixL h (iL (σ 1 k))) k.toNat (dCnt σ (κ 0 0) 2713)) → ∀ (ls : Array Slot), lv_has ls 4 [(3, .int (iI (k))), (1, .long (acc2)), (0, .ref (x 0))] → W p9 l e9 ({ frames := 10, cells := 0, slots := 0, locals := 211 } : Room) s m ([.ref (x 0)] : List Value).toArray below9 meth9 c9 s.heap [] 0 0 (MQ below9 (va_Ql (fun (r : Int64) (ψ : Nat → Int → Int) => r = digS σ (κ 0 0) (ln 0 0) (β 1)) (fun (ψ : Nat → Int → Int) => (bW D [(cI, FieldType.int), (cO, FieldType.object "PromisedCounters$State"), (cC, FieldType.char)] (fl [mnW x a sv o rd bu ln, stW cI a σ, svO cO sv fs κ, ocW cI o ψ, bfW cC bu β]) A)) A) ([.ref (x 0)] : List Value).toArray s 0 0 A) (F0 m 31 ls []) := by
          intro k31
          induction k31 with
          | zero =>
            intro k acc2 hm
            exact absurd hm (Nat.not_lt_zero _)
          | succ k31 ih31 =>
            intro k acc2 hm31 hk hacc2 ls hl
            refine lv_iload_n hx hb dX4_digest_31 rfl (lv_at hl 0 rfl) ?_
            refine wi_iconst hx hb dX4_digest_32 ?_
            refine wi_icmp_ge (tgt := 53) hx hb dX4_digest_33 (by decide) (by omega) (fun c_33 => ?_) (fun c_33 => ?_)
            · skip
              have e_acc2 : acc2 = dSet σ (dCnt σ (κ 0 0) 2713) := by rw [hacc2, show k.toNat = 2 by omega]; rfl
              subst e_acc2
              refine lv_aload_n hx hb dX4_digest_53 rfl (lv_at hl 2 rfl) ?_
              refine lv_lload_n hx hb dX4_digest_54 rfl (lv_at hl 1 rfl) ?_
              have hPc := fl_P (S' := [mnW x a sv o rd bu ln, stW cI a σ, ocW cI o φ]) hP [0, 1, 3] rfl
              have hDc := fl_D (S' := [mnW x a sv o rd bu ln, stW cI a σ, ocW cI o φ]) hD [0, 1, 3] (by decide) rfl
              have hFc := fl_free (SC := [mnW x a sv o rd bu ln, stW cI a σ, ocW cI o φ]) hD hS hA [0, 1, 3] rfl
              refine va_calll (va_runV (As := [.long ((dSet σ (dCnt σ (κ 0 0) 2713)))]) (rest := []) ⟨hx, hb, hml, hown, hts⟩ (c_X4_mixedCounters l D cI cO cC cL s.heap.size x a sv o rd bu ln σ φ ((dSet σ (dCnt σ (κ 0 0) 2713))) (hI)) (cwV 1 hts gX4_digest_X4_mixedCounters rfl rfl rfl (by decide +kernel) ⟨Nat.le_of_ble_eq_true rfl, Nat.le_of_ble_eq_true rfl⟩) ⟨pcW_blind, va_recv hK hPc (ci := 4) (q0 := 0) rfl rfl, pcW_of hPc hK hDc⟩ rfl rfl hl.1 rfl (lv_room (Nat.le_of_ble_eq_true rfl)) dX4_digest_55 ⟨(Nat.zero_le _), (Nat.zero_le _)⟩) hS (fun q _ h => hFc q h) hFc (fun r1 u3 t9 H1 locs ht9 hvm hcl2 hB hz1 hk1 hS => ?_)
              obtain ⟨hP1, hK1, hD1⟩ := hB
              rw [ht9] at hP1
              obtain ⟨hP, hD⟩ := fl_join (SR := [svO cO sv fs κ, bfW cC bu β]) (S1 := [mnW x a sv o rd bu ln, stW cI a σ, ocW cI o u3]) hP hD [0, 1, 3] [2, 4] rfl rfl (by decide) (by decide) hk1 hFc hP1 hD1
              generalize H1 = H at hP hS ⊢
              have hP := fl_P (S' := [mnW x a sv o rd bu ln, stW cI a σ, svO cO sv fs κ, ocW cI o u3, bfW cC bu β]) hP [2, 3, 0, 4, 1] rfl
              have hD := fl_D (S' := [mnW x a sv o rd bu ln, stW cI a σ, svO cO sv fs κ, ocW cI o u3, bfW cC bu β]) hD [2, 3, 0, 4, 1] (by decide) rfl
              subst hcl2
              refine lv_lstore_n (lv' := [(1, .long ((dCtr σ (dSet σ (dCnt σ (κ 0 0) 2713))))), (3, .int (iI (k))), (0, .ref (x 0))]) hx hb dX4_digest_58 rfl hl (by decide) rfl (fun ls hl => ?_)
              refine lv_aload_n hx hb dX4_digest_59 rfl (lv_at hl 2 rfl) ?_
              refine lv_lload_n hx hb dX4_digest_60 rfl (lv_at hl 0 rfl) ?_
              have hPc := fl_P (S' := [mnW x a sv o rd bu ln, stW cI a σ]) hP [0, 1] rfl
              refine wr_calll (va_runV (As := [.long ((dCtr σ (dSet σ (dCnt σ (κ 0 0) 2713))))]) (rest := []) ⟨hx, hb, hml, hown, hts⟩ (c_X4_mixedPromises l D cI cO cC cL x a sv o rd bu ln σ ((dCtr σ (dSet σ (dCnt σ (κ 0 0) 2713)))) (hI)) (cwV 1 hts gX4_digest_X4_mixedPromises rfl rfl rfl (by decide +kernel) ⟨Nat.le_of_ble_eq_true rfl, Nat.le_of_ble_eq_true rfl⟩) ⟨pcR_blind, va_recv hK hPc (ci := 4) (q0 := 0) rfl rfl, pcR_of hPc hK⟩ rfl rfl hl.1 rfl (lv_room (Nat.le_of_ble_eq_true rfl)) dX4_digest_61 ⟨(Nat.zero_le _), (Nat.zero_le _)⟩) (fun r4 hr4 => ?_)
              subst hr4
              refine lv_lstore_n (lv' := [(1, .long ((dPrm σ ((dCtr σ (dSet σ (dCnt σ (κ 0 0) 2713))))))), (3, .int (iI (k))), (0, .ref (x 0))]) hx hb dX4_digest_64 rfl hl (by decide) rfl (fun ls hl => ?_)
              refine lv_aload_n hx hb dX4_digest_65 rfl (lv_at hl 2 rfl) ?_
              refine lv_lload_n hx hb dX4_digest_66 rfl (lv_at hl 0 rfl) ?_
              have hPc := fl_P (S' := [mnW x a sv o rd bu ln, stW cI a σ]) hP [0, 1] rfl
              refine wr_calll (va_runV (As := [.long ((dPrm σ ((dCtr σ (dSet σ (dCnt σ (κ 0 0) 2713))))))]) (rest := []) ⟨hx, hb, hml, hown, hts⟩ (c_X4_mixedOwners l D cI cO cC cL x a sv o rd bu ln σ ((dPrm σ ((dCtr σ (dSet σ (dCnt σ (κ 0 0) 2713)))))) (hI)) (cwV 1 hts gX4_digest_X4_mixedOwners rfl rfl rfl (by decide +kernel) ⟨Nat.le_of_ble_eq_true rfl, Nat.le_of_ble_eq_true rfl⟩) ⟨pcR_blind, va_recv hK hPc (ci := 4) (q0 := 0) rfl rfl, pcR_of hPc hK⟩ rfl rfl hl.1 rfl (lv_room (Nat.le_of_ble_eq_true rfl)) dX4_digest_67 ⟨(Nat.zero_le _), (Nat.zero_le _)⟩) (fun r5 hr5 => ?_)
              subst hr5
              refine lv_lstore_n (lv' := [(1, .long ((dOwn σ ((dPrm σ ((dCtr σ (dSet σ (dCnt σ (κ 0 0) 2713))))))))), (3, .int (iI (k))), (0, .ref (x 0))]) hx hb dX4_digest_70 rfl hl (by decide) rfl (fun ls hl => ?_)
              refine wi_iconst hx hb dX4_digest_71 ?_
              refine lv_istore_n (lv' := [(3, .int (iI (0))), (1, .long ((dOwn σ ((dPrm σ ((dCtr σ (dSet σ (dCnt σ (κ 0 0) 2713))))))))), (0, .ref (x 0))]) hx hb dX4_digest_72 rfl hl (by decide) rfl (fun ls hl => ?_)
              have L73 : ∀ (k73 : Nat), ∀ (z : Int) (acc3 : Int64), (5 - z).toNat < k73 → (0 ≤ z ∧ z ≤ 5) → (acc3 = itL (fun w h => mixL h (iL (pasS σ 5 w))) z.toNat (dOwn σ (dPrm σ (dCtr σ (dSet σ (dCnt σ (κ 0 0) 2713)))))) → ∀ (ls : Array Slot), lv_has ls 4 [(3, .int (iI (z))), (1, .long (acc3)), (0, .ref (x 0))] → W p9 l e9 ({ frames := 10, cells := 0, slots := 0, locals := 211 } : Room) s m ([.ref (x 0)] : List Value).toArray below9 meth9 c9 H locs 0 0 (MQ below9 (va_Ql (fun (r : Int64) (ψ : Nat → Int → Int) => r = digS σ (κ 0 0) (ln 0 0) (β 1)) (fun (ψ : Nat → Int → Int) => (bW D [(cI, FieldType.int), (cO, FieldType.object "PromisedCounters$State"), (cC, FieldType.char)] (fl [mnW x a sv o rd bu ln, stW cI a σ, svO cO sv fs κ, ocW cI o ψ, bfW cC bu β]) A)) A) ([.ref (x 0)] : List Value).toArray s 0 0 A) (F0 m 73 ls []) := by
                intro k73
                induction k73 with
                | zero =>
                  intro z acc3 hm
                  exact absurd hm (Nat.not_lt_zero _)
                | succ k73 ih73 =>
                  intro z acc3 hm73 hz hacc3 ls hl
                  refine lv_iload_n hx hb dX4_digest_73 rfl (lv_at hl 0 rfl) ?_
                  refine wi_iconst hx hb dX4_digest_74 ?_
                  refine wi_icmp_gt (tgt := 96) hx hb dX4_digest_75 (by decide) (by omega) (fun c_75 => ?_) (fun c_75 => ?_)
                  · skip
                    have e_acc3 : acc3 = dPas σ (dOwn σ (dPrm σ (dCtr σ (dSet σ (dCnt σ (κ 0 0) 2713))))) := by rw [hacc3, show z.toNat = 5 by omega]; rfl
                    subst e_acc3
                    refine lv_lload_n hx hb dX4_digest_96 rfl (lv_at hl 1 rfl) ?_
                    refine lv_aload_n hx hb dX4_digest_97 rfl (lv_at hl 2 rfl) ?_
                    have hPc := fl_P (S' := [mnW x a sv o rd bu ln, stW cI a σ]) hP [0, 1] rfl
                    refine wr_calld (va_runV (As := []) (rest := [.long ((dPas σ (dOwn σ (dPrm σ (dCtr σ (dSet σ (dCnt σ (κ 0 0) 2713)))))))]) ⟨hx, hb, hml, hown, hts⟩ (c_X4_heldShare l D cI cO cC cL x a sv o rd bu ln σ (hI)) (cwV 0 hts gX4_digest_X4_heldShare rfl rfl rfl (by decide +kernel) ⟨Nat.le_of_ble_eq_true rfl, Nat.le_of_ble_eq_true rfl⟩) ⟨pcR_blind, va_recv hK hPc (ci := 4) (q0 := 0) rfl rfl, pcR_of hPc hK⟩ rfl rfl hl.1 rfl (lv_room (Nat.le_of_ble_eq_true rfl)) dX4_digest_98 ⟨(Nat.zero_le _), (Nat.zero_le _)⟩) (fun r6 hr6 => ?_)
                    subst hr6
                    refine wr_calll (va_runS (As := [.double ((shrS σ))]) (rest := [.long ((dPas σ (dOwn σ (dPrm σ (dCtr σ (dSet σ (dCnt σ (κ 0 0) 2713)))))))]) ⟨hx, hb, hml, hown, hts⟩ (c_X4_bitsOfShare l D cI cO cC cL ((shrS σ)) (shr_SH hI)) (cwS 1 hts gX4_digest_X4_bitsOfShare rfl rfl rfl (by decide +kernel) ⟨Nat.le_of_ble_eq_true rfl, Nat.le_of_ble_eq_true rfl⟩) ⟨fun _ _ _ _ h => h, fun U hU hW => ⟨rfl, trivial⟩⟩ rfl rfl hl.1 rfl (lv_room (Nat.le_of_ble_eq_true rfl)) dX4_digest_101 ⟨(Nat.zero_le _), (Nat.zero_le _)⟩) (fun r7 hr7 => ?_)
                    subst hr7
                    refine wr_calll (va_runS (As := [.long ((dPas σ (dOwn σ (dPrm σ (dCtr σ (dSet σ (dCnt σ (κ 0 0) 2713))))))), .long ((UInt64.toInt64 ((shrS σ))))]) (rest := []) ⟨hx, hb, hml, hown, hts⟩ (c_X4_mixed l D cI cO cC cL ((dPas σ (dOwn σ (dPrm σ (dCtr σ (dSet σ (dCnt σ (κ 0 0) 2713))))))) ((UInt64.toInt64 ((shrS σ)))) ) (cwS 2 hts gX4_digest_X4_mixed rfl rfl rfl (by decide +kernel) ⟨Nat.le_of_ble_eq_true rfl, Nat.le_of_ble_eq_true rfl⟩) ⟨fun _ _ _ _ h => h, fun U hU hW => ⟨rfl, trivial⟩⟩ rfl rfl hl.1 rfl (lv_room (Nat.le_of_ble_eq_true rfl)) dX4_digest_104 ⟨(Nat.zero_le _), (Nat.zero_le _)⟩) (fun r8 hr8 => ?_)
                    subst hr8
                    refine lv_lstore_n (lv' := [(1, .long ((mixL ((dPas σ (dOwn σ (dPrm σ (dCtr σ (dSet σ (dCnt σ (κ 0 0) 2713))))))) ((UInt64.toInt64 ((shrS σ))))))), (3, .int (iI (z))), (0, .ref (x 0))]) hx hb dX4_digest_107 rfl hl (by decide) rfl (fun ls hl => ?_)
                    refine lv_lload_n hx hb dX4_digest_108 rfl (lv_at hl 0 rfl) ?_
                    refine lv_aload_n hx hb dX4_digest_109 rfl (lv_at hl 2 rfl) ?_
                    refine va_get (D := D) (ci := 4) (v := .int (iI ((ln 0 0)))) (C := RX4) (T := TX4) (N := 6) hx hb hts hin_X4 hown hK hP 0 rfl rfl 5 (by decide) hw_1 (fun _ h9 => h9) rfl dX4_digest_110 ?_
                    refine lv_i2l (v := iL ((ln 0 0))) hx hb dX4_digest_113 rfl ?_
                    refine wr_calll (va_runS (As := [.long ((mixL ((dPas σ (dOwn σ (dPrm σ (dCtr σ (dSet σ (dCnt σ (κ 0 0) 2713))))))) ((UInt64.toInt64 ((shrS σ)))))), .long ((iL ((ln 0 0))))]) (rest := []) ⟨hx, hb, hml, hown, hts⟩ (c_X4_mixed l D cI cO cC cL ((mixL ((dPas σ (dOwn σ (dPrm σ (dCtr σ (dSet σ (dCnt σ (κ 0 0) 2713))))))) ((UInt64.toInt64 ((shrS σ)))))) ((iL ((ln 0 0)))) ) (cwS 2 hts gX4_digest_X4_mixed rfl rfl rfl (by decide +kernel) ⟨Nat.le_of_ble_eq_true rfl, Nat.le_of_ble_eq_true rfl⟩) ⟨fun _ _ _ _ h => h, fun U hU hW => ⟨rfl, trivial⟩⟩ rfl rfl hl.1 rfl (lv_room (Nat.le_of_ble_eq_true rfl)) dX4_digest_114 ⟨(Nat.zero_le _), (Nat.zero_le _)⟩) (fun r9 hr9 => ?_)
                    subst hr9
                    refine lv_lstore_n (lv' := [(1, .long ((mixL ((mixL ((dPas σ (dOwn σ (dPrm σ (dCtr σ (dSet σ (dCnt σ (κ 0 0) 2713))))))) ((UInt64.toInt64 ((shrS σ)))))) ((iL ((ln 0 0))))))), (3, .int (iI (z))), (0, .ref (x 0))]) hx hb dX4_digest_117 rfl hl (by decide) rfl (fun ls hl => ?_)
                    refine wi_iconst hx hb dX4_digest_118 ?_
                    refine lv_istore_n (lv' := [(3, .int (iI (0))), (1, .long ((mixL ((mixL ((dPas σ (dOwn σ (dPrm σ (dCtr σ (dSet σ (dCnt σ (κ 0 0) 2713))))))) ((UInt64.toInt64 ((shrS σ)))))) ((iL ((ln 0 0))))))), (0, .ref (x 0))]) hx hb dX4_digest_119 rfl hl (by decide) rfl (fun ls hl => ?_)
                    have L120 : ∀ (k120 : Nat), ∀ (j : Int) (acc4 : Int64), (ln 0 0 - j).toNat < k120 → (0 ≤ j ∧ j ≤ ln 0 0) → (acc4 = itL (fun j h => mixL h (iL (β 1 j))) j.toNat (mixL (mixL (dPas σ (dOwn σ (dPrm σ (dCtr σ (dSet σ (dCnt σ (κ 0 0) 2713)))))) (UInt64.toInt64 (shrS σ))) (iL (ln 0 0)))) → ∀ (ls : Array Slot), lv_has ls 4 [(3, .int (iI (j))), (1, .long (acc4)), (0, .ref (x 0))] → W p9 l e9 ({ frames := 10, cells := 0, slots := 0, locals := 211 } : Room) s m ([.ref (x 0)] : List Value).toArray below9 meth9 c9 H locs 0 0 (MQ below9 (va_Ql (fun (r : Int64) (ψ : Nat → Int → Int) => r = digS σ (κ 0 0) (ln 0 0) (β 1)) (fun (ψ : Nat → Int → Int) => (bW D [(cI, FieldType.int), (cO, FieldType.object "PromisedCounters$State"), (cC, FieldType.char)] (fl [mnW x a sv o rd bu ln, stW cI a σ, svO cO sv fs κ, ocW cI o ψ, bfW cC bu β]) A)) A) ([.ref (x 0)] : List Value).toArray s 0 0 A) (F0 m 120 ls []) := by
                      intro k120
                      induction k120 with
                      | zero =>
                        intro j acc4 hm
                        exact absurd hm (Nat.not_lt_zero _)
                      | succ k120 ih120 =>
                        intro j acc4 hm120 hj hacc4 ls hl
                        refine lv_iload_n hx hb dX4_digest_120 rfl (lv_at hl 0 rfl) ?_
                        refine lv_aload_n hx hb dX4_digest_121 rfl (lv_at hl 2 rfl) ?_
                        refine va_get (D := D) (ci := 4) (v := .int (iI ((ln 0 0)))) (C := RX4) (T := TX4) (N := 6) hx hb hts hin_X4 hown hK hP 0 rfl rfl 5 (by decide) hw_1 (fun _ h9 => h9) rfl dX4_digest_122 ?_
                        refine wi_icmp_ge (tgt := 146) hx hb dX4_digest_125 (by decide) (by omega) (fun c_125 => ?_) (fun c_125 => ?_)
                        · skip
                          refine lv_lload_n hx hb dX4_digest_146 rfl (lv_at hl 1 rfl) ?_
                          exact W.lret (v := acc4) hx hb hr (fun t9 ht9 hW9 => ⟨⟨(acc4), u3, rfl, (by rw [hacc4, show j = ln 0 0 by omega]; rfl), ⟨by rw [ht9]; exact hP, va_K.moved hW9.alike hK, hD⟩⟩, hS.F ht9⟩) hS.2.2 dX4_digest_147 hlocks
                        · skip
                          have hbj := hb9 j (by omega) (by omega)
                          refine lv_lload_n hx hb dX4_digest_128 rfl (lv_at hl 1 rfl) ?_
                          refine lv_aload_n hx hb dX4_digest_129 rfl (lv_at hl 2 rfl) ?_
                          refine va_get (D := D) (ci := 4) (v := .ref (bu 0)) (C := RX4) (T := TX4) (N := 6) hx hb hts hin_X4 hown hK hP 0 rfl rfl 4 (by decide) hw_2 (fun _ h9 => h9) rfl dX4_digest_130 ?_
                          refine lv_iload_n hx hb dX4_digest_133 rfl (lv_at hl 0 rfl) ?_
                          refine wi_cald hx hb hK hP 18 2 (n := 60) (f := β 1) rfl rfl (i := j) (by omega) (by decide) dX4_digest_134 ?_
                          refine lv_i2l (v := iL ((β 1 (j)))) hx hb dX4_digest_135 rfl ?_
                          refine wr_calll (va_runS (As := [.long (acc4), .long ((iL ((β 1 (j)))))]) (rest := []) ⟨hx, hb, hml, hown, hts⟩ (c_X4_mixed l D cI cO cC cL (acc4) ((iL ((β 1 (j))))) ) (cwS 2 hts gX4_digest_X4_mixed rfl rfl rfl (by decide +kernel) ⟨Nat.le_of_ble_eq_true rfl, Nat.le_of_ble_eq_true rfl⟩) ⟨fun _ _ _ _ h => h, fun U hU hW => ⟨rfl, trivial⟩⟩ rfl rfl hl.1 rfl (lv_room (Nat.le_of_ble_eq_true rfl)) dX4_digest_136 ⟨(Nat.zero_le _), (Nat.zero_le _)⟩) (fun r10 hr10 => ?_)
                          subst hr10
                          refine lv_lstore_n (lv' := [(1, .long ((mixL (acc4) ((iL ((β 1 (j)))))))), (3, .int (iI (j))), (0, .ref (x 0))]) hx hb dX4_digest_139 rfl hl (by decide) rfl (fun ls hl => ?_)
                          refine wi_iinc (lv' := [(3, .int (iI ((j + 1)))), (1, .long ((mixL (acc4) ((iL ((β 1 (j)))))))), (0, .ref (x 0))]) hx hb dX4_digest_140 hl (k := 1) rfl (by decide) rfl (fun ls hl => ?_)
                          refine lv_goto (tgt := 120) hx hb dX4_digest_143 (by decide) ?_
                          exact ih120 ((j + 1)) ((mixL (acc4) ((iL ((β 1 (j))))))) (by omega) (by omega) (by rw [itL_s (by omega), ← hacc4])  ls (lv_sub hl [0, 1, 2] rfl)
                    exact L120 _ (0) ((mixL ((mixL ((dPas σ (dOwn σ (dPrm σ (dCtr σ (dSet σ (dCnt σ (κ 0 0) 2713))))))) ((UInt64.toInt64 ((shrS σ)))))) ((iL ((ln 0 0)))))) (Nat.lt_succ_self _) (by omega) (itL_0 _ _)  ls (lv_sub hl [0, 1, 2] rfl)
                  · skip
                    refine lv_lload_n hx hb dX4_digest_78 rfl (lv_at hl 1 rfl) ?_
                    refine lv_aload_n hx hb dX4_digest_79 rfl (lv_at hl 2 rfl) ?_
                    refine wi_iconst hx hb dX4_digest_80 ?_
                    refine lv_iload_n hx hb dX4_digest_81 rfl (lv_at hl 0 rfl) ?_
                    have hPc := fl_P (S' := [mnW x a sv o rd bu ln, stW cI a σ]) hP [0, 1] rfl
                    refine wr_calli (va_runV (As := [.int (iI (5)), .int (iI (z))]) (rest := [.long (acc3)]) ⟨hx, hb, hml, hown, hts⟩ (c_X4_ifPassed l D cI cO cC cL x a sv o rd bu ln σ (5) (z) (by omega) (by omega) (hI)) (cwV 2 hts gX4_digest_X4_ifPassed rfl rfl rfl (by decide +kernel) ⟨Nat.le_of_ble_eq_true rfl, Nat.le_of_ble_eq_true rfl⟩) ⟨pcR_blind, va_recv hK hPc (ci := 4) (q0 := 0) rfl rfl, pcR_of hPc hK⟩ rfl rfl hl.1 rfl (lv_room (Nat.le_of_ble_eq_true rfl)) dX4_digest_82 ⟨(Nat.zero_le _), (Nat.zero_le _)⟩) (fun r11 hr11 => ?_)
                    subst hr11
                    refine lv_i2l (v := iL ((pasS σ (5) (z)))) hx hb dX4_digest_85 rfl ?_
                    refine wr_calll (va_runS (As := [.long (acc3), .long ((iL ((pasS σ (5) (z)))))]) (rest := []) ⟨hx, hb, hml, hown, hts⟩ (c_X4_mixed l D cI cO cC cL (acc3) ((iL ((pasS σ (5) (z))))) ) (cwS 2 hts gX4_digest_X4_mixed rfl rfl rfl (by decide +kernel) ⟨Nat.le_of_ble_eq_true rfl, Nat.le_of_ble_eq_true rfl⟩) ⟨fun _ _ _ _ h => h, fun U hU hW => ⟨rfl, trivial⟩⟩ rfl rfl hl.1 rfl (lv_room (Nat.le_of_ble_eq_true rfl)) dX4_digest_86 ⟨(Nat.zero_le _), (Nat.zero_le _)⟩) (fun r12 hr12 => ?_)
                    subst hr12
                    refine lv_lstore_n (lv' := [(1, .long ((mixL (acc3) ((iL ((pasS σ (5) (z)))))))), (3, .int (iI (z))), (0, .ref (x 0))]) hx hb dX4_digest_89 rfl hl (by decide) rfl (fun ls hl => ?_)
                    refine wi_iinc (lv' := [(3, .int (iI ((z + 1)))), (1, .long ((mixL (acc3) ((iL ((pasS σ (5) (z)))))))), (0, .ref (x 0))]) hx hb dX4_digest_90 hl (k := 1) rfl (by decide) rfl (fun ls hl => ?_)
                    refine lv_goto (tgt := 73) hx hb dX4_digest_93 (by decide) ?_
                    exact ih73 ((z + 1)) ((mixL (acc3) ((iL ((pasS σ (5) (z))))))) (by omega) (by omega) (by rw [itL_s (by omega), ← hacc3])  ls (lv_sub hl [0, 1, 2] rfl)
              exact L73 _ (0) ((dOwn σ ((dPrm σ ((dCtr σ (dSet σ (dCnt σ (κ 0 0) 2713)))))))) (Nat.lt_succ_self _) (by omega) (itL_0 _ _)  ls (lv_sub hl [0, 1, 2] rfl)
            · skip
              refine lv_lload_n hx hb dX4_digest_36 rfl (lv_at hl 1 rfl) ?_
              refine lv_aload_n hx hb dX4_digest_37 rfl (lv_at hl 2 rfl) ?_
              refine lv_iload_n hx hb dX4_digest_38 rfl (lv_at hl 0 rfl) ?_
              have hPc := fl_P (S' := [mnW x a sv o rd bu ln, stW cI a σ]) hP [0, 1] rfl
              refine wr_calli (va_runV (As := [.int (iI (k))]) (rest := [.long (acc2)]) ⟨hx, hb, hml, hown, hts⟩ (c_X4_setting l D cI cO cC cL x a sv o rd bu ln σ (k) (by omega) (hI)) (cwV 1 hts gX4_digest_X4_setting rfl rfl rfl (by decide +kernel) ⟨Nat.le_of_ble_eq_true rfl, Nat.le_of_ble_eq_true rfl⟩) ⟨pcR_blind, va_recv hK hPc (ci := 4) (q0 := 0) rfl rfl, pcR_of hPc hK⟩ rfl rfl hl.1 rfl (lv_room (Nat.le_of_ble_eq_true rfl)) dX4_digest_39 ⟨(Nat.zero_le _), (Nat.zero_le _)⟩) (fun r13 hr13 => ?_)
              subst hr13
              refine lv_i2l (v := iL ((σ 1 (k)))) hx hb dX4_digest_42 rfl ?_
              refine wr_calll (va_runS (As := [.long (acc2), .long ((iL ((σ 1 (k)))))]) (rest := []) ⟨hx, hb, hml, hown, hts⟩ (c_X4_mixed l D cI cO cC cL (acc2) ((iL ((σ 1 (k))))) ) (cwS 2 hts gX4_digest_X4_mixed rfl rfl rfl (by decide +kernel) ⟨Nat.le_of_ble_eq_true rfl, Nat.le_of_ble_eq_true rfl⟩) ⟨fun _ _ _ _ h => h, fun U hU hW => ⟨rfl, trivial⟩⟩ rfl rfl hl.1 rfl (lv_room (Nat.le_of_ble_eq_true rfl)) dX4_digest_43 ⟨(Nat.zero_le _), (Nat.zero_le _)⟩) (fun r14 hr14 => ?_)
              subst hr14
              refine lv_lstore_n (lv' := [(1, .long ((mixL (acc2) ((iL ((σ 1 (k)))))))), (3, .int (iI (k))), (0, .ref (x 0))]) hx hb dX4_digest_46 rfl hl (by decide) rfl (fun ls hl => ?_)
              refine wi_iinc (lv' := [(3, .int (iI ((k + 1)))), (1, .long ((mixL (acc2) ((iL ((σ 1 (k)))))))), (0, .ref (x 0))]) hx hb dX4_digest_47 hl (k := 1) rfl (by decide) rfl (fun ls hl => ?_)
              refine lv_goto (tgt := 31) hx hb dX4_digest_50 (by decide) ?_
              exact ih31 ((k + 1)) ((mixL (acc2) ((iL ((σ 1 (k))))))) (by omega) (by omega) (by rw [itL_s (by omega), ← hacc2])  ls (lv_sub hl [0, 1, 2] rfl)
        exact L31 _ (0) ((dCnt σ (κ 0 0) 2713)) (Nat.lt_succ_self _) (by omega) (itL_0 _ _)  ls (lv_sub hl [0, 1, 2] rfl)
      · skip
        refine lv_lload_n hx hb dX4_digest_12 rfl (lv_at hl 1 rfl) ?_
        refine lv_aload_n hx hb dX4_digest_13 rfl (lv_at hl 2 rfl) ?_
        refine lv_iload_n hx hb dX4_digest_14 rfl (lv_at hl 0 rfl) ?_
        have hPc := fl_P (S' := [mnW x a sv o rd bu ln, stW cI a σ, svO cO sv fs κ]) hP [0, 1, 2] rfl
        refine wr_calli (va_runV (As := [.int (iI (w))]) (rest := [.long (acc)]) ⟨hx, hb, hml, hown, hts⟩ (c_X4_count l D cI cO cC cL x a sv o rd bu ln σ κ fs (w) (by omega) (hI)) (cwV 1 hts gX4_digest_X4_count rfl rfl rfl (by decide +kernel) ⟨Nat.le_of_ble_eq_true rfl, Nat.le_of_ble_eq_true rfl⟩) ⟨pcR_blind, va_recv hK hPc (ci := 4) (q0 := 0) rfl rfl, pcR_of hPc hK⟩ rfl rfl hl.1 rfl (lv_room (Nat.le_of_ble_eq_true rfl)) dX4_digest_15 ⟨(Nat.zero_le _), (Nat.zero_le _)⟩) (fun r15 hr15 => ?_)
        subst hr15
        refine wi_top (y := (cntS σ (κ 0 0) (w))) rfl ?_
        refine lv_i2l (v := iL ((cntS σ (κ 0 0) (w)))) hx hb dX4_digest_18 rfl ?_
        refine wr_calll (va_runS (As := [.long (acc), .long ((iL ((cntS σ (κ 0 0) (w)))))]) (rest := []) ⟨hx, hb, hml, hown, hts⟩ (c_X4_mixed l D cI cO cC cL (acc) ((iL ((cntS σ (κ 0 0) (w))))) ) (cwS 2 hts gX4_digest_X4_mixed rfl rfl rfl (by decide +kernel) ⟨Nat.le_of_ble_eq_true rfl, Nat.le_of_ble_eq_true rfl⟩) ⟨fun _ _ _ _ h => h, fun U hU hW => ⟨rfl, trivial⟩⟩ rfl rfl hl.1 rfl (lv_room (Nat.le_of_ble_eq_true rfl)) dX4_digest_19 ⟨(Nat.zero_le _), (Nat.zero_le _)⟩) (fun r16 hr16 => ?_)
        subst hr16
        refine lv_lstore_n (lv' := [(1, .long ((mixL (acc) ((iL ((cntS σ (κ 0 0) (w)))))))), (3, .int (iI (w))), (0, .ref (x 0))]) hx hb dX4_digest_22 rfl hl (by decide) rfl (fun ls hl => ?_)
        refine wi_iinc (lv' := [(3, .int (iI ((w + 1)))), (1, .long ((mixL (acc) ((iL ((cntS σ (κ 0 0) (w)))))))), (0, .ref (x 0))]) hx hb dX4_digest_23 hl (k := 1) rfl (by decide) rfl (fun ls hl => ?_)
        refine lv_goto (tgt := 6) hx hb dX4_digest_26 (by decide) ?_
        exact ih6 ((w + 1)) ((mixL (acc) ((iL ((cntS σ (κ 0 0) (w))))))) (by omega) (by omega) (by rw [itL_s (by omega), ← hacc])  ls (lv_sub hl [0, 1, 2] rfl)
  exact L6 _ (0) ((2713 : Int64)) (Nat.lt_succ_self _) (by omega) (itL_0 _ _)  ls (lv_sub hl [0, 1, 2] rfl)
