set_option maxHeartbeats 4000000 in
set_option maxRecDepth 100000 in
theorem c_X4_heldShare (l : Launch) (D : va_G) (cI cO cC cL : ClassId) (x a sv o rd bu : Nat → Nat) (ln σ : Nat → Int → Int) (hI : Inv σ) : Met l yX4_heldShare wsX4_heldShare ({ frames := 3, cells := 0, slots := 0, locals := 69 } : Room) (pcR D [(cI, FieldType.int), (cO, FieldType.object "PromisedCounters$State"), (cC, FieldType.char)] [.ref (x 0)] (fl [mnW x a sv o rd bu ln, stW cI a σ])) (vp_Sd (fun r => r = shrS σ)) 0 0 (fun _ => False) := by
  refine Met.ofW (cc := cX4_heldShare) (maxL := 4) (ret := (some .double)) (by decide) rfl ?_
  intro p9 e9 s m args9 below9 meth9 c9 s₁ B hml hv
  obtain ⟨rfl, hP, hK⟩ := hv
  have hx := B.exec
  have hb := B.bytes
  have hr := B.returns
  have hts := atoms_spec (ws := wsX4_heldShare) B.pre
  have hown : s.vm.findClass RX4 = some m.cls := findClass_of_methodNamed B.named
  have hlocks := B.notSynchronized
  have hl := lv_entry ([.ref (x 0)]) (n := 4) (Nat.le_of_ble_eq_true rfl)
  rw [lg_entry_eq]
  generalize (lg_sl ([.ref (x 0)]) ++ List.replicate (4 - (lg_sl ([.ref (x 0)])).length) Slot.unset).toArray = ls at hl ⊢
  have hl : lv_has ls 4 [(0, .ref (x 0))] := hl
  have hw_0 := hts (.fieldLink RX4 10 "PromisedCounters" "state" "LPromisedCounters$State;") (by decide +kernel)
  have hin_X4 : ∀ w ∈ u_ws RX4 TX4 6, w ∈ wsX4_heldShare := by decide +kernel
  have hw_1 := hts (.fieldLink RX4 71 "PromisedCounters$State" "most" "[I") (by decide +kernel)
  have hin_X3 : ∀ w ∈ u_ws RX3 TX3 15, w ∈ wsX4_heldShare := by decide +kernel
  have hw_2 := hts (.fieldLink RX4 75 "PromisedCounters$State" "least" "[I") (by decide +kernel)
  have hn := hI.n
  have hti := hI.t
  refine wi_iconst hx hb dX4_heldShare_0 ?_
  refine lv_istore_n (lv' := [(1, .int (iI (0))), (0, .ref (x 0))]) hx hb dX4_heldShare_1 rfl hl (by decide) rfl (fun ls hl => ?_)
  refine wi_iconst hx hb dX4_heldShare_2 ?_
  refine lv_istore_n (lv' := [(2, .int (iI (0))), (1, .int (iI (0))), (0, .ref (x 0))]) hx hb dX4_heldShare_3 rfl hl (by decide) rfl (fun ls hl => ?_)
  refine wi_iconst hx hb dX4_heldShare_4 ?_
  refine lv_istore_n (lv' := [(3, .int (iI (0))), (2, .int (iI (0))), (1, .int (iI (0))), (0, .ref (x 0))]) hx hb dX4_heldShare_5 rfl hl (by decide) rfl (fun ls hl => ?_)
  have L6 : ∀ (k6 : Nat), ∀ (g : Int) (k : Int) (c : Int), (4 - c).toNat < k6 → (0 ≤ c ∧ c ≤ 4) → (g = sm (fun c => highS σ c - lowS σ c (σ 0 0)) c.toNat) → (k = sm (fun c => σ 4 c - σ 3 c) c.toNat) → ∀ (ls : Array Slot), lv_has ls 4 [(3, .int (iI (c))), (2, .int (iI (k))), (1, .int (iI (g))), (0, .ref (x 0))] → W p9 l e9 ({ frames := 3, cells := 0, slots := 0, locals := 69 } : Room) s m ([.ref (x 0)] : List Value).toArray below9 meth9 c9 s.heap [] 0 0 (MQ below9 (vp_Sd (fun r => r = shrS σ)) ([.ref (x 0)] : List Value).toArray s 0 0 (fun _ => False)) (F0 m 6 ls []) := by
    intro k6
    induction k6 with
    | zero =>
      intro g k c hm
      exact absurd hm (Nat.not_lt_zero _)
    | succ k6 ih6 =>
      intro g k c hm6 hp ha1 ha2 ls hl
      refine lv_iload_n hx hb dX4_heldShare_6 rfl (lv_at hl 0 rfl) ?_
      refine wi_iconst hx hb dX4_heldShare_7 ?_
      refine wi_icmp_ge (tgt := 59) hx hb dX4_heldShare_8 (by decide) (by omega) (fun c_8 => ?_) (fun c_8 => ?_)
      · skip
        have hE1 : g = hldS σ := by rw [ha1, show c = 4 by omega]; rfl
        have hE2 : k = romS σ := by rw [ha2, show c = 4 by omega]; rfl
        have hhr := hld_r hI
        refine lv_iload_n hx hb dX4_heldShare_59 rfl (lv_at hl 1 rfl) ?_
        refine wi_if_ne (tgt := 67) hx hb dX4_heldShare_60 (by decide) (by omega) (fun c_60 => ?_) (fun c_60 => ?_)
        · skip
          refine lv_iload_n hx hb dX4_heldShare_67 rfl (lv_at hl 2 rfl) ?_
          refine lv_i2d hx hb dX4_heldShare_68 ?_
          refine lv_iload_n hx hb dX4_heldShare_69 rfl (lv_at hl 1 rfl) ?_
          refine lv_i2d hx hb dX4_heldShare_70 ?_
          refine lv_ddiv hx hb dX4_heldShare_71 (shr_n64 hI hE1 hE2 (by omega)) ?_
          exact W.dret (v := (FP.ddiv (FP.i2d (iI (g))) (FP.i2d (iI (k))))) hx hb hr (fun t9 ht9 hW9 => ⟨((FP.ddiv (FP.i2d (iI (g))) (FP.i2d (iI (k))))), rfl, (by unfold shrS; rw [← hE1, ← hE2]; unfold shD; first | rw [if_pos (by omega)] | rw [if_neg (by omega)]), ht9⟩) (fun _ h => nomatch h) dX4_heldShare_72 hlocks
        · skip
          refine lv_dconst0 hx hb dX4_heldShare_63 ?_
          refine lv_goto (tgt := 72) hx hb dX4_heldShare_64 (by decide) ?_
          exact W.dret (v := FP.dconst0) hx hb hr (fun t9 ht9 hW9 => ⟨(FP.dconst0), rfl, (by unfold shrS; rw [← hE1, ← hE2]; unfold shD; first | rw [if_pos (by omega)] | rw [if_neg (by omega)]), ht9⟩) (fun _ h => nomatch h) dX4_heldShare_72 hlocks
      · skip
        have hcc := hI.c (c := c) (by omega) (by omega)
        refine lv_iload_n hx hb dX4_heldShare_11 rfl (lv_at hl 2 rfl) ?_
        refine lv_aload_n hx hb dX4_heldShare_12 rfl (lv_at hl 3 rfl) ?_
        refine va_get (D := D) (ci := 4) (v := .ref (a 0)) (C := RX4) (T := TX4) (N := 6) hx hb hts hin_X4 hown hK hP 0 rfl rfl 0 (by decide) hw_0 (fun _ h9 => h9) rfl dX4_heldShare_13 ?_
        refine lv_iload_n hx hb dX4_heldShare_16 rfl (lv_at hl 0 rfl) ?_
        have hPc := fl_P (S' := [stW cI a σ]) hP [1] rfl
        have hKc := hK.sub (tys' := [(cI, FieldType.int)]) [0] rfl
        refine wr_calli (va_runV (As := [.int (iI (c))]) (rest := [.int (iI (g))]) ⟨hx, hb, hml, hown, hts⟩ (c_X3_highOf l D cI cO cC cL a σ (c) (by omega) (hI)) (cwV 1 hts gX4_heldShare_X3_highOf rfl rfl rfl (by decide +kernel) ⟨Nat.le_of_ble_eq_true rfl, Nat.le_of_ble_eq_true rfl⟩) ⟨pcR_blind, va_recv hKc hPc (ci := 3) (q0 := 0) rfl rfl, pcR_of hPc hKc⟩ rfl rfl hl.1 rfl (lv_room (Nat.le_of_ble_eq_true rfl)) dX4_heldShare_17 ⟨(Nat.zero_le _), (Nat.zero_le _)⟩) (fun r1 hr1 => ?_)
        subst hr1
        refine lv_aload_n hx hb dX4_heldShare_20 rfl (lv_at hl 3 rfl) ?_
        refine va_get (D := D) (ci := 4) (v := .ref (a 0)) (C := RX4) (T := TX4) (N := 6) hx hb hts hin_X4 hown hK hP 0 rfl rfl 0 (by decide) hw_0 (fun _ h9 => h9) rfl dX4_heldShare_21 ?_
        refine lv_iload_n hx hb dX4_heldShare_24 rfl (lv_at hl 0 rfl) ?_
        have hPc := fl_P (S' := [stW cI a σ]) hP [1] rfl
        have hKc := hK.sub (tys' := [(cI, FieldType.int)]) [0] rfl
        refine wr_calli (va_runV (As := [.int (iI (c))]) (rest := [.int (iI ((highS σ (c)))), .int (iI (g))]) ⟨hx, hb, hml, hown, hts⟩ (c_X3_lowOf l D cI cO cC cL a σ (c) (by omega) (hI)) (cwV 1 hts gX4_heldShare_X3_lowOf rfl rfl rfl (by decide +kernel) ⟨Nat.le_of_ble_eq_true rfl, Nat.le_of_ble_eq_true rfl⟩) ⟨pcR_blind, va_recv hKc hPc (ci := 3) (q0 := 0) rfl rfl, pcR_of hPc hKc⟩ rfl rfl hl.1 rfl (lv_room (Nat.le_of_ble_eq_true rfl)) dX4_heldShare_25 ⟨(Nat.zero_le _), (Nat.zero_le _)⟩) (fun r2 hr2 => ?_)
        subst hr2
        refine wi_isub hx hb dX4_heldShare_28 ?_
        refine wi_iadd hx hb dX4_heldShare_29 ?_
        refine lv_istore_n (lv' := [(1, .int (iI ((g + ((highS σ (c)) - (lowS σ (c) (σ 0 0))))))), (3, .int (iI (c))), (2, .int (iI (k))), (0, .ref (x 0))]) hx hb dX4_heldShare_30 rfl hl (by decide) rfl (fun ls hl => ?_)
        refine lv_iload_n hx hb dX4_heldShare_31 rfl (lv_at hl 2 rfl) ?_
        refine lv_aload_n hx hb dX4_heldShare_32 rfl (lv_at hl 3 rfl) ?_
        refine va_get (D := D) (ci := 4) (v := .ref (a 0)) (C := RX4) (T := TX4) (N := 6) hx hb hts hin_X4 hown hK hP 0 rfl rfl 0 (by decide) hw_0 (fun _ h9 => h9) rfl dX4_heldShare_33 ?_
        refine va_get (D := D) (ci := 3) (v := .ref (a 4)) (C := RX3) (T := TX3) (N := 15) hx hb hts hin_X3 hown hK hP 1 rfl rfl 6 (by decide) hw_1 (fun _ h9 => h9) rfl dX4_heldShare_36 ?_
        refine lv_iload_n hx hb dX4_heldShare_39 rfl (lv_at hl 1 rfl) ?_
        refine wi_iald hx hb hK hP 5 0 (n := 4) (f := σ 4) rfl rfl (i := c) (by omega) (by decide) dX4_heldShare_40 ?_
        refine lv_aload_n hx hb dX4_heldShare_41 rfl (lv_at hl 3 rfl) ?_
        refine va_get (D := D) (ci := 4) (v := .ref (a 0)) (C := RX4) (T := TX4) (N := 6) hx hb hts hin_X4 hown hK hP 0 rfl rfl 0 (by decide) hw_0 (fun _ h9 => h9) rfl dX4_heldShare_42 ?_
        refine va_get (D := D) (ci := 3) (v := .ref (a 3)) (C := RX3) (T := TX3) (N := 15) hx hb hts hin_X3 hown hK hP 1 rfl rfl 5 (by decide) hw_2 (fun _ h9 => h9) rfl dX4_heldShare_45 ?_
        refine lv_iload_n hx hb dX4_heldShare_48 rfl (lv_at hl 1 rfl) ?_
        refine wi_iald hx hb hK hP 4 0 (n := 4) (f := σ 3) rfl rfl (i := c) (by omega) (by decide) dX4_heldShare_49 ?_
        refine wi_isub hx hb dX4_heldShare_50 ?_
        refine wi_iadd hx hb dX4_heldShare_51 ?_
        refine lv_istore_n (lv' := [(2, .int (iI ((k + ((σ 4 (c)) - (σ 3 (c))))))), (1, .int (iI ((g + ((highS σ (c)) - (lowS σ (c) (σ 0 0))))))), (3, .int (iI (c))), (0, .ref (x 0))]) hx hb dX4_heldShare_52 rfl hl (by decide) rfl (fun ls hl => ?_)
        refine wi_iinc (lv' := [(3, .int (iI ((c + 1)))), (2, .int (iI ((k + ((σ 4 (c)) - (σ 3 (c))))))), (1, .int (iI ((g + ((highS σ (c)) - (lowS σ (c) (σ 0 0))))))), (0, .ref (x 0))]) hx hb dX4_heldShare_53 hl (k := 2) rfl (by decide) rfl (fun ls hl => ?_)
        refine lv_goto (tgt := 6) hx hb dX4_heldShare_56 (by decide) ?_
        exact ih6 ((g + ((highS σ (c)) - (lowS σ (c) (σ 0 0))))) ((k + ((σ 4 (c)) - (σ 3 (c))))) ((c + 1)) (by omega) (by omega) (by rw [sm_step (by omega)]; omega) (by rw [sm_step (by omega)]; omega)  ls (lv_sub hl [0, 1, 2, 3] rfl)
  exact L6 _ (0) (0) (0) (Nat.lt_succ_self _) (by omega) (rfl) (rfl)  ls (lv_sub hl [0, 1, 2, 3] rfl)
