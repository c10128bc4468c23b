set_option maxHeartbeats 4000000 in
set_option maxRecDepth 100000 in
theorem c_X5_share (l : Launch) (D : va_G) (cI cO cC cL : ClassId) (b : Nat → Nat) (μ σ : Nat → Int → Int) (hR : RelN σ (μ 1)) (hI : Inv σ) : Met l yX5_share wsX5_share ({ frames := 4, cells := 0, slots := 0, locals := 91 } : Room) (pcR D [(cI, FieldType.int)] [.ref (b 0)] (fl [mdW cI b μ])) (vp_Sd (fun r => r = shrS σ)) 0 0 (fun _ => False) := by
  refine Met.ofW (cc := cX5_share) (maxL := 4) (ret := (some .double)) (by decide) rfl ?_
  intro p9 e9 s m args9 below9 meth9 c9 s₁ B hml hv
  obtain ⟨rfl, hP, hK⟩ := hv
  have hx := B.exec
  have hb := B.bytes
  have hr := B.returns
  have hts := atoms_spec (ws := wsX5_share) B.pre
  have hown : s.vm.findClass RX5 = some m.cls := findClass_of_methodNamed B.named
  have hlocks := B.notSynchronized
  have hl := lv_entry ([.ref (b 0)]) (n := 4) (Nat.le_of_ble_eq_true rfl)
  rw [lg_entry_eq]
  generalize (lg_sl ([.ref (b 0)]) ++ List.replicate (4 - (lg_sl ([.ref (b 0)])).length) Slot.unset).toArray = ls at hl ⊢
  have hl : lv_has ls 4 [(0, .ref (b 0))] := hl
  have hw_0 := hts (.fieldLink RX5 7 "PromisedCountersModel" "now" "[I") (by decide +kernel)
  have hin_X5 : ∀ w ∈ u_ws RX5 TX5 12, w ∈ wsX5_share := by decide +kernel
  have hn := hI.n
  have hti := hI.t
  obtain ⟨hm0, hm1, hm2, hm3, hm4⟩ := hR.1
  refine wi_iconst hx hb dX5_share_0 ?_
  refine lv_istore_n (lv' := [(1, .int (iI (0))), (0, .ref (b 0))]) hx hb dX5_share_1 rfl hl (by decide) rfl (fun ls hl => ?_)
  refine wi_iconst hx hb dX5_share_2 ?_
  refine lv_istore_n (lv' := [(2, .int (iI (0))), (1, .int (iI (0))), (0, .ref (b 0))]) hx hb dX5_share_3 rfl hl (by decide) rfl (fun ls hl => ?_)
  refine wi_iconst hx hb dX5_share_4 ?_
  refine lv_istore_n (lv' := [(3, .int (iI (0))), (2, .int (iI (0))), (1, .int (iI (0))), (0, .ref (b 0))]) hx hb dX5_share_5 rfl hl (by decide) rfl (fun ls hl => ?_)
  have L6 : ∀ (k6 : Nat), ∀ (g : Int) (k : Int) (c : Int), (4 - c).toNat < k6 → (0 ≤ c ∧ c ≤ 4) → (g = sm (fun c => highS σ c - lowS σ c (σ 0 0)) c.toNat) → (k = sm (fun c => σ 4 c - σ 3 c) c.toNat) → ∀ (ls : Array Slot), lv_has ls 4 [(3, .int (iI (c))), (2, .int (iI (k))), (1, .int (iI (g))), (0, .ref (b 0))] → W p9 l e9 ({ frames := 4, cells := 0, slots := 0, locals := 91 } : Room) s m ([.ref (b 0)] : List Value).toArray below9 meth9 c9 s.heap [] 0 0 (MQ below9 (vp_Sd (fun r => r = shrS σ)) ([.ref (b 0)] : List Value).toArray s 0 0 (fun _ => False)) (F0 m 6 ls []) := by
    intro k6
    induction k6 with
    | zero =>
      intro g k c hm
      exact absurd hm (Nat.not_lt_zero _)
    | succ k6 ih6 =>
      intro g k c hm6 hp ha1 ha2 ls hl
      refine lv_iload_n hx hb dX5_share_6 rfl (lv_at hl 0 rfl) ?_
      refine wi_iconst hx hb dX5_share_7 ?_
      refine wi_icmp_ge (tgt := 53) hx hb dX5_share_8 (by decide) (by omega) (fun c_8 => ?_) (fun c_8 => ?_)
      · skip
        have hE1 : g = hldS σ := by rw [ha1, show c = 4 by omega]; rfl
        have hE2 : k = romS σ := by rw [ha2, show c = 4 by omega]; rfl
        have hhr := hld_r hI
        refine lv_iload_n hx hb dX5_share_53 rfl (lv_at hl 1 rfl) ?_
        refine wi_if_ne (tgt := 61) hx hb dX5_share_54 (by decide) (by omega) (fun c_54 => ?_) (fun c_54 => ?_)
        · skip
          refine lv_iload_n hx hb dX5_share_61 rfl (lv_at hl 2 rfl) ?_
          refine lv_i2d hx hb dX5_share_62 ?_
          refine lv_iload_n hx hb dX5_share_63 rfl (lv_at hl 1 rfl) ?_
          refine lv_i2d hx hb dX5_share_64 ?_
          refine lv_ddiv hx hb dX5_share_65 (shr_n64 hI hE1 hE2 (by omega)) ?_
          exact W.dret (v := (FP.ddiv (FP.i2d (iI (g))) (FP.i2d (iI (k))))) hx hb hr (fun t9 ht9 hW9 => ⟨((FP.ddiv (FP.i2d (iI (g))) (FP.i2d (iI (k))))), rfl, (by unfold shrS; rw [← hE1, ← hE2]; unfold shD; first | rw [if_pos (by omega)] | rw [if_neg (by omega)]), ht9⟩) (fun _ h => nomatch h) dX5_share_66 hlocks
        · skip
          refine lv_dconst0 hx hb dX5_share_57 ?_
          refine lv_goto (tgt := 66) hx hb dX5_share_58 (by decide) ?_
          exact W.dret (v := FP.dconst0) hx hb hr (fun t9 ht9 hW9 => ⟨(FP.dconst0), rfl, (by unfold shrS; rw [← hE1, ← hE2]; unfold shD; first | rw [if_pos (by omega)] | rw [if_neg (by omega)]), ht9⟩) (fun _ h => nomatch h) dX5_share_66 hlocks
      · skip
        have hcc := hI.c (c := c) (by omega) (by omega)
        obtain ⟨hk1, hk2, hk3⟩ := hR.2.1 c (by omega) (by omega)
        refine lv_iload_n hx hb dX5_share_11 rfl (lv_at hl 2 rfl) ?_
        refine lv_aload_n hx hb dX5_share_12 rfl (lv_at hl 3 rfl) ?_
        refine lv_iload_n hx hb dX5_share_13 rfl (lv_at hl 0 rfl) ?_
        refine wr_calli (va_runV (As := [.int (iI (c))]) (rest := [.int (iI (g))]) ⟨hx, hb, hml, hown, hts⟩ (c_X5_high l D cI cO cC cL b μ σ (c) (by omega) (hR) (hI)) (cwV 1 hts gX5_share_X5_high rfl rfl rfl (by decide +kernel) ⟨Nat.le_of_ble_eq_true rfl, Nat.le_of_ble_eq_true rfl⟩) ⟨pcR_blind, va_recv hK hP (ci := 5) (q0 := 0) rfl rfl, pcR_of hP hK⟩ rfl rfl hl.1 rfl (lv_room (Nat.le_of_ble_eq_true rfl)) dX5_share_14 ⟨(Nat.zero_le _), (Nat.zero_le _)⟩) (fun r1 hr1 => ?_)
        subst hr1
        refine lv_aload_n hx hb dX5_share_17 rfl (lv_at hl 3 rfl) ?_
        refine lv_iload_n hx hb dX5_share_18 rfl (lv_at hl 0 rfl) ?_
        refine wr_calli (va_runV (As := [.int (iI (c))]) (rest := [.int (iI ((highS σ (c)))), .int (iI (g))]) ⟨hx, hb, hml, hown, hts⟩ (c_X5_low l D cI cO cC cL b μ σ (c) (by omega) (hR) (hI)) (cwV 1 hts gX5_share_X5_low rfl rfl rfl (by decide +kernel) ⟨Nat.le_of_ble_eq_true rfl, Nat.le_of_ble_eq_true rfl⟩) ⟨pcR_blind, va_recv hK hP (ci := 5) (q0 := 0) rfl rfl, pcR_of hP hK⟩ rfl rfl hl.1 rfl (lv_room (Nat.le_of_ble_eq_true rfl)) dX5_share_19 ⟨(Nat.zero_le _), (Nat.zero_le _)⟩) (fun r2 hr2 => ?_)
        subst hr2
        refine wi_isub hx hb dX5_share_22 ?_
        refine wi_iadd hx hb dX5_share_23 ?_
        refine lv_istore_n (lv' := [(1, .int (iI ((g + ((highS σ (c)) - (lowS σ (c) (σ 0 0))))))), (3, .int (iI (c))), (2, .int (iI (k))), (0, .ref (b 0))]) hx hb dX5_share_24 rfl hl (by decide) rfl (fun ls hl => ?_)
        refine lv_iload_n hx hb dX5_share_25 rfl (lv_at hl 2 rfl) ?_
        refine lv_aload_n hx hb dX5_share_26 rfl (lv_at hl 3 rfl) ?_
        refine va_get (D := D) (ci := 5) (v := .ref (b 1)) (C := RX5) (T := TX5) (N := 12) hx hb hts hin_X5 hown hK hP 0 rfl rfl 0 (by decide) hw_0 (fun _ h9 => h9) rfl dX5_share_27 ?_
        refine wi_bipush hx hb dX5_share_30 (by decide) ?_
        refine lv_iload_n hx hb dX5_share_32 rfl (lv_at hl 1 rfl) ?_
        refine wi_iadd hx hb dX5_share_33 ?_
        refine wi_iald hx hb hK hP 1 0 (n := 115) (f := μ 1) rfl rfl (i := (13 + c)) (by omega) (by decide) dX5_share_34 ?_
        refine lv_aload_n hx hb dX5_share_35 rfl (lv_at hl 3 rfl) ?_
        refine va_get (D := D) (ci := 5) (v := .ref (b 1)) (C := RX5) (T := TX5) (N := 12) hx hb hts hin_X5 hown hK hP 0 rfl rfl 0 (by decide) hw_0 (fun _ h9 => h9) rfl dX5_share_36 ?_
        refine wi_bipush hx hb dX5_share_39 (by decide) ?_
        refine lv_iload_n hx hb dX5_share_41 rfl (lv_at hl 1 rfl) ?_
        refine wi_iadd hx hb dX5_share_42 ?_
        refine wi_iald hx hb hK hP 1 0 (n := 115) (f := μ 1) rfl rfl (i := (9 + c)) (by omega) (by decide) dX5_share_43 ?_
        refine wi_isub hx hb dX5_share_44 ?_
        refine wi_iadd hx hb dX5_share_45 ?_
        refine lv_istore_n (lv' := [(2, .int (iI ((k + ((μ 1 ((13 + c))) - (μ 1 ((9 + c)))))))), (1, .int (iI ((g + ((highS σ (c)) - (lowS σ (c) (σ 0 0))))))), (3, .int (iI (c))), (0, .ref (b 0))]) hx hb dX5_share_46 rfl hl (by decide) rfl (fun ls hl => ?_)
        refine wi_iinc (lv' := [(3, .int (iI ((c + 1)))), (2, .int (iI ((k + ((μ 1 ((13 + c))) - (μ 1 ((9 + c)))))))), (1, .int (iI ((g + ((highS σ (c)) - (lowS σ (c) (σ 0 0))))))), (0, .ref (b 0))]) hx hb dX5_share_47 hl (k := 2) rfl (by decide) rfl (fun ls hl => ?_)
        refine lv_goto (tgt := 6) hx hb dX5_share_50 (by decide) ?_
        exact ih6 ((g + ((highS σ (c)) - (lowS σ (c) (σ 0 0))))) ((k + ((μ 1 ((13 + c))) - (μ 1 ((9 + c)))))) ((c + 1)) (by omega) (by omega) (by rw [sm_step (by omega)]; omega) (by rw [sm_step (by omega)]; omega)  ls (lv_sub hl [0, 1, 2, 3] rfl)
  exact L6 _ (0) (0) (0) (Nat.lt_succ_self _) (by omega) (rfl) (rfl)  ls (lv_sub hl [0, 1, 2, 3] rfl)
set_option maxHeartbeats 4000000 in
set_option maxRecDepth 100000 in
theorem c_X5_heldShare (l : Launch) (D : va_G) (cI cO cC cL : ClassId) (sz : Nat) (b : Nat → Nat) (μ σ : Nat → Int → Int) (ss : Nat → Nat → Int → Int) (β : Int → Int) (hM : RelM σ (μ 0 0) ss (μ 0 1) β μ) (hG : GI σ (μ 0 0) ss (μ 0 1) β) : Met l yX5_heldShare wsX5_heldShare ({ frames := 5, cells := 0, slots := 0, locals := 114 } : Room) (pcW D [(cI, FieldType.int)] [.ref (b 0)] (fl [mdW cI b μ]) sz) (va_Qd (fun (r : UInt64) (μ' : Nat → Int → Int) => r = shrS σ ∧ RelM σ (μ 0 0) ss (μ 0 1) β μ') (fun (μ' : Nat → Int → Int) => (bW D [(cI, FieldType.int)] (fl [mdW cI b μ']) (va_A (fl [mdW cI b μ]) sz))) (va_A (fl [mdW cI b μ]) sz)) 0 0 (va_A (fl [mdW cI b μ]) sz) := by
  refine Met.ofW (cc := cX5_heldShare) (maxL := 1) (ret := (some .double)) (by decide) rfl ?_
  intro p9 e9 s m args9 below9 meth9 c9 s₁ B hml hv
  obtain ⟨rfl, hsz, hP, hK, hD0⟩ := hv
  have hx := B.exec
  have hb := B.bytes
  have hr := B.returns
  have hts := atoms_spec (ws := wsX5_heldShare) B.pre
  have hown : s.vm.findClass RX5 = some m.cls := findClass_of_methodNamed B.named
  have hlocks := B.notSynchronized
  subst hsz
  have hD := hD0.self (sz := s.heap.size)
  generalize hAe : va_A (fl [mdW cI b μ]) s.heap.size = A at hD ⊢
  have hA : ∀ q : Nat, s.heap.size ≤ q → A q := fun q h => by rw [← hAe]; exact Or.inr h
  have hS : va_S A s.heap s.heap [] := va_S.rf
  have hP : va_P D vwCl (fl [mdW cI b μ]) s.heap := hP
  have hl := lv_entry ([.ref (b 0)]) (n := 1) (Nat.le_of_ble_eq_true rfl)
  rw [lg_entry_eq]
  generalize (lg_sl ([.ref (b 0)]) ++ List.replicate (1 - (lg_sl ([.ref (b 0)])).length) Slot.unset).toArray = ls at hl ⊢
  have hl : lv_has ls 1 [(0, .ref (b 0))] := hl
  have hw_0 := hts (.fieldLink RX5 25 "PromisedCountersModel" "thrown" "I") (by decide +kernel)
  have hin_X5 : ∀ w ∈ u_ws RX5 TX5 12, w ∈ wsX5_heldShare := by decide +kernel
  have hI := hG.1
  have hR := hM.1
  have hn := hI.n
  have hti := hI.t
  obtain ⟨hm0, hm1, hm2, hm3, hm4⟩ := hR.1
  refine lv_aload_n hx hb dX5_heldShare_0 rfl (lv_at hl 0 rfl) ?_
  refine wi_iconst hx hb dX5_heldShare_1 ?_
  refine va_put (D := D) (ci := 5) (v := .int (iI (0))) (ty := .int) (C := RX5) (T := TX5) (N := 12) hx hb hts hin_X5 tyX5 tyX5_ok nmX5 hown hK hP hD hS 0 rfl rfl 5 (by decide) hw_0 (fun _ h9 => h9) rfl (by decide +kernel) rfl rfl (Nat.le_of_ble_eq_true rfl) dX5_heldShare_2 (fun H locs hP hD hS => ?_)
  have hP : va_P D vwCl (fl [mdW cI b (sU μ 0 (2) (0))]) H := hP
  have hD : va_D A (fl [mdW cI b (sU μ 0 (2) (0))]) := hD
  refine lv_aload_n hx hb dX5_heldShare_5 rfl (lv_at hl 0 rfl) ?_
  refine wr_calld (va_runV (As := []) (rest := []) ⟨hx, hb, hml, hown, hts⟩ (c_X5_share l D cI cO cC cL b (sU μ 0 (2) (0)) σ (hR) (hI)) (cwV 0 hts gX5_heldShare_X5_share rfl rfl rfl (by decide +kernel) ⟨Nat.le_of_ble_eq_true rfl, Nat.le_of_ble_eq_true rfl⟩) ⟨pcR_blind, va_recv hK hP (ci := 5) (q0 := 0) rfl rfl, pcR_of hP hK⟩ rfl rfl hl.1 rfl (lv_room (Nat.le_of_ble_eq_true rfl)) dX5_heldShare_6 ⟨(Nat.zero_le _), (Nat.zero_le _)⟩) (fun r1 hr1 => ?_)
  subst hr1
  exact W.dret (v := (shrS σ)) hx hb hr (fun t9 ht9 hW9 => ⟨⟨((shrS σ)), (sU μ 0 (2) (0)), rfl, (⟨rfl, hM.1, rfl, hM.2.2.1, rfl, hM.2.2.2.2⟩), ⟨by rw [ht9]; exact hP, va_K.moved hW9.alike hK, hD⟩⟩, hS.F ht9⟩) hS.2.2 dX5_heldShare_9 hlocks
set_option maxHeartbeats 4000000 in
set_option maxRecDepth 100000 in
theorem c_X5_digest (l : Launch) (D : va_G) (cI cO cC cL : ClassId) (sz : Nat) (b : Nat → Nat) (μ σ : Nat → Int → Int) (ss : Nat → Nat → Int → Int) (β : Int → Int) (hM : RelM σ (μ 0 0) ss (μ 0 1) β μ) (hG : GI σ (μ 0 0) ss (μ 0 1) β) : Met l yX5_digest wsX5_digest ({ frames := 6, cells := 0, slots := 0, locals := 142 } : Room) (pcW D [(cI, FieldType.int)] [.ref (b 0)] (fl [mdW cI b μ]) sz) (va_Ql (fun (r : Int64) (μ' : Nat → Int → Int) => r = digS σ (μ 0 0) (μ 0 1) β ∧ RelM σ (μ 0 0) ss (μ 0 1) β μ') (fun (μ' : Nat → Int → Int) => (bW D [(cI, FieldType.int)] (fl [mdW cI b μ']) (va_A (fl [mdW cI b μ]) sz))) (va_A (fl [mdW cI b μ]) sz)) 0 0 (va_A (fl [mdW cI b μ]) sz) := by
  refine Met.ofW (cc := cX5_digest) (maxL := 5) (ret := (some .long)) (by decide) rfl ?_
  intro p9 e9 s m args9 below9 meth9 c9 s₁ B hml hv
  obtain ⟨rfl, hsz, hP, hK, hD0⟩ := hv
  have hx := B.exec
  have hb := B.bytes
  have hr := B.returns
  have hts := atoms_spec (ws := wsX5_digest) B.pre
  have hown : s.vm.findClass RX5 = some m.cls := findClass_of_methodNamed B.named
  have hlocks := B.notSynchronized
  subst hsz
  have hD := hD0.self (sz := s.heap.size)
  generalize hAe : va_A (fl [mdW cI b μ]) s.heap.size = A at hD ⊢
  have hA : ∀ q : Nat, s.heap.size ≤ q → A q := fun q h => by rw [← hAe]; exact Or.inr h
  have hS : va_S A s.heap s.heap [] := va_S.rf
  have hP : va_P D vwCl (fl [mdW cI b μ]) s.heap := hP
  have hl := lv_entry ([.ref (b 0)]) (n := 5) (Nat.le_of_ble_eq_true rfl)
  rw [lg_entry_eq]
  generalize (lg_sl ([.ref (b 0)]) ++ List.replicate (5 - (lg_sl ([.ref (b 0)])).length) Slot.unset).toArray = ls at hl ⊢
  have hl : lv_has ls 5 [(0, .ref (b 0))] := hl
  have hw_0 := hts (.fieldLink RX5 25 "PromisedCountersModel" "thrown" "I") (by decide +kernel)
  have hin_X5 : ∀ w ∈ u_ws RX5 TX5 12, w ∈ wsX5_digest := by decide +kernel
  have hw_1 := hts (Cond.constantLong RX5 175 (2713)) (by decide +kernel)
  have hw_2 := hts (Cond.constantLong RX5 177 (31)) (by decide +kernel)
  have hw_3 := hts (.fieldLink RX5 7 "PromisedCountersModel" "now" "[I") (by decide +kernel)
  have hw_4 := hts (.fieldLink RX5 94 "PromisedCountersModel" "typed" "I") (by decide +kernel)
  have hw_5 := hts (.fieldLink RX5 16 "PromisedCountersModel" "text" "[I") (by decide +kernel)
  have hI := hG.1
  have hR := hM.1
  have hn := hI.n
  have hti := hI.t
  obtain ⟨hm0, hm1, hm2, hm3, hm4⟩ := hR.1
  have hln := hG.2.2.2.1
  have he1 : uI (μ 0) 2 0 1 = μ 0 1 := rfl
  refine lv_aload_n hx hb dX5_digest_0 rfl (lv_at hl 0 rfl) ?_
  refine wi_iconst hx hb dX5_digest_1 ?_
  refine va_put (D := D) (ci := 5) (v := .int (iI (0))) (ty := .int) (C := RX5) (T := TX5) (N := 12) hx hb hts hin_X5 tyX5 tyX5_ok nmX5 hown hK hP hD hS 0 rfl rfl 5 (by decide) hw_0 (fun _ h9 => h9) rfl (by decide +kernel) rfl rfl (Nat.le_of_ble_eq_true rfl) dX5_digest_2 (fun H locs hP hD hS => ?_)
  have hP : va_P D vwCl (fl [mdW cI b (sU μ 0 (2) (0))]) H := hP
  have hD : va_D A (fl [mdW cI b (sU μ 0 (2) (0))]) := hD
  refine lv_ldc2 hx hb hown hw_1 dX5_digest_5 ?_
  refine lv_lstore_n (lv' := [(1, .long ((2713 : Int64))), (0, .ref (b 0))]) hx hb dX5_digest_8 rfl hl (by decide) rfl (fun ls hl => ?_)
  refine wi_iconst hx hb dX5_digest_9 ?_
  refine lv_istore_n (lv' := [(3, .int (iI (0))), (1, .long ((2713 : Int64))), (0, .ref (b 0))]) hx hb dX5_digest_10 rfl hl (by decide) rfl (fun ls hl => ?_)
  have L11 : ∀ (k11 : Nat), ∀ (w : Int) (acc : Int64), (10 - w).toNat < k11 → (0 ≤ w ∧ w ≤ 10) → (acc = itL (fun w h => mixL h (iL (cntS σ (μ 0 0) w))) w.toNat (2713)) → ∀ (ls : Array Slot), lv_has ls 5 [(3, .int (iI (w))), (1, .long (acc)), (0, .ref (b 0))] → W p9 l e9 ({ frames := 6, cells := 0, slots := 0, locals := 142 } : Room) s m ([.ref (b 0)] : List Value).toArray below9 meth9 c9 H locs 0 0 (MQ below9 (va_Ql (fun (r : Int64) (μ' : Nat → Int → Int) => r = digS σ (μ 0 0) (μ 0 1) β ∧ RelM σ (μ 0 0) ss (μ 0 1) β μ') (fun (μ' : Nat → Int → Int) => (bW D [(cI, FieldType.int)] (fl [mdW cI b μ']) A)) A) ([.ref (b 0)] : List Value).toArray s 0 0 A) (F0 m 11 ls []) := by
    intro k11
    induction k11 with
    | zero =>
      intro w acc hm
      exact absurd hm (Nat.not_lt_zero _)
    | succ k11 ih11 =>
      intro w acc hm11 hw hacc ls hl
      refine lv_iload_n hx hb dX5_digest_11 rfl (lv_at hl 0 rfl) ?_
      refine wi_bipush hx hb dX5_digest_12 (by decide) ?_
      refine wi_icmp_ge (tgt := 36) hx hb dX5_digest_14 (by decide) (by omega) (fun c_14 => ?_) (fun c_14 => ?_)
      · skip
        have e_acc : acc = dCnt σ (μ 0 0) 2713 := by rw [hacc, show w.toNat = 10 by omega]; rfl
        refine lv_ldc2 hx hb hown hw_2 dX5_digest_36 ?_
        refine lv_ldc2 hx hb hown hw_2 dX5_digest_39 ?_
        refine lv_lload_n hx hb dX5_digest_42 rfl (lv_at hl 1 rfl) ?_
        refine lv_lmul hx hb dX5_digest_43 ?_
        refine lv_aload_n hx hb dX5_digest_44 rfl (lv_at hl 2 rfl) ?_
        refine va_get (D := D) (ci := 5) (v := .ref (b 1)) (C := RX5) (T := TX5) (N := 12) hx hb hts hin_X5 hown hK hP 0 rfl rfl 0 (by decide) hw_3 (fun _ h9 => h9) rfl dX5_digest_45 ?_
        refine wi_iconst hx hb dX5_digest_48 ?_
        refine wi_iald hx hb hK hP 1 0 (n := 115) (f := μ 1) rfl rfl (i := 1) (by omega) (by decide) dX5_digest_49 ?_
        refine lv_i2l (v := iL ((μ 1 (1)))) hx hb dX5_digest_50 rfl ?_
        refine lv_ladd hx hb dX5_digest_51 ?_
        refine lv_lmul hx hb dX5_digest_52 ?_
        refine lv_aload_n hx hb dX5_digest_53 rfl (lv_at hl 2 rfl) ?_
        refine va_get (D := D) (ci := 5) (v := .ref (b 1)) (C := RX5) (T := TX5) (N := 12) hx hb hts hin_X5 hown hK hP 0 rfl rfl 0 (by decide) hw_3 (fun _ h9 => h9) rfl dX5_digest_54 ?_
        refine wi_iconst hx hb dX5_digest_57 ?_
        refine wi_iald hx hb hK hP 1 0 (n := 115) (f := μ 1) rfl rfl (i := 2) (by omega) (by decide) dX5_digest_58 ?_
        refine lv_i2l (v := iL ((μ 1 (2)))) hx hb dX5_digest_59 rfl ?_
        refine lv_ladd hx hb dX5_digest_60 ?_
        have e_set : (((31 : Int64) * (((31 : Int64) * acc) + (iL ((μ 1 (1)))))) + (iL ((μ 1 (2))))) = dSet σ (dCnt σ (μ 0 0) 2713) := by rw [hm1, hm2, e_acc]; rfl
        rw [e_set]
        refine lv_lstore_n (lv' := [(1, .long ((dSet σ (dCnt σ (μ 0 0) 2713)))), (3, .int (iI (w))), (0, .ref (b 0))]) hx hb dX5_digest_61 rfl hl (by decide) rfl (fun ls hl => ?_)
        refine wi_iconst hx hb dX5_digest_62 ?_
        refine lv_istore_n (lv' := [(3, .int (iI (0))), (1, .long ((dSet σ (dCnt σ (μ 0 0) 2713)))), (0, .ref (b 0))]) hx hb dX5_digest_63 rfl hl (by decide) rfl (fun ls hl => ?_)
        have L64 : ∀ (k64 : Nat), ∀ (c : Int) (a2 : Int64) (f : Int → Int), (4 - c).toNat < k64 → (0 ≤ c ∧ c ≤ 4) → (a2 = itL (dCt1 σ) c.toNat (dSet σ (dCnt σ (μ 0 0) 2713))) → ∀ (H : Heap) (locs : List Loc), va_P D vwCl (fl [mdW cI b (sR (sU μ 0 2 0) 5 f)]) H → va_D A (fl [mdW cI b (sR (sU μ 0 2 0) 5 f)]) → va_S A s.heap H locs → ∀ (ls : Array Slot), lv_has ls 5 [(3, .int (iI (c))), (1, .long (a2)), (0, .ref (b 0))] → W p9 l e9 ({ frames := 6, cells := 0, slots := 0, locals := 142 } : Room) s m ([.ref (b 0)] : List Value).toArray below9 meth9 c9 H locs 0 0 (MQ below9 (va_Ql (fun (r : Int64) (μ' : Nat → Int → Int) => r = digS σ (μ 0 0) (μ 0 1) β ∧ RelM σ (μ 0 0) ss (μ 0 1) β μ') (fun (μ' : Nat → Int → Int) => (bW D [(cI, FieldType.int)] (fl [mdW cI b μ']) A)) A) ([.ref (b 0)] : List Value).toArray s 0 0 A) (F0 m 64 ls []) := by
          intro k64
          induction k64 with
          | zero =>
            intro c a2 f hm
            exact absurd hm (Nat.not_lt_zero _)
          | succ k64 ih64 =>
            intro c a2 f hm64 hc hac2 H locs hP hD hS ls hl
            refine lv_iload_n hx hb dX5_digest_64 rfl (lv_at hl 0 rfl) ?_
            refine wi_iconst hx hb dX5_digest_65 ?_
            refine wi_icmp_ge (tgt := 148) hx hb dX5_digest_66 (by decide) (by omega) (fun c_66 => ?_) (fun c_66 => ?_)
            · skip
              have e_a2 : a2 = dCtr σ (dSet σ (dCnt σ (μ 0 0) 2713)) := by rw [hac2, show c.toNat = 4 by omega]; rfl
              subst e_a2
              refine wi_iconst hx hb dX5_digest_148 ?_
              refine lv_istore_n (lv' := [(3, .int (iI (0))), (1, .long ((dCtr σ (dSet σ (dCnt σ (μ 0 0) 2713))))), (0, .ref (b 0))]) hx hb dX5_digest_149 rfl hl (by decide) rfl (fun ls hl => ?_)
              have L150 : ∀ (k150 : Nat), ∀ (p : Int) (a4 : Int64), (σ 0 1 - p).toNat < k150 → (0 ≤ p ∧ p ≤ σ 0 1) → (a4 = itL (dPr1 σ) p.toNat (dCtr σ (dSet σ (dCnt σ (μ 0 0) 2713)))) → ∀ (ls : Array Slot), lv_has ls 5 [(3, .int (iI (p))), (1, .long (a4)), (0, .ref (b 0))] → W p9 l e9 ({ frames := 6, cells := 0, slots := 0, locals := 142 } : Room) s m ([.ref (b 0)] : List Value).toArray below9 meth9 c9 H locs 0 0 (MQ below9 (va_Ql (fun (r : Int64) (μ' : Nat → Int → Int) => r = digS σ (μ 0 0) (μ 0 1) β ∧ RelM σ (μ 0 0) ss (μ 0 1) β μ') (fun (μ' : Nat → Int → Int) => (bW D [(cI, FieldType.int)] (fl [mdW cI b μ']) A)) A) ([.ref (b 0)] : List Value).toArray s 0 0 A) (F0 m 150 ls []) := by
                intro k150
                induction k150 with
                | zero =>
                  intro p a4 hm
                  exact absurd hm (Nat.not_lt_zero _)
                | succ k150 ih150 =>
                  intro p a4 hm150 hp hac4 ls hl
                  refine lv_iload_n hx hb dX5_digest_150 rfl (lv_at hl 0 rfl) ?_
                  refine lv_aload_n hx hb dX5_digest_151 rfl (lv_at hl 2 rfl) ?_
                  refine va_get (D := D) (ci := 5) (v := .ref (b 1)) (C := RX5) (T := TX5) (N := 12) hx hb hts hin_X5 hown hK hP 0 rfl rfl 0 (by decide) hw_3 (fun _ h9 => h9) rfl dX5_digest_152 ?_
                  refine wi_iconst hx hb dX5_digest_155 ?_
                  refine wi_iald hx hb hK hP 1 0 (n := 115) (f := μ 1) rfl rfl (i := 3) (by omega) (by decide) dX5_digest_156 ?_
                  refine wi_icmp_ge (tgt := 197) hx hb dX5_digest_157 (by decide) (by omega) (fun c_157 => ?_) (fun c_157 => ?_)
                  · skip
                    have e_a4 : a4 = dPrm σ (dCtr σ (dSet σ (dCnt σ (μ 0 0) 2713))) := by rw [hac4, show p = σ 0 1 by omega]; rfl
                    subst e_a4
                    refine wi_iconst hx hb dX5_digest_197 ?_
                    refine lv_istore_n (lv' := [(3, .int (iI (0))), (1, .long ((dPrm σ (dCtr σ (dSet σ (dCnt σ (μ 0 0) 2713)))))), (0, .ref (b 0))]) hx hb dX5_digest_198 rfl hl (by decide) rfl (fun ls hl => ?_)
                    have L199 : ∀ (k199 : Nat), ∀ (q : Int) (a6 : Int64), (6 - q).toNat < k199 → (0 ≤ q ∧ q ≤ 6) → (a6 = itL (dOw1 σ) q.toNat (dPrm σ (dCtr σ (dSet σ (dCnt σ (μ 0 0) 2713))))) → ∀ (ls : Array Slot), lv_has ls 5 [(3, .int (iI (q))), (1, .long (a6)), (0, .ref (b 0))] → W p9 l e9 ({ frames := 6, cells := 0, slots := 0, locals := 142 } : Room) s m ([.ref (b 0)] : List Value).toArray below9 meth9 c9 H locs 0 0 (MQ below9 (va_Ql (fun (r : Int64) (μ' : Nat → Int → Int) => r = digS σ (μ 0 0) (μ 0 1) β ∧ RelM σ (μ 0 0) ss (μ 0 1) β μ') (fun (μ' : Nat → Int → Int) => (bW D [(cI, FieldType.int)] (fl [mdW cI b μ']) A)) A) ([.ref (b 0)] : List Value).toArray s 0 0 A) (F0 m 199 ls []) := by
                      intro k199
                      induction k199 with
                      | zero =>
                        intro q a6 hm
                        exact absurd hm (Nat.not_lt_zero _)
                      | succ k199 ih199 =>
                        intro q a6 hm199 hq hac6 ls hl
                        refine lv_iload_n hx hb dX5_digest_199 rfl (lv_at hl 0 rfl) ?_
                        refine wi_bipush hx hb dX5_digest_200 (by decide) ?_
                        refine wi_icmp_ge (tgt := 258) hx hb dX5_digest_202 (by decide) (by omega) (fun c_202 => ?_) (fun c_202 => ?_)
                        · skip
                          have e_a6 : a6 = dOwn σ (dPrm σ (dCtr σ (dSet σ (dCnt σ (μ 0 0) 2713)))) := by rw [hac6, show q.toNat = 6 by omega]; rfl
                          subst e_a6
                          refine wi_iconst hx hb dX5_digest_258 ?_
                          refine lv_istore_n (lv' := [(3, .int (iI (0))), (1, .long ((dOwn σ (dPrm σ (dCtr σ (dSet σ (dCnt σ (μ 0 0) 2713))))))), (0, .ref (b 0))]) hx hb dX5_digest_259 rfl hl (by decide) rfl (fun ls hl => ?_)
                          have L260 : ∀ (k260 : Nat), ∀ (z : Int) (a8 : Int64), (5 - z).toNat < k260 → (0 ≤ z ∧ z ≤ 5) → (a8 = itL (fun w h => mixL h (iL (pasS σ 5 w))) z.toNat (dOwn σ (dPrm σ (dCtr σ (dSet σ (dCnt σ (μ 0 0) 2713)))))) → ∀ (ls : Array Slot), lv_has ls 5 [(3, .int (iI (z))), (1, .long (a8)), (0, .ref (b 0))] → W p9 l e9 ({ frames := 6, cells := 0, slots := 0, locals := 142 } : Room) s m ([.ref (b 0)] : List Value).toArray below9 meth9 c9 H locs 0 0 (MQ below9 (va_Ql (fun (r : Int64) (μ' : Nat → Int → Int) => r = digS σ (μ 0 0) (μ 0 1) β ∧ RelM σ (μ 0 0) ss (μ 0 1) β μ') (fun (μ' : Nat → Int → Int) => (bW D [(cI, FieldType.int)] (fl [mdW cI b μ']) A)) A) ([.ref (b 0)] : List Value).toArray s 0 0 A) (F0 m 260 ls []) := by
                            intro k260
                            induction k260 with
                            | zero =>
                              intro z a8 hm
                              exact absurd hm (Nat.not_lt_zero _)
                            | succ k260 ih260 =>
                              intro z a8 hm260 hz hac8 ls hl
                              refine lv_iload_n hx hb dX5_digest_260 rfl (lv_at hl 0 rfl) ?_
                              refine wi_iconst hx hb dX5_digest_261 ?_
                              refine wi_icmp_ge (tgt := 285) hx hb dX5_digest_262 (by decide) (by omega) (fun c_262 => ?_) (fun c_262 => ?_)
                              · skip
                                have e_a8 : a8 = dPas σ (dOwn σ (dPrm σ (dCtr σ (dSet σ (dCnt σ (μ 0 0) 2713))))) := by rw [hac8, show z.toNat = 5 by omega]; rfl
                                subst e_a8
                                refine lv_ldc2 hx hb hown hw_2 dX5_digest_285 ?_
                                refine lv_ldc2 hx hb hown hw_2 dX5_digest_288 ?_
                                refine lv_lload_n hx hb dX5_digest_291 rfl (lv_at hl 1 rfl) ?_
                                refine lv_lmul hx hb dX5_digest_292 ?_
                                refine lv_aload_n hx hb dX5_digest_293 rfl (lv_at hl 2 rfl) ?_
                                refine wr_calld (va_runV (As := []) (rest := [.long (((31 : Int64) * (dPas σ (dOwn σ (dPrm σ (dCtr σ (dSet σ (dCnt σ (μ 0 0) 2713)))))))), .long ((31 : Int64))]) ⟨hx, hb, hml, hown, hts⟩ (c_X5_share l D cI cO cC cL b (sR (sU μ 0 2 0) 5 f) σ (hR) (hI)) (cwV 0 hts gX5_digest_X5_share rfl rfl rfl (by decide +kernel) ⟨Nat.le_of_ble_eq_true rfl, Nat.le_of_ble_eq_true rfl⟩) ⟨pcR_blind, va_recv hK hP (ci := 5) (q0 := 0) rfl rfl, pcR_of hP hK⟩ rfl rfl hl.1 rfl (lv_room (Nat.le_of_ble_eq_true rfl)) dX5_digest_294 ⟨(Nat.zero_le _), (Nat.zero_le _)⟩) (fun r1 hr1 => ?_)
                                subst hr1
                                refine wr_calll (va_runS (As := [.double ((shrS σ))]) (rest := [.long (((31 : Int64) * (dPas σ (dOwn σ (dPrm σ (dCtr σ (dSet σ (dCnt σ (μ 0 0) 2713)))))))), .long ((31 : Int64))]) ⟨hx, hb, hml, hown, hts⟩ (c_toLongBits l D cI cO cC cL ((shrS σ)) (shr_SH hI)) (va_cwS 1 hts gX5_digest_Jxe99ae_doubleToLongBits_ccdee rfl rfl rfl (by decide +kernel) ⟨Nat.le_of_ble_eq_true rfl, Nat.le_of_ble_eq_true rfl⟩) ⟨fun _ _ _ _ h => h, fun U hU hW => ⟨rfl, trivial⟩⟩ rfl rfl hl.1 rfl (lv_room (Nat.le_of_ble_eq_true rfl)) dX5_digest_297 ⟨(Nat.zero_le _), (Nat.zero_le _)⟩) (fun r2 hr2 => ?_)
                                subst hr2
                                refine lv_ladd hx hb dX5_digest_300 ?_
                                refine lv_lmul hx hb dX5_digest_301 ?_
                                refine lv_aload_n hx hb dX5_digest_302 rfl (lv_at hl 2 rfl) ?_
                                refine va_get (D := D) (ci := 5) (v := .int (iI (((uI (μ 0) 2 0) 1)))) (C := RX5) (T := TX5) (N := 12) hx hb hts hin_X5 hown hK hP 0 rfl rfl 4 (by decide) hw_4 (fun _ h9 => h9) rfl dX5_digest_303 ?_
                                refine lv_i2l (v := iL (((uI (μ 0) 2 0) 1))) hx hb dX5_digest_306 rfl ?_
                                refine lv_ladd hx hb dX5_digest_307 ?_
                                have e_b : (((31 : Int64) * (((31 : Int64) * (dPas σ (dOwn σ (dPrm σ (dCtr σ (dSet σ (dCnt σ (μ 0 0) 2713))))))) + (UInt64.toInt64 ((shrS σ))))) + (iL (((uI (μ 0) 2 0) 1)))) = mixL (mixL (dPas σ (dOwn σ (dPrm σ (dCtr σ (dSet σ (dCnt σ (μ 0 0) 2713)))))) (UInt64.toInt64 (shrS σ))) (iL (μ 0 1)) := rfl
                                rw [e_b]
                                refine lv_lstore_n (lv' := [(1, .long ((mixL (mixL (dPas σ (dOwn σ (dPrm σ (dCtr σ (dSet σ (dCnt σ (μ 0 0) 2713)))))) (UInt64.toInt64 (shrS σ))) (iL (μ 0 1))))), (3, .int (iI (z))), (0, .ref (b 0))]) hx hb dX5_digest_308 rfl hl (by decide) rfl (fun ls hl => ?_)
                                refine wi_iconst hx hb dX5_digest_309 ?_
                                refine lv_istore_n (lv' := [(3, .int (iI (0))), (1, .long ((mixL (mixL (dPas σ (dOwn σ (dPrm σ (dCtr σ (dSet σ (dCnt σ (μ 0 0) 2713)))))) (UInt64.toInt64 (shrS σ))) (iL (μ 0 1))))), (0, .ref (b 0))]) hx hb dX5_digest_310 rfl hl (by decide) rfl (fun ls hl => ?_)
                                have L311 : ∀ (k311 : Nat), ∀ (j : Int) (a9 : Int64), ((μ 0 1) - j).toNat < k311 → (0 ≤ j ∧ j ≤ (μ 0 1)) → (a9 = itL (fun j h => mixL h (iL (β j))) j.toNat (mixL (mixL (dPas σ (dOwn σ (dPrm σ (dCtr σ (dSet σ (dCnt σ (μ 0 0) 2713)))))) (UInt64.toInt64 (shrS σ))) (iL (μ 0 1)))) → ∀ (ls : Array Slot), lv_has ls 5 [(3, .int (iI (j))), (1, .long (a9)), (0, .ref (b 0))] → W p9 l e9 ({ frames := 6, cells := 0, slots := 0, locals := 142 } : Room) s m ([.ref (b 0)] : List Value).toArray below9 meth9 c9 H locs 0 0 (MQ below9 (va_Ql (fun (r : Int64) (μ' : Nat → Int → Int) => r = digS σ (μ 0 0) (μ 0 1) β ∧ RelM σ (μ 0 0) ss (μ 0 1) β μ') (fun (μ' : Nat → Int → Int) => (bW D [(cI, FieldType.int)] (fl [mdW cI b μ']) A)) A) ([.ref (b 0)] : List Value).toArray s 0 0 A) (F0 m 311 ls []) := by
                                  intro k311
                                  induction k311 with
                                  | zero =>
                                    intro j a9 hm
                                    exact absurd hm (Nat.not_lt_zero _)
                                  | succ k311 ih311 =>
                                    intro j a9 hm311 hj hac9 ls hl
                                    refine lv_iload_n hx hb dX5_digest_311 rfl (lv_at hl 0 rfl) ?_
                                    refine lv_aload_n hx hb dX5_digest_312 rfl (lv_at hl 2 rfl) ?_
                                    refine va_get (D := D) (ci := 5) (v := .int (iI (((uI (μ 0) 2 0) 1)))) (C := RX5) (T := TX5) (N := 12) hx hb hts hin_X5 hown hK hP 0 rfl rfl 4 (by decide) hw_4 (fun _ h9 => h9) rfl dX5_digest_313 ?_
                                    refine wi_icmp_ge (tgt := 339) hx hb dX5_digest_316 (by decide) (by omega) (fun c_316 => ?_) (fun c_316 => ?_)
                                    · skip
                                      refine lv_lload_n hx hb dX5_digest_339 rfl (lv_at hl 1 rfl) ?_
                                      exact W.lret (v := a9) hx hb hr (fun t9 ht9 hW9 => ⟨⟨(a9), (sR (sU μ 0 2 0) 5 f), rfl, (⟨by rw [hac9, show j = μ 0 1 by omega]; rfl, hM.1, rfl, hM.2.2.1, rfl, hM.2.2.2.2⟩), ⟨by rw [ht9]; exact hP, va_K.moved hW9.alike hK, hD⟩⟩, hS.F ht9⟩) hS.2.2 dX5_digest_340 hlocks
                                    · skip
                                      refine lv_ldc2 hx hb hown hw_2 dX5_digest_319 ?_
                                      refine lv_lload_n hx hb dX5_digest_322 rfl (lv_at hl 1 rfl) ?_
                                      refine lv_lmul hx hb dX5_digest_323 ?_
                                      refine lv_aload_n hx hb dX5_digest_324 rfl (lv_at hl 2 rfl) ?_
                                      refine va_get (D := D) (ci := 5) (v := .ref (b 3)) (C := RX5) (T := TX5) (N := 12) hx hb hts hin_X5 hown hK hP 0 rfl rfl 3 (by decide) hw_5 (fun _ h9 => h9) rfl dX5_digest_325 ?_
                                      refine lv_iload_n hx hb dX5_digest_328 rfl (lv_at hl 0 rfl) ?_
                                      refine wi_iald hx hb hK hP 3 0 (n := 60) (f := μ 3) rfl rfl (i := j) (by omega) (by decide) dX5_digest_329 ?_
                                      refine lv_i2l (v := iL ((μ 3 (j)))) hx hb dX5_digest_330 rfl ?_
                                      refine lv_ladd hx hb dX5_digest_331 ?_
                                      refine lv_lstore_n (lv' := [(1, .long ((((31 : Int64) * a9) + (iL ((μ 3 (j))))))), (3, .int (iI (j))), (0, .ref (b 0))]) hx hb dX5_digest_332 rfl hl (by decide) rfl (fun ls hl => ?_)
                                      refine wi_iinc (lv' := [(3, .int (iI ((j + 1)))), (1, .long ((((31 : Int64) * a9) + (iL ((μ 3 (j))))))), (0, .ref (b 0))]) hx hb dX5_digest_333 hl (k := 1) rfl (by decide) rfl (fun ls hl => ?_)
                                      refine lv_goto (tgt := 311) hx hb dX5_digest_336 (by decide) ?_
                                      exact ih311 ((j + 1)) ((((31 : Int64) * a9) + (iL ((μ 3 (j)))))) (by omega) (by omega) (by rw [itL_s (by omega), ← hac9, ← hM.2.2.2.2 j (by omega) (by omega)]; rfl)  ls (lv_sub hl [0, 1, 2] rfl)
                                exact L311 _ (0) ((mixL (mixL (dPas σ (dOwn σ (dPrm σ (dCtr σ (dSet σ (dCnt σ (μ 0 0) 2713)))))) (UInt64.toInt64 (shrS σ))) (iL (μ 0 1)))) (Nat.lt_succ_self _) (by omega) (itL_0 _ _)  ls (lv_sub hl [0, 1, 2] rfl)
                              · skip
                                refine lv_ldc2 hx hb hown hw_2 dX5_digest_265 ?_
                                refine lv_lload_n hx hb dX5_digest_268 rfl (lv_at hl 1 rfl) ?_
                                refine lv_lmul hx hb dX5_digest_269 ?_
                                refine lv_aload_n hx hb dX5_digest_270 rfl (lv_at hl 2 rfl) ?_
                                refine wi_iconst hx hb dX5_digest_271 ?_
                                refine lv_iload_n hx hb dX5_digest_272 rfl (lv_at hl 0 rfl) ?_
                                refine wr_calli (va_runV (As := [.int (iI (5)), .int (iI (z))]) (rest := [.long (((31 : Int64) * a8))]) ⟨hx, hb, hml, hown, hts⟩ (c_X5_passedBy l D cI cO cC cL b (sR (sU μ 0 2 0) 5 f) σ (5) (z) (by omega) (by omega) (hR) (hI)) (cwV 2 hts gX5_digest_X5_passedBy rfl rfl rfl (by decide +kernel) ⟨Nat.le_of_ble_eq_true rfl, Nat.le_of_ble_eq_true rfl⟩) ⟨pcR_blind, va_recv hK hP (ci := 5) (q0 := 0) rfl rfl, pcR_of hP hK⟩ rfl rfl hl.1 rfl (lv_room (Nat.le_of_ble_eq_true rfl)) dX5_digest_273 ⟨(Nat.zero_le _), (Nat.zero_le _)⟩) (fun r3 hr3 => ?_)
                                subst hr3
                                refine wi_top (y := (pasS σ (5) (z))) rfl ?_
                                refine lv_i2l (v := iL ((pasS σ (5) (z)))) hx hb dX5_digest_276 rfl ?_
                                refine lv_ladd hx hb dX5_digest_277 ?_
                                refine lv_lstore_n (lv' := [(1, .long ((((31 : Int64) * a8) + (iL ((pasS σ (5) (z))))))), (3, .int (iI (z))), (0, .ref (b 0))]) hx hb dX5_digest_278 rfl hl (by decide) rfl (fun ls hl => ?_)
                                refine wi_iinc (lv' := [(3, .int (iI ((z + 1)))), (1, .long ((((31 : Int64) * a8) + (iL ((pasS σ (5) (z))))))), (0, .ref (b 0))]) hx hb dX5_digest_279 hl (k := 1) rfl (by decide) rfl (fun ls hl => ?_)
                                refine lv_goto (tgt := 260) hx hb dX5_digest_282 (by decide) ?_
                                exact ih260 ((z + 1)) ((((31 : Int64) * a8) + (iL ((pasS σ (5) (z)))))) (by omega) (by omega) (by rw [itL_s (by omega), ← hac8]; rfl)  ls (lv_sub hl [0, 1, 2] rfl)
                          exact L260 _ (0) ((dOwn σ (dPrm σ (dCtr σ (dSet σ (dCnt σ (μ 0 0) 2713)))))) (Nat.lt_succ_self _) (by omega) (itL_0 _ _)  ls (lv_sub hl [0, 1, 2] rfl)
                        · skip
                          refine wi_iconst hx hb dX5_digest_205 ?_
                          refine lv_istore (lv' := [(4, .int (iI (0))), (3, .int (iI (q))), (1, .long (a6)), (0, .ref (b 0))]) hx hb dX5_digest_206 hl (by decide) rfl (fun ls hl => ?_)
                          have L208 : ∀ (k208 : Nat), ∀ (w : Int) (a7 : Int64), (5 - w).toNat < k208 → (0 ≤ w ∧ w ≤ 5) → (a7 = itL (fun w h => mixL h (iL (ownS σ q w))) w.toNat (a6)) → ∀ (ls : Array Slot), lv_has ls 5 [(4, .int (iI (w))), (3, .int (iI (q))), (1, .long (a7)), (0, .ref (b 0))] → W p9 l e9 ({ frames := 6, cells := 0, slots := 0, locals := 142 } : Room) s m ([.ref (b 0)] : List Value).toArray below9 meth9 c9 H locs 0 0 (MQ below9 (va_Ql (fun (r : Int64) (μ' : Nat → Int → Int) => r = digS σ (μ 0 0) (μ 0 1) β ∧ RelM σ (μ 0 0) ss (μ 0 1) β μ') (fun (μ' : Nat → Int → Int) => (bW D [(cI, FieldType.int)] (fl [mdW cI b μ']) A)) A) ([.ref (b 0)] : List Value).toArray s 0 0 A) (F0 m 208 ls []) := by
                            intro k208
                            induction k208 with
                            | zero =>
                              intro w a7 hm
                              exact absurd hm (Nat.not_lt_zero _)
                            | succ k208 ih208 =>
                              intro w a7 hm208 hw hac7 ls hl
                              refine lv_iload hx hb dX5_digest_208 (lv_at hl 0 rfl) ?_
                              refine wi_iconst hx hb dX5_digest_210 ?_
                              refine wi_icmp_ge (tgt := 235) hx hb dX5_digest_211 (by decide) (by omega) (fun c_211 => ?_) (fun c_211 => ?_)
                              · skip
                                refine lv_ldc2 hx hb hown hw_2 dX5_digest_235 ?_
                                refine lv_lload_n hx hb dX5_digest_238 rfl (lv_at hl 2 rfl) ?_
                                refine lv_lmul hx hb dX5_digest_239 ?_
                                refine lv_aload_n hx hb dX5_digest_240 rfl (lv_at hl 3 rfl) ?_
                                refine lv_iload_n hx hb dX5_digest_241 rfl (lv_at hl 1 rfl) ?_
                                refine wi_iconst hx hb dX5_digest_242 ?_
                                refine wi_bipush hx hb dX5_digest_243 (by decide) ?_
                                refine wi_iconst hx hb dX5_digest_245 ?_
                                refine wr_calli (va_runV (As := [.int (iI (q)), .int (iI (1)), .int (iI (7)), .int (iI (-1))]) (rest := [.long (((31 : Int64) * a7))]) ⟨hx, hb, hml, hown, hts⟩ (c_X5_reason l D cI cO cC cL b (sR (sU μ 0 2 0) 5 f) σ (q) (1) (7) (-1) (by omega) (by omega) (by omega) (by omega) (hR) (hI)) (cwV 4 hts gX5_digest_X5_reason rfl rfl rfl (by decide +kernel) ⟨Nat.le_of_ble_eq_true rfl, Nat.le_of_ble_eq_true rfl⟩) ⟨pcR_blind, va_recv hK hP (ci := 5) (q0 := 0) rfl rfl, pcR_of hP hK⟩ rfl rfl hl.1 rfl (lv_room (Nat.le_of_ble_eq_true rfl)) dX5_digest_246 ⟨(Nat.zero_le _), (Nat.zero_le _)⟩) (fun r4 hr4 => ?_)
                                subst hr4
                                refine wi_top (y := (reasonS σ (q) (1) (7) (-1))) rfl ?_
                                refine lv_i2l (v := iL ((reasonS σ (q) (1) (7) (-1)))) hx hb dX5_digest_249 rfl ?_
                                refine lv_ladd hx hb dX5_digest_250 ?_
                                refine lv_lstore_n (lv' := [(1, .long ((((31 : Int64) * a7) + (iL ((reasonS σ (q) (1) (7) (-1))))))), (4, .int (iI (w))), (3, .int (iI (q))), (0, .ref (b 0))]) hx hb dX5_digest_251 rfl hl (by decide) rfl (fun ls hl => ?_)
                                refine wi_iinc (lv' := [(3, .int (iI ((q + 1)))), (1, .long ((((31 : Int64) * a7) + (iL ((reasonS σ (q) (1) (7) (-1))))))), (4, .int (iI (w))), (0, .ref (b 0))]) hx hb dX5_digest_252 hl (k := 2) rfl (by decide) rfl (fun ls hl => ?_)
                                refine lv_goto (tgt := 199) hx hb dX5_digest_255 (by decide) ?_
                                exact ih199 ((q + 1)) ((((31 : Int64) * a7) + (iL ((reasonS σ (q) (1) (7) (-1)))))) (by omega) (by omega) (by rw [itL_s (by omega), ← hac6]; unfold dOw1; rw [show (5 : Nat) = w.toNat from (by omega), ← hac7]; rfl)  ls (lv_sub hl [0, 1, 3] rfl)
                              · skip
                                refine lv_ldc2 hx hb hown hw_2 dX5_digest_214 ?_
                                refine lv_lload_n hx hb dX5_digest_217 rfl (lv_at hl 2 rfl) ?_
                                refine lv_lmul hx hb dX5_digest_218 ?_
                                refine lv_aload_n hx hb dX5_digest_219 rfl (lv_at hl 3 rfl) ?_
                                refine lv_iload_n hx hb dX5_digest_220 rfl (lv_at hl 1 rfl) ?_
                                refine lv_iload hx hb dX5_digest_221 (lv_at hl 0 rfl) ?_
                                refine wr_calli (va_runV (As := [.int (iI (q)), .int (iI (w))]) (rest := [.long (((31 : Int64) * a7))]) ⟨hx, hb, hml, hown, hts⟩ (c_X5_ofOwner l D cI cO cC cL b (sR (sU μ 0 2 0) 5 f) σ (q) (w) (by omega) (by omega) (hR) (hI)) (cwV 2 hts gX5_digest_X5_ofOwner rfl rfl rfl (by decide +kernel) ⟨Nat.le_of_ble_eq_true rfl, Nat.le_of_ble_eq_true rfl⟩) ⟨pcR_blind, va_recv hK hP (ci := 5) (q0 := 0) rfl rfl, pcR_of hP hK⟩ rfl rfl hl.1 rfl (lv_room (Nat.le_of_ble_eq_true rfl)) dX5_digest_223 ⟨(Nat.zero_le _), (Nat.zero_le _)⟩) (fun r5 hr5 => ?_)
                                subst hr5
                                refine wi_top (y := (ownS σ (q) (w))) rfl ?_
                                refine lv_i2l (v := iL ((ownS σ (q) (w)))) hx hb dX5_digest_226 rfl ?_
                                refine lv_ladd hx hb dX5_digest_227 ?_
                                refine lv_lstore_n (lv' := [(1, .long ((((31 : Int64) * a7) + (iL ((ownS σ (q) (w))))))), (4, .int (iI (w))), (3, .int (iI (q))), (0, .ref (b 0))]) hx hb dX5_digest_228 rfl hl (by decide) rfl (fun ls hl => ?_)
                                refine wi_iinc (lv' := [(4, .int (iI ((w + 1)))), (1, .long ((((31 : Int64) * a7) + (iL ((ownS σ (q) (w))))))), (3, .int (iI (q))), (0, .ref (b 0))]) hx hb dX5_digest_229 hl (k := 1) rfl (by decide) rfl (fun ls hl => ?_)
                                refine lv_goto (tgt := 208) hx hb dX5_digest_232 (by decide) ?_
                                exact ih208 ((w + 1)) ((((31 : Int64) * a7) + (iL ((ownS σ (q) (w)))))) (by omega) (by omega) (by rw [itL_s (by omega), ← hac7]; rfl)  ls (lv_sub hl [0, 2, 1, 3] rfl)
                          exact L208 _ (0) (a6) (Nat.lt_succ_self _) (by omega) (itL_0 _ _)  ls (lv_sub hl [0, 1, 2, 3] rfl)
                    exact L199 _ (0) ((dPrm σ (dCtr σ (dSet σ (dCnt σ (μ 0 0) 2713))))) (Nat.lt_succ_self _) (by omega) (itL_0 _ _)  ls (lv_sub hl [0, 1, 2] rfl)
                  · skip
                    refine wi_iconst hx hb dX5_digest_160 ?_
                    refine lv_istore (lv' := [(4, .int (iI (0))), (3, .int (iI (p))), (1, .long (a4)), (0, .ref (b 0))]) hx hb dX5_digest_161 hl (by decide) rfl (fun ls hl => ?_)
                    have L163 : ∀ (k163 : Nat), ∀ (w : Int) (a5 : Int64), (6 - w).toNat < k163 → (0 ≤ w ∧ w ≤ 6) → (a5 = itL (fun w h => mixL h (iL (prmS σ p w))) w.toNat (a4)) → ∀ (ls : Array Slot), lv_has ls 5 [(4, .int (iI (w))), (3, .int (iI (p))), (1, .long (a5)), (0, .ref (b 0))] → W p9 l e9 ({ frames := 6, cells := 0, slots := 0, locals := 142 } : Room) s m ([.ref (b 0)] : List Value).toArray below9 meth9 c9 H locs 0 0 (MQ below9 (va_Ql (fun (r : Int64) (μ' : Nat → Int → Int) => r = digS σ (μ 0 0) (μ 0 1) β ∧ RelM σ (μ 0 0) ss (μ 0 1) β μ') (fun (μ' : Nat → Int → Int) => (bW D [(cI, FieldType.int)] (fl [mdW cI b μ']) A)) A) ([.ref (b 0)] : List Value).toArray s 0 0 A) (F0 m 163 ls []) := by
                      intro k163
                      induction k163 with
                      | zero =>
                        intro w a5 hm
                        exact absurd hm (Nat.not_lt_zero _)
                      | succ k163 ih163 =>
                        intro w a5 hm163 hw hac5 ls hl
                        refine lv_iload hx hb dX5_digest_163 (lv_at hl 0 rfl) ?_
                        refine wi_bipush hx hb dX5_digest_165 (by decide) ?_
                        refine wi_icmp_ge (tgt := 191) hx hb dX5_digest_167 (by decide) (by omega) (fun c_167 => ?_) (fun c_167 => ?_)
                        · skip
                          refine wi_iinc (lv' := [(3, .int (iI ((p + 1)))), (4, .int (iI (w))), (1, .long (a5)), (0, .ref (b 0))]) hx hb dX5_digest_191 hl (k := 1) rfl (by decide) rfl (fun ls hl => ?_)
                          refine lv_goto (tgt := 150) hx hb dX5_digest_194 (by decide) ?_
                          exact ih150 ((p + 1)) (a5) (by omega) (by omega) (by rw [itL_s (by omega), ← hac4]; unfold dPr1; rw [show (6 : Nat) = w.toNat from (by omega), ← hac5])  ls (lv_sub hl [0, 2, 3] rfl)
                        · skip
                          refine lv_ldc2 hx hb hown hw_2 dX5_digest_170 ?_
                          refine lv_lload_n hx hb dX5_digest_173 rfl (lv_at hl 2 rfl) ?_
                          refine lv_lmul hx hb dX5_digest_174 ?_
                          refine lv_aload_n hx hb dX5_digest_175 rfl (lv_at hl 3 rfl) ?_
                          refine lv_iload_n hx hb dX5_digest_176 rfl (lv_at hl 1 rfl) ?_
                          refine lv_iload hx hb dX5_digest_177 (lv_at hl 0 rfl) ?_
                          refine wr_calli (va_runV (As := [.int (iI (p)), .int (iI (w))]) (rest := [.long (((31 : Int64) * a5))]) ⟨hx, hb, hml, hown, hts⟩ (c_X5_ofPromise l D cI cO cC cL b (sR (sU μ 0 2 0) 5 f) σ (p) (w) (by omega) (by omega) (hR) (hI)) (cwV 2 hts gX5_digest_X5_ofPromise rfl rfl rfl (by decide +kernel) ⟨Nat.le_of_ble_eq_true rfl, Nat.le_of_ble_eq_true rfl⟩) ⟨pcR_blind, va_recv hK hP (ci := 5) (q0 := 0) rfl rfl, pcR_of hP hK⟩ rfl rfl hl.1 rfl (lv_room (Nat.le_of_ble_eq_true rfl)) dX5_digest_179 ⟨(Nat.zero_le _), (Nat.zero_le _)⟩) (fun r6 hr6 => ?_)
                          subst hr6
                          refine wi_top (y := (prmS σ (p) (w))) rfl ?_
                          refine lv_i2l (v := iL ((prmS σ (p) (w)))) hx hb dX5_digest_182 rfl ?_
                          refine lv_ladd hx hb dX5_digest_183 ?_
                          refine lv_lstore_n (lv' := [(1, .long ((((31 : Int64) * a5) + (iL ((prmS σ (p) (w))))))), (4, .int (iI (w))), (3, .int (iI (p))), (0, .ref (b 0))]) hx hb dX5_digest_184 rfl hl (by decide) rfl (fun ls hl => ?_)
                          refine wi_iinc (lv' := [(4, .int (iI ((w + 1)))), (1, .long ((((31 : Int64) * a5) + (iL ((prmS σ (p) (w))))))), (3, .int (iI (p))), (0, .ref (b 0))]) hx hb dX5_digest_185 hl (k := 1) rfl (by decide) rfl (fun ls hl => ?_)
                          refine lv_goto (tgt := 163) hx hb dX5_digest_188 (by decide) ?_
                          exact ih163 ((w + 1)) ((((31 : Int64) * a5) + (iL ((prmS σ (p) (w)))))) (by omega) (by omega) (by rw [itL_s (by omega), ← hac5]; rfl)  ls (lv_sub hl [0, 2, 1, 3] rfl)
                    exact L163 _ (0) (a4) (Nat.lt_succ_self _) (by omega) (itL_0 _ _)  ls (lv_sub hl [0, 1, 2, 3] rfl)
              exact L150 _ (0) ((dCtr σ (dSet σ (dCnt σ (μ 0 0) 2713)))) (Nat.lt_succ_self _) (by omega) (itL_0 _ _)  ls (lv_sub hl [0, 1, 2] rfl)
            · skip
              refine wi_iconst hx hb dX5_digest_69 ?_
              refine lv_istore (lv' := [(4, .int (iI (0))), (3, .int (iI (c))), (1, .long (a2)), (0, .ref (b 0))]) hx hb dX5_digest_70 hl (by decide) rfl (fun ls hl => ?_)
              have L72 : ∀ (k72 : Nat), ∀ (w : Int) (a3 : Int64) (f2 : Int → Int), (10 - w).toNat < k72 → (0 ≤ w ∧ w ≤ 10) → (a3 = itL (fun w h => mixL h (iL (ctrS σ c w))) w.toNat (a2)) → ∀ (H : Heap) (locs : List Loc), va_P D vwCl (fl [mdW cI b (sR (sU μ 0 2 0) 5 f2)]) H → va_D A (fl [mdW cI b (sR (sU μ 0 2 0) 5 f2)]) → va_S A s.heap H locs → ∀ (ls : Array Slot), lv_has ls 5 [(4, .int (iI (w))), (3, .int (iI (c))), (1, .long (a3)), (0, .ref (b 0))] → W p9 l e9 ({ frames := 6, cells := 0, slots := 0, locals := 142 } : Room) s m ([.ref (b 0)] : List Value).toArray below9 meth9 c9 H locs 0 0 (MQ below9 (va_Ql (fun (r : Int64) (μ' : Nat → Int → Int) => r = digS σ (μ 0 0) (μ 0 1) β ∧ RelM σ (μ 0 0) ss (μ 0 1) β μ') (fun (μ' : Nat → Int → Int) => (bW D [(cI, FieldType.int)] (fl [mdW cI b μ']) A)) A) ([.ref (b 0)] : List Value).toArray s 0 0 A) (F0 m 72 ls []) := by
                intro k72
                induction k72 with
                | zero =>
                  intro w a3 f2 hm
                  exact absurd hm (Nat.not_lt_zero _)
                | succ k72 ih72 =>
                  intro w a3 f2 hm72 hw hac3 H locs hP hD hS ls hl
                  refine lv_iload hx hb dX5_digest_72 (lv_at hl 0 rfl) ?_
                  refine wi_bipush hx hb dX5_digest_74 (by decide) ?_
                  refine wi_icmp_ge (tgt := 100) hx hb dX5_digest_76 (by decide) (by omega) (fun c_76 => ?_) (fun c_76 => ?_)
                  · skip
                    refine lv_ldc2 hx hb hown hw_2 dX5_digest_100 ?_
                    refine lv_lload_n hx hb dX5_digest_103 rfl (lv_at hl 2 rfl) ?_
                    refine lv_lmul hx hb dX5_digest_104 ?_
                    refine lv_aload_n hx hb dX5_digest_105 rfl (lv_at hl 3 rfl) ?_
                    refine lv_iload_n hx hb dX5_digest_106 rfl (lv_at hl 1 rfl) ?_
                    refine wi_iconst hx hb dX5_digest_107 ?_
                    have hFc := fl_free (SC := [mdW cI b (sR (sU μ 0 2 0) 5 f2)]) hD hS hA [0] rfl
                    refine wq_calli (va_runV (As := [.int (iI (c)), .int (iI (5))]) (rest := [.long (((31 : Int64) * a3))]) ⟨hx, hb, hml, hown, hts⟩ (c_X5_fewestFor l D cI cO cC cL H.size b (sR (sU μ 0 2 0) 5 f2) σ (c) (5) (by omega) (by omega) (hR) (hI)) (cwV 2 hts gX5_digest_X5_fewestFor rfl rfl rfl (by decide +kernel) ⟨Nat.le_of_ble_eq_true rfl, Nat.le_of_ble_eq_true rfl⟩) ⟨pcW_blind, va_recv hK hP (ci := 5) (q0 := 0) rfl rfl, pcW_of hP hK hD⟩ rfl rfl hl.1 rfl (lv_room (Nat.le_of_ble_eq_true rfl)) dX5_digest_108 ⟨(Nat.zero_le _), (Nat.zero_le _)⟩) hS (fun q _ h => hFc q h) hFc (fun r7 u9 t9 H1 locs ht9 hvm hcl8 hB hz1 hk1 hS => ?_)
                    obtain ⟨hP1, hK1, hD1⟩ := hB
                    rw [ht9] at hP1
                    obtain ⟨hP, hD⟩ := fl_join (SR := []) (S1 := [mdW cI b (sR (sR (sU μ 0 2 0) 5 f2) 5 u9)]) hP hD [0] [] rfl rfl (by decide) (by decide) hk1 hFc hP1 hD1
                    generalize H1 = H at hP hS ⊢
                    have hP : va_P D vwCl (fl [mdW cI b (sR (sR (sU μ 0 2 0) 5 f2) 5 u9)]) H := hP
                    have hD : va_D A (fl [mdW cI b (sR (sR (sU μ 0 2 0) 5 f2) 5 u9)]) := hD
                    subst hcl8
                    refine lv_i2l (v := iL ((fewS σ c 5))) hx hb dX5_digest_111 rfl ?_
                    refine lv_ladd hx hb dX5_digest_112 ?_
                    refine lv_lstore_n (lv' := [(1, .long ((((31 : Int64) * a3) + (iL ((fewS σ c 5)))))), (4, .int (iI (w))), (3, .int (iI (c))), (0, .ref (b 0))]) hx hb dX5_digest_113 rfl hl (by decide) rfl (fun ls hl => ?_)
                    refine lv_ldc2 hx hb hown hw_2 dX5_digest_114 ?_
                    refine lv_ldc2 hx hb hown hw_2 dX5_digest_117 ?_
                    refine lv_lload_n hx hb dX5_digest_120 rfl (lv_at hl 0 rfl) ?_
                    refine lv_lmul hx hb dX5_digest_121 ?_
                    refine lv_aload_n hx hb dX5_digest_122 rfl (lv_at hl 3 rfl) ?_
                    refine wi_iconst hx hb dX5_digest_123 ?_
                    refine lv_iload_n hx hb dX5_digest_124 rfl (lv_at hl 2 rfl) ?_
                    refine wi_iconst hx hb dX5_digest_125 ?_
                    refine wr_calli (va_runV (As := [.int (iI (0)), .int (iI (c)), .int (iI (1))]) (rest := [.long (((31 : Int64) * (((31 : Int64) * a3) + (iL ((fewS σ c 5)))))), .long ((31 : Int64))]) ⟨hx, hb, hml, hown, hts⟩ (c_X5_mostOf l D cI cO cC cL b (sR (sR (sU μ 0 2 0) 5 f2) 5 u9) σ (0) (c) (1) (by omega) (by omega) (by omega) (hR) (hI)) (cwV 3 hts gX5_digest_X5_mostOf rfl rfl rfl (by decide +kernel) ⟨Nat.le_of_ble_eq_true rfl, Nat.le_of_ble_eq_true rfl⟩) ⟨pcR_blind, va_recv hK hP (ci := 5) (q0 := 0) rfl rfl, pcR_of hP hK⟩ rfl rfl hl.1 rfl (lv_room (Nat.le_of_ble_eq_true rfl)) dX5_digest_126 ⟨(Nat.zero_le _), (Nat.zero_le _)⟩) (fun r10 hr10 => ?_)
                    subst hr10
                    refine wi_top (y := (mostS σ (0) (c) (1))) rfl ?_
                    refine lv_i2l (v := iL ((mostS σ (0) (c) (1)))) hx hb dX5_digest_129 rfl ?_
                    refine lv_ladd hx hb dX5_digest_130 ?_
                    refine lv_lmul hx hb dX5_digest_131 ?_
                    refine lv_aload_n hx hb dX5_digest_132 rfl (lv_at hl 3 rfl) ?_
                    refine wi_iconst hx hb dX5_digest_133 ?_
                    refine lv_iload_n hx hb dX5_digest_134 rfl (lv_at hl 2 rfl) ?_
                    refine wi_iconst hx hb dX5_digest_135 ?_
                    refine wr_calli (va_runV (As := [.int (iI (0)), .int (iI (c)), .int (iI (0))]) (rest := [.long (((31 : Int64) * (((31 : Int64) * (((31 : Int64) * a3) + (iL ((fewS σ c 5))))) + (iL ((mostS σ (0) (c) (1)))))))]) ⟨hx, hb, hml, hown, hts⟩ (c_X5_mostOf l D cI cO cC cL b (sR (sR (sU μ 0 2 0) 5 f2) 5 u9) σ (0) (c) (0) (by omega) (by omega) (by omega) (hR) (hI)) (cwV 3 hts gX5_digest_X5_mostOf rfl rfl rfl (by decide +kernel) ⟨Nat.le_of_ble_eq_true rfl, Nat.le_of_ble_eq_true rfl⟩) ⟨pcR_blind, va_recv hK hP (ci := 5) (q0 := 0) rfl rfl, pcR_of hP hK⟩ rfl rfl hl.1 rfl (lv_room (Nat.le_of_ble_eq_true rfl)) dX5_digest_136 ⟨(Nat.zero_le _), (Nat.zero_le _)⟩) (fun r11 hr11 => ?_)
                    subst hr11
                    refine wi_top (y := (mostS σ (0) (c) (0))) rfl ?_
                    refine lv_i2l (v := iL ((mostS σ (0) (c) (0)))) hx hb dX5_digest_139 rfl ?_
                    refine lv_ladd hx hb dX5_digest_140 ?_
                    refine lv_lstore_n (lv' := [(1, .long ((((31 : Int64) * (((31 : Int64) * (((31 : Int64) * a3) + (iL ((fewS σ c 5))))) + (iL ((mostS σ (0) (c) (1)))))) + (iL ((mostS σ (0) (c) (0))))))), (4, .int (iI (w))), (3, .int (iI (c))), (0, .ref (b 0))]) hx hb dX5_digest_141 rfl hl (by decide) rfl (fun ls hl => ?_)
                    refine wi_iinc (lv' := [(3, .int (iI ((c + 1)))), (1, .long ((((31 : Int64) * (((31 : Int64) * (((31 : Int64) * a3) + (iL ((fewS σ c 5))))) + (iL ((mostS σ (0) (c) (1)))))) + (iL ((mostS σ (0) (c) (0))))))), (4, .int (iI (w))), (0, .ref (b 0))]) hx hb dX5_digest_142 hl (k := 2) rfl (by decide) rfl (fun ls hl => ?_)
                    refine lv_goto (tgt := 64) hx hb dX5_digest_145 (by decide) ?_
                    exact ih64 ((c + 1)) ((((31 : Int64) * (((31 : Int64) * (((31 : Int64) * a3) + (iL ((fewS σ c 5))))) + (iL ((mostS σ (0) (c) (1)))))) + (iL ((mostS σ (0) (c) (0)))))) (u9) (by omega) (by omega) (by rw [itL_s (by omega), ← hac2]; unfold dCt1; rw [show (10 : Nat) = w.toNat from (by omega), ← hac3]; rfl) _ _ hP hD hS ls (lv_sub hl [0, 1, 3] rfl)
                  · skip
                    refine lv_ldc2 hx hb hown hw_2 dX5_digest_79 ?_
                    refine lv_lload_n hx hb dX5_digest_82 rfl (lv_at hl 2 rfl) ?_
                    refine lv_lmul hx hb dX5_digest_83 ?_
                    refine lv_aload_n hx hb dX5_digest_84 rfl (lv_at hl 3 rfl) ?_
                    refine lv_iload_n hx hb dX5_digest_85 rfl (lv_at hl 1 rfl) ?_
                    refine lv_iload hx hb dX5_digest_86 (lv_at hl 0 rfl) ?_
                    have hFc := fl_free (SC := [mdW cI b (sR (sU μ 0 2 0) 5 f2)]) hD hS hA [0] rfl
                    refine wq_calli (va_runV (As := [.int (iI (c)), .int (iI (w))]) (rest := [.long (((31 : Int64) * a3))]) ⟨hx, hb, hml, hown, hts⟩ (c_X5_ofCounter l D cI cO cC cL H.size b (sR (sU μ 0 2 0) 5 f2) σ (c) (w) (by omega) (by omega) (hR) (hI)) (cwV 2 hts gX5_digest_X5_ofCounter rfl rfl rfl (by decide +kernel) ⟨Nat.le_of_ble_eq_true rfl, Nat.le_of_ble_eq_true rfl⟩) ⟨pcW_blind, va_recv hK hP (ci := 5) (q0 := 0) rfl rfl, pcW_of hP hK hD⟩ rfl rfl hl.1 rfl (lv_room (Nat.le_of_ble_eq_true rfl)) dX5_digest_88 ⟨(Nat.zero_le _), (Nat.zero_le _)⟩) hS (fun q _ h => hFc q h) hFc (fun r12 u14 t9 H1 locs ht9 hvm hcl13 hB hz1 hk1 hS => ?_)
                    obtain ⟨hP1, hK1, hD1⟩ := hB
                    rw [ht9] at hP1
                    obtain ⟨hP, hD⟩ := fl_join (SR := []) (S1 := [mdW cI b (sR (sR (sU μ 0 2 0) 5 f2) 5 u14)]) hP hD [0] [] rfl rfl (by decide) (by decide) hk1 hFc hP1 hD1
                    generalize H1 = H at hP hS ⊢
                    have hP : va_P D vwCl (fl [mdW cI b (sR (sR (sU μ 0 2 0) 5 f2) 5 u14)]) H := hP
                    have hD : va_D A (fl [mdW cI b (sR (sR (sU μ 0 2 0) 5 f2) 5 u14)]) := hD
                    subst hcl13
                    refine lv_i2l (v := iL ((ctrS σ c w))) hx hb dX5_digest_91 rfl ?_
                    refine lv_ladd hx hb dX5_digest_92 ?_
                    refine lv_lstore_n (lv' := [(1, .long ((((31 : Int64) * a3) + (iL ((ctrS σ c w)))))), (4, .int (iI (w))), (3, .int (iI (c))), (0, .ref (b 0))]) hx hb dX5_digest_93 rfl hl (by decide) rfl (fun ls hl => ?_)
                    refine wi_iinc (lv' := [(4, .int (iI ((w + 1)))), (1, .long ((((31 : Int64) * a3) + (iL ((ctrS σ c w)))))), (3, .int (iI (c))), (0, .ref (b 0))]) hx hb dX5_digest_94 hl (k := 1) rfl (by decide) rfl (fun ls hl => ?_)
                    refine lv_goto (tgt := 72) hx hb dX5_digest_97 (by decide) ?_
                    exact ih72 ((w + 1)) ((((31 : Int64) * a3) + (iL ((ctrS σ c w))))) (u14) (by omega) (by omega) (by rw [itL_s (by omega), ← hac3]; rfl) _ _ hP hD hS ls (lv_sub hl [0, 2, 1, 3] rfl)
              exact L72 _ (0) (a2) (f) (Nat.lt_succ_self _) (by omega) (itL_0 _ _) _ _ hP hD hS ls (lv_sub hl [0, 1, 2, 3] rfl)
        exact L64 _ (0) ((dSet σ (dCnt σ (μ 0 0) 2713))) (μ 5) (Nat.lt_succ_self _) (by omega) (itL_0 _ _) _ _ hP hD hS ls (lv_sub hl [0, 1, 2] rfl)
      · skip
        refine lv_ldc2 hx hb hown hw_2 dX5_digest_17 ?_
        refine lv_lload_n hx hb dX5_digest_20 rfl (lv_at hl 1 rfl) ?_
        refine lv_lmul hx hb dX5_digest_21 ?_
        refine lv_aload_n hx hb dX5_digest_22 rfl (lv_at hl 2 rfl) ?_
        refine lv_iload_n hx hb dX5_digest_23 rfl (lv_at hl 0 rfl) ?_
        refine wr_calli (va_runV (As := [.int (iI (w))]) (rest := [.long (((31 : Int64) * acc))]) ⟨hx, hb, hml, hown, hts⟩ (c_X5_counted l D cI cO cC cL b (sU μ 0 (2) (0)) σ (w) (by omega) (hR) (hI)) (cwV 1 hts gX5_digest_X5_counted rfl rfl rfl (by decide +kernel) ⟨Nat.le_of_ble_eq_true rfl, Nat.le_of_ble_eq_true rfl⟩) ⟨pcR_blind, va_recv hK hP (ci := 5) (q0 := 0) rfl rfl, pcR_of hP hK⟩ rfl rfl hl.1 rfl (lv_room (Nat.le_of_ble_eq_true rfl)) dX5_digest_24 ⟨(Nat.zero_le _), (Nat.zero_le _)⟩) (fun r15 hr15 => ?_)
        subst hr15
        refine wi_top (y := (cntS σ (((uI (μ 0) (2) (0))) 0) (w))) rfl ?_
        refine lv_i2l (v := iL ((cntS σ (((uI (μ 0) (2) (0))) 0) (w)))) hx hb dX5_digest_27 rfl ?_
        refine lv_ladd hx hb dX5_digest_28 ?_
        refine lv_lstore_n (lv' := [(1, .long ((((31 : Int64) * acc) + (iL ((cntS σ (((uI (μ 0) (2) (0))) 0) (w))))))), (3, .int (iI (w))), (0, .ref (b 0))]) hx hb dX5_digest_29 rfl hl (by decide) rfl (fun ls hl => ?_)
        refine wi_iinc (lv' := [(3, .int (iI ((w + 1)))), (1, .long ((((31 : Int64) * acc) + (iL ((cntS σ (((uI (μ 0) (2) (0))) 0) (w))))))), (0, .ref (b 0))]) hx hb dX5_digest_30 hl (k := 1) rfl (by decide) rfl (fun ls hl => ?_)
        refine lv_goto (tgt := 11) hx hb dX5_digest_33 (by decide) ?_
        exact ih11 ((w + 1)) ((((31 : Int64) * acc) + (iL ((cntS σ (((uI (μ 0) (2) (0))) 0) (w)))))) (by omega) (by omega) (by rw [itL_s (by omega), ← hacc]; rfl)  ls (lv_sub hl [0, 1, 2] rfl)
  exact L11 _ (0) ((2713 : Int64)) (Nat.lt_succ_self _) (by omega) (itL_0 _ _)  ls (lv_sub hl [0, 1, 2] rfl)
