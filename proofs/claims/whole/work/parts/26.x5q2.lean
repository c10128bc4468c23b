set_option maxHeartbeats 4000000 in
set_option maxRecDepth 100000 in
theorem c_X5_bounds (l : Launch) (D : va_G) (cI cO cC cL : ClassId) (sz : Nat) (b : Nat → Nat) (μ σ : Nat → Int → Int) (ss : Nat → Nat → Int → Int) (β : Int → Int) (c lo hi : Int) (hc : R32 c) (hlo : R32 lo) (hhi : R32 hi) (hM : RelM σ (μ 0 0) ss (μ 0 1) β μ) (hG : GI σ (μ 0 0) ss (μ 0 1) β) : Met l yX5_bounds wsX5_bounds ({ frames := 4, cells := 0, slots := 0, locals := 91 } : Room) (pcW D [(cI, FieldType.int)] [.ref (b 0), .int (iI (c)), .int (iI (lo)), .int (iI (hi))] (fl [mdW cI b μ]) sz) (wq_i (fun (r : Int) (μ' : Nat → Int → Int) => OPQ (cd3 (0 ≤ c ∧ c ≤ 3) ((-999 ≤ lo ∧ lo ≤ 999) ∧ lo ≤ hi ∧ hi ≤ 999) (lo ≤ lowS σ c (σ 0 0) ∧ highS σ c ≤ hi)) r (σ 4 c - σ 3 c) (μ' 0 2) (RelM σ (μ 0 0) ss (μ 0 1) β μ') (RelM (bndS σ c lo hi) (pushK (μ 0 0)) (pushS (μ 0 0) ss σ) (μ 0 1) β μ')) (fun (μ' : Nat → Int → Int) => (bW D [(cI, FieldType.int)] (fl [mdW cI b μ']) (va_A (fl [mdW cI b μ]) sz))) (va_A (fl [mdW cI b μ]) sz)) 0 0 (va_A (fl [mdW cI b μ]) sz) := by
  refine Met.ofW (cc := cX5_bounds) (maxL := 5) (ret := (some .int)) (by decide) rfl ?_
  intro p9 e9 s m args9 below9 meth9 c9 s₁ B hml hv
  obtain ⟨rfl, hsz, hP, hK, hD0⟩ := hv
  have hx := B.exec
  have hb := B.bytes
  have hr := B.returns
  have hts := atoms_spec (ws := wsX5_bounds) B.pre
  have hown : s.vm.findClass RX5 = some m.cls := findClass_of_methodNamed B.named
  have hlocks := B.notSynchronized
  subst hsz
  have hD := hD0.self (sz := s.heap.size)
  generalize hAe : va_A (fl [mdW cI b μ]) s.heap.size = A at hD ⊢
  have hA : ∀ q : Nat, s.heap.size ≤ q → A q := fun q h => by rw [← hAe]; exact Or.inr h
  have hS : va_S A s.heap s.heap [] := va_S.rf
  have hP : va_P D vwCl (fl [mdW cI b μ]) s.heap := hP
  have hl := lv_entry ([.ref (b 0), .int (iI (c)), .int (iI (lo)), .int (iI (hi))]) (n := 5) (Nat.le_of_ble_eq_true rfl)
  rw [lg_entry_eq]
  generalize (lg_sl ([.ref (b 0), .int (iI (c)), .int (iI (lo)), .int (iI (hi))]) ++ List.replicate (5 - (lg_sl ([.ref (b 0), .int (iI (c)), .int (iI (lo)), .int (iI (hi))])).length) Slot.unset).toArray = ls at hl ⊢
  have hl : lv_has ls 5 [(0, .ref (b 0)), (1, .int (iI (c))), (2, .int (iI (lo))), (3, .int (iI (hi)))] := hl
  have hw_0 := hts (.fieldLink RX5 25 "PromisedCountersModel" "thrown" "I") (by decide +kernel)
  have hin_X5 : ∀ w ∈ u_ws RX5 TX5 12, w ∈ wsX5_bounds := by decide +kernel
  have hw_1 := hts (.fieldLink RX5 7 "PromisedCountersModel" "now" "[I") (by decide +kernel)
  have hI := hG.1
  have hR := hM.1
  have hn := hI.n
  have hti := hI.t
  obtain ⟨hm0, hm1, hm2, hm3, hm4⟩ := hR.1
  refine lv_aload_n hx hb dX5_bounds_0 rfl (lv_at hl 0 rfl) ?_
  refine wi_iconst hx hb dX5_bounds_1 ?_
  refine va_put (D := D) (ci := 5) (v := .int (iI (0))) (ty := .int) (C := RX5) (T := TX5) (N := 12) hx hb hts hin_X5 tyX5 tyX5_ok nmX5 hown hK hP hD hS 0 rfl rfl 5 (by decide) hw_0 (fun _ h9 => h9) rfl (by decide +kernel) rfl rfl (Nat.le_of_ble_eq_true rfl) dX5_bounds_2 (fun H locs hP hD hS => ?_)
  have hP : va_P D vwCl (fl [mdW cI b (sU μ 0 (2) (0))]) H := hP
  have hD : va_D A (fl [mdW cI b (sU μ 0 (2) (0))]) := hD
  refine lv_iload_n hx hb dX5_bounds_5 rfl (lv_at hl 1 rfl) ?_
  refine wr_calli (va_runS (As := [.int (iI (c))]) (rest := []) ⟨hx, hb, hml, hown, hts⟩ (c_X5_isCounter l D cI cO cC cL (c) (by omega)) (cwS 1 hts gX5_bounds_X5_isCounter rfl rfl rfl (by decide +kernel) ⟨Nat.le_of_ble_eq_true rfl, Nat.le_of_ble_eq_true rfl⟩) ⟨fun _ _ _ _ h => h, fun U hU hW => ⟨rfl, trivial⟩⟩ rfl rfl hl.1 rfl (lv_room (Nat.le_of_ble_eq_true rfl)) dX5_bounds_6 ⟨(Nat.zero_le _), (Nat.zero_le _)⟩) (fun r1 hr1 => ?_)
  subst hr1
  refine wi_if_ne (tgt := 18) hx hb dX5_bounds_9 (by decide) (by omega) (fun c_9 => ?_) (fun c_9 => ?_)
  · skip
    refine lv_iload_n hx hb dX5_bounds_18 rfl (lv_at hl 2 rfl) ?_
    refine wi_sipush hx hb dX5_bounds_19 (by decide) ?_
    refine wi_sipush hx hb dX5_bounds_22 (by decide) ?_
    refine wr_calli (va_runS (As := [.int (iI (lo)), .int (iI (-999)), .int (iI (999))]) (rest := []) ⟨hx, hb, hml, hown, hts⟩ (c_X5_in l D cI cO cC cL (lo) (-999) (999) (by omega) (by omega) (by omega)) (cwS 3 hts gX5_bounds_X5_in rfl rfl rfl (by decide +kernel) ⟨Nat.le_of_ble_eq_true rfl, Nat.le_of_ble_eq_true rfl⟩) ⟨fun _ _ _ _ h => h, fun U hU hW => ⟨rfl, trivial⟩⟩ rfl rfl hl.1 rfl (lv_room (Nat.le_of_ble_eq_true rfl)) dX5_bounds_25 ⟨(Nat.zero_le _), (Nat.zero_le _)⟩) (fun r2 hr2 => ?_)
    subst hr2
    refine wi_if_eq (tgt := 42) hx hb dX5_bounds_28 (by decide) (by omega) (fun c_28 => ?_) (fun c_28 => ?_)
    · skip
      refine lv_aload_n hx hb dX5_bounds_42 rfl (lv_at hl 0 rfl) ?_
      refine wi_iconst hx hb dX5_bounds_43 ?_
      have hFc := fl_free (SC := [mdW cI b (sU μ 0 (2) (0))]) hD hS hA [0] rfl
      refine wq_calli (va_runV (As := [.int (iI (2))]) (rest := []) ⟨hx, hb, hml, hown, hts⟩ (c_X5_fails l D cI cO cC cL H.size b (sU μ 0 (2) (0)) (2) ) (cwV 1 hts gX5_bounds_X5_fails rfl rfl rfl (by decide +kernel) ⟨Nat.le_of_ble_eq_true rfl, Nat.le_of_ble_eq_true rfl⟩) ⟨pcW_blind, va_recv hK hP (ci := 5) (q0 := 0) rfl rfl, pcW_of hP hK hD⟩ rfl rfl hl.1 rfl (lv_room (Nat.le_of_ble_eq_true rfl)) dX5_bounds_44 ⟨(Nat.zero_le _), (Nat.zero_le _)⟩) hS (fun q _ h => hFc q h) hFc (fun r3 u5 t9 H1 locs ht9 hvm hcl4 hB hz1 hk1 hS => ?_)
      obtain ⟨hP1, hK1, hD1⟩ := hB
      rw [ht9] at hP1
      obtain ⟨hP, hD⟩ := fl_join (SR := []) (S1 := [mdW cI b (sU (sU μ 0 (2) (0)) 0 2 (2))]) hP hD [0] [] rfl rfl (by decide) (by decide) hk1 hFc hP1 hD1
      generalize H1 = H at hP hS ⊢
      have hP : va_P D vwCl (fl [mdW cI b (sU (sU μ 0 (2) (0)) 0 2 (2))]) H := hP
      have hD : va_D A (fl [mdW cI b (sU (sU μ 0 (2) (0)) 0 2 (2))]) := hD
      exact W.iret (v := iI (r3)) hx hb hr (fun t9 ht9 hW9 => ⟨⟨(r3), (sU (sU μ 0 (2) (0)) 0 2 (2)), rfl, (OPQ.bad (k := 2) (by unfold cd3; first | (rw [if_pos (by omega)] <;> rfl) | (rw [if_neg (by omega), if_pos (by omega)] <;> rfl) | (rw [if_neg (by omega), if_neg (by omega), if_pos (by omega)] <;> rfl) | (rw [if_neg (by omega), if_neg (by omega), if_neg (by omega)] <;> rfl)) (by decide) rfl hM), ⟨by rw [ht9]; exact hP, va_K.moved hW9.alike hK, hD⟩⟩, hS.F ht9⟩) hS.2.2 dX5_bounds_47 hlocks
    · skip
      refine lv_iload_n hx hb dX5_bounds_31 rfl (lv_at hl 3 rfl) ?_
      refine lv_iload_n hx hb dX5_bounds_32 rfl (lv_at hl 2 rfl) ?_
      refine wi_sipush hx hb dX5_bounds_33 (by decide) ?_
      refine wr_calli (va_runS (As := [.int (iI (hi)), .int (iI (lo)), .int (iI (999))]) (rest := []) ⟨hx, hb, hml, hown, hts⟩ (c_X5_in l D cI cO cC cL (hi) (lo) (999) (by omega) (by omega) (by omega)) (cwS 3 hts gX5_bounds_X5_in rfl rfl rfl (by decide +kernel) ⟨Nat.le_of_ble_eq_true rfl, Nat.le_of_ble_eq_true rfl⟩) ⟨fun _ _ _ _ h => h, fun U hU hW => ⟨rfl, trivial⟩⟩ rfl rfl hl.1 rfl (lv_room (Nat.le_of_ble_eq_true rfl)) dX5_bounds_36 ⟨(Nat.zero_le _), (Nat.zero_le _)⟩) (fun r6 hr6 => ?_)
      subst hr6
      refine wi_if_ne (tgt := 48) hx hb dX5_bounds_39 (by decide) (by omega) (fun c_39 => ?_) (fun c_39 => ?_)
      · skip
        have hcc := hI.c (c := c) (by omega) (by omega)
        obtain ⟨hk1, hk2, hk3⟩ := hR.2.1 c (by omega) (by omega)
        refine lv_aload_n hx hb dX5_bounds_48 rfl (lv_at hl 0 rfl) ?_
        refine lv_iload_n hx hb dX5_bounds_49 rfl (lv_at hl 1 rfl) ?_
        refine wr_calli (va_runV (As := [.int (iI (c))]) (rest := []) ⟨hx, hb, hml, hown, hts⟩ (c_X5_low l D cI cO cC cL b (sU μ 0 (2) (0)) σ (c) (by omega) (hR) (hI)) (cwV 1 hts gX5_bounds_X5_low rfl rfl rfl (by decide +kernel) ⟨Nat.le_of_ble_eq_true rfl, Nat.le_of_ble_eq_true rfl⟩) ⟨pcR_blind, va_recv hK hP (ci := 5) (q0 := 0) rfl rfl, pcR_of hP hK⟩ rfl rfl hl.1 rfl (lv_room (Nat.le_of_ble_eq_true rfl)) dX5_bounds_50 ⟨(Nat.zero_le _), (Nat.zero_le _)⟩) (fun r7 hr7 => ?_)
        subst hr7
        refine wi_top (y := (lowS σ (c) (σ 0 0))) rfl ?_
        refine lv_iload_n hx hb dX5_bounds_53 rfl (lv_at hl 2 rfl) ?_
        refine wi_icmp_lt (tgt := 66) hx hb dX5_bounds_54 (by decide) (by omega) (fun c_54 => ?_) (fun c_54 => ?_)
        · skip
          refine lv_aload_n hx hb dX5_bounds_66 rfl (lv_at hl 0 rfl) ?_
          refine wi_iconst hx hb dX5_bounds_67 ?_
          have hFc := fl_free (SC := [mdW cI b (sU μ 0 (2) (0))]) hD hS hA [0] rfl
          refine wq_calli (va_runV (As := [.int (iI (3))]) (rest := []) ⟨hx, hb, hml, hown, hts⟩ (c_X5_fails l D cI cO cC cL H.size b (sU μ 0 (2) (0)) (3) ) (cwV 1 hts gX5_bounds_X5_fails rfl rfl rfl (by decide +kernel) ⟨Nat.le_of_ble_eq_true rfl, Nat.le_of_ble_eq_true rfl⟩) ⟨pcW_blind, va_recv hK hP (ci := 5) (q0 := 0) rfl rfl, pcW_of hP hK hD⟩ rfl rfl hl.1 rfl (lv_room (Nat.le_of_ble_eq_true rfl)) dX5_bounds_68 ⟨(Nat.zero_le _), (Nat.zero_le _)⟩) hS (fun q _ h => hFc q h) hFc (fun r8 u10 t9 H1 locs ht9 hvm hcl9 hB hz1 hk1 hS => ?_)
          obtain ⟨hP1, hK1, hD1⟩ := hB
          rw [ht9] at hP1
          obtain ⟨hP, hD⟩ := fl_join (SR := []) (S1 := [mdW cI b (sU (sU μ 0 (2) (0)) 0 2 (3))]) hP hD [0] [] rfl rfl (by decide) (by decide) hk1 hFc hP1 hD1
          generalize H1 = H at hP hS ⊢
          have hP : va_P D vwCl (fl [mdW cI b (sU (sU μ 0 (2) (0)) 0 2 (3))]) H := hP
          have hD : va_D A (fl [mdW cI b (sU (sU μ 0 (2) (0)) 0 2 (3))]) := hD
          exact W.iret (v := iI (r8)) hx hb hr (fun t9 ht9 hW9 => ⟨⟨(r8), (sU (sU μ 0 (2) (0)) 0 2 (3)), rfl, (OPQ.bad (k := 3) (by unfold cd3; first | (rw [if_pos (by omega)] <;> rfl) | (rw [if_neg (by omega), if_pos (by omega)] <;> rfl) | (rw [if_neg (by omega), if_neg (by omega), if_pos (by omega)] <;> rfl) | (rw [if_neg (by omega), if_neg (by omega), if_neg (by omega)] <;> rfl)) (by decide) rfl hM), ⟨by rw [ht9]; exact hP, va_K.moved hW9.alike hK, hD⟩⟩, hS.F ht9⟩) hS.2.2 dX5_bounds_71 hlocks
        · skip
          refine lv_aload_n hx hb dX5_bounds_57 rfl (lv_at hl 0 rfl) ?_
          refine lv_iload_n hx hb dX5_bounds_58 rfl (lv_at hl 1 rfl) ?_
          refine wr_calli (va_runV (As := [.int (iI (c))]) (rest := []) ⟨hx, hb, hml, hown, hts⟩ (c_X5_high l D cI cO cC cL b (sU μ 0 (2) (0)) σ (c) (by omega) (hR) (hI)) (cwV 1 hts gX5_bounds_X5_high rfl rfl rfl (by decide +kernel) ⟨Nat.le_of_ble_eq_true rfl, Nat.le_of_ble_eq_true rfl⟩) ⟨pcR_blind, va_recv hK hP (ci := 5) (q0 := 0) rfl rfl, pcR_of hP hK⟩ rfl rfl hl.1 rfl (lv_room (Nat.le_of_ble_eq_true rfl)) dX5_bounds_59 ⟨(Nat.zero_le _), (Nat.zero_le _)⟩) (fun r11 hr11 => ?_)
          subst hr11
          refine wi_top (y := (highS σ (c))) rfl ?_
          refine lv_iload_n hx hb dX5_bounds_62 rfl (lv_at hl 3 rfl) ?_
          refine wi_icmp_le (tgt := 72) hx hb dX5_bounds_63 (by decide) (by omega) (fun c_63 => ?_) (fun c_63 => ?_)
          · skip
            refine lv_aload_n hx hb dX5_bounds_72 rfl (lv_at hl 0 rfl) ?_
            have hFc := fl_free (SC := [mdW cI b (sU μ 0 (2) (0))]) hD hS hA [0] rfl
            refine va_callv (va_runV (As := []) (rest := []) ⟨hx, hb, hml, hown, hts⟩ (c_X5_saves l D cI cO cC cL H.size b (sU μ 0 (2) (0)) σ ss (hG.2.1) (by omega) (hR) (hM.2.2.1) (hG.2.2.1)) (cwV 0 hts gX5_bounds_X5_saves rfl rfl rfl (by decide +kernel) ⟨Nat.le_of_ble_eq_true rfl, Nat.le_of_ble_eq_true rfl⟩) ⟨pcW_blind, va_recv hK hP (ci := 5) (q0 := 0) rfl rfl, pcW_of hP hK hD⟩ rfl rfl hl.1 rfl (lv_room (Nat.le_of_ble_eq_true rfl)) dX5_bounds_73 ⟨(Nat.zero_le _), (Nat.zero_le _)⟩) hS (fun q _ h => hFc q h) hFc (fun  u13 t9 H1 locs ht9 hvm hcl12 hB hz1 hk1 hS => ?_)
            obtain ⟨hP1, hK1, hD1⟩ := hB
            rw [ht9] at hP1
            obtain ⟨hP, hD⟩ := fl_join (SR := []) (S1 := [mdW cI b (sU (sR (sU μ 0 (2) (0)) 2 u13) 0 0 (pushK ((sU μ 0 (2) (0)) 0 0)))]) hP hD [0] [] rfl rfl (by decide) (by decide) hk1 hFc hP1 hD1
            generalize H1 = H at hP hS ⊢
            have hP : va_P D vwCl (fl [mdW cI b (sU (sR (sU μ 0 (2) (0)) 2 u13) 0 0 (pushK ((sU μ 0 (2) (0)) 0 0)))]) H := hP
            have hD : va_D A (fl [mdW cI b (sU (sR (sU μ 0 (2) (0)) 2 u13) 0 0 (pushK ((sU μ 0 (2) (0)) 0 0)))]) := hD
            refine lv_aload_n hx hb dX5_bounds_76 rfl (lv_at hl 0 rfl) ?_
            refine va_get (D := D) (ci := 5) (v := .ref (b 1)) (C := RX5) (T := TX5) (N := 12) hx hb hts hin_X5 hown hK hP 0 rfl rfl 0 (by decide) hw_1 (fun _ h9 => h9) rfl dX5_bounds_77 ?_
            refine wi_bipush hx hb dX5_bounds_80 (by decide) ?_
            refine lv_iload_n hx hb dX5_bounds_82 rfl (lv_at hl 1 rfl) ?_
            refine wi_iadd hx hb dX5_bounds_83 ?_
            refine wi_iald hx hb hK hP 1 0 (n := 115) (f := μ 1) rfl rfl (i := (13 + c)) (by omega) (by decide) dX5_bounds_84 ?_
            refine lv_aload_n hx hb dX5_bounds_85 rfl (lv_at hl 0 rfl) ?_
            refine va_get (D := D) (ci := 5) (v := .ref (b 1)) (C := RX5) (T := TX5) (N := 12) hx hb hts hin_X5 hown hK hP 0 rfl rfl 0 (by decide) hw_1 (fun _ h9 => h9) rfl dX5_bounds_86 ?_
            refine wi_bipush hx hb dX5_bounds_89 (by decide) ?_
            refine lv_iload_n hx hb dX5_bounds_91 rfl (lv_at hl 1 rfl) ?_
            refine wi_iadd hx hb dX5_bounds_92 ?_
            refine wi_iald hx hb hK hP 1 0 (n := 115) (f := μ 1) rfl rfl (i := (9 + c)) (by omega) (by decide) dX5_bounds_93 ?_
            refine wi_isub hx hb dX5_bounds_94 ?_
            refine lv_istore (lv' := [(4, .int (iI (((μ 1 ((13 + c))) - (μ 1 ((9 + c))))))), (0, .ref (b 0)), (1, .int (iI (c))), (2, .int (iI (lo))), (3, .int (iI (hi)))]) hx hb dX5_bounds_95 hl (by decide) rfl (fun ls hl => ?_)
            refine lv_aload_n hx hb dX5_bounds_97 rfl (lv_at hl 1 rfl) ?_
            refine va_get (D := D) (ci := 5) (v := .ref (b 1)) (C := RX5) (T := TX5) (N := 12) hx hb hts hin_X5 hown hK hP 0 rfl rfl 0 (by decide) hw_1 (fun _ h9 => h9) rfl dX5_bounds_98 ?_
            refine wi_bipush hx hb dX5_bounds_101 (by decide) ?_
            refine lv_iload_n hx hb dX5_bounds_103 rfl (lv_at hl 2 rfl) ?_
            refine wi_iadd hx hb dX5_bounds_104 ?_
            refine lv_iload_n hx hb dX5_bounds_105 rfl (lv_at hl 3 rfl) ?_
            refine wi_iast hx hb hK hP hD hS 1 0 (n := 115) (f := μ 1) rfl rfl (i := (9 + c)) (by omega) (by decide) dX5_bounds_106 (fun H locs hP hD hS => ?_)
            have hP : va_P D vwCl (fl [mdW cI b (sU (sU (sR (sU μ 0 (2) (0)) 2 u13) 0 0 (pushK ((sU μ 0 (2) (0)) 0 0))) 1 ((9 + c)) (lo))]) H := hP
            have hD : va_D A (fl [mdW cI b (sU (sU (sR (sU μ 0 (2) (0)) 2 u13) 0 0 (pushK ((sU μ 0 (2) (0)) 0 0))) 1 ((9 + c)) (lo))]) := hD
            refine lv_aload_n hx hb dX5_bounds_107 rfl (lv_at hl 1 rfl) ?_
            refine va_get (D := D) (ci := 5) (v := .ref (b 1)) (C := RX5) (T := TX5) (N := 12) hx hb hts hin_X5 hown hK hP 0 rfl rfl 0 (by decide) hw_1 (fun _ h9 => h9) rfl dX5_bounds_108 ?_
            refine wi_bipush hx hb dX5_bounds_111 (by decide) ?_
            refine lv_iload_n hx hb dX5_bounds_113 rfl (lv_at hl 2 rfl) ?_
            refine wi_iadd hx hb dX5_bounds_114 ?_
            refine lv_iload_n hx hb dX5_bounds_115 rfl (lv_at hl 4 rfl) ?_
            refine wi_iast hx hb hK hP hD hS 1 0 (n := 115) (f := (uI (μ 1) ((9 + c)) (lo))) rfl rfl (i := (13 + c)) (by omega) (by decide) dX5_bounds_116 (fun H locs hP hD hS => ?_)
            have hP : va_P D vwCl (fl [mdW cI b (sU (sU (sU (sR (sU μ 0 (2) (0)) 2 u13) 0 0 (pushK ((sU μ 0 (2) (0)) 0 0))) 1 ((9 + c)) (lo)) 1 ((13 + c)) (hi))]) H := hP
            have hD : va_D A (fl [mdW cI b (sU (sU (sU (sR (sU μ 0 (2) (0)) 2 u13) 0 0 (pushK ((sU μ 0 (2) (0)) 0 0))) 1 ((9 + c)) (lo)) 1 ((13 + c)) (hi))]) := hD
            refine lv_iload hx hb dX5_bounds_117 (lv_at hl 0 rfl) ?_
            exact W.iret (v := iI (((μ 1 ((13 + c))) - (μ 1 ((9 + c)))))) hx hb hr (fun t9 ht9 hW9 => ⟨⟨(((μ 1 ((13 + c))) - (μ 1 ((9 + c))))), (sU (sU (sU (sR (sU μ 0 (2) (0)) 2 u13) 0 0 (pushK ((sU μ 0 (2) (0)) 0 0))) 1 ((9 + c)) (lo)) 1 ((13 + c)) (hi)), rfl, (OPQ.good (by unfold cd3; first | (rw [if_pos (by omega)] <;> rfl) | (rw [if_neg (by omega), if_pos (by omega)] <;> rfl) | (rw [if_neg (by omega), if_neg (by omega), if_pos (by omega)] <;> rfl) | (rw [if_neg (by omega), if_neg (by omega), if_neg (by omega)] <;> rfl)) rfl (by show μ 1 (13 + c) - μ 1 (9 + c) = _; omega) (⟨RelN_bnd hR (by omega), rfl, hcl12, rfl, hM.2.2.2.2⟩)), ⟨by rw [ht9]; exact hP, va_K.moved hW9.alike hK, hD⟩⟩, hS.F ht9⟩) hS.2.2 dX5_bounds_119 hlocks
          · skip
            refine lv_aload_n hx hb dX5_bounds_66 rfl (lv_at hl 0 rfl) ?_
            refine wi_iconst hx hb dX5_bounds_67 ?_
            have hFc := fl_free (SC := [mdW cI b (sU μ 0 (2) (0))]) hD hS hA [0] rfl
            refine wq_calli (va_runV (As := [.int (iI (3))]) (rest := []) ⟨hx, hb, hml, hown, hts⟩ (c_X5_fails l D cI cO cC cL H.size b (sU μ 0 (2) (0)) (3) ) (cwV 1 hts gX5_bounds_X5_fails rfl rfl rfl (by decide +kernel) ⟨Nat.le_of_ble_eq_true rfl, Nat.le_of_ble_eq_true rfl⟩) ⟨pcW_blind, va_recv hK hP (ci := 5) (q0 := 0) rfl rfl, pcW_of hP hK hD⟩ rfl rfl hl.1 rfl (lv_room (Nat.le_of_ble_eq_true rfl)) dX5_bounds_68 ⟨(Nat.zero_le _), (Nat.zero_le _)⟩) hS (fun q _ h => hFc q h) hFc (fun r14 u16 t9 H1 locs ht9 hvm hcl15 hB hz1 hk1 hS => ?_)
            obtain ⟨hP1, hK1, hD1⟩ := hB
            rw [ht9] at hP1
            obtain ⟨hP, hD⟩ := fl_join (SR := []) (S1 := [mdW cI b (sU (sU μ 0 (2) (0)) 0 2 (3))]) hP hD [0] [] rfl rfl (by decide) (by decide) hk1 hFc hP1 hD1
            generalize H1 = H at hP hS ⊢
            have hP : va_P D vwCl (fl [mdW cI b (sU (sU μ 0 (2) (0)) 0 2 (3))]) H := hP
            have hD : va_D A (fl [mdW cI b (sU (sU μ 0 (2) (0)) 0 2 (3))]) := hD
            exact W.iret (v := iI (r14)) hx hb hr (fun t9 ht9 hW9 => ⟨⟨(r14), (sU (sU μ 0 (2) (0)) 0 2 (3)), rfl, (OPQ.bad (k := 3) (by unfold cd3; first | (rw [if_pos (by omega)] <;> rfl) | (rw [if_neg (by omega), if_pos (by omega)] <;> rfl) | (rw [if_neg (by omega), if_neg (by omega), if_pos (by omega)] <;> rfl) | (rw [if_neg (by omega), if_neg (by omega), if_neg (by omega)] <;> rfl)) (by decide) rfl hM), ⟨by rw [ht9]; exact hP, va_K.moved hW9.alike hK, hD⟩⟩, hS.F ht9⟩) hS.2.2 dX5_bounds_71 hlocks
      · skip
        refine lv_aload_n hx hb dX5_bounds_42 rfl (lv_at hl 0 rfl) ?_
        refine wi_iconst hx hb dX5_bounds_43 ?_
        have hFc := fl_free (SC := [mdW cI b (sU μ 0 (2) (0))]) hD hS hA [0] rfl
        refine wq_calli (va_runV (As := [.int (iI (2))]) (rest := []) ⟨hx, hb, hml, hown, hts⟩ (c_X5_fails l D cI cO cC cL H.size b (sU μ 0 (2) (0)) (2) ) (cwV 1 hts gX5_bounds_X5_fails rfl rfl rfl (by decide +kernel) ⟨Nat.le_of_ble_eq_true rfl, Nat.le_of_ble_eq_true rfl⟩) ⟨pcW_blind, va_recv hK hP (ci := 5) (q0 := 0) rfl rfl, pcW_of hP hK hD⟩ rfl rfl hl.1 rfl (lv_room (Nat.le_of_ble_eq_true rfl)) dX5_bounds_44 ⟨(Nat.zero_le _), (Nat.zero_le _)⟩) hS (fun q _ h => hFc q h) hFc (fun r17 u19 t9 H1 locs ht9 hvm hcl18 hB hz1 hk1 hS => ?_)
        obtain ⟨hP1, hK1, hD1⟩ := hB
        rw [ht9] at hP1
        obtain ⟨hP, hD⟩ := fl_join (SR := []) (S1 := [mdW cI b (sU (sU μ 0 (2) (0)) 0 2 (2))]) hP hD [0] [] rfl rfl (by decide) (by decide) hk1 hFc hP1 hD1
        generalize H1 = H at hP hS ⊢
        have hP : va_P D vwCl (fl [mdW cI b (sU (sU μ 0 (2) (0)) 0 2 (2))]) H := hP
        have hD : va_D A (fl [mdW cI b (sU (sU μ 0 (2) (0)) 0 2 (2))]) := hD
        exact W.iret (v := iI (r17)) hx hb hr (fun t9 ht9 hW9 => ⟨⟨(r17), (sU (sU μ 0 (2) (0)) 0 2 (2)), rfl, (OPQ.bad (k := 2) (by unfold cd3; first | (rw [if_pos (by omega)] <;> rfl) | (rw [if_neg (by omega), if_pos (by omega)] <;> rfl) | (rw [if_neg (by omega), if_neg (by omega), if_pos (by omega)] <;> rfl) | (rw [if_neg (by omega), if_neg (by omega), if_neg (by omega)] <;> rfl)) (by decide) rfl hM), ⟨by rw [ht9]; exact hP, va_K.moved hW9.alike hK, hD⟩⟩, hS.F ht9⟩) hS.2.2 dX5_bounds_47 hlocks
  · skip
    refine lv_aload_n hx hb dX5_bounds_12 rfl (lv_at hl 0 rfl) ?_
    refine wi_iconst hx hb dX5_bounds_13 ?_
    have hFc := fl_free (SC := [mdW cI b (sU μ 0 (2) (0))]) hD hS hA [0] rfl
    refine wq_calli (va_runV (As := [.int (iI (1))]) (rest := []) ⟨hx, hb, hml, hown, hts⟩ (c_X5_fails l D cI cO cC cL H.size b (sU μ 0 (2) (0)) (1) ) (cwV 1 hts gX5_bounds_X5_fails rfl rfl rfl (by decide +kernel) ⟨Nat.le_of_ble_eq_true rfl, Nat.le_of_ble_eq_true rfl⟩) ⟨pcW_blind, va_recv hK hP (ci := 5) (q0 := 0) rfl rfl, pcW_of hP hK hD⟩ rfl rfl hl.1 rfl (lv_room (Nat.le_of_ble_eq_true rfl)) dX5_bounds_14 ⟨(Nat.zero_le _), (Nat.zero_le _)⟩) hS (fun q _ h => hFc q h) hFc (fun r20 u22 t9 H1 locs ht9 hvm hcl21 hB hz1 hk1 hS => ?_)
    obtain ⟨hP1, hK1, hD1⟩ := hB
    rw [ht9] at hP1
    obtain ⟨hP, hD⟩ := fl_join (SR := []) (S1 := [mdW cI b (sU (sU μ 0 (2) (0)) 0 2 (1))]) hP hD [0] [] rfl rfl (by decide) (by decide) hk1 hFc hP1 hD1
    generalize H1 = H at hP hS ⊢
    have hP : va_P D vwCl (fl [mdW cI b (sU (sU μ 0 (2) (0)) 0 2 (1))]) H := hP
    have hD : va_D A (fl [mdW cI b (sU (sU μ 0 (2) (0)) 0 2 (1))]) := hD
    exact W.iret (v := iI (r20)) hx hb hr (fun t9 ht9 hW9 => ⟨⟨(r20), (sU (sU μ 0 (2) (0)) 0 2 (1)), rfl, (OPQ.bad (k := 1) (by unfold cd3; first | (rw [if_pos (by omega)] <;> rfl) | (rw [if_neg (by omega), if_pos (by omega)] <;> rfl) | (rw [if_neg (by omega), if_neg (by omega), if_pos (by omega)] <;> rfl) | (rw [if_neg (by omega), if_neg (by omega), if_neg (by omega)] <;> rfl)) (by decide) rfl hM), ⟨by rw [ht9]; exact hP, va_K.moved hW9.alike hK, hD⟩⟩, hS.F ht9⟩) hS.2.2 dX5_bounds_17 hlocks
set_option maxHeartbeats 4000000 in
set_option maxRecDepth 100000 in
theorem c_X5_set (l : Launch) (D : va_G) (cI cO cC cL : ClassId) (sz : Nat) (b : Nat → Nat) (μ σ : Nat → Int → Int) (ss : Nat → Nat → Int → Int) (β : Int → Int) (k v : Int) (hk : R32 k) (hv : R32 v) (hM : RelM σ (μ 0 0) ss (μ 0 1) β μ) (hG : GI σ (μ 0 0) ss (μ 0 1) β) : Met l yX5_set wsX5_set ({ frames := 1, cells := 0, slots := 0, locals := 22 } : Room) (pcW D [(cI, FieldType.int)] [.ref (b 0), .int (iI (k)), .int (iI (v))] (fl [mdW cI b μ]) sz) (wq_i (fun (r : Int) (μ' : Nat → Int → Int) => OPQ (cd2 (0 ≤ k ∧ k ≤ 1) (1 ≤ v ∧ v ≤ (if k = 0 then 16 else 99))) r (σ 1 k) (μ' 0 2) (RelM σ (μ 0 0) ss (μ 0 1) β μ') (RelM (sU σ 1 k v) (pushK (μ 0 0)) (pushS (μ 0 0) ss σ) (μ 0 1) β μ')) (fun (μ' : Nat → Int → Int) => (bW D [(cI, FieldType.int)] (fl [mdW cI b μ']) (va_A (fl [mdW cI b μ]) sz))) (va_A (fl [mdW cI b μ]) sz)) 0 0 (va_A (fl [mdW cI b μ]) sz) := by
  refine Met.ofW (cc := cX5_set) (maxL := 4) (ret := (some .int)) (by decide) rfl ?_
  intro p9 e9 s m args9 below9 meth9 c9 s₁ B hml hv
  obtain ⟨rfl, hsz, hP, hK, hD0⟩ := hv
  have hx := B.exec
  have hb := B.bytes
  have hr := B.returns
  have hts := atoms_spec (ws := wsX5_set) B.pre
  have hown : s.vm.findClass RX5 = some m.cls := findClass_of_methodNamed B.named
  have hlocks := B.notSynchronized
  subst hsz
  have hD := hD0.self (sz := s.heap.size)
  generalize hAe : va_A (fl [mdW cI b μ]) s.heap.size = A at hD ⊢
  have hA : ∀ q : Nat, s.heap.size ≤ q → A q := fun q h => by rw [← hAe]; exact Or.inr h
  have hS : va_S A s.heap s.heap [] := va_S.rf
  have hP : va_P D vwCl (fl [mdW cI b μ]) s.heap := hP
  have hl := lv_entry ([.ref (b 0), .int (iI (k)), .int (iI (v))]) (n := 4) (Nat.le_of_ble_eq_true rfl)
  rw [lg_entry_eq]
  generalize (lg_sl ([.ref (b 0), .int (iI (k)), .int (iI (v))]) ++ List.replicate (4 - (lg_sl ([.ref (b 0), .int (iI (k)), .int (iI (v))])).length) Slot.unset).toArray = ls at hl ⊢
  have hl : lv_has ls 4 [(0, .ref (b 0)), (1, .int (iI (k))), (2, .int (iI (v)))] := hl
  have hw_0 := hts (.fieldLink RX5 25 "PromisedCountersModel" "thrown" "I") (by decide +kernel)
  have hin_X5 : ∀ w ∈ u_ws RX5 TX5 12, w ∈ wsX5_set := by decide +kernel
  have hw_1 := hts (.fieldLink RX5 7 "PromisedCountersModel" "now" "[I") (by decide +kernel)
  have hI := hG.1
  have hR := hM.1
  have hn := hI.n
  have hti := hI.t
  obtain ⟨hm0, hm1, hm2, hm3, hm4⟩ := hR.1
  refine lv_aload_n hx hb dX5_set_0 rfl (lv_at hl 0 rfl) ?_
  refine wi_iconst hx hb dX5_set_1 ?_
  refine va_put (D := D) (ci := 5) (v := .int (iI (0))) (ty := .int) (C := RX5) (T := TX5) (N := 12) hx hb hts hin_X5 tyX5 tyX5_ok nmX5 hown hK hP hD hS 0 rfl rfl 5 (by decide) hw_0 (fun _ h9 => h9) rfl (by decide +kernel) rfl rfl (Nat.le_of_ble_eq_true rfl) dX5_set_2 (fun H locs hP hD hS => ?_)
  have hP : va_P D vwCl (fl [mdW cI b (sU μ 0 (2) (0))]) H := hP
  have hD : va_D A (fl [mdW cI b (sU μ 0 (2) (0))]) := hD
  refine lv_iload_n hx hb dX5_set_5 rfl (lv_at hl 1 rfl) ?_
  refine wi_iconst hx hb dX5_set_6 ?_
  refine wi_iconst hx hb dX5_set_7 ?_
  refine wr_calli (va_runS (As := [.int (iI (k)), .int (iI (0)), .int (iI (1))]) (rest := []) ⟨hx, hb, hml, hown, hts⟩ (c_X5_in l D cI cO cC cL (k) (0) (1) (by omega) (by omega) (by omega)) (cwS 3 hts gX5_set_X5_in rfl rfl rfl (by decide +kernel) ⟨Nat.le_of_ble_eq_true rfl, Nat.le_of_ble_eq_true rfl⟩) ⟨fun _ _ _ _ h => h, fun U hU hW => ⟨rfl, trivial⟩⟩ rfl rfl hl.1 rfl (lv_room (Nat.le_of_ble_eq_true rfl)) dX5_set_8 ⟨(Nat.zero_le _), (Nat.zero_le _)⟩) (fun r1 hr1 => ?_)
  subst hr1
  refine wi_if_ne (tgt := 20) hx hb dX5_set_11 (by decide) (by omega) (fun c_11 => ?_) (fun c_11 => ?_)
  · skip
    refine lv_iload_n hx hb dX5_set_20 rfl (lv_at hl 2 rfl) ?_
    refine wi_iconst hx hb dX5_set_21 ?_
    refine lv_iload_n hx hb dX5_set_22 rfl (lv_at hl 1 rfl) ?_
    refine wi_if_ne (tgt := 31) hx hb dX5_set_23 (by decide) (by omega) (fun c_23 => ?_) (fun c_23 => ?_)
    · skip
      refine wi_bipush hx hb dX5_set_31 (by decide) ?_
      refine wr_calli (va_runS (As := [.int (iI (v)), .int (iI (1)), .int (iI (99))]) (rest := []) ⟨hx, hb, hml, hown, hts⟩ (c_X5_in l D cI cO cC cL (v) (1) (99) (by omega) (by omega) (by omega)) (cwS 3 hts gX5_set_X5_in rfl rfl rfl (by decide +kernel) ⟨Nat.le_of_ble_eq_true rfl, Nat.le_of_ble_eq_true rfl⟩) ⟨fun _ _ _ _ h => h, fun U hU hW => ⟨rfl, trivial⟩⟩ rfl rfl hl.1 rfl (lv_room (Nat.le_of_ble_eq_true rfl)) dX5_set_33 ⟨(Nat.zero_le _), (Nat.zero_le _)⟩) (fun r2 hr2 => ?_)
      subst hr2
      refine wi_if_ne (tgt := 45) hx hb dX5_set_36 (by decide) (by omega) (fun c_36 => ?_) (fun c_36 => ?_)
      · skip
        refine lv_aload_n hx hb dX5_set_45 rfl (lv_at hl 0 rfl) ?_
        have hFc := fl_free (SC := [mdW cI b (sU μ 0 (2) (0))]) hD hS hA [0] rfl
        refine va_callv (va_runV (As := []) (rest := []) ⟨hx, hb, hml, hown, hts⟩ (c_X5_saves l D cI cO cC cL H.size b (sU μ 0 (2) (0)) σ ss (hG.2.1) (by omega) (hR) (hM.2.2.1) (hG.2.2.1)) (cwV 0 hts gX5_set_X5_saves rfl rfl rfl (by decide +kernel) ⟨Nat.le_of_ble_eq_true rfl, Nat.le_of_ble_eq_true rfl⟩) ⟨pcW_blind, va_recv hK hP (ci := 5) (q0 := 0) rfl rfl, pcW_of hP hK hD⟩ rfl rfl hl.1 rfl (lv_room (Nat.le_of_ble_eq_true rfl)) dX5_set_46 ⟨(Nat.zero_le _), (Nat.zero_le _)⟩) hS (fun q _ h => hFc q h) hFc (fun  u4 t9 H1 locs ht9 hvm hcl3 hB hz1 hk1 hS => ?_)
        obtain ⟨hP1, hK1, hD1⟩ := hB
        rw [ht9] at hP1
        obtain ⟨hP, hD⟩ := fl_join (SR := []) (S1 := [mdW cI b (sU (sR (sU μ 0 (2) (0)) 2 u4) 0 0 (pushK ((sU μ 0 (2) (0)) 0 0)))]) hP hD [0] [] rfl rfl (by decide) (by decide) hk1 hFc hP1 hD1
        generalize H1 = H at hP hS ⊢
        have hP : va_P D vwCl (fl [mdW cI b (sU (sR (sU μ 0 (2) (0)) 2 u4) 0 0 (pushK ((sU μ 0 (2) (0)) 0 0)))]) H := hP
        have hD : va_D A (fl [mdW cI b (sU (sR (sU μ 0 (2) (0)) 2 u4) 0 0 (pushK ((sU μ 0 (2) (0)) 0 0)))]) := hD
        refine lv_aload_n hx hb dX5_set_49 rfl (lv_at hl 0 rfl) ?_
        refine va_get (D := D) (ci := 5) (v := .ref (b 1)) (C := RX5) (T := TX5) (N := 12) hx hb hts hin_X5 hown hK hP 0 rfl rfl 0 (by decide) hw_1 (fun _ h9 => h9) rfl dX5_set_50 ?_
        refine wi_iconst hx hb dX5_set_53 ?_
        refine lv_iload_n hx hb dX5_set_54 rfl (lv_at hl 1 rfl) ?_
        refine wi_iadd hx hb dX5_set_55 ?_
        refine wi_iald hx hb hK hP 1 0 (n := 115) (f := μ 1) rfl rfl (i := (1 + k)) (by omega) (by decide) dX5_set_56 ?_
        refine lv_istore_n (lv' := [(3, .int (iI ((μ 1 ((1 + k)))))), (0, .ref (b 0)), (1, .int (iI (k))), (2, .int (iI (v)))]) hx hb dX5_set_57 rfl hl (by decide) rfl (fun ls hl => ?_)
        refine lv_aload_n hx hb dX5_set_58 rfl (lv_at hl 1 rfl) ?_
        refine va_get (D := D) (ci := 5) (v := .ref (b 1)) (C := RX5) (T := TX5) (N := 12) hx hb hts hin_X5 hown hK hP 0 rfl rfl 0 (by decide) hw_1 (fun _ h9 => h9) rfl dX5_set_59 ?_
        refine wi_iconst hx hb dX5_set_62 ?_
        refine lv_iload_n hx hb dX5_set_63 rfl (lv_at hl 2 rfl) ?_
        refine wi_iadd hx hb dX5_set_64 ?_
        refine lv_iload_n hx hb dX5_set_65 rfl (lv_at hl 3 rfl) ?_
        refine wi_iast hx hb hK hP hD hS 1 0 (n := 115) (f := μ 1) rfl rfl (i := (1 + k)) (by omega) (by decide) dX5_set_66 (fun H locs hP hD hS => ?_)
        have hP : va_P D vwCl (fl [mdW cI b (sU (sU (sR (sU μ 0 (2) (0)) 2 u4) 0 0 (pushK ((sU μ 0 (2) (0)) 0 0))) 1 ((1 + k)) (v))]) H := hP
        have hD : va_D A (fl [mdW cI b (sU (sU (sR (sU μ 0 (2) (0)) 2 u4) 0 0 (pushK ((sU μ 0 (2) (0)) 0 0))) 1 ((1 + k)) (v))]) := hD
        refine lv_iload_n hx hb dX5_set_67 rfl (lv_at hl 0 rfl) ?_
        exact W.iret (v := iI ((μ 1 ((1 + k))))) hx hb hr (fun t9 ht9 hW9 => ⟨⟨((μ 1 ((1 + k)))), (sU (sU (sR (sU μ 0 (2) (0)) 2 u4) 0 0 (pushK ((sU μ 0 (2) (0)) 0 0))) 1 ((1 + k)) (v)), rfl, (OPQ.good (by unfold cd2; first | (rw [if_pos (by omega)] <;> rfl) | (rw [if_neg (by omega), if_pos (by omega)] <;> rfl) | (rw [if_neg (by omega), if_neg (by omega)] <;> rfl)) rfl (by rcases (show k = 0 ∨ k = 1 by omega) with q | q <;> rw [q] <;> first | exact hm1 | exact hm2) (⟨RelN_set hR (by omega), rfl, hcl3, rfl, hM.2.2.2.2⟩)), ⟨by rw [ht9]; exact hP, va_K.moved hW9.alike hK, hD⟩⟩, hS.F ht9⟩) hS.2.2 dX5_set_68 hlocks
      · skip
        refine lv_aload_n hx hb dX5_set_39 rfl (lv_at hl 0 rfl) ?_
        refine wi_iconst hx hb dX5_set_40 ?_
        have hFc := fl_free (SC := [mdW cI b (sU μ 0 (2) (0))]) hD hS hA [0] rfl
        refine wq_calli (va_runV (As := [.int (iI (2))]) (rest := []) ⟨hx, hb, hml, hown, hts⟩ (c_X5_fails l D cI cO cC cL H.size b (sU μ 0 (2) (0)) (2) ) (cwV 1 hts gX5_set_X5_fails rfl rfl rfl (by decide +kernel) ⟨Nat.le_of_ble_eq_true rfl, Nat.le_of_ble_eq_true rfl⟩) ⟨pcW_blind, va_recv hK hP (ci := 5) (q0 := 0) rfl rfl, pcW_of hP hK hD⟩ rfl rfl hl.1 rfl (lv_room (Nat.le_of_ble_eq_true rfl)) dX5_set_41 ⟨(Nat.zero_le _), (Nat.zero_le _)⟩) hS (fun q _ h => hFc q h) hFc (fun r5 u7 t9 H1 locs ht9 hvm hcl6 hB hz1 hk1 hS => ?_)
        obtain ⟨hP1, hK1, hD1⟩ := hB
        rw [ht9] at hP1
        obtain ⟨hP, hD⟩ := fl_join (SR := []) (S1 := [mdW cI b (sU (sU μ 0 (2) (0)) 0 2 (2))]) hP hD [0] [] rfl rfl (by decide) (by decide) hk1 hFc hP1 hD1
        generalize H1 = H at hP hS ⊢
        have hP : va_P D vwCl (fl [mdW cI b (sU (sU μ 0 (2) (0)) 0 2 (2))]) H := hP
        have hD : va_D A (fl [mdW cI b (sU (sU μ 0 (2) (0)) 0 2 (2))]) := hD
        exact W.iret (v := iI (r5)) hx hb hr (fun t9 ht9 hW9 => ⟨⟨(r5), (sU (sU μ 0 (2) (0)) 0 2 (2)), rfl, (OPQ.bad (k := 2) (by unfold cd2; first | (rw [if_pos (by omega)] <;> rfl) | (rw [if_neg (by omega), if_pos (by omega)] <;> rfl) | (rw [if_neg (by omega), if_neg (by omega)] <;> rfl)) (by decide) rfl hM), ⟨by rw [ht9]; exact hP, va_K.moved hW9.alike hK, hD⟩⟩, hS.F ht9⟩) hS.2.2 dX5_set_44 hlocks
    · skip
      refine wi_bipush hx hb dX5_set_26 (by decide) ?_
      refine lv_goto (tgt := 33) hx hb dX5_set_28 (by decide) ?_
      refine wr_calli (va_runS (As := [.int (iI (v)), .int (iI (1)), .int (iI (16))]) (rest := []) ⟨hx, hb, hml, hown, hts⟩ (c_X5_in l D cI cO cC cL (v) (1) (16) (by omega) (by omega) (by omega)) (cwS 3 hts gX5_set_X5_in rfl rfl rfl (by decide +kernel) ⟨Nat.le_of_ble_eq_true rfl, Nat.le_of_ble_eq_true rfl⟩) ⟨fun _ _ _ _ h => h, fun U hU hW => ⟨rfl, trivial⟩⟩ rfl rfl hl.1 rfl (lv_room (Nat.le_of_ble_eq_true rfl)) dX5_set_33 ⟨(Nat.zero_le _), (Nat.zero_le _)⟩) (fun r8 hr8 => ?_)
      subst hr8
      refine wi_if_ne (tgt := 45) hx hb dX5_set_36 (by decide) (by omega) (fun c_36 => ?_) (fun c_36 => ?_)
      · skip
        refine lv_aload_n hx hb dX5_set_45 rfl (lv_at hl 0 rfl) ?_
        have hFc := fl_free (SC := [mdW cI b (sU μ 0 (2) (0))]) hD hS hA [0] rfl
        refine va_callv (va_runV (As := []) (rest := []) ⟨hx, hb, hml, hown, hts⟩ (c_X5_saves l D cI cO cC cL H.size b (sU μ 0 (2) (0)) σ ss (hG.2.1) (by omega) (hR) (hM.2.2.1) (hG.2.2.1)) (cwV 0 hts gX5_set_X5_saves rfl rfl rfl (by decide +kernel) ⟨Nat.le_of_ble_eq_true rfl, Nat.le_of_ble_eq_true rfl⟩) ⟨pcW_blind, va_recv hK hP (ci := 5) (q0 := 0) rfl rfl, pcW_of hP hK hD⟩ rfl rfl hl.1 rfl (lv_room (Nat.le_of_ble_eq_true rfl)) dX5_set_46 ⟨(Nat.zero_le _), (Nat.zero_le _)⟩) hS (fun q _ h => hFc q h) hFc (fun  u10 t9 H1 locs ht9 hvm hcl9 hB hz1 hk1 hS => ?_)
        obtain ⟨hP1, hK1, hD1⟩ := hB
        rw [ht9] at hP1
        obtain ⟨hP, hD⟩ := fl_join (SR := []) (S1 := [mdW cI b (sU (sR (sU μ 0 (2) (0)) 2 u10) 0 0 (pushK ((sU μ 0 (2) (0)) 0 0)))]) hP hD [0] [] rfl rfl (by decide) (by decide) hk1 hFc hP1 hD1
        generalize H1 = H at hP hS ⊢
        have hP : va_P D vwCl (fl [mdW cI b (sU (sR (sU μ 0 (2) (0)) 2 u10) 0 0 (pushK ((sU μ 0 (2) (0)) 0 0)))]) H := hP
        have hD : va_D A (fl [mdW cI b (sU (sR (sU μ 0 (2) (0)) 2 u10) 0 0 (pushK ((sU μ 0 (2) (0)) 0 0)))]) := hD
        refine lv_aload_n hx hb dX5_set_49 rfl (lv_at hl 0 rfl) ?_
        refine va_get (D := D) (ci := 5) (v := .ref (b 1)) (C := RX5) (T := TX5) (N := 12) hx hb hts hin_X5 hown hK hP 0 rfl rfl 0 (by decide) hw_1 (fun _ h9 => h9) rfl dX5_set_50 ?_
        refine wi_iconst hx hb dX5_set_53 ?_
        refine lv_iload_n hx hb dX5_set_54 rfl (lv_at hl 1 rfl) ?_
        refine wi_iadd hx hb dX5_set_55 ?_
        refine wi_iald hx hb hK hP 1 0 (n := 115) (f := μ 1) rfl rfl (i := (1 + k)) (by omega) (by decide) dX5_set_56 ?_
        refine lv_istore_n (lv' := [(3, .int (iI ((μ 1 ((1 + k)))))), (0, .ref (b 0)), (1, .int (iI (k))), (2, .int (iI (v)))]) hx hb dX5_set_57 rfl hl (by decide) rfl (fun ls hl => ?_)
        refine lv_aload_n hx hb dX5_set_58 rfl (lv_at hl 1 rfl) ?_
        refine va_get (D := D) (ci := 5) (v := .ref (b 1)) (C := RX5) (T := TX5) (N := 12) hx hb hts hin_X5 hown hK hP 0 rfl rfl 0 (by decide) hw_1 (fun _ h9 => h9) rfl dX5_set_59 ?_
        refine wi_iconst hx hb dX5_set_62 ?_
        refine lv_iload_n hx hb dX5_set_63 rfl (lv_at hl 2 rfl) ?_
        refine wi_iadd hx hb dX5_set_64 ?_
        refine lv_iload_n hx hb dX5_set_65 rfl (lv_at hl 3 rfl) ?_
        refine wi_iast hx hb hK hP hD hS 1 0 (n := 115) (f := μ 1) rfl rfl (i := (1 + k)) (by omega) (by decide) dX5_set_66 (fun H locs hP hD hS => ?_)
        have hP : va_P D vwCl (fl [mdW cI b (sU (sU (sR (sU μ 0 (2) (0)) 2 u10) 0 0 (pushK ((sU μ 0 (2) (0)) 0 0))) 1 ((1 + k)) (v))]) H := hP
        have hD : va_D A (fl [mdW cI b (sU (sU (sR (sU μ 0 (2) (0)) 2 u10) 0 0 (pushK ((sU μ 0 (2) (0)) 0 0))) 1 ((1 + k)) (v))]) := hD
        refine lv_iload_n hx hb dX5_set_67 rfl (lv_at hl 0 rfl) ?_
        exact W.iret (v := iI ((μ 1 ((1 + k))))) hx hb hr (fun t9 ht9 hW9 => ⟨⟨((μ 1 ((1 + k)))), (sU (sU (sR (sU μ 0 (2) (0)) 2 u10) 0 0 (pushK ((sU μ 0 (2) (0)) 0 0))) 1 ((1 + k)) (v)), rfl, (OPQ.good (by unfold cd2; first | (rw [if_pos (by omega)] <;> rfl) | (rw [if_neg (by omega), if_pos (by omega)] <;> rfl) | (rw [if_neg (by omega), if_neg (by omega)] <;> rfl)) rfl (by rcases (show k = 0 ∨ k = 1 by omega) with q | q <;> rw [q] <;> first | exact hm1 | exact hm2) (⟨RelN_set hR (by omega), rfl, hcl9, rfl, hM.2.2.2.2⟩)), ⟨by rw [ht9]; exact hP, va_K.moved hW9.alike hK, hD⟩⟩, hS.F ht9⟩) hS.2.2 dX5_set_68 hlocks
      · skip
        refine lv_aload_n hx hb dX5_set_39 rfl (lv_at hl 0 rfl) ?_
        refine wi_iconst hx hb dX5_set_40 ?_
        have hFc := fl_free (SC := [mdW cI b (sU μ 0 (2) (0))]) hD hS hA [0] rfl
        refine wq_calli (va_runV (As := [.int (iI (2))]) (rest := []) ⟨hx, hb, hml, hown, hts⟩ (c_X5_fails l D cI cO cC cL H.size b (sU μ 0 (2) (0)) (2) ) (cwV 1 hts gX5_set_X5_fails rfl rfl rfl (by decide +kernel) ⟨Nat.le_of_ble_eq_true rfl, Nat.le_of_ble_eq_true rfl⟩) ⟨pcW_blind, va_recv hK hP (ci := 5) (q0 := 0) rfl rfl, pcW_of hP hK hD⟩ rfl rfl hl.1 rfl (lv_room (Nat.le_of_ble_eq_true rfl)) dX5_set_41 ⟨(Nat.zero_le _), (Nat.zero_le _)⟩) hS (fun q _ h => hFc q h) hFc (fun r11 u13 t9 H1 locs ht9 hvm hcl12 hB hz1 hk1 hS => ?_)
        obtain ⟨hP1, hK1, hD1⟩ := hB
        rw [ht9] at hP1
        obtain ⟨hP, hD⟩ := fl_join (SR := []) (S1 := [mdW cI b (sU (sU μ 0 (2) (0)) 0 2 (2))]) hP hD [0] [] rfl rfl (by decide) (by decide) hk1 hFc hP1 hD1
        generalize H1 = H at hP hS ⊢
        have hP : va_P D vwCl (fl [mdW cI b (sU (sU μ 0 (2) (0)) 0 2 (2))]) H := hP
        have hD : va_D A (fl [mdW cI b (sU (sU μ 0 (2) (0)) 0 2 (2))]) := hD
        exact W.iret (v := iI (r11)) hx hb hr (fun t9 ht9 hW9 => ⟨⟨(r11), (sU (sU μ 0 (2) (0)) 0 2 (2)), rfl, (OPQ.bad (k := 2) (by unfold cd2; first | (rw [if_pos (by omega)] <;> rfl) | (rw [if_neg (by omega), if_pos (by omega)] <;> rfl) | (rw [if_neg (by omega), if_neg (by omega)] <;> rfl)) (by decide) rfl hM), ⟨by rw [ht9]; exact hP, va_K.moved hW9.alike hK, hD⟩⟩, hS.F ht9⟩) hS.2.2 dX5_set_44 hlocks
  · skip
    refine lv_aload_n hx hb dX5_set_14 rfl (lv_at hl 0 rfl) ?_
    refine wi_iconst hx hb dX5_set_15 ?_
    have hFc := fl_free (SC := [mdW cI b (sU μ 0 (2) (0))]) hD hS hA [0] rfl
    refine wq_calli (va_runV (As := [.int (iI (1))]) (rest := []) ⟨hx, hb, hml, hown, hts⟩ (c_X5_fails l D cI cO cC cL H.size b (sU μ 0 (2) (0)) (1) ) (cwV 1 hts gX5_set_X5_fails rfl rfl rfl (by decide +kernel) ⟨Nat.le_of_ble_eq_true rfl, Nat.le_of_ble_eq_true rfl⟩) ⟨pcW_blind, va_recv hK hP (ci := 5) (q0 := 0) rfl rfl, pcW_of hP hK hD⟩ rfl rfl hl.1 rfl (lv_room (Nat.le_of_ble_eq_true rfl)) dX5_set_16 ⟨(Nat.zero_le _), (Nat.zero_le _)⟩) hS (fun q _ h => hFc q h) hFc (fun r14 u16 t9 H1 locs ht9 hvm hcl15 hB hz1 hk1 hS => ?_)
    obtain ⟨hP1, hK1, hD1⟩ := hB
    rw [ht9] at hP1
    obtain ⟨hP, hD⟩ := fl_join (SR := []) (S1 := [mdW cI b (sU (sU μ 0 (2) (0)) 0 2 (1))]) hP hD [0] [] rfl rfl (by decide) (by decide) hk1 hFc hP1 hD1
    generalize H1 = H at hP hS ⊢
    have hP : va_P D vwCl (fl [mdW cI b (sU (sU μ 0 (2) (0)) 0 2 (1))]) H := hP
    have hD : va_D A (fl [mdW cI b (sU (sU μ 0 (2) (0)) 0 2 (1))]) := hD
    exact W.iret (v := iI (r14)) hx hb hr (fun t9 ht9 hW9 => ⟨⟨(r14), (sU (sU μ 0 (2) (0)) 0 2 (1)), rfl, (OPQ.bad (k := 1) (by unfold cd2; first | (rw [if_pos (by omega)] <;> rfl) | (rw [if_neg (by omega), if_pos (by omega)] <;> rfl) | (rw [if_neg (by omega), if_neg (by omega)] <;> rfl)) (by decide) rfl hM), ⟨by rw [ht9]; exact hP, va_K.moved hW9.alike hK, hD⟩⟩, hS.F ht9⟩) hS.2.2 dX5_set_19 hlocks
set_option maxHeartbeats 4000000 in
set_option maxRecDepth 100000 in
theorem c_X5_promise (l : Launch) (D : va_G) (cI cO cC cL : ClassId) (sz : Nat) (b : Nat → Nat) (μ σ : Nat → Int → Int) (ss : Nat → Nat → Int → Int) (β : Int → Int) (o c y : Int) (ho : R32 o) (hc : R32 c) (hy : R32 y) (hM : RelM σ (μ 0 0) ss (μ 0 1) β μ) (hG : GI σ (μ 0 0) ss (μ 0 1) β) : Met l yX5_promise wsX5_promise ({ frames := 5, cells := 0, slots := 0, locals := 118 } : Room) (pcW D [(cI, FieldType.int)] [.ref (b 0), .int (iI (o)), .int (iI (c)), .int (iI (y))] (fl [mdW cI b μ]) sz) (wq_i (fun (r : Int) (μ' : Nat → Int → Int) => OPQ (cd3 ((0 ≤ o ∧ o ≤ 5) ∧ (0 ≤ c ∧ c ≤ 3)) (y ≠ 0 ∧ -99 ≤ y ∧ y ≤ 99) (reasonS σ o c y (-1) ≤ 0)) r (σ 0 1) (μ' 0 2) (RelM σ (μ 0 0) ss (μ 0 1) β μ') (RelM (addS σ o c y (-1)) (pushK (μ 0 0)) (pushS (μ 0 0) ss σ) (μ 0 1) β μ')) (fun (μ' : Nat → Int → Int) => (bW D [(cI, FieldType.int)] (fl [mdW cI b μ']) (va_A (fl [mdW cI b μ]) sz))) (va_A (fl [mdW cI b μ]) sz)) 0 0 (va_A (fl [mdW cI b μ]) sz) := by
  refine Met.ofW (cc := cX5_promise) (maxL := 4) (ret := (some .int)) (by decide) rfl ?_
  intro p9 e9 s m args9 below9 meth9 c9 s₁ B hml hv
  obtain ⟨rfl, hsz, hP, hK, hD0⟩ := hv
  have hx := B.exec
  have hb := B.bytes
  have hr := B.returns
  have hts := atoms_spec (ws := wsX5_promise) B.pre
  have hown : s.vm.findClass RX5 = some m.cls := findClass_of_methodNamed B.named
  have hlocks := B.notSynchronized
  subst hsz
  have hD := hD0.self (sz := s.heap.size)
  generalize hAe : va_A (fl [mdW cI b μ]) s.heap.size = A at hD ⊢
  have hA : ∀ q : Nat, s.heap.size ≤ q → A q := fun q h => by rw [← hAe]; exact Or.inr h
  have hS : va_S A s.heap s.heap [] := va_S.rf
  have hP : va_P D vwCl (fl [mdW cI b μ]) s.heap := hP
  have hl := lv_entry ([.ref (b 0), .int (iI (o)), .int (iI (c)), .int (iI (y))]) (n := 4) (Nat.le_of_ble_eq_true rfl)
  rw [lg_entry_eq]
  generalize (lg_sl ([.ref (b 0), .int (iI (o)), .int (iI (c)), .int (iI (y))]) ++ List.replicate (4 - (lg_sl ([.ref (b 0), .int (iI (o)), .int (iI (c)), .int (iI (y))])).length) Slot.unset).toArray = ls at hl ⊢
  have hl : lv_has ls 4 [(0, .ref (b 0)), (1, .int (iI (o))), (2, .int (iI (c))), (3, .int (iI (y)))] := hl
  have hw_0 := hts (.fieldLink RX5 25 "PromisedCountersModel" "thrown" "I") (by decide +kernel)
  have hin_X5 : ∀ w ∈ u_ws RX5 TX5 12, w ∈ wsX5_promise := by decide +kernel
  have hI := hG.1
  have hR := hM.1
  have hn := hI.n
  have hti := hI.t
  obtain ⟨hm0, hm1, hm2, hm3, hm4⟩ := hR.1
  have hrr := reason_r σ o c y (-1)
  refine lv_aload_n hx hb dX5_promise_0 rfl (lv_at hl 0 rfl) ?_
  refine wi_iconst hx hb dX5_promise_1 ?_
  refine va_put (D := D) (ci := 5) (v := .int (iI (0))) (ty := .int) (C := RX5) (T := TX5) (N := 12) hx hb hts hin_X5 tyX5 tyX5_ok nmX5 hown hK hP hD hS 0 rfl rfl 5 (by decide) hw_0 (fun _ h9 => h9) rfl (by decide +kernel) rfl rfl (Nat.le_of_ble_eq_true rfl) dX5_promise_2 (fun H locs hP hD hS => ?_)
  have hP : va_P D vwCl (fl [mdW cI b (sU μ 0 (2) (0))]) H := hP
  have hD : va_D A (fl [mdW cI b (sU μ 0 (2) (0))]) := hD
  refine lv_iload_n hx hb dX5_promise_5 rfl (lv_at hl 1 rfl) ?_
  refine wr_calli (va_runS (As := [.int (iI (o))]) (rest := []) ⟨hx, hb, hml, hown, hts⟩ (c_X5_isOwner l D cI cO cC cL (o) (by omega)) (cwS 1 hts gX5_promise_X5_isOwner rfl rfl rfl (by decide +kernel) ⟨Nat.le_of_ble_eq_true rfl, Nat.le_of_ble_eq_true rfl⟩) ⟨fun _ _ _ _ h => h, fun U hU hW => ⟨rfl, trivial⟩⟩ rfl rfl hl.1 rfl (lv_room (Nat.le_of_ble_eq_true rfl)) dX5_promise_6 ⟨(Nat.zero_le _), (Nat.zero_le _)⟩) (fun r1 hr1 => ?_)
  subst hr1
  refine wi_if_eq (tgt := 19) hx hb dX5_promise_9 (by decide) (by omega) (fun c_9 => ?_) (fun c_9 => ?_)
  · skip
    refine lv_aload_n hx hb dX5_promise_19 rfl (lv_at hl 0 rfl) ?_
    refine wi_iconst hx hb dX5_promise_20 ?_
    have hFc := fl_free (SC := [mdW cI b (sU μ 0 (2) (0))]) hD hS hA [0] rfl
    refine wq_calli (va_runV (As := [.int (iI (1))]) (rest := []) ⟨hx, hb, hml, hown, hts⟩ (c_X5_fails l D cI cO cC cL H.size b (sU μ 0 (2) (0)) (1) ) (cwV 1 hts gX5_promise_X5_fails rfl rfl rfl (by decide +kernel) ⟨Nat.le_of_ble_eq_true rfl, Nat.le_of_ble_eq_true rfl⟩) ⟨pcW_blind, va_recv hK hP (ci := 5) (q0 := 0) rfl rfl, pcW_of hP hK hD⟩ rfl rfl hl.1 rfl (lv_room (Nat.le_of_ble_eq_true rfl)) dX5_promise_21 ⟨(Nat.zero_le _), (Nat.zero_le _)⟩) hS (fun q _ h => hFc q h) hFc (fun r2 u4 t9 H1 locs ht9 hvm hcl3 hB hz1 hk1 hS => ?_)
    obtain ⟨hP1, hK1, hD1⟩ := hB
    rw [ht9] at hP1
    obtain ⟨hP, hD⟩ := fl_join (SR := []) (S1 := [mdW cI b (sU (sU μ 0 (2) (0)) 0 2 (1))]) hP hD [0] [] rfl rfl (by decide) (by decide) hk1 hFc hP1 hD1
    generalize H1 = H at hP hS ⊢
    have hP : va_P D vwCl (fl [mdW cI b (sU (sU μ 0 (2) (0)) 0 2 (1))]) H := hP
    have hD : va_D A (fl [mdW cI b (sU (sU μ 0 (2) (0)) 0 2 (1))]) := hD
    exact W.iret (v := iI (r2)) hx hb hr (fun t9 ht9 hW9 => ⟨⟨(r2), (sU (sU μ 0 (2) (0)) 0 2 (1)), rfl, (OPQ.bad (k := 1) (by unfold cd3; first | (rw [if_pos (by omega)] <;> rfl) | (rw [if_neg (by omega), if_pos (by omega)] <;> rfl) | (rw [if_neg (by omega), if_neg (by omega), if_pos (by omega)] <;> rfl) | (rw [if_neg (by omega), if_neg (by omega), if_neg (by omega)] <;> rfl)) (by decide) rfl hM), ⟨by rw [ht9]; exact hP, va_K.moved hW9.alike hK, hD⟩⟩, hS.F ht9⟩) hS.2.2 dX5_promise_24 hlocks
  · skip
    refine lv_iload_n hx hb dX5_promise_12 rfl (lv_at hl 2 rfl) ?_
    refine wr_calli (va_runS (As := [.int (iI (c))]) (rest := []) ⟨hx, hb, hml, hown, hts⟩ (c_X5_isCounter l D cI cO cC cL (c) (by omega)) (cwS 1 hts gX5_promise_X5_isCounter rfl rfl rfl (by decide +kernel) ⟨Nat.le_of_ble_eq_true rfl, Nat.le_of_ble_eq_true rfl⟩) ⟨fun _ _ _ _ h => h, fun U hU hW => ⟨rfl, trivial⟩⟩ rfl rfl hl.1 rfl (lv_room (Nat.le_of_ble_eq_true rfl)) dX5_promise_13 ⟨(Nat.zero_le _), (Nat.zero_le _)⟩) (fun r5 hr5 => ?_)
    subst hr5
    refine wi_if_ne (tgt := 25) hx hb dX5_promise_16 (by decide) (by omega) (fun c_16 => ?_) (fun c_16 => ?_)
    · skip
      refine lv_iload_n hx hb dX5_promise_25 rfl (lv_at hl 3 rfl) ?_
      refine wr_calli (va_runS (As := [.int (iI (y))]) (rest := []) ⟨hx, hb, hml, hown, hts⟩ (c_X5_isChange l D cI cO cC cL (y) (by omega)) (cwS 1 hts gX5_promise_X5_isChange rfl rfl rfl (by decide +kernel) ⟨Nat.le_of_ble_eq_true rfl, Nat.le_of_ble_eq_true rfl⟩) ⟨fun _ _ _ _ h => h, fun U hU hW => ⟨rfl, trivial⟩⟩ rfl rfl hl.1 rfl (lv_room (Nat.le_of_ble_eq_true rfl)) dX5_promise_26 ⟨(Nat.zero_le _), (Nat.zero_le _)⟩) (fun r6 hr6 => ?_)
      subst hr6
      refine wi_if_ne (tgt := 38) hx hb dX5_promise_29 (by decide) (by omega) (fun c_29 => ?_) (fun c_29 => ?_)
      · skip
        refine lv_aload_n hx hb dX5_promise_38 rfl (lv_at hl 0 rfl) ?_
        refine lv_iload_n hx hb dX5_promise_39 rfl (lv_at hl 1 rfl) ?_
        refine lv_iload_n hx hb dX5_promise_40 rfl (lv_at hl 2 rfl) ?_
        refine lv_iload_n hx hb dX5_promise_41 rfl (lv_at hl 3 rfl) ?_
        refine wi_iconst hx hb dX5_promise_42 ?_
        refine wr_calli (va_runV (As := [.int (iI (o)), .int (iI (c)), .int (iI (y)), .int (iI (-1))]) (rest := []) ⟨hx, hb, hml, hown, hts⟩ (c_X5_reason l D cI cO cC cL b (sU μ 0 (2) (0)) σ (o) (c) (y) (-1) (by omega) (by omega) (by omega) (by omega) (hR) (hI)) (cwV 4 hts gX5_promise_X5_reason rfl rfl rfl (by decide +kernel) ⟨Nat.le_of_ble_eq_true rfl, Nat.le_of_ble_eq_true rfl⟩) ⟨pcR_blind, va_recv hK hP (ci := 5) (q0 := 0) rfl rfl, pcR_of hP hK⟩ rfl rfl hl.1 rfl (lv_room (Nat.le_of_ble_eq_true rfl)) dX5_promise_43 ⟨(Nat.zero_le _), (Nat.zero_le _)⟩) (fun r7 hr7 => ?_)
        subst hr7
        refine wi_top (y := (reasonS σ (o) (c) (y) (-1))) rfl ?_
        refine wi_if_le (tgt := 55) hx hb dX5_promise_46 (by decide) (by omega) (fun c_46 => ?_) (fun c_46 => ?_)
        · skip
          have hN16 : 0 ≤ σ 0 1 ∧ σ 0 1 < 16 := ⟨hn.1, reason_16 (by omega)⟩
          refine lv_aload_n hx hb dX5_promise_55 rfl (lv_at hl 0 rfl) ?_
          have hFc := fl_free (SC := [mdW cI b (sU μ 0 (2) (0))]) hD hS hA [0] rfl
          refine va_callv (va_runV (As := []) (rest := []) ⟨hx, hb, hml, hown, hts⟩ (c_X5_saves l D cI cO cC cL H.size b (sU μ 0 (2) (0)) σ ss (hG.2.1) (by omega) (hR) (hM.2.2.1) (hG.2.2.1)) (cwV 0 hts gX5_promise_X5_saves rfl rfl rfl (by decide +kernel) ⟨Nat.le_of_ble_eq_true rfl, Nat.le_of_ble_eq_true rfl⟩) ⟨pcW_blind, va_recv hK hP (ci := 5) (q0 := 0) rfl rfl, pcW_of hP hK hD⟩ rfl rfl hl.1 rfl (lv_room (Nat.le_of_ble_eq_true rfl)) dX5_promise_56 ⟨(Nat.zero_le _), (Nat.zero_le _)⟩) hS (fun q _ h => hFc q h) hFc (fun  u9 t9 H1 locs ht9 hvm hcl8 hB hz1 hk1 hS => ?_)
          obtain ⟨hP1, hK1, hD1⟩ := hB
          rw [ht9] at hP1
          obtain ⟨hP, hD⟩ := fl_join (SR := []) (S1 := [mdW cI b (sU (sR (sU μ 0 (2) (0)) 2 u9) 0 0 (pushK ((sU μ 0 (2) (0)) 0 0)))]) hP hD [0] [] rfl rfl (by decide) (by decide) hk1 hFc hP1 hD1
          generalize H1 = H at hP hS ⊢
          have hP : va_P D vwCl (fl [mdW cI b (sU (sR (sU μ 0 (2) (0)) 2 u9) 0 0 (pushK ((sU μ 0 (2) (0)) 0 0)))]) H := hP
          have hD : va_D A (fl [mdW cI b (sU (sR (sU μ 0 (2) (0)) 2 u9) 0 0 (pushK ((sU μ 0 (2) (0)) 0 0)))]) := hD
          refine lv_aload_n hx hb dX5_promise_59 rfl (lv_at hl 0 rfl) ?_
          refine lv_iload_n hx hb dX5_promise_60 rfl (lv_at hl 1 rfl) ?_
          refine lv_iload_n hx hb dX5_promise_61 rfl (lv_at hl 2 rfl) ?_
          refine lv_iload_n hx hb dX5_promise_62 rfl (lv_at hl 3 rfl) ?_
          refine wi_iconst hx hb dX5_promise_63 ?_
          have hFc := fl_free (SC := [mdW cI b (sU (sR (sU μ 0 (2) (0)) 2 u9) 0 0 (pushK ((sU μ 0 (2) (0)) 0 0)))]) hD hS hA [0] rfl
          refine wq_calli (va_runV (As := [.int (iI (o)), .int (iI (c)), .int (iI (y)), .int (iI (-1))]) (rest := []) ⟨hx, hb, hml, hown, hts⟩ (c_X5_comes l D cI cO cC cL H.size b (sU (sR (sU μ 0 (2) (0)) 2 u9) 0 0 (pushK ((sU μ 0 (2) (0)) 0 0))) σ (o) (c) (y) (-1) (hN16) (hR)) (cwV 4 hts gX5_promise_X5_comes rfl rfl rfl (by decide +kernel) ⟨Nat.le_of_ble_eq_true rfl, Nat.le_of_ble_eq_true rfl⟩) ⟨pcW_blind, va_recv hK hP (ci := 5) (q0 := 0) rfl rfl, pcW_of hP hK hD⟩ rfl rfl hl.1 rfl (lv_room (Nat.le_of_ble_eq_true rfl)) dX5_promise_64 ⟨(Nat.zero_le _), (Nat.zero_le _)⟩) hS (fun q _ h => hFc q h) hFc (fun r10 u12 t9 H1 locs ht9 hvm hcl11 hB hz1 hk1 hS => ?_)
          obtain ⟨hP1, hK1, hD1⟩ := hB
          rw [ht9] at hP1
          obtain ⟨hP, hD⟩ := fl_join (SR := []) (S1 := [mdW cI b (sR (sU (sR (sU μ 0 (2) (0)) 2 u9) 0 0 (pushK ((sU μ 0 (2) (0)) 0 0))) 1 u12)]) hP hD [0] [] rfl rfl (by decide) (by decide) hk1 hFc hP1 hD1
          generalize H1 = H at hP hS ⊢
          have hP : va_P D vwCl (fl [mdW cI b (sR (sU (sR (sU μ 0 (2) (0)) 2 u9) 0 0 (pushK ((sU μ 0 (2) (0)) 0 0))) 1 u12)]) H := hP
          have hD : va_D A (fl [mdW cI b (sR (sU (sR (sU μ 0 (2) (0)) 2 u9) 0 0 (pushK ((sU μ 0 (2) (0)) 0 0))) 1 u12)]) := hD
          exact W.iret (v := iI (r10)) hx hb hr (fun t9 ht9 hW9 => ⟨⟨(r10), (sR (sU (sR (sU μ 0 (2) (0)) 2 u9) 0 0 (pushK ((sU μ 0 (2) (0)) 0 0))) 1 u12), rfl, (OPQ.good (by unfold cd3; first | (rw [if_pos (by omega)] <;> rfl) | (rw [if_neg (by omega), if_pos (by omega)] <;> rfl) | (rw [if_neg (by omega), if_neg (by omega), if_pos (by omega)] <;> rfl) | (rw [if_neg (by omega), if_neg (by omega), if_neg (by omega)] <;> rfl)) rfl (hcl11.1) (⟨hcl11.2, rfl, hcl8, rfl, hM.2.2.2.2⟩)), ⟨by rw [ht9]; exact hP, va_K.moved hW9.alike hK, hD⟩⟩, hS.F ht9⟩) hS.2.2 dX5_promise_67 hlocks
        · skip
          refine lv_aload_n hx hb dX5_promise_49 rfl (lv_at hl 0 rfl) ?_
          refine wi_iconst hx hb dX5_promise_50 ?_
          have hFc := fl_free (SC := [mdW cI b (sU μ 0 (2) (0))]) hD hS hA [0] rfl
          refine wq_calli (va_runV (As := [.int (iI (3))]) (rest := []) ⟨hx, hb, hml, hown, hts⟩ (c_X5_fails l D cI cO cC cL H.size b (sU μ 0 (2) (0)) (3) ) (cwV 1 hts gX5_promise_X5_fails rfl rfl rfl (by decide +kernel) ⟨Nat.le_of_ble_eq_true rfl, Nat.le_of_ble_eq_true rfl⟩) ⟨pcW_blind, va_recv hK hP (ci := 5) (q0 := 0) rfl rfl, pcW_of hP hK hD⟩ rfl rfl hl.1 rfl (lv_room (Nat.le_of_ble_eq_true rfl)) dX5_promise_51 ⟨(Nat.zero_le _), (Nat.zero_le _)⟩) hS (fun q _ h => hFc q h) hFc (fun r13 u15 t9 H1 locs ht9 hvm hcl14 hB hz1 hk1 hS => ?_)
          obtain ⟨hP1, hK1, hD1⟩ := hB
          rw [ht9] at hP1
          obtain ⟨hP, hD⟩ := fl_join (SR := []) (S1 := [mdW cI b (sU (sU μ 0 (2) (0)) 0 2 (3))]) hP hD [0] [] rfl rfl (by decide) (by decide) hk1 hFc hP1 hD1
          generalize H1 = H at hP hS ⊢
          have hP : va_P D vwCl (fl [mdW cI b (sU (sU μ 0 (2) (0)) 0 2 (3))]) H := hP
          have hD : va_D A (fl [mdW cI b (sU (sU μ 0 (2) (0)) 0 2 (3))]) := hD
          exact W.iret (v := iI (r13)) hx hb hr (fun t9 ht9 hW9 => ⟨⟨(r13), (sU (sU μ 0 (2) (0)) 0 2 (3)), rfl, (OPQ.bad (k := 3) (by unfold cd3; first | (rw [if_pos (by omega)] <;> rfl) | (rw [if_neg (by omega), if_pos (by omega)] <;> rfl) | (rw [if_neg (by omega), if_neg (by omega), if_pos (by omega)] <;> rfl) | (rw [if_neg (by omega), if_neg (by omega), if_neg (by omega)] <;> rfl)) (by decide) rfl hM), ⟨by rw [ht9]; exact hP, va_K.moved hW9.alike hK, hD⟩⟩, hS.F ht9⟩) hS.2.2 dX5_promise_54 hlocks
      · skip
        refine lv_aload_n hx hb dX5_promise_32 rfl (lv_at hl 0 rfl) ?_
        refine wi_iconst hx hb dX5_promise_33 ?_
        have hFc := fl_free (SC := [mdW cI b (sU μ 0 (2) (0))]) hD hS hA [0] rfl
        refine wq_calli (va_runV (As := [.int (iI (2))]) (rest := []) ⟨hx, hb, hml, hown, hts⟩ (c_X5_fails l D cI cO cC cL H.size b (sU μ 0 (2) (0)) (2) ) (cwV 1 hts gX5_promise_X5_fails rfl rfl rfl (by decide +kernel) ⟨Nat.le_of_ble_eq_true rfl, Nat.le_of_ble_eq_true rfl⟩) ⟨pcW_blind, va_recv hK hP (ci := 5) (q0 := 0) rfl rfl, pcW_of hP hK hD⟩ rfl rfl hl.1 rfl (lv_room (Nat.le_of_ble_eq_true rfl)) dX5_promise_34 ⟨(Nat.zero_le _), (Nat.zero_le _)⟩) hS (fun q _ h => hFc q h) hFc (fun r16 u18 t9 H1 locs ht9 hvm hcl17 hB hz1 hk1 hS => ?_)
        obtain ⟨hP1, hK1, hD1⟩ := hB
        rw [ht9] at hP1
        obtain ⟨hP, hD⟩ := fl_join (SR := []) (S1 := [mdW cI b (sU (sU μ 0 (2) (0)) 0 2 (2))]) hP hD [0] [] rfl rfl (by decide) (by decide) hk1 hFc hP1 hD1
        generalize H1 = H at hP hS ⊢
        have hP : va_P D vwCl (fl [mdW cI b (sU (sU μ 0 (2) (0)) 0 2 (2))]) H := hP
        have hD : va_D A (fl [mdW cI b (sU (sU μ 0 (2) (0)) 0 2 (2))]) := hD
        exact W.iret (v := iI (r16)) hx hb hr (fun t9 ht9 hW9 => ⟨⟨(r16), (sU (sU μ 0 (2) (0)) 0 2 (2)), rfl, (OPQ.bad (k := 2) (by unfold cd3; first | (rw [if_pos (by omega)] <;> rfl) | (rw [if_neg (by omega), if_pos (by omega)] <;> rfl) | (rw [if_neg (by omega), if_neg (by omega), if_pos (by omega)] <;> rfl) | (rw [if_neg (by omega), if_neg (by omega), if_neg (by omega)] <;> rfl)) (by decide) rfl hM), ⟨by rw [ht9]; exact hP, va_K.moved hW9.alike hK, hD⟩⟩, hS.F ht9⟩) hS.2.2 dX5_promise_37 hlocks
    · skip
      refine lv_aload_n hx hb dX5_promise_19 rfl (lv_at hl 0 rfl) ?_
      refine wi_iconst hx hb dX5_promise_20 ?_
      have hFc := fl_free (SC := [mdW cI b (sU μ 0 (2) (0))]) hD hS hA [0] rfl
      refine wq_calli (va_runV (As := [.int (iI (1))]) (rest := []) ⟨hx, hb, hml, hown, hts⟩ (c_X5_fails l D cI cO cC cL H.size b (sU μ 0 (2) (0)) (1) ) (cwV 1 hts gX5_promise_X5_fails rfl rfl rfl (by decide +kernel) ⟨Nat.le_of_ble_eq_true rfl, Nat.le_of_ble_eq_true rfl⟩) ⟨pcW_blind, va_recv hK hP (ci := 5) (q0 := 0) rfl rfl, pcW_of hP hK hD⟩ rfl rfl hl.1 rfl (lv_room (Nat.le_of_ble_eq_true rfl)) dX5_promise_21 ⟨(Nat.zero_le _), (Nat.zero_le _)⟩) hS (fun q _ h => hFc q h) hFc (fun r19 u21 t9 H1 locs ht9 hvm hcl20 hB hz1 hk1 hS => ?_)
      obtain ⟨hP1, hK1, hD1⟩ := hB
      rw [ht9] at hP1
      obtain ⟨hP, hD⟩ := fl_join (SR := []) (S1 := [mdW cI b (sU (sU μ 0 (2) (0)) 0 2 (1))]) hP hD [0] [] rfl rfl (by decide) (by decide) hk1 hFc hP1 hD1
      generalize H1 = H at hP hS ⊢
      have hP : va_P D vwCl (fl [mdW cI b (sU (sU μ 0 (2) (0)) 0 2 (1))]) H := hP
      have hD : va_D A (fl [mdW cI b (sU (sU μ 0 (2) (0)) 0 2 (1))]) := hD
      exact W.iret (v := iI (r19)) hx hb hr (fun t9 ht9 hW9 => ⟨⟨(r19), (sU (sU μ 0 (2) (0)) 0 2 (1)), rfl, (OPQ.bad (k := 1) (by unfold cd3; first | (rw [if_pos (by omega)] <;> rfl) | (rw [if_neg (by omega), if_pos (by omega)] <;> rfl) | (rw [if_neg (by omega), if_neg (by omega), if_pos (by omega)] <;> rfl) | (rw [if_neg (by omega), if_neg (by omega), if_neg (by omega)] <;> rfl)) (by decide) rfl hM), ⟨by rw [ht9]; exact hP, va_K.moved hW9.alike hK, hD⟩⟩, hS.F ht9⟩) hS.2.2 dX5_promise_24 hlocks
set_option maxHeartbeats 4000000 in
set_option maxRecDepth 100000 in
theorem c_X5_transfer (l : Launch) (D : va_G) (cI cO cC cL : ClassId) (sz : Nat) (b : Nat → Nat) (μ σ : Nat → Int → Int) (ss : Nat → Nat → Int → Int) (β : Int → Int) (o f t k : Int) (ho : R32 o) (hf : R32 f) (ht : R32 t) (hk : R32 k) (hM : RelM σ (μ 0 0) ss (μ 0 1) β μ) (hG : GI σ (μ 0 0) ss (μ 0 1) β) : Met l yX5_transfer wsX5_transfer ({ frames := 5, cells := 0, slots := 0, locals := 118 } : Room) (pcW D [(cI, FieldType.int)] [.ref (b 0), .int (iI (o)), .int (iI (f)), .int (iI (t)), .int (iI (k))] (fl [mdW cI b μ]) sz) (wq_i (fun (r : Int) (μ' : Nat → Int → Int) => OPQ (cd3 ((0 ≤ o ∧ o ≤ 5) ∧ (0 ≤ f ∧ f ≤ 3) ∧ (0 ≤ t ∧ t ≤ 3)) (f ≠ t ∧ 1 ≤ k ∧ k ≤ 99) (reasonS σ o f (-k) t ≤ 0)) r (σ 0 1) (μ' 0 2) (RelM σ (μ 0 0) ss (μ 0 1) β μ') (RelM (addS σ o f (-k) t) (pushK (μ 0 0)) (pushS (μ 0 0) ss σ) (μ 0 1) β μ')) (fun (μ' : Nat → Int → Int) => (bW D [(cI, FieldType.int)] (fl [mdW cI b μ']) (va_A (fl [mdW cI b μ]) sz))) (va_A (fl [mdW cI b μ]) sz)) 0 0 (va_A (fl [mdW cI b μ]) sz) := by
  refine Met.ofW (cc := cX5_transfer) (maxL := 5) (ret := (some .int)) (by decide) rfl ?_
  intro p9 e9 s m args9 below9 meth9 c9 s₁ B hml hv
  obtain ⟨rfl, hsz, hP, hK, hD0⟩ := hv
  have hx := B.exec
  have hb := B.bytes
  have hr := B.returns
  have hts := atoms_spec (ws := wsX5_transfer) B.pre
  have hown : s.vm.findClass RX5 = some m.cls := findClass_of_methodNamed B.named
  have hlocks := B.notSynchronized
  subst hsz
  have hD := hD0.self (sz := s.heap.size)
  generalize hAe : va_A (fl [mdW cI b μ]) s.heap.size = A at hD ⊢
  have hA : ∀ q : Nat, s.heap.size ≤ q → A q := fun q h => by rw [← hAe]; exact Or.inr h
  have hS : va_S A s.heap s.heap [] := va_S.rf
  have hP : va_P D vwCl (fl [mdW cI b μ]) s.heap := hP
  have hl := lv_entry ([.ref (b 0), .int (iI (o)), .int (iI (f)), .int (iI (t)), .int (iI (k))]) (n := 5) (Nat.le_of_ble_eq_true rfl)
  rw [lg_entry_eq]
  generalize (lg_sl ([.ref (b 0), .int (iI (o)), .int (iI (f)), .int (iI (t)), .int (iI (k))]) ++ List.replicate (5 - (lg_sl ([.ref (b 0), .int (iI (o)), .int (iI (f)), .int (iI (t)), .int (iI (k))])).length) Slot.unset).toArray = ls at hl ⊢
  have hl : lv_has ls 5 [(0, .ref (b 0)), (1, .int (iI (o))), (2, .int (iI (f))), (3, .int (iI (t))), (4, .int (iI (k)))] := hl
  have hw_0 := hts (.fieldLink RX5 25 "PromisedCountersModel" "thrown" "I") (by decide +kernel)
  have hin_X5 : ∀ w ∈ u_ws RX5 TX5 12, w ∈ wsX5_transfer := by decide +kernel
  have hI := hG.1
  have hR := hM.1
  have hn := hI.n
  have hti := hI.t
  obtain ⟨hm0, hm1, hm2, hm3, hm4⟩ := hR.1
  have hrr := reason_r σ o f (-k) t
  refine lv_aload_n hx hb dX5_transfer_0 rfl (lv_at hl 0 rfl) ?_
  refine wi_iconst hx hb dX5_transfer_1 ?_
  refine va_put (D := D) (ci := 5) (v := .int (iI (0))) (ty := .int) (C := RX5) (T := TX5) (N := 12) hx hb hts hin_X5 tyX5 tyX5_ok nmX5 hown hK hP hD hS 0 rfl rfl 5 (by decide) hw_0 (fun _ h9 => h9) rfl (by decide +kernel) rfl rfl (Nat.le_of_ble_eq_true rfl) dX5_transfer_2 (fun H locs hP hD hS => ?_)
  have hP : va_P D vwCl (fl [mdW cI b (sU μ 0 (2) (0))]) H := hP
  have hD : va_D A (fl [mdW cI b (sU μ 0 (2) (0))]) := hD
  refine lv_iload_n hx hb dX5_transfer_5 rfl (lv_at hl 1 rfl) ?_
  refine wr_calli (va_runS (As := [.int (iI (o))]) (rest := []) ⟨hx, hb, hml, hown, hts⟩ (c_X5_isOwner l D cI cO cC cL (o) (by omega)) (cwS 1 hts gX5_transfer_X5_isOwner rfl rfl rfl (by decide +kernel) ⟨Nat.le_of_ble_eq_true rfl, Nat.le_of_ble_eq_true rfl⟩) ⟨fun _ _ _ _ h => h, fun U hU hW => ⟨rfl, trivial⟩⟩ rfl rfl hl.1 rfl (lv_room (Nat.le_of_ble_eq_true rfl)) dX5_transfer_6 ⟨(Nat.zero_le _), (Nat.zero_le _)⟩) (fun r1 hr1 => ?_)
  subst hr1
  refine wi_if_eq (tgt := 26) hx hb dX5_transfer_9 (by decide) (by omega) (fun c_9 => ?_) (fun c_9 => ?_)
  · skip
    refine lv_aload_n hx hb dX5_transfer_26 rfl (lv_at hl 0 rfl) ?_
    refine wi_iconst hx hb dX5_transfer_27 ?_
    have hFc := fl_free (SC := [mdW cI b (sU μ 0 (2) (0))]) hD hS hA [0] rfl
    refine wq_calli (va_runV (As := [.int (iI (1))]) (rest := []) ⟨hx, hb, hml, hown, hts⟩ (c_X5_fails l D cI cO cC cL H.size b (sU μ 0 (2) (0)) (1) ) (cwV 1 hts gX5_transfer_X5_fails rfl rfl rfl (by decide +kernel) ⟨Nat.le_of_ble_eq_true rfl, Nat.le_of_ble_eq_true rfl⟩) ⟨pcW_blind, va_recv hK hP (ci := 5) (q0 := 0) rfl rfl, pcW_of hP hK hD⟩ rfl rfl hl.1 rfl (lv_room (Nat.le_of_ble_eq_true rfl)) dX5_transfer_28 ⟨(Nat.zero_le _), (Nat.zero_le _)⟩) hS (fun q _ h => hFc q h) hFc (fun r2 u4 t9 H1 locs ht9 hvm hcl3 hB hz1 hk1 hS => ?_)
    obtain ⟨hP1, hK1, hD1⟩ := hB
    rw [ht9] at hP1
    obtain ⟨hP, hD⟩ := fl_join (SR := []) (S1 := [mdW cI b (sU (sU μ 0 (2) (0)) 0 2 (1))]) hP hD [0] [] rfl rfl (by decide) (by decide) hk1 hFc hP1 hD1
    generalize H1 = H at hP hS ⊢
    have hP : va_P D vwCl (fl [mdW cI b (sU (sU μ 0 (2) (0)) 0 2 (1))]) H := hP
    have hD : va_D A (fl [mdW cI b (sU (sU μ 0 (2) (0)) 0 2 (1))]) := hD
    exact W.iret (v := iI (r2)) hx hb hr (fun t9 ht9 hW9 => ⟨⟨(r2), (sU (sU μ 0 (2) (0)) 0 2 (1)), rfl, (OPQ.bad (k := 1) (by unfold cd3; first | (rw [if_pos (by omega)] <;> rfl) | (rw [if_neg (by omega), if_pos (by omega)] <;> rfl) | (rw [if_neg (by omega), if_neg (by omega), if_pos (by omega)] <;> rfl) | (rw [if_neg (by omega), if_neg (by omega), if_neg (by omega)] <;> rfl)) (by decide) rfl hM), ⟨by rw [ht9]; exact hP, va_K.moved hW9.alike hK, hD⟩⟩, hS.F ht9⟩) hS.2.2 dX5_transfer_31 hlocks
  · skip
    refine lv_iload_n hx hb dX5_transfer_12 rfl (lv_at hl 2 rfl) ?_
    refine wr_calli (va_runS (As := [.int (iI (f))]) (rest := []) ⟨hx, hb, hml, hown, hts⟩ (c_X5_isCounter l D cI cO cC cL (f) (by omega)) (cwS 1 hts gX5_transfer_X5_isCounter rfl rfl rfl (by decide +kernel) ⟨Nat.le_of_ble_eq_true rfl, Nat.le_of_ble_eq_true rfl⟩) ⟨fun _ _ _ _ h => h, fun U hU hW => ⟨rfl, trivial⟩⟩ rfl rfl hl.1 rfl (lv_room (Nat.le_of_ble_eq_true rfl)) dX5_transfer_13 ⟨(Nat.zero_le _), (Nat.zero_le _)⟩) (fun r5 hr5 => ?_)
    subst hr5
    refine wi_if_eq (tgt := 26) hx hb dX5_transfer_16 (by decide) (by omega) (fun c_16 => ?_) (fun c_16 => ?_)
    · skip
      refine lv_aload_n hx hb dX5_transfer_26 rfl (lv_at hl 0 rfl) ?_
      refine wi_iconst hx hb dX5_transfer_27 ?_
      have hFc := fl_free (SC := [mdW cI b (sU μ 0 (2) (0))]) hD hS hA [0] rfl
      refine wq_calli (va_runV (As := [.int (iI (1))]) (rest := []) ⟨hx, hb, hml, hown, hts⟩ (c_X5_fails l D cI cO cC cL H.size b (sU μ 0 (2) (0)) (1) ) (cwV 1 hts gX5_transfer_X5_fails rfl rfl rfl (by decide +kernel) ⟨Nat.le_of_ble_eq_true rfl, Nat.le_of_ble_eq_true rfl⟩) ⟨pcW_blind, va_recv hK hP (ci := 5) (q0 := 0) rfl rfl, pcW_of hP hK hD⟩ rfl rfl hl.1 rfl (lv_room (Nat.le_of_ble_eq_true rfl)) dX5_transfer_28 ⟨(Nat.zero_le _), (Nat.zero_le _)⟩) hS (fun q _ h => hFc q h) hFc (fun r6 u8 t9 H1 locs ht9 hvm hcl7 hB hz1 hk1 hS => ?_)
      obtain ⟨hP1, hK1, hD1⟩ := hB
      rw [ht9] at hP1
      obtain ⟨hP, hD⟩ := fl_join (SR := []) (S1 := [mdW cI b (sU (sU μ 0 (2) (0)) 0 2 (1))]) hP hD [0] [] rfl rfl (by decide) (by decide) hk1 hFc hP1 hD1
      generalize H1 = H at hP hS ⊢
      have hP : va_P D vwCl (fl [mdW cI b (sU (sU μ 0 (2) (0)) 0 2 (1))]) H := hP
      have hD : va_D A (fl [mdW cI b (sU (sU μ 0 (2) (0)) 0 2 (1))]) := hD
      exact W.iret (v := iI (r6)) hx hb hr (fun t9 ht9 hW9 => ⟨⟨(r6), (sU (sU μ 0 (2) (0)) 0 2 (1)), rfl, (OPQ.bad (k := 1) (by unfold cd3; first | (rw [if_pos (by omega)] <;> rfl) | (rw [if_neg (by omega), if_pos (by omega)] <;> rfl) | (rw [if_neg (by omega), if_neg (by omega), if_pos (by omega)] <;> rfl) | (rw [if_neg (by omega), if_neg (by omega), if_neg (by omega)] <;> rfl)) (by decide) rfl hM), ⟨by rw [ht9]; exact hP, va_K.moved hW9.alike hK, hD⟩⟩, hS.F ht9⟩) hS.2.2 dX5_transfer_31 hlocks
    · skip
      refine lv_iload_n hx hb dX5_transfer_19 rfl (lv_at hl 3 rfl) ?_
      refine wr_calli (va_runS (As := [.int (iI (t))]) (rest := []) ⟨hx, hb, hml, hown, hts⟩ (c_X5_isCounter l D cI cO cC cL (t) (by omega)) (cwS 1 hts gX5_transfer_X5_isCounter rfl rfl rfl (by decide +kernel) ⟨Nat.le_of_ble_eq_true rfl, Nat.le_of_ble_eq_true rfl⟩) ⟨fun _ _ _ _ h => h, fun U hU hW => ⟨rfl, trivial⟩⟩ rfl rfl hl.1 rfl (lv_room (Nat.le_of_ble_eq_true rfl)) dX5_transfer_20 ⟨(Nat.zero_le _), (Nat.zero_le _)⟩) (fun r9 hr9 => ?_)
      subst hr9
      refine wi_if_ne (tgt := 32) hx hb dX5_transfer_23 (by decide) (by omega) (fun c_23 => ?_) (fun c_23 => ?_)
      · skip
        refine lv_iload_n hx hb dX5_transfer_32 rfl (lv_at hl 2 rfl) ?_
        refine lv_iload_n hx hb dX5_transfer_33 rfl (lv_at hl 3 rfl) ?_
        refine wi_icmp_eq (tgt := 48) hx hb dX5_transfer_34 (by decide) (by omega) (fun c_34 => ?_) (fun c_34 => ?_)
        · skip
          refine lv_aload_n hx hb dX5_transfer_48 rfl (lv_at hl 0 rfl) ?_
          refine wi_iconst hx hb dX5_transfer_49 ?_
          have hFc := fl_free (SC := [mdW cI b (sU μ 0 (2) (0))]) hD hS hA [0] rfl
          refine wq_calli (va_runV (As := [.int (iI (2))]) (rest := []) ⟨hx, hb, hml, hown, hts⟩ (c_X5_fails l D cI cO cC cL H.size b (sU μ 0 (2) (0)) (2) ) (cwV 1 hts gX5_transfer_X5_fails rfl rfl rfl (by decide +kernel) ⟨Nat.le_of_ble_eq_true rfl, Nat.le_of_ble_eq_true rfl⟩) ⟨pcW_blind, va_recv hK hP (ci := 5) (q0 := 0) rfl rfl, pcW_of hP hK hD⟩ rfl rfl hl.1 rfl (lv_room (Nat.le_of_ble_eq_true rfl)) dX5_transfer_50 ⟨(Nat.zero_le _), (Nat.zero_le _)⟩) hS (fun q _ h => hFc q h) hFc (fun r10 u12 t9 H1 locs ht9 hvm hcl11 hB hz1 hk1 hS => ?_)
          obtain ⟨hP1, hK1, hD1⟩ := hB
          rw [ht9] at hP1
          obtain ⟨hP, hD⟩ := fl_join (SR := []) (S1 := [mdW cI b (sU (sU μ 0 (2) (0)) 0 2 (2))]) hP hD [0] [] rfl rfl (by decide) (by decide) hk1 hFc hP1 hD1
          generalize H1 = H at hP hS ⊢
          have hP : va_P D vwCl (fl [mdW cI b (sU (sU μ 0 (2) (0)) 0 2 (2))]) H := hP
          have hD : va_D A (fl [mdW cI b (sU (sU μ 0 (2) (0)) 0 2 (2))]) := hD
          exact W.iret (v := iI (r10)) hx hb hr (fun t9 ht9 hW9 => ⟨⟨(r10), (sU (sU μ 0 (2) (0)) 0 2 (2)), rfl, (OPQ.bad (k := 2) (by unfold cd3; first | (rw [if_pos (by omega)] <;> rfl) | (rw [if_neg (by omega), if_pos (by omega)] <;> rfl) | (rw [if_neg (by omega), if_neg (by omega), if_pos (by omega)] <;> rfl) | (rw [if_neg (by omega), if_neg (by omega), if_neg (by omega)] <;> rfl)) (by decide) rfl hM), ⟨by rw [ht9]; exact hP, va_K.moved hW9.alike hK, hD⟩⟩, hS.F ht9⟩) hS.2.2 dX5_transfer_53 hlocks
        · skip
          refine lv_iload hx hb dX5_transfer_37 (lv_at hl 4 rfl) ?_
          refine wi_iconst hx hb dX5_transfer_39 ?_
          refine wi_bipush hx hb dX5_transfer_40 (by decide) ?_
          refine wr_calli (va_runS (As := [.int (iI (k)), .int (iI (1)), .int (iI (99))]) (rest := []) ⟨hx, hb, hml, hown, hts⟩ (c_X5_in l D cI cO cC cL (k) (1) (99) (by omega) (by omega) (by omega)) (cwS 3 hts gX5_transfer_X5_in rfl rfl rfl (by decide +kernel) ⟨Nat.le_of_ble_eq_true rfl, Nat.le_of_ble_eq_true rfl⟩) ⟨fun _ _ _ _ h => h, fun U hU hW => ⟨rfl, trivial⟩⟩ rfl rfl hl.1 rfl (lv_room (Nat.le_of_ble_eq_true rfl)) dX5_transfer_42 ⟨(Nat.zero_le _), (Nat.zero_le _)⟩) (fun r13 hr13 => ?_)
          subst hr13
          refine wi_if_ne (tgt := 54) hx hb dX5_transfer_45 (by decide) (by omega) (fun c_45 => ?_) (fun c_45 => ?_)
          · skip
            refine lv_aload_n hx hb dX5_transfer_54 rfl (lv_at hl 0 rfl) ?_
            refine lv_iload_n hx hb dX5_transfer_55 rfl (lv_at hl 1 rfl) ?_
            refine lv_iload_n hx hb dX5_transfer_56 rfl (lv_at hl 2 rfl) ?_
            refine lv_iload hx hb dX5_transfer_57 (lv_at hl 4 rfl) ?_
            refine wi_ineg hx hb dX5_transfer_59 ?_
            refine lv_iload_n hx hb dX5_transfer_60 rfl (lv_at hl 3 rfl) ?_
            refine wr_calli (va_runV (As := [.int (iI (o)), .int (iI (f)), .int (iI ((-k))), .int (iI (t))]) (rest := []) ⟨hx, hb, hml, hown, hts⟩ (c_X5_reason l D cI cO cC cL b (sU μ 0 (2) (0)) σ (o) (f) ((-k)) (t) (by omega) (by omega) (by omega) (by omega) (hR) (hI)) (cwV 4 hts gX5_transfer_X5_reason rfl rfl rfl (by decide +kernel) ⟨Nat.le_of_ble_eq_true rfl, Nat.le_of_ble_eq_true rfl⟩) ⟨pcR_blind, va_recv hK hP (ci := 5) (q0 := 0) rfl rfl, pcR_of hP hK⟩ rfl rfl hl.1 rfl (lv_room (Nat.le_of_ble_eq_true rfl)) dX5_transfer_61 ⟨(Nat.zero_le _), (Nat.zero_le _)⟩) (fun r14 hr14 => ?_)
            subst hr14
            refine wi_top (y := (reasonS σ (o) (f) ((-k)) (t))) rfl ?_
            refine wi_if_le (tgt := 73) hx hb dX5_transfer_64 (by decide) (by omega) (fun c_64 => ?_) (fun c_64 => ?_)
            · skip
              have hN16 : 0 ≤ σ 0 1 ∧ σ 0 1 < 16 := ⟨hn.1, reason_16 (by omega)⟩
              refine lv_aload_n hx hb dX5_transfer_73 rfl (lv_at hl 0 rfl) ?_
              have hFc := fl_free (SC := [mdW cI b (sU μ 0 (2) (0))]) hD hS hA [0] rfl
              refine va_callv (va_runV (As := []) (rest := []) ⟨hx, hb, hml, hown, hts⟩ (c_X5_saves l D cI cO cC cL H.size b (sU μ 0 (2) (0)) σ ss (hG.2.1) (by omega) (hR) (hM.2.2.1) (hG.2.2.1)) (cwV 0 hts gX5_transfer_X5_saves rfl rfl rfl (by decide +kernel) ⟨Nat.le_of_ble_eq_true rfl, Nat.le_of_ble_eq_true rfl⟩) ⟨pcW_blind, va_recv hK hP (ci := 5) (q0 := 0) rfl rfl, pcW_of hP hK hD⟩ rfl rfl hl.1 rfl (lv_room (Nat.le_of_ble_eq_true rfl)) dX5_transfer_74 ⟨(Nat.zero_le _), (Nat.zero_le _)⟩) hS (fun q _ h => hFc q h) hFc (fun  u16 t9 H1 locs ht9 hvm hcl15 hB hz1 hk1 hS => ?_)
              obtain ⟨hP1, hK1, hD1⟩ := hB
              rw [ht9] at hP1
              obtain ⟨hP, hD⟩ := fl_join (SR := []) (S1 := [mdW cI b (sU (sR (sU μ 0 (2) (0)) 2 u16) 0 0 (pushK ((sU μ 0 (2) (0)) 0 0)))]) hP hD [0] [] rfl rfl (by decide) (by decide) hk1 hFc hP1 hD1
              generalize H1 = H at hP hS ⊢
              have hP : va_P D vwCl (fl [mdW cI b (sU (sR (sU μ 0 (2) (0)) 2 u16) 0 0 (pushK ((sU μ 0 (2) (0)) 0 0)))]) H := hP
              have hD : va_D A (fl [mdW cI b (sU (sR (sU μ 0 (2) (0)) 2 u16) 0 0 (pushK ((sU μ 0 (2) (0)) 0 0)))]) := hD
              refine lv_aload_n hx hb dX5_transfer_77 rfl (lv_at hl 0 rfl) ?_
              refine lv_iload_n hx hb dX5_transfer_78 rfl (lv_at hl 1 rfl) ?_
              refine lv_iload_n hx hb dX5_transfer_79 rfl (lv_at hl 2 rfl) ?_
              refine lv_iload hx hb dX5_transfer_80 (lv_at hl 4 rfl) ?_
              refine wi_ineg hx hb dX5_transfer_82 ?_
              refine lv_iload_n hx hb dX5_transfer_83 rfl (lv_at hl 3 rfl) ?_
              have hFc := fl_free (SC := [mdW cI b (sU (sR (sU μ 0 (2) (0)) 2 u16) 0 0 (pushK ((sU μ 0 (2) (0)) 0 0)))]) hD hS hA [0] rfl
              refine wq_calli (va_runV (As := [.int (iI (o)), .int (iI (f)), .int (iI ((-k))), .int (iI (t))]) (rest := []) ⟨hx, hb, hml, hown, hts⟩ (c_X5_comes l D cI cO cC cL H.size b (sU (sR (sU μ 0 (2) (0)) 2 u16) 0 0 (pushK ((sU μ 0 (2) (0)) 0 0))) σ (o) (f) ((-k)) (t) (hN16) (hR)) (cwV 4 hts gX5_transfer_X5_comes rfl rfl rfl (by decide +kernel) ⟨Nat.le_of_ble_eq_true rfl, Nat.le_of_ble_eq_true rfl⟩) ⟨pcW_blind, va_recv hK hP (ci := 5) (q0 := 0) rfl rfl, pcW_of hP hK hD⟩ rfl rfl hl.1 rfl (lv_room (Nat.le_of_ble_eq_true rfl)) dX5_transfer_84 ⟨(Nat.zero_le _), (Nat.zero_le _)⟩) hS (fun q _ h => hFc q h) hFc (fun r17 u19 t9 H1 locs ht9 hvm hcl18 hB hz1 hk1 hS => ?_)
              obtain ⟨hP1, hK1, hD1⟩ := hB
              rw [ht9] at hP1
              obtain ⟨hP, hD⟩ := fl_join (SR := []) (S1 := [mdW cI b (sR (sU (sR (sU μ 0 (2) (0)) 2 u16) 0 0 (pushK ((sU μ 0 (2) (0)) 0 0))) 1 u19)]) hP hD [0] [] rfl rfl (by decide) (by decide) hk1 hFc hP1 hD1
              generalize H1 = H at hP hS ⊢
              have hP : va_P D vwCl (fl [mdW cI b (sR (sU (sR (sU μ 0 (2) (0)) 2 u16) 0 0 (pushK ((sU μ 0 (2) (0)) 0 0))) 1 u19)]) H := hP
              have hD : va_D A (fl [mdW cI b (sR (sU (sR (sU μ 0 (2) (0)) 2 u16) 0 0 (pushK ((sU μ 0 (2) (0)) 0 0))) 1 u19)]) := hD
              exact W.iret (v := iI (r17)) hx hb hr (fun t9 ht9 hW9 => ⟨⟨(r17), (sR (sU (sR (sU μ 0 (2) (0)) 2 u16) 0 0 (pushK ((sU μ 0 (2) (0)) 0 0))) 1 u19), rfl, (OPQ.good (by unfold cd3; first | (rw [if_pos (by omega)] <;> rfl) | (rw [if_neg (by omega), if_pos (by omega)] <;> rfl) | (rw [if_neg (by omega), if_neg (by omega), if_pos (by omega)] <;> rfl) | (rw [if_neg (by omega), if_neg (by omega), if_neg (by omega)] <;> rfl)) rfl (hcl18.1) (⟨hcl18.2, rfl, hcl15, rfl, hM.2.2.2.2⟩)), ⟨by rw [ht9]; exact hP, va_K.moved hW9.alike hK, hD⟩⟩, hS.F ht9⟩) hS.2.2 dX5_transfer_87 hlocks
            · skip
              refine lv_aload_n hx hb dX5_transfer_67 rfl (lv_at hl 0 rfl) ?_
              refine wi_iconst hx hb dX5_transfer_68 ?_
              have hFc := fl_free (SC := [mdW cI b (sU μ 0 (2) (0))]) hD hS hA [0] rfl
              refine wq_calli (va_runV (As := [.int (iI (3))]) (rest := []) ⟨hx, hb, hml, hown, hts⟩ (c_X5_fails l D cI cO cC cL H.size b (sU μ 0 (2) (0)) (3) ) (cwV 1 hts gX5_transfer_X5_fails rfl rfl rfl (by decide +kernel) ⟨Nat.le_of_ble_eq_true rfl, Nat.le_of_ble_eq_true rfl⟩) ⟨pcW_blind, va_recv hK hP (ci := 5) (q0 := 0) rfl rfl, pcW_of hP hK hD⟩ rfl rfl hl.1 rfl (lv_room (Nat.le_of_ble_eq_true rfl)) dX5_transfer_69 ⟨(Nat.zero_le _), (Nat.zero_le _)⟩) hS (fun q _ h => hFc q h) hFc (fun r20 u22 t9 H1 locs ht9 hvm hcl21 hB hz1 hk1 hS => ?_)
              obtain ⟨hP1, hK1, hD1⟩ := hB
              rw [ht9] at hP1
              obtain ⟨hP, hD⟩ := fl_join (SR := []) (S1 := [mdW cI b (sU (sU μ 0 (2) (0)) 0 2 (3))]) hP hD [0] [] rfl rfl (by decide) (by decide) hk1 hFc hP1 hD1
              generalize H1 = H at hP hS ⊢
              have hP : va_P D vwCl (fl [mdW cI b (sU (sU μ 0 (2) (0)) 0 2 (3))]) H := hP
              have hD : va_D A (fl [mdW cI b (sU (sU μ 0 (2) (0)) 0 2 (3))]) := hD
              exact W.iret (v := iI (r20)) hx hb hr (fun t9 ht9 hW9 => ⟨⟨(r20), (sU (sU μ 0 (2) (0)) 0 2 (3)), rfl, (OPQ.bad (k := 3) (by unfold cd3; first | (rw [if_pos (by omega)] <;> rfl) | (rw [if_neg (by omega), if_pos (by omega)] <;> rfl) | (rw [if_neg (by omega), if_neg (by omega), if_pos (by omega)] <;> rfl) | (rw [if_neg (by omega), if_neg (by omega), if_neg (by omega)] <;> rfl)) (by decide) rfl hM), ⟨by rw [ht9]; exact hP, va_K.moved hW9.alike hK, hD⟩⟩, hS.F ht9⟩) hS.2.2 dX5_transfer_72 hlocks
          · skip
            refine lv_aload_n hx hb dX5_transfer_48 rfl (lv_at hl 0 rfl) ?_
            refine wi_iconst hx hb dX5_transfer_49 ?_
            have hFc := fl_free (SC := [mdW cI b (sU μ 0 (2) (0))]) hD hS hA [0] rfl
            refine wq_calli (va_runV (As := [.int (iI (2))]) (rest := []) ⟨hx, hb, hml, hown, hts⟩ (c_X5_fails l D cI cO cC cL H.size b (sU μ 0 (2) (0)) (2) ) (cwV 1 hts gX5_transfer_X5_fails rfl rfl rfl (by decide +kernel) ⟨Nat.le_of_ble_eq_true rfl, Nat.le_of_ble_eq_true rfl⟩) ⟨pcW_blind, va_recv hK hP (ci := 5) (q0 := 0) rfl rfl, pcW_of hP hK hD⟩ rfl rfl hl.1 rfl (lv_room (Nat.le_of_ble_eq_true rfl)) dX5_transfer_50 ⟨(Nat.zero_le _), (Nat.zero_le _)⟩) hS (fun q _ h => hFc q h) hFc (fun r23 u25 t9 H1 locs ht9 hvm hcl24 hB hz1 hk1 hS => ?_)
            obtain ⟨hP1, hK1, hD1⟩ := hB
            rw [ht9] at hP1
            obtain ⟨hP, hD⟩ := fl_join (SR := []) (S1 := [mdW cI b (sU (sU μ 0 (2) (0)) 0 2 (2))]) hP hD [0] [] rfl rfl (by decide) (by decide) hk1 hFc hP1 hD1
            generalize H1 = H at hP hS ⊢
            have hP : va_P D vwCl (fl [mdW cI b (sU (sU μ 0 (2) (0)) 0 2 (2))]) H := hP
            have hD : va_D A (fl [mdW cI b (sU (sU μ 0 (2) (0)) 0 2 (2))]) := hD
            exact W.iret (v := iI (r23)) hx hb hr (fun t9 ht9 hW9 => ⟨⟨(r23), (sU (sU μ 0 (2) (0)) 0 2 (2)), rfl, (OPQ.bad (k := 2) (by unfold cd3; first | (rw [if_pos (by omega)] <;> rfl) | (rw [if_neg (by omega), if_pos (by omega)] <;> rfl) | (rw [if_neg (by omega), if_neg (by omega), if_pos (by omega)] <;> rfl) | (rw [if_neg (by omega), if_neg (by omega), if_neg (by omega)] <;> rfl)) (by decide) rfl hM), ⟨by rw [ht9]; exact hP, va_K.moved hW9.alike hK, hD⟩⟩, hS.F ht9⟩) hS.2.2 dX5_transfer_53 hlocks
      · skip
        refine lv_aload_n hx hb dX5_transfer_26 rfl (lv_at hl 0 rfl) ?_
        refine wi_iconst hx hb dX5_transfer_27 ?_
        have hFc := fl_free (SC := [mdW cI b (sU μ 0 (2) (0))]) hD hS hA [0] rfl
        refine wq_calli (va_runV (As := [.int (iI (1))]) (rest := []) ⟨hx, hb, hml, hown, hts⟩ (c_X5_fails l D cI cO cC cL H.size b (sU μ 0 (2) (0)) (1) ) (cwV 1 hts gX5_transfer_X5_fails rfl rfl rfl (by decide +kernel) ⟨Nat.le_of_ble_eq_true rfl, Nat.le_of_ble_eq_true rfl⟩) ⟨pcW_blind, va_recv hK hP (ci := 5) (q0 := 0) rfl rfl, pcW_of hP hK hD⟩ rfl rfl hl.1 rfl (lv_room (Nat.le_of_ble_eq_true rfl)) dX5_transfer_28 ⟨(Nat.zero_le _), (Nat.zero_le _)⟩) hS (fun q _ h => hFc q h) hFc (fun r26 u28 t9 H1 locs ht9 hvm hcl27 hB hz1 hk1 hS => ?_)
        obtain ⟨hP1, hK1, hD1⟩ := hB
        rw [ht9] at hP1
        obtain ⟨hP, hD⟩ := fl_join (SR := []) (S1 := [mdW cI b (sU (sU μ 0 (2) (0)) 0 2 (1))]) hP hD [0] [] rfl rfl (by decide) (by decide) hk1 hFc hP1 hD1
        generalize H1 = H at hP hS ⊢
        have hP : va_P D vwCl (fl [mdW cI b (sU (sU μ 0 (2) (0)) 0 2 (1))]) H := hP
        have hD : va_D A (fl [mdW cI b (sU (sU μ 0 (2) (0)) 0 2 (1))]) := hD
        exact W.iret (v := iI (r26)) hx hb hr (fun t9 ht9 hW9 => ⟨⟨(r26), (sU (sU μ 0 (2) (0)) 0 2 (1)), rfl, (OPQ.bad (k := 1) (by unfold cd3; first | (rw [if_pos (by omega)] <;> rfl) | (rw [if_neg (by omega), if_pos (by omega)] <;> rfl) | (rw [if_neg (by omega), if_neg (by omega), if_pos (by omega)] <;> rfl) | (rw [if_neg (by omega), if_neg (by omega), if_neg (by omega)] <;> rfl)) (by decide) rfl hM), ⟨by rw [ht9]; exact hP, va_K.moved hW9.alike hK, hD⟩⟩, hS.F ht9⟩) hS.2.2 dX5_transfer_31 hlocks
set_option maxHeartbeats 4000000 in
set_option maxRecDepth 100000 in
theorem c_X5_settle (l : Launch) (D : va_G) (cI cO cC cL : ClassId) (sz : Nat) (b : Nat → Nat) (μ σ : Nat → Int → Int) (ss : Nat → Nat → Int → Int) (β : Int → Int) (p : Int) (hp : R32 p) (hM : RelM σ (μ 0 0) ss (μ 0 1) β μ) (hG : GI σ (μ 0 0) ss (μ 0 1) β) : Met l yX5_settle wsX5_settle ({ frames := 3, cells := 0, slots := 0, locals := 66 } : Room) (pcW D [(cI, FieldType.int)] [.ref (b 0), .int (iI (p))] (fl [mdW cI b μ]) sz) (wq_i (fun (r : Int) (μ' : Nat → Int → Int) => OPQ (cd1 (0 ≤ p ∧ p < σ 0 1)) r (setS σ p 2 (σ 6 p)) (μ' 0 2) (RelM σ (μ 0 0) ss (μ 0 1) β μ') (RelM (setS σ p) (pushK (μ 0 0)) (pushS (μ 0 0) ss σ) (μ 0 1) β μ')) (fun (μ' : Nat → Int → Int) => (bW D [(cI, FieldType.int)] (fl [mdW cI b μ']) (va_A (fl [mdW cI b μ]) sz))) (va_A (fl [mdW cI b μ]) sz)) 0 0 (va_A (fl [mdW cI b μ]) sz) := by
  refine Met.ofW (cc := cX5_settle) (maxL := 3) (ret := (some .int)) (by decide) rfl ?_
  intro p9 e9 s m args9 below9 meth9 c9 s₁ B hml hv
  obtain ⟨rfl, hsz, hP, hK, hD0⟩ := hv
  have hx := B.exec
  have hb := B.bytes
  have hr := B.returns
  have hts := atoms_spec (ws := wsX5_settle) B.pre
  have hown : s.vm.findClass RX5 = some m.cls := findClass_of_methodNamed B.named
  have hlocks := B.notSynchronized
  subst hsz
  have hD := hD0.self (sz := s.heap.size)
  generalize hAe : va_A (fl [mdW cI b μ]) s.heap.size = A at hD ⊢
  have hA : ∀ q : Nat, s.heap.size ≤ q → A q := fun q h => by rw [← hAe]; exact Or.inr h
  have hS : va_S A s.heap s.heap [] := va_S.rf
  have hP : va_P D vwCl (fl [mdW cI b μ]) s.heap := hP
  have hl := lv_entry ([.ref (b 0), .int (iI (p))]) (n := 3) (Nat.le_of_ble_eq_true rfl)
  rw [lg_entry_eq]
  generalize (lg_sl ([.ref (b 0), .int (iI (p))]) ++ List.replicate (3 - (lg_sl ([.ref (b 0), .int (iI (p))])).length) Slot.unset).toArray = ls at hl ⊢
  have hl : lv_has ls 3 [(0, .ref (b 0)), (1, .int (iI (p)))] := hl
  have hw_0 := hts (.fieldLink RX5 25 "PromisedCountersModel" "thrown" "I") (by decide +kernel)
  have hin_X5 : ∀ w ∈ u_ws RX5 TX5 12, w ∈ wsX5_settle := by decide +kernel
  have hw_1 := hts (.fieldLink RX5 7 "PromisedCountersModel" "now" "[I") (by decide +kernel)
  have hI := hG.1
  have hR := hM.1
  have hn := hI.n
  have hti := hI.t
  obtain ⟨hm0, hm1, hm2, hm3, hm4⟩ := hR.1
  refine lv_aload_n hx hb dX5_settle_0 rfl (lv_at hl 0 rfl) ?_
  refine wi_iconst hx hb dX5_settle_1 ?_
  refine va_put (D := D) (ci := 5) (v := .int (iI (0))) (ty := .int) (C := RX5) (T := TX5) (N := 12) hx hb hts hin_X5 tyX5 tyX5_ok nmX5 hown hK hP hD hS 0 rfl rfl 5 (by decide) hw_0 (fun _ h9 => h9) rfl (by decide +kernel) rfl rfl (Nat.le_of_ble_eq_true rfl) dX5_settle_2 (fun H locs hP hD hS => ?_)
  have hP : va_P D vwCl (fl [mdW cI b (sU μ 0 (2) (0))]) H := hP
  have hD : va_D A (fl [mdW cI b (sU μ 0 (2) (0))]) := hD
  refine lv_aload_n hx hb dX5_settle_5 rfl (lv_at hl 0 rfl) ?_
  refine lv_iload_n hx hb dX5_settle_6 rfl (lv_at hl 1 rfl) ?_
  refine wr_calli (va_runV (As := [.int (iI (p))]) (rest := []) ⟨hx, hb, hml, hown, hts⟩ (c_X5_isPromise l D cI cO cC cL b (sU μ 0 (2) (0)) σ (p) (by omega) (hR) (hI)) (cwV 1 hts gX5_settle_X5_isPromise rfl rfl rfl (by decide +kernel) ⟨Nat.le_of_ble_eq_true rfl, Nat.le_of_ble_eq_true rfl⟩) ⟨pcR_blind, va_recv hK hP (ci := 5) (q0 := 0) rfl rfl, pcR_of hP hK⟩ rfl rfl hl.1 rfl (lv_room (Nat.le_of_ble_eq_true rfl)) dX5_settle_7 ⟨(Nat.zero_le _), (Nat.zero_le _)⟩) (fun r1 hr1 => ?_)
  subst hr1
  refine wi_top (y := (if 0 ≤ (p) ∧ (p) < σ 0 1 then (1 : Int) else 0)) rfl ?_
  refine wi_if_ne (tgt := 19) hx hb dX5_settle_10 (by decide) (by omega) (fun c_10 => ?_) (fun c_10 => ?_)
  · skip
    have hpr := (hI.pr (p := p) (by omega) (by omega)).p0
    obtain ⟨hp1, hp2, hp3, hp4⟩ := id hpr
    obtain ⟨hq0, hq1, hq2, hq3, hq4⟩ := hR.2.2.2 p (by omega) (by omega)
    refine lv_aload_n hx hb dX5_settle_19 rfl (lv_at hl 0 rfl) ?_
    have hFc := fl_free (SC := [mdW cI b (sU μ 0 (2) (0))]) hD hS hA [0] rfl
    refine va_callv (va_runV (As := []) (rest := []) ⟨hx, hb, hml, hown, hts⟩ (c_X5_saves l D cI cO cC cL H.size b (sU μ 0 (2) (0)) σ ss (hG.2.1) (by omega) (hR) (hM.2.2.1) (hG.2.2.1)) (cwV 0 hts gX5_settle_X5_saves rfl rfl rfl (by decide +kernel) ⟨Nat.le_of_ble_eq_true rfl, Nat.le_of_ble_eq_true rfl⟩) ⟨pcW_blind, va_recv hK hP (ci := 5) (q0 := 0) rfl rfl, pcW_of hP hK hD⟩ rfl rfl hl.1 rfl (lv_room (Nat.le_of_ble_eq_true rfl)) dX5_settle_20 ⟨(Nat.zero_le _), (Nat.zero_le _)⟩) hS (fun q _ h => hFc q h) hFc (fun  u3 t9 H1 locs ht9 hvm hcl2 hB hz1 hk1 hS => ?_)
    obtain ⟨hP1, hK1, hD1⟩ := hB
    rw [ht9] at hP1
    obtain ⟨hP, hD⟩ := fl_join (SR := []) (S1 := [mdW cI b (sU (sR (sU μ 0 (2) (0)) 2 u3) 0 0 (pushK ((sU μ 0 (2) (0)) 0 0)))]) hP hD [0] [] rfl rfl (by decide) (by decide) hk1 hFc hP1 hD1
    generalize H1 = H at hP hS ⊢
    have hP : va_P D vwCl (fl [mdW cI b (sU (sR (sU μ 0 (2) (0)) 2 u3) 0 0 (pushK ((sU μ 0 (2) (0)) 0 0)))]) H := hP
    have hD : va_D A (fl [mdW cI b (sU (sR (sU μ 0 (2) (0)) 2 u3) 0 0 (pushK ((sU μ 0 (2) (0)) 0 0)))]) := hD
    refine lv_aload_n hx hb dX5_settle_23 rfl (lv_at hl 0 rfl) ?_
    refine lv_iload_n hx hb dX5_settle_24 rfl (lv_at hl 1 rfl) ?_
    refine wi_iconst hx hb dX5_settle_25 ?_
    refine wr_calli (va_runV (As := [.int (iI (p)), .int (iI (1))]) (rest := []) ⟨hx, hb, hml, hown, hts⟩ (c_X5_of l D cI cO cC cL b (sU (sR (sU μ 0 (2) (0)) 2 u3) 0 0 (pushK ((sU μ 0 (2) (0)) 0 0))) (p) (1) (by omega) (by omega)) (cwV 2 hts gX5_settle_X5_of rfl rfl rfl (by decide +kernel) ⟨Nat.le_of_ble_eq_true rfl, Nat.le_of_ble_eq_true rfl⟩) ⟨pcR_blind, va_recv hK hP (ci := 5) (q0 := 0) rfl rfl, pcR_of hP hK⟩ rfl rfl hl.1 rfl (lv_room (Nat.le_of_ble_eq_true rfl)) dX5_settle_26 ⟨(Nat.zero_le _), (Nat.zero_le _)⟩) (fun r4 hr4 => ?_)
    subst hr4
    refine wi_top (y := (μ 1 (35 + 5 * (p) + (1)))) rfl ?_
    refine lv_istore_n (lv' := [(2, .int (iI ((μ 1 (35 + 5 * (p) + (1)))))), (0, .ref (b 0)), (1, .int (iI (p)))]) hx hb dX5_settle_29 rfl hl (by decide) rfl (fun ls hl => ?_)
    refine lv_aload_n hx hb dX5_settle_30 rfl (lv_at hl 1 rfl) ?_
    refine lv_iload_n hx hb dX5_settle_31 rfl (lv_at hl 2 rfl) ?_
    have hFc := fl_free (SC := [mdW cI b (sU (sR (sU μ 0 (2) (0)) 2 u3) 0 0 (pushK ((sU μ 0 (2) (0)) 0 0)))]) hD hS hA [0] rfl
    refine va_callv (va_runV (As := [.int (iI (p))]) (rest := []) ⟨hx, hb, hml, hown, hts⟩ (c_X5_settles l D cI cO cC cL H.size b (sU (sR (sU μ 0 (2) (0)) 2 u3) 0 0 (pushK ((sU μ 0 (2) (0)) 0 0))) σ (p) (by omega) (hpr) (hR)) (cwV 1 hts gX5_settle_X5_settles rfl rfl rfl (by decide +kernel) ⟨Nat.le_of_ble_eq_true rfl, Nat.le_of_ble_eq_true rfl⟩) ⟨pcW_blind, va_recv hK hP (ci := 5) (q0 := 0) rfl rfl, pcW_of hP hK hD⟩ rfl rfl hl.1 rfl (lv_room (Nat.le_of_ble_eq_true rfl)) dX5_settle_32 ⟨(Nat.zero_le _), (Nat.zero_le _)⟩) hS (fun q _ h => hFc q h) hFc (fun  u6 t9 H1 locs ht9 hvm hcl5 hB hz1 hk1 hS => ?_)
    obtain ⟨hP1, hK1, hD1⟩ := hB
    rw [ht9] at hP1
    obtain ⟨hP, hD⟩ := fl_join (SR := []) (S1 := [mdW cI b (sR (sU (sR (sU μ 0 (2) (0)) 2 u3) 0 0 (pushK ((sU μ 0 (2) (0)) 0 0))) 1 u6)]) hP hD [0] [] rfl rfl (by decide) (by decide) hk1 hFc hP1 hD1
    generalize H1 = H at hP hS ⊢
    have hP : va_P D vwCl (fl [mdW cI b (sR (sU (sR (sU μ 0 (2) (0)) 2 u3) 0 0 (pushK ((sU μ 0 (2) (0)) 0 0))) 1 u6)]) H := hP
    have hD : va_D A (fl [mdW cI b (sR (sU (sR (sU μ 0 (2) (0)) 2 u3) 0 0 (pushK ((sU μ 0 (2) (0)) 0 0))) 1 u6)]) := hD
    refine lv_aload_n hx hb dX5_settle_35 rfl (lv_at hl 1 rfl) ?_
    refine va_get (D := D) (ci := 5) (v := .ref (b 1)) (C := RX5) (T := TX5) (N := 12) hx hb hts hin_X5 hown hK hP 0 rfl rfl 0 (by decide) hw_1 (fun _ h9 => h9) rfl dX5_settle_36 ?_
    refine wi_iconst hx hb dX5_settle_39 ?_
    refine lv_iload_n hx hb dX5_settle_40 rfl (lv_at hl 0 rfl) ?_
    refine wi_iadd hx hb dX5_settle_41 ?_
    refine wi_iald hx hb hK hP 1 0 (n := 115) (f := u6) rfl rfl (i := (5 + (μ 1 (35 + 5 * (p) + (1))))) (by omega) (by decide) dX5_settle_42 ?_
    exact W.iret (v := iI ((u6 ((5 + (μ 1 (35 + 5 * (p) + (1)))))))) hx hb hr (fun t9 ht9 hW9 => ⟨⟨((u6 ((5 + (μ 1 (35 + 5 * (p) + (1))))))), (sR (sU (sR (sU μ 0 (2) (0)) 2 u3) 0 0 (pushK ((sU μ 0 (2) (0)) 0 0))) 1 u6), rfl, (OPQ.good (by unfold cd1; first | (rw [if_pos (by omega)] <;> rfl) | (rw [if_neg (by omega)] <;> rfl)) rfl (by rw [hq1]; exact (hcl5.2.1 (σ 6 p) (by omega) (by omega)).1) (⟨hcl5, rfl, hcl2, rfl, hM.2.2.2.2⟩)), ⟨by rw [ht9]; exact hP, va_K.moved hW9.alike hK, hD⟩⟩, hS.F ht9⟩) hS.2.2 dX5_settle_43 hlocks
  · skip
    refine lv_aload_n hx hb dX5_settle_13 rfl (lv_at hl 0 rfl) ?_
    refine wi_iconst hx hb dX5_settle_14 ?_
    have hFc := fl_free (SC := [mdW cI b (sU μ 0 (2) (0))]) hD hS hA [0] rfl
    refine wq_calli (va_runV (As := [.int (iI (1))]) (rest := []) ⟨hx, hb, hml, hown, hts⟩ (c_X5_fails l D cI cO cC cL H.size b (sU μ 0 (2) (0)) (1) ) (cwV 1 hts gX5_settle_X5_fails rfl rfl rfl (by decide +kernel) ⟨Nat.le_of_ble_eq_true rfl, Nat.le_of_ble_eq_true rfl⟩) ⟨pcW_blind, va_recv hK hP (ci := 5) (q0 := 0) rfl rfl, pcW_of hP hK hD⟩ rfl rfl hl.1 rfl (lv_room (Nat.le_of_ble_eq_true rfl)) dX5_settle_15 ⟨(Nat.zero_le _), (Nat.zero_le _)⟩) hS (fun q _ h => hFc q h) hFc (fun r7 u9 t9 H1 locs ht9 hvm hcl8 hB hz1 hk1 hS => ?_)
    obtain ⟨hP1, hK1, hD1⟩ := hB
    rw [ht9] at hP1
    obtain ⟨hP, hD⟩ := fl_join (SR := []) (S1 := [mdW cI b (sU (sU μ 0 (2) (0)) 0 2 (1))]) hP hD [0] [] rfl rfl (by decide) (by decide) hk1 hFc hP1 hD1
    generalize H1 = H at hP hS ⊢
    have hP : va_P D vwCl (fl [mdW cI b (sU (sU μ 0 (2) (0)) 0 2 (1))]) H := hP
    have hD : va_D A (fl [mdW cI b (sU (sU μ 0 (2) (0)) 0 2 (1))]) := hD
    exact W.iret (v := iI (r7)) hx hb hr (fun t9 ht9 hW9 => ⟨⟨(r7), (sU (sU μ 0 (2) (0)) 0 2 (1)), rfl, (OPQ.bad (k := 1) (by unfold cd1; first | (rw [if_pos (by omega)] <;> rfl) | (rw [if_neg (by omega)] <;> rfl)) (by decide) rfl hM), ⟨by rw [ht9]; exact hP, va_K.moved hW9.alike hK, hD⟩⟩, hS.F ht9⟩) hS.2.2 dX5_settle_18 hlocks
set_option maxHeartbeats 4000000 in
set_option maxRecDepth 100000 in
theorem c_X5_cancel (l : Launch) (D : va_G) (cI cO cC cL : ClassId) (sz : Nat) (b : Nat → Nat) (μ σ : Nat → Int → Int) (ss : Nat → Nat → Int → Int) (β : Int → Int) (p : Int) (hp : R32 p) (hM : RelM σ (μ 0 0) ss (μ 0 1) β μ) (hG : GI σ (μ 0 0) ss (μ 0 1) β) : Met l yX5_cancel wsX5_cancel ({ frames := 2, cells := 0, slots := 0, locals := 45 } : Room) (pcW D [(cI, FieldType.int)] [.ref (b 0), .int (iI (p))] (fl [mdW cI b μ]) sz) (wq_i (fun (r : Int) (μ' : Nat → Int → Int) => OPQ (cd1 (0 ≤ p ∧ p < σ 0 1)) r (σ 0 1 - 1) (μ' 0 2) (RelM σ (μ 0 0) ss (μ 0 1) β μ') (RelM (canS σ p) (pushK (μ 0 0)) (pushS (μ 0 0) ss σ) (μ 0 1) β μ')) (fun (μ' : Nat → Int → Int) => (bW D [(cI, FieldType.int)] (fl [mdW cI b μ']) (va_A (fl [mdW cI b μ]) sz))) (va_A (fl [mdW cI b μ]) sz)) 0 0 (va_A (fl [mdW cI b μ]) sz) := by
  refine Met.ofW (cc := cX5_cancel) (maxL := 2) (ret := (some .int)) (by decide) rfl ?_
  intro p9 e9 s m args9 below9 meth9 c9 s₁ B hml hv
  obtain ⟨rfl, hsz, hP, hK, hD0⟩ := hv
  have hx := B.exec
  have hb := B.bytes
  have hr := B.returns
  have hts := atoms_spec (ws := wsX5_cancel) B.pre
  have hown : s.vm.findClass RX5 = some m.cls := findClass_of_methodNamed B.named
  have hlocks := B.notSynchronized
  subst hsz
  have hD := hD0.self (sz := s.heap.size)
  generalize hAe : va_A (fl [mdW cI b μ]) s.heap.size = A at hD ⊢
  have hA : ∀ q : Nat, s.heap.size ≤ q → A q := fun q h => by rw [← hAe]; exact Or.inr h
  have hS : va_S A s.heap s.heap [] := va_S.rf
  have hP : va_P D vwCl (fl [mdW cI b μ]) s.heap := hP
  have hl := lv_entry ([.ref (b 0), .int (iI (p))]) (n := 2) (Nat.le_of_ble_eq_true rfl)
  rw [lg_entry_eq]
  generalize (lg_sl ([.ref (b 0), .int (iI (p))]) ++ List.replicate (2 - (lg_sl ([.ref (b 0), .int (iI (p))])).length) Slot.unset).toArray = ls at hl ⊢
  have hl : lv_has ls 2 [(0, .ref (b 0)), (1, .int (iI (p)))] := hl
  have hw_0 := hts (.fieldLink RX5 25 "PromisedCountersModel" "thrown" "I") (by decide +kernel)
  have hin_X5 : ∀ w ∈ u_ws RX5 TX5 12, w ∈ wsX5_cancel := by decide +kernel
  have hw_1 := hts (.fieldLink RX5 7 "PromisedCountersModel" "now" "[I") (by decide +kernel)
  have hI := hG.1
  have hR := hM.1
  have hn := hI.n
  have hti := hI.t
  obtain ⟨hm0, hm1, hm2, hm3, hm4⟩ := hR.1
  refine lv_aload_n hx hb dX5_cancel_0 rfl (lv_at hl 0 rfl) ?_
  refine wi_iconst hx hb dX5_cancel_1 ?_
  refine va_put (D := D) (ci := 5) (v := .int (iI (0))) (ty := .int) (C := RX5) (T := TX5) (N := 12) hx hb hts hin_X5 tyX5 tyX5_ok nmX5 hown hK hP hD hS 0 rfl rfl 5 (by decide) hw_0 (fun _ h9 => h9) rfl (by decide +kernel) rfl rfl (Nat.le_of_ble_eq_true rfl) dX5_cancel_2 (fun H locs hP hD hS => ?_)
  have hP : va_P D vwCl (fl [mdW cI b (sU μ 0 (2) (0))]) H := hP
  have hD : va_D A (fl [mdW cI b (sU μ 0 (2) (0))]) := hD
  refine lv_aload_n hx hb dX5_cancel_5 rfl (lv_at hl 0 rfl) ?_
  refine lv_iload_n hx hb dX5_cancel_6 rfl (lv_at hl 1 rfl) ?_
  refine wr_calli (va_runV (As := [.int (iI (p))]) (rest := []) ⟨hx, hb, hml, hown, hts⟩ (c_X5_isPromise l D cI cO cC cL b (sU μ 0 (2) (0)) σ (p) (by omega) (hR) (hI)) (cwV 1 hts gX5_cancel_X5_isPromise rfl rfl rfl (by decide +kernel) ⟨Nat.le_of_ble_eq_true rfl, Nat.le_of_ble_eq_true rfl⟩) ⟨pcR_blind, va_recv hK hP (ci := 5) (q0 := 0) rfl rfl, pcR_of hP hK⟩ rfl rfl hl.1 rfl (lv_room (Nat.le_of_ble_eq_true rfl)) dX5_cancel_7 ⟨(Nat.zero_le _), (Nat.zero_le _)⟩) (fun r1 hr1 => ?_)
  subst hr1
  refine wi_top (y := (if 0 ≤ (p) ∧ (p) < σ 0 1 then (1 : Int) else 0)) rfl ?_
  refine wi_if_ne (tgt := 19) hx hb dX5_cancel_10 (by decide) (by omega) (fun c_10 => ?_) (fun c_10 => ?_)
  · skip
    have hpr := (hI.pr (p := p) (by omega) (by omega)).p0
    obtain ⟨hp1, hp2, hp3, hp4⟩ := id hpr
    obtain ⟨hq0, hq1, hq2, hq3, hq4⟩ := hR.2.2.2 p (by omega) (by omega)
    refine lv_aload_n hx hb dX5_cancel_19 rfl (lv_at hl 0 rfl) ?_
    have hFc := fl_free (SC := [mdW cI b (sU μ 0 (2) (0))]) hD hS hA [0] rfl
    refine va_callv (va_runV (As := []) (rest := []) ⟨hx, hb, hml, hown, hts⟩ (c_X5_saves l D cI cO cC cL H.size b (sU μ 0 (2) (0)) σ ss (hG.2.1) (by omega) (hR) (hM.2.2.1) (hG.2.2.1)) (cwV 0 hts gX5_cancel_X5_saves rfl rfl rfl (by decide +kernel) ⟨Nat.le_of_ble_eq_true rfl, Nat.le_of_ble_eq_true rfl⟩) ⟨pcW_blind, va_recv hK hP (ci := 5) (q0 := 0) rfl rfl, pcW_of hP hK hD⟩ rfl rfl hl.1 rfl (lv_room (Nat.le_of_ble_eq_true rfl)) dX5_cancel_20 ⟨(Nat.zero_le _), (Nat.zero_le _)⟩) hS (fun q _ h => hFc q h) hFc (fun  u3 t9 H1 locs ht9 hvm hcl2 hB hz1 hk1 hS => ?_)
    obtain ⟨hP1, hK1, hD1⟩ := hB
    rw [ht9] at hP1
    obtain ⟨hP, hD⟩ := fl_join (SR := []) (S1 := [mdW cI b (sU (sR (sU μ 0 (2) (0)) 2 u3) 0 0 (pushK ((sU μ 0 (2) (0)) 0 0)))]) hP hD [0] [] rfl rfl (by decide) (by decide) hk1 hFc hP1 hD1
    generalize H1 = H at hP hS ⊢
    have hP : va_P D vwCl (fl [mdW cI b (sU (sR (sU μ 0 (2) (0)) 2 u3) 0 0 (pushK ((sU μ 0 (2) (0)) 0 0)))]) H := hP
    have hD : va_D A (fl [mdW cI b (sU (sR (sU μ 0 (2) (0)) 2 u3) 0 0 (pushK ((sU μ 0 (2) (0)) 0 0)))]) := hD
    refine lv_aload_n hx hb dX5_cancel_23 rfl (lv_at hl 0 rfl) ?_
    refine lv_iload_n hx hb dX5_cancel_24 rfl (lv_at hl 1 rfl) ?_
    refine wi_bipush hx hb dX5_cancel_25 (by decide) ?_
    have hFc := fl_free (SC := [mdW cI b (sU (sR (sU μ 0 (2) (0)) 2 u3) 0 0 (pushK ((sU μ 0 (2) (0)) 0 0)))]) hD hS hA [0] rfl
    refine va_callv (va_runV (As := [.int (iI (p)), .int (iI (23))]) (rest := []) ⟨hx, hb, hml, hown, hts⟩ (c_X5_ends l D cI cO cC cL H.size b (sU (sR (sU μ 0 (2) (0)) 2 u3) 0 0 (pushK ((sU μ 0 (2) (0)) 0 0))) σ (p) (23) 11 (by omega) (hpr) (by omega) (hR)) (cwV 2 hts gX5_cancel_X5_ends rfl rfl rfl (by decide +kernel) ⟨Nat.le_of_ble_eq_true rfl, Nat.le_of_ble_eq_true rfl⟩) ⟨pcW_blind, va_recv hK hP (ci := 5) (q0 := 0) rfl rfl, pcW_of hP hK hD⟩ rfl rfl hl.1 rfl (lv_room (Nat.le_of_ble_eq_true rfl)) dX5_cancel_27 ⟨(Nat.zero_le _), (Nat.zero_le _)⟩) hS (fun q _ h => hFc q h) hFc (fun  u5 t9 H1 locs ht9 hvm hcl4 hB hz1 hk1 hS => ?_)
    obtain ⟨hP1, hK1, hD1⟩ := hB
    rw [ht9] at hP1
    obtain ⟨hP, hD⟩ := fl_join (SR := []) (S1 := [mdW cI b (sR (sU (sR (sU μ 0 (2) (0)) 2 u3) 0 0 (pushK ((sU μ 0 (2) (0)) 0 0))) 1 u5)]) hP hD [0] [] rfl rfl (by decide) (by decide) hk1 hFc hP1 hD1
    generalize H1 = H at hP hS ⊢
    have hP : va_P D vwCl (fl [mdW cI b (sR (sU (sR (sU μ 0 (2) (0)) 2 u3) 0 0 (pushK ((sU μ 0 (2) (0)) 0 0))) 1 u5)]) H := hP
    have hD : va_D A (fl [mdW cI b (sR (sU (sR (sU μ 0 (2) (0)) 2 u3) 0 0 (pushK ((sU μ 0 (2) (0)) 0 0))) 1 u5)]) := hD
    refine lv_aload_n hx hb dX5_cancel_30 rfl (lv_at hl 0 rfl) ?_
    refine va_get (D := D) (ci := 5) (v := .ref (b 1)) (C := RX5) (T := TX5) (N := 12) hx hb hts hin_X5 hown hK hP 0 rfl rfl 0 (by decide) hw_1 (fun _ h9 => h9) rfl dX5_cancel_31 ?_
    refine wi_iconst hx hb dX5_cancel_34 ?_
    refine wi_iald hx hb hK hP 1 0 (n := 115) (f := u5) rfl rfl (i := 3) (by omega) (by decide) dX5_cancel_35 ?_
    exact W.iret (v := iI ((u5 (3)))) hx hb hr (fun t9 ht9 hW9 => ⟨⟨((u5 (3))), (sR (sU (sR (sU μ 0 (2) (0)) 2 u3) 0 0 (pushK ((sU μ 0 (2) (0)) 0 0))) 1 u5), rfl, (OPQ.good (by unfold cd1; first | (rw [if_pos (by omega)] <;> rfl) | (rw [if_neg (by omega)] <;> rfl)) rfl (by rw [hcl4.1.2.2.2.1]; exact remS_n _ _) (⟨hcl4, rfl, hcl2, rfl, hM.2.2.2.2⟩)), ⟨by rw [ht9]; exact hP, va_K.moved hW9.alike hK, hD⟩⟩, hS.F ht9⟩) hS.2.2 dX5_cancel_36 hlocks
  · skip
    refine lv_aload_n hx hb dX5_cancel_13 rfl (lv_at hl 0 rfl) ?_
    refine wi_iconst hx hb dX5_cancel_14 ?_
    have hFc := fl_free (SC := [mdW cI b (sU μ 0 (2) (0))]) hD hS hA [0] rfl
    refine wq_calli (va_runV (As := [.int (iI (1))]) (rest := []) ⟨hx, hb, hml, hown, hts⟩ (c_X5_fails l D cI cO cC cL H.size b (sU μ 0 (2) (0)) (1) ) (cwV 1 hts gX5_cancel_X5_fails rfl rfl rfl (by decide +kernel) ⟨Nat.le_of_ble_eq_true rfl, Nat.le_of_ble_eq_true rfl⟩) ⟨pcW_blind, va_recv hK hP (ci := 5) (q0 := 0) rfl rfl, pcW_of hP hK hD⟩ rfl rfl hl.1 rfl (lv_room (Nat.le_of_ble_eq_true rfl)) dX5_cancel_15 ⟨(Nat.zero_le _), (Nat.zero_le _)⟩) hS (fun q _ h => hFc q h) hFc (fun r6 u8 t9 H1 locs ht9 hvm hcl7 hB hz1 hk1 hS => ?_)
    obtain ⟨hP1, hK1, hD1⟩ := hB
    rw [ht9] at hP1
    obtain ⟨hP, hD⟩ := fl_join (SR := []) (S1 := [mdW cI b (sU (sU μ 0 (2) (0)) 0 2 (1))]) hP hD [0] [] rfl rfl (by decide) (by decide) hk1 hFc hP1 hD1
    generalize H1 = H at hP hS ⊢
    have hP : va_P D vwCl (fl [mdW cI b (sU (sU μ 0 (2) (0)) 0 2 (1))]) H := hP
    have hD : va_D A (fl [mdW cI b (sU (sU μ 0 (2) (0)) 0 2 (1))]) := hD
    exact W.iret (v := iI (r6)) hx hb hr (fun t9 ht9 hW9 => ⟨⟨(r6), (sU (sU μ 0 (2) (0)) 0 2 (1)), rfl, (OPQ.bad (k := 1) (by unfold cd1; first | (rw [if_pos (by omega)] <;> rfl) | (rw [if_neg (by omega)] <;> rfl)) (by decide) rfl hM), ⟨by rw [ht9]; exact hP, va_K.moved hW9.alike hK, hD⟩⟩, hS.F ht9⟩) hS.2.2 dX5_cancel_18 hlocks
set_option maxHeartbeats 4000000 in
set_option maxRecDepth 100000 in
theorem c_X5_renew (l : Launch) (D : va_G) (cI cO cC cL : ClassId) (sz : Nat) (b : Nat → Nat) (μ σ : Nat → Int → Int) (ss : Nat → Nat → Int → Int) (β : Int → Int) (p : Int) (hp : R32 p) (hM : RelM σ (μ 0 0) ss (μ 0 1) β μ) (hG : GI σ (μ 0 0) ss (μ 0 1) β) : Met l yX5_renew wsX5_renew ({ frames := 2, cells := 0, slots := 0, locals := 43 } : Room) (pcW D [(cI, FieldType.int)] [.ref (b 0), .int (iI (p))] (fl [mdW cI b μ]) sz) (wq_i (fun (r : Int) (μ' : Nat → Int → Int) => OPQ (cd1 (0 ≤ p ∧ p < σ 0 1)) r (σ 0 0 + σ 1 1 - σ 9 p) (μ' 0 2) (RelM σ (μ 0 0) ss (μ 0 1) β μ') (RelM (renS σ p) (pushK (μ 0 0)) (pushS (μ 0 0) ss σ) (μ 0 1) β μ')) (fun (μ' : Nat → Int → Int) => (bW D [(cI, FieldType.int)] (fl [mdW cI b μ']) (va_A (fl [mdW cI b μ]) sz))) (va_A (fl [mdW cI b μ]) sz)) 0 0 (va_A (fl [mdW cI b μ]) sz) := by
  refine Met.ofW (cc := cX5_renew) (maxL := 3) (ret := (some .int)) (by decide) rfl ?_
  intro p9 e9 s m args9 below9 meth9 c9 s₁ B hml hv
  obtain ⟨rfl, hsz, hP, hK, hD0⟩ := hv
  have hx := B.exec
  have hb := B.bytes
  have hr := B.returns
  have hts := atoms_spec (ws := wsX5_renew) B.pre
  have hown : s.vm.findClass RX5 = some m.cls := findClass_of_methodNamed B.named
  have hlocks := B.notSynchronized
  subst hsz
  have hD := hD0.self (sz := s.heap.size)
  generalize hAe : va_A (fl [mdW cI b μ]) s.heap.size = A at hD ⊢
  have hA : ∀ q : Nat, s.heap.size ≤ q → A q := fun q h => by rw [← hAe]; exact Or.inr h
  have hS : va_S A s.heap s.heap [] := va_S.rf
  have hP : va_P D vwCl (fl [mdW cI b μ]) s.heap := hP
  have hl := lv_entry ([.ref (b 0), .int (iI (p))]) (n := 3) (Nat.le_of_ble_eq_true rfl)
  rw [lg_entry_eq]
  generalize (lg_sl ([.ref (b 0), .int (iI (p))]) ++ List.replicate (3 - (lg_sl ([.ref (b 0), .int (iI (p))])).length) Slot.unset).toArray = ls at hl ⊢
  have hl : lv_has ls 3 [(0, .ref (b 0)), (1, .int (iI (p)))] := hl
  have hw_0 := hts (.fieldLink RX5 25 "PromisedCountersModel" "thrown" "I") (by decide +kernel)
  have hin_X5 : ∀ w ∈ u_ws RX5 TX5 12, w ∈ wsX5_renew := by decide +kernel
  have hw_1 := hts (.fieldLink RX5 7 "PromisedCountersModel" "now" "[I") (by decide +kernel)
  have hI := hG.1
  have hR := hM.1
  have hn := hI.n
  have hti := hI.t
  obtain ⟨hm0, hm1, hm2, hm3, hm4⟩ := hR.1
  refine lv_aload_n hx hb dX5_renew_0 rfl (lv_at hl 0 rfl) ?_
  refine wi_iconst hx hb dX5_renew_1 ?_
  refine va_put (D := D) (ci := 5) (v := .int (iI (0))) (ty := .int) (C := RX5) (T := TX5) (N := 12) hx hb hts hin_X5 tyX5 tyX5_ok nmX5 hown hK hP hD hS 0 rfl rfl 5 (by decide) hw_0 (fun _ h9 => h9) rfl (by decide +kernel) rfl rfl (Nat.le_of_ble_eq_true rfl) dX5_renew_2 (fun H locs hP hD hS => ?_)
  have hP : va_P D vwCl (fl [mdW cI b (sU μ 0 (2) (0))]) H := hP
  have hD : va_D A (fl [mdW cI b (sU μ 0 (2) (0))]) := hD
  refine lv_aload_n hx hb dX5_renew_5 rfl (lv_at hl 0 rfl) ?_
  refine lv_iload_n hx hb dX5_renew_6 rfl (lv_at hl 1 rfl) ?_
  refine wr_calli (va_runV (As := [.int (iI (p))]) (rest := []) ⟨hx, hb, hml, hown, hts⟩ (c_X5_isPromise l D cI cO cC cL b (sU μ 0 (2) (0)) σ (p) (by omega) (hR) (hI)) (cwV 1 hts gX5_renew_X5_isPromise rfl rfl rfl (by decide +kernel) ⟨Nat.le_of_ble_eq_true rfl, Nat.le_of_ble_eq_true rfl⟩) ⟨pcR_blind, va_recv hK hP (ci := 5) (q0 := 0) rfl rfl, pcR_of hP hK⟩ rfl rfl hl.1 rfl (lv_room (Nat.le_of_ble_eq_true rfl)) dX5_renew_7 ⟨(Nat.zero_le _), (Nat.zero_le _)⟩) (fun r1 hr1 => ?_)
  subst hr1
  refine wi_top (y := (if 0 ≤ (p) ∧ (p) < σ 0 1 then (1 : Int) else 0)) rfl ?_
  refine wi_if_ne (tgt := 19) hx hb dX5_renew_10 (by decide) (by omega) (fun c_10 => ?_) (fun c_10 => ?_)
  · skip
    have hpr := (hI.pr (p := p) (by omega) (by omega)).p0
    obtain ⟨hp1, hp2, hp3, hp4⟩ := id hpr
    obtain ⟨hq0, hq1, hq2, hq3, hq4⟩ := hR.2.2.2 p (by omega) (by omega)
    refine lv_aload_n hx hb dX5_renew_19 rfl (lv_at hl 0 rfl) ?_
    have hFc := fl_free (SC := [mdW cI b (sU μ 0 (2) (0))]) hD hS hA [0] rfl
    refine va_callv (va_runV (As := []) (rest := []) ⟨hx, hb, hml, hown, hts⟩ (c_X5_saves l D cI cO cC cL H.size b (sU μ 0 (2) (0)) σ ss (hG.2.1) (by omega) (hR) (hM.2.2.1) (hG.2.2.1)) (cwV 0 hts gX5_renew_X5_saves rfl rfl rfl (by decide +kernel) ⟨Nat.le_of_ble_eq_true rfl, Nat.le_of_ble_eq_true rfl⟩) ⟨pcW_blind, va_recv hK hP (ci := 5) (q0 := 0) rfl rfl, pcW_of hP hK hD⟩ rfl rfl hl.1 rfl (lv_room (Nat.le_of_ble_eq_true rfl)) dX5_renew_20 ⟨(Nat.zero_le _), (Nat.zero_le _)⟩) hS (fun q _ h => hFc q h) hFc (fun  u3 t9 H1 locs ht9 hvm hcl2 hB hz1 hk1 hS => ?_)
    obtain ⟨hP1, hK1, hD1⟩ := hB
    rw [ht9] at hP1
    obtain ⟨hP, hD⟩ := fl_join (SR := []) (S1 := [mdW cI b (sU (sR (sU μ 0 (2) (0)) 2 u3) 0 0 (pushK ((sU μ 0 (2) (0)) 0 0)))]) hP hD [0] [] rfl rfl (by decide) (by decide) hk1 hFc hP1 hD1
    generalize H1 = H at hP hS ⊢
    have hP : va_P D vwCl (fl [mdW cI b (sU (sR (sU μ 0 (2) (0)) 2 u3) 0 0 (pushK ((sU μ 0 (2) (0)) 0 0)))]) H := hP
    have hD : va_D A (fl [mdW cI b (sU (sR (sU μ 0 (2) (0)) 2 u3) 0 0 (pushK ((sU μ 0 (2) (0)) 0 0)))]) := hD
    refine lv_aload_n hx hb dX5_renew_23 rfl (lv_at hl 0 rfl) ?_
    refine lv_iload_n hx hb dX5_renew_24 rfl (lv_at hl 1 rfl) ?_
    refine wi_iconst hx hb dX5_renew_25 ?_
    refine wr_calli (va_runV (As := [.int (iI (p)), .int (iI (4))]) (rest := []) ⟨hx, hb, hml, hown, hts⟩ (c_X5_of l D cI cO cC cL b (sU (sR (sU μ 0 (2) (0)) 2 u3) 0 0 (pushK ((sU μ 0 (2) (0)) 0 0))) (p) (4) (by omega) (by omega)) (cwV 2 hts gX5_renew_X5_of rfl rfl rfl (by decide +kernel) ⟨Nat.le_of_ble_eq_true rfl, Nat.le_of_ble_eq_true rfl⟩) ⟨pcR_blind, va_recv hK hP (ci := 5) (q0 := 0) rfl rfl, pcR_of hP hK⟩ rfl rfl hl.1 rfl (lv_room (Nat.le_of_ble_eq_true rfl)) dX5_renew_26 ⟨(Nat.zero_le _), (Nat.zero_le _)⟩) (fun r4 hr4 => ?_)
    subst hr4
    refine wi_top (y := (μ 1 (35 + 5 * (p) + (4)))) rfl ?_
    refine lv_istore_n (lv' := [(2, .int (iI ((μ 1 (35 + 5 * (p) + (4)))))), (0, .ref (b 0)), (1, .int (iI (p)))]) hx hb dX5_renew_29 rfl hl (by decide) rfl (fun ls hl => ?_)
    refine lv_aload_n hx hb dX5_renew_30 rfl (lv_at hl 1 rfl) ?_
    refine va_get (D := D) (ci := 5) (v := .ref (b 1)) (C := RX5) (T := TX5) (N := 12) hx hb hts hin_X5 hown hK hP 0 rfl rfl 0 (by decide) hw_1 (fun _ h9 => h9) rfl dX5_renew_31 ?_
    refine wi_bipush hx hb dX5_renew_34 (by decide) ?_
    refine wi_iconst hx hb dX5_renew_36 ?_
    refine lv_iload_n hx hb dX5_renew_37 rfl (lv_at hl 2 rfl) ?_
    refine wi_imul hx hb dX5_renew_38 ?_
    refine wi_iadd hx hb dX5_renew_39 ?_
    refine wi_iconst hx hb dX5_renew_40 ?_
    refine wi_iadd hx hb dX5_renew_41 ?_
    refine lv_aload_n hx hb dX5_renew_42 rfl (lv_at hl 1 rfl) ?_
    refine va_get (D := D) (ci := 5) (v := .ref (b 1)) (C := RX5) (T := TX5) (N := 12) hx hb hts hin_X5 hown hK hP 0 rfl rfl 0 (by decide) hw_1 (fun _ h9 => h9) rfl dX5_renew_43 ?_
    refine wi_iconst hx hb dX5_renew_46 ?_
    refine wi_iald hx hb hK hP 1 0 (n := 115) (f := μ 1) rfl rfl (i := 0) (by omega) (by decide) dX5_renew_47 ?_
    refine lv_aload_n hx hb dX5_renew_48 rfl (lv_at hl 1 rfl) ?_
    refine va_get (D := D) (ci := 5) (v := .ref (b 1)) (C := RX5) (T := TX5) (N := 12) hx hb hts hin_X5 hown hK hP 0 rfl rfl 0 (by decide) hw_1 (fun _ h9 => h9) rfl dX5_renew_49 ?_
    refine wi_iconst hx hb dX5_renew_52 ?_
    refine wi_iald hx hb hK hP 1 0 (n := 115) (f := μ 1) rfl rfl (i := 2) (by omega) (by decide) dX5_renew_53 ?_
    refine wi_iadd hx hb dX5_renew_54 ?_
    refine wi_iast hx hb hK hP hD hS 1 0 (n := 115) (f := μ 1) rfl rfl (i := ((35 + (5 * p)) + 4)) (by omega) (by decide) dX5_renew_55 (fun H locs hP hD hS => ?_)
    have hP : va_P D vwCl (fl [mdW cI b (sU (sU (sR (sU μ 0 (2) (0)) 2 u3) 0 0 (pushK ((sU μ 0 (2) (0)) 0 0))) 1 (((35 + (5 * p)) + 4)) (((μ 1 (0)) + (μ 1 (2)))))]) H := hP
    have hD : va_D A (fl [mdW cI b (sU (sU (sR (sU μ 0 (2) (0)) 2 u3) 0 0 (pushK ((sU μ 0 (2) (0)) 0 0))) 1 (((35 + (5 * p)) + 4)) (((μ 1 (0)) + (μ 1 (2)))))]) := hD
    refine lv_aload_n hx hb dX5_renew_56 rfl (lv_at hl 1 rfl) ?_
    refine lv_iload_n hx hb dX5_renew_57 rfl (lv_at hl 2 rfl) ?_
    refine wi_iconst hx hb dX5_renew_58 ?_
    refine wr_calli (va_runV (As := [.int (iI (p)), .int (iI (4))]) (rest := []) ⟨hx, hb, hml, hown, hts⟩ (c_X5_of l D cI cO cC cL b (sU (sU (sR (sU μ 0 (2) (0)) 2 u3) 0 0 (pushK ((sU μ 0 (2) (0)) 0 0))) 1 (((35 + (5 * p)) + 4)) (((μ 1 (0)) + (μ 1 (2))))) (p) (4) (by omega) (by omega)) (cwV 2 hts gX5_renew_X5_of rfl rfl rfl (by decide +kernel) ⟨Nat.le_of_ble_eq_true rfl, Nat.le_of_ble_eq_true rfl⟩) ⟨pcR_blind, va_recv hK hP (ci := 5) (q0 := 0) rfl rfl, pcR_of hP hK⟩ rfl rfl hl.1 rfl (lv_room (Nat.le_of_ble_eq_true rfl)) dX5_renew_59 ⟨(Nat.zero_le _), (Nat.zero_le _)⟩) (fun r5 hr5 => ?_)
    subst hr5
    refine wi_top (y := (((uI (μ 1) (((35 + (5 * p)) + 4)) (((μ 1 (0)) + (μ 1 (2)))))) (35 + 5 * (p) + (4)))) rfl ?_
    refine lv_iload_n hx hb dX5_renew_62 rfl (lv_at hl 0 rfl) ?_
    refine wi_isub hx hb dX5_renew_63 ?_
    exact W.iret (v := iI (((((uI (μ 1) (((35 + (5 * p)) + 4)) (((μ 1 (0)) + (μ 1 (2)))))) (35 + 5 * (p) + (4))) - (μ 1 (35 + 5 * (p) + (4)))))) hx hb hr (fun t9 ht9 hW9 => ⟨⟨(((((uI (μ 1) (((35 + (5 * p)) + 4)) (((μ 1 (0)) + (μ 1 (2)))))) (35 + 5 * (p) + (4))) - (μ 1 (35 + 5 * (p) + (4))))), (sU (sU (sR (sU μ 0 (2) (0)) 2 u3) 0 0 (pushK ((sU μ 0 (2) (0)) 0 0))) 1 (((35 + (5 * p)) + 4)) (((μ 1 (0)) + (μ 1 (2))))), rfl, (OPQ.good (by unfold cd1; first | (rw [if_pos (by omega)] <;> rfl) | (rw [if_neg (by omega)] <;> rfl)) rfl (by rw [uI_e (by omega)]; omega) (⟨by have h9 := RelN_fld hR (by omega) (p := p) (w := 4) (x := σ 0 0 + σ 1 1) (R := 9) (by omega) (by omega); rw [← hm0, ← hm2] at h9; unfold renS; rw [← hm0, ← hm2]; exact h9, rfl, hcl2, rfl, hM.2.2.2.2⟩)), ⟨by rw [ht9]; exact hP, va_K.moved hW9.alike hK, hD⟩⟩, hS.F ht9⟩) hS.2.2 dX5_renew_64 hlocks
  · skip
    refine lv_aload_n hx hb dX5_renew_13 rfl (lv_at hl 0 rfl) ?_
    refine wi_iconst hx hb dX5_renew_14 ?_
    have hFc := fl_free (SC := [mdW cI b (sU μ 0 (2) (0))]) hD hS hA [0] rfl
    refine wq_calli (va_runV (As := [.int (iI (1))]) (rest := []) ⟨hx, hb, hml, hown, hts⟩ (c_X5_fails l D cI cO cC cL H.size b (sU μ 0 (2) (0)) (1) ) (cwV 1 hts gX5_renew_X5_fails rfl rfl rfl (by decide +kernel) ⟨Nat.le_of_ble_eq_true rfl, Nat.le_of_ble_eq_true rfl⟩) ⟨pcW_blind, va_recv hK hP (ci := 5) (q0 := 0) rfl rfl, pcW_of hP hK hD⟩ rfl rfl hl.1 rfl (lv_room (Nat.le_of_ble_eq_true rfl)) dX5_renew_15 ⟨(Nat.zero_le _), (Nat.zero_le _)⟩) hS (fun q _ h => hFc q h) hFc (fun r6 u8 t9 H1 locs ht9 hvm hcl7 hB hz1 hk1 hS => ?_)
    obtain ⟨hP1, hK1, hD1⟩ := hB
    rw [ht9] at hP1
    obtain ⟨hP, hD⟩ := fl_join (SR := []) (S1 := [mdW cI b (sU (sU μ 0 (2) (0)) 0 2 (1))]) hP hD [0] [] rfl rfl (by decide) (by decide) hk1 hFc hP1 hD1
    generalize H1 = H at hP hS ⊢
    have hP : va_P D vwCl (fl [mdW cI b (sU (sU μ 0 (2) (0)) 0 2 (1))]) H := hP
    have hD : va_D A (fl [mdW cI b (sU (sU μ 0 (2) (0)) 0 2 (1))]) := hD
    exact W.iret (v := iI (r6)) hx hb hr (fun t9 ht9 hW9 => ⟨⟨(r6), (sU (sU μ 0 (2) (0)) 0 2 (1)), rfl, (OPQ.bad (k := 1) (by unfold cd1; first | (rw [if_pos (by omega)] <;> rfl) | (rw [if_neg (by omega)] <;> rfl)) (by decide) rfl hM), ⟨by rw [ht9]; exact hP, va_K.moved hW9.alike hK, hD⟩⟩, hS.F ht9⟩) hS.2.2 dX5_renew_18 hlocks
set_option maxHeartbeats 4000000 in
set_option maxRecDepth 100000 in
theorem c_X5_settlePart (l : Launch) (D : va_G) (cI cO cC cL : ClassId) (sz : Nat) (b : Nat → Nat) (μ σ : Nat → Int → Int) (ss : Nat → Nat → Int → Int) (β : Int → Int) (p q : Int) (hp : R32 p) (hq : R32 q) (hM : RelM σ (μ 0 0) ss (μ 0 1) β μ) (hG : GI σ (μ 0 0) ss (μ 0 1) β) : Met l yX5_settlePart wsX5_settlePart ({ frames := 2, cells := 0, slots := 0, locals := 44 } : Room) (pcW D [(cI, FieldType.int)] [.ref (b 0), .int (iI (p)), .int (iI (q))] (fl [mdW cI b μ]) sz) (wq_i (fun (r : Int) (μ' : Nat → Int → Int) => OPQ (cd2 (0 ≤ p ∧ p < σ 0 1) (1 ≤ q ∧ q ≤ aI (σ 7 p) - 1)) r (σ 7 p - prtX σ p q) (μ' 0 2) (RelM σ (μ 0 0) ss (μ 0 1) β μ') (RelM (prtS σ p q) (pushK (μ 0 0)) (pushS (μ 0 0) ss σ) (μ 0 1) β μ')) (fun (μ' : Nat → Int → Int) => (bW D [(cI, FieldType.int)] (fl [mdW cI b μ']) (va_A (fl [mdW cI b μ]) sz))) (va_A (fl [mdW cI b μ]) sz)) 0 0 (va_A (fl [mdW cI b μ]) sz) := by
  refine Met.ofW (cc := cX5_settlePart) (maxL := 5) (ret := (some .int)) (by decide) rfl ?_
  intro p9 e9 s m args9 below9 meth9 c9 s₁ B hml hv
  obtain ⟨rfl, hsz, hP, hK, hD0⟩ := hv
  have hx := B.exec
  have hb := B.bytes
  have hr := B.returns
  have hts := atoms_spec (ws := wsX5_settlePart) B.pre
  have hown : s.vm.findClass RX5 = some m.cls := findClass_of_methodNamed B.named
  have hlocks := B.notSynchronized
  subst hsz
  have hD := hD0.self (sz := s.heap.size)
  generalize hAe : va_A (fl [mdW cI b μ]) s.heap.size = A at hD ⊢
  have hA : ∀ q : Nat, s.heap.size ≤ q → A q := fun q h => by rw [← hAe]; exact Or.inr h
  have hS : va_S A s.heap s.heap [] := va_S.rf
  have hP : va_P D vwCl (fl [mdW cI b μ]) s.heap := hP
  have hl := lv_entry ([.ref (b 0), .int (iI (p)), .int (iI (q))]) (n := 5) (Nat.le_of_ble_eq_true rfl)
  rw [lg_entry_eq]
  generalize (lg_sl ([.ref (b 0), .int (iI (p)), .int (iI (q))]) ++ List.replicate (5 - (lg_sl ([.ref (b 0), .int (iI (p)), .int (iI (q))])).length) Slot.unset).toArray = ls at hl ⊢
  have hl : lv_has ls 5 [(0, .ref (b 0)), (1, .int (iI (p))), (2, .int (iI (q)))] := hl
  have hw_0 := hts (.fieldLink RX5 25 "PromisedCountersModel" "thrown" "I") (by decide +kernel)
  have hin_X5 : ∀ w ∈ u_ws RX5 TX5 12, w ∈ wsX5_settlePart := by decide +kernel
  have hw_1 := hts (.fieldLink RX5 7 "PromisedCountersModel" "now" "[I") (by decide +kernel)
  have hI := hG.1
  have hR := hM.1
  have hn := hI.n
  have hti := hI.t
  obtain ⟨hm0, hm1, hm2, hm3, hm4⟩ := hR.1
  refine lv_aload_n hx hb dX5_settlePart_0 rfl (lv_at hl 0 rfl) ?_
  refine wi_iconst hx hb dX5_settlePart_1 ?_
  refine va_put (D := D) (ci := 5) (v := .int (iI (0))) (ty := .int) (C := RX5) (T := TX5) (N := 12) hx hb hts hin_X5 tyX5 tyX5_ok nmX5 hown hK hP hD hS 0 rfl rfl 5 (by decide) hw_0 (fun _ h9 => h9) rfl (by decide +kernel) rfl rfl (Nat.le_of_ble_eq_true rfl) dX5_settlePart_2 (fun H locs hP hD hS => ?_)
  have hP : va_P D vwCl (fl [mdW cI b (sU μ 0 (2) (0))]) H := hP
  have hD : va_D A (fl [mdW cI b (sU μ 0 (2) (0))]) := hD
  refine lv_aload_n hx hb dX5_settlePart_5 rfl (lv_at hl 0 rfl) ?_
  refine lv_iload_n hx hb dX5_settlePart_6 rfl (lv_at hl 1 rfl) ?_
  refine wr_calli (va_runV (As := [.int (iI (p))]) (rest := []) ⟨hx, hb, hml, hown, hts⟩ (c_X5_isPromise l D cI cO cC cL b (sU μ 0 (2) (0)) σ (p) (by omega) (hR) (hI)) (cwV 1 hts gX5_settlePart_X5_isPromise rfl rfl rfl (by decide +kernel) ⟨Nat.le_of_ble_eq_true rfl, Nat.le_of_ble_eq_true rfl⟩) ⟨pcR_blind, va_recv hK hP (ci := 5) (q0 := 0) rfl rfl, pcR_of hP hK⟩ rfl rfl hl.1 rfl (lv_room (Nat.le_of_ble_eq_true rfl)) dX5_settlePart_7 ⟨(Nat.zero_le _), (Nat.zero_le _)⟩) (fun r1 hr1 => ?_)
  subst hr1
  refine wi_top (y := (if 0 ≤ (p) ∧ (p) < σ 0 1 then (1 : Int) else 0)) rfl ?_
  refine wi_if_ne (tgt := 19) hx hb dX5_settlePart_10 (by decide) (by omega) (fun c_10 => ?_) (fun c_10 => ?_)
  · skip
    have hpr := (hI.pr (p := p) (by omega) (by omega)).p0
    obtain ⟨hp1, hp2, hp3, hp4⟩ := id hpr
    obtain ⟨hq0, hq1, hq2, hq3, hq4⟩ := hR.2.2.2 p (by omega) (by omega)
    have ha9 : aI (σ 7 p) = if σ 7 p < 0 then -σ 7 p else σ 7 p := rfl
    have hx9 : prtX σ p q = if σ 7 p < 0 then -q else q := rfl
    refine lv_aload_n hx hb dX5_settlePart_19 rfl (lv_at hl 0 rfl) ?_
    refine lv_iload_n hx hb dX5_settlePart_20 rfl (lv_at hl 1 rfl) ?_
    refine wi_iconst hx hb dX5_settlePart_21 ?_
    refine wr_calli (va_runV (As := [.int (iI (p)), .int (iI (2))]) (rest := []) ⟨hx, hb, hml, hown, hts⟩ (c_X5_of l D cI cO cC cL b (sU μ 0 (2) (0)) (p) (2) (by omega) (by omega)) (cwV 2 hts gX5_settlePart_X5_of rfl rfl rfl (by decide +kernel) ⟨Nat.le_of_ble_eq_true rfl, Nat.le_of_ble_eq_true rfl⟩) ⟨pcR_blind, va_recv hK hP (ci := 5) (q0 := 0) rfl rfl, pcR_of hP hK⟩ rfl rfl hl.1 rfl (lv_room (Nat.le_of_ble_eq_true rfl)) dX5_settlePart_22 ⟨(Nat.zero_le _), (Nat.zero_le _)⟩) (fun r2 hr2 => ?_)
    subst hr2
    refine wi_top (y := (μ 1 (35 + 5 * (p) + (2)))) rfl ?_
    refine lv_istore_n (lv' := [(3, .int (iI ((μ 1 (35 + 5 * (p) + (2)))))), (0, .ref (b 0)), (1, .int (iI (p))), (2, .int (iI (q)))]) hx hb dX5_settlePart_25 rfl hl (by decide) rfl (fun ls hl => ?_)
    refine lv_iload_n hx hb dX5_settlePart_26 rfl (lv_at hl 3 rfl) ?_
    refine wi_iconst hx hb dX5_settlePart_27 ?_
    refine lv_iload_n hx hb dX5_settlePart_28 rfl (lv_at hl 0 rfl) ?_
    refine wi_if_ge (tgt := 37) hx hb dX5_settlePart_29 (by decide) (by omega) (fun c_29 => ?_) (fun c_29 => ?_)
    · skip
      refine lv_iload_n hx hb dX5_settlePart_37 rfl (lv_at hl 0 rfl) ?_
      refine wi_iconst hx hb dX5_settlePart_38 ?_
      refine wi_isub hx hb dX5_settlePart_39 ?_
      refine wr_calli (va_runS (As := [.int (iI (q)), .int (iI (1)), .int (iI (((μ 1 (35 + 5 * (p) + (2))) - 1)))]) (rest := []) ⟨hx, hb, hml, hown, hts⟩ (c_X5_in l D cI cO cC cL (q) (1) (((μ 1 (35 + 5 * (p) + (2))) - 1)) (by omega) (by omega) (by omega)) (cwS 3 hts gX5_settlePart_X5_in rfl rfl rfl (by decide +kernel) ⟨Nat.le_of_ble_eq_true rfl, Nat.le_of_ble_eq_true rfl⟩) ⟨fun _ _ _ _ h => h, fun U hU hW => ⟨rfl, trivial⟩⟩ rfl rfl hl.1 rfl (lv_room (Nat.le_of_ble_eq_true rfl)) dX5_settlePart_40 ⟨(Nat.zero_le _), (Nat.zero_le _)⟩) (fun r3 hr3 => ?_)
      subst hr3
      refine wi_if_ne (tgt := 52) hx hb dX5_settlePart_43 (by decide) (by omega) (fun c_43 => ?_) (fun c_43 => ?_)
      · skip
        refine lv_aload_n hx hb dX5_settlePart_52 rfl (lv_at hl 1 rfl) ?_
        have hFc := fl_free (SC := [mdW cI b (sU μ 0 (2) (0))]) hD hS hA [0] rfl
        refine va_callv (va_runV (As := []) (rest := []) ⟨hx, hb, hml, hown, hts⟩ (c_X5_saves l D cI cO cC cL H.size b (sU μ 0 (2) (0)) σ ss (hG.2.1) (by omega) (hR) (hM.2.2.1) (hG.2.2.1)) (cwV 0 hts gX5_settlePart_X5_saves rfl rfl rfl (by decide +kernel) ⟨Nat.le_of_ble_eq_true rfl, Nat.le_of_ble_eq_true rfl⟩) ⟨pcW_blind, va_recv hK hP (ci := 5) (q0 := 0) rfl rfl, pcW_of hP hK hD⟩ rfl rfl hl.1 rfl (lv_room (Nat.le_of_ble_eq_true rfl)) dX5_settlePart_53 ⟨(Nat.zero_le _), (Nat.zero_le _)⟩) hS (fun q _ h => hFc q h) hFc (fun  u5 t9 H1 locs ht9 hvm hcl4 hB hz1 hk1 hS => ?_)
        obtain ⟨hP1, hK1, hD1⟩ := hB
        rw [ht9] at hP1
        obtain ⟨hP, hD⟩ := fl_join (SR := []) (S1 := [mdW cI b (sU (sR (sU μ 0 (2) (0)) 2 u5) 0 0 (pushK ((sU μ 0 (2) (0)) 0 0)))]) hP hD [0] [] rfl rfl (by decide) (by decide) hk1 hFc hP1 hD1
        generalize H1 = H at hP hS ⊢
        have hP : va_P D vwCl (fl [mdW cI b (sU (sR (sU μ 0 (2) (0)) 2 u5) 0 0 (pushK ((sU μ 0 (2) (0)) 0 0)))]) H := hP
        have hD : va_D A (fl [mdW cI b (sU (sR (sU μ 0 (2) (0)) 2 u5) 0 0 (pushK ((sU μ 0 (2) (0)) 0 0)))]) := hD
        refine lv_iload_n hx hb dX5_settlePart_56 rfl (lv_at hl 0 rfl) ?_
        refine wi_if_ge (tgt := 65) hx hb dX5_settlePart_57 (by decide) (by omega) (fun c_57 => ?_) (fun c_57 => ?_)
        · skip
          refine lv_iload_n hx hb dX5_settlePart_65 rfl (lv_at hl 3 rfl) ?_
          refine lv_istore (lv' := [(4, .int (iI (q))), (3, .int (iI ((μ 1 (35 + 5 * (p) + (2)))))), (0, .ref (b 0)), (1, .int (iI (p))), (2, .int (iI (q)))]) hx hb dX5_settlePart_66 hl (by decide) rfl (fun ls hl => ?_)
          refine lv_aload_n hx hb dX5_settlePart_68 rfl (lv_at hl 2 rfl) ?_
          refine lv_iload_n hx hb dX5_settlePart_69 rfl (lv_at hl 3 rfl) ?_
          refine lv_iload hx hb dX5_settlePart_70 (lv_at hl 0 rfl) ?_
          have hFc := fl_free (SC := [mdW cI b (sU (sR (sU μ 0 (2) (0)) 2 u5) 0 0 (pushK ((sU μ 0 (2) (0)) 0 0)))]) hD hS hA [0] rfl
          refine va_callv (va_runV (As := [.int (iI (p)), .int (iI (q))]) (rest := []) ⟨hx, hb, hml, hown, hts⟩ (c_X5_adds l D cI cO cC cL H.size b (sU (sR (sU μ 0 (2) (0)) 2 u5) 0 0 (pushK ((sU μ 0 (2) (0)) 0 0))) σ (p) (q) (by omega) (hpr) (hR)) (cwV 2 hts gX5_settlePart_X5_adds rfl rfl rfl (by decide +kernel) ⟨Nat.le_of_ble_eq_true rfl, Nat.le_of_ble_eq_true rfl⟩) ⟨pcW_blind, va_recv hK hP (ci := 5) (q0 := 0) rfl rfl, pcW_of hP hK hD⟩ rfl rfl hl.1 rfl (lv_room (Nat.le_of_ble_eq_true rfl)) dX5_settlePart_72 ⟨(Nat.zero_le _), (Nat.zero_le _)⟩) hS (fun q _ h => hFc q h) hFc (fun  u7 t9 H1 locs ht9 hvm hcl6 hB hz1 hk1 hS => ?_)
          obtain ⟨hP1, hK1, hD1⟩ := hB
          rw [ht9] at hP1
          obtain ⟨hP, hD⟩ := fl_join (SR := []) (S1 := [mdW cI b (sR (sU (sR (sU μ 0 (2) (0)) 2 u5) 0 0 (pushK ((sU μ 0 (2) (0)) 0 0))) 1 u7)]) hP hD [0] [] rfl rfl (by decide) (by decide) hk1 hFc hP1 hD1
          generalize H1 = H at hP hS ⊢
          have hP : va_P D vwCl (fl [mdW cI b (sR (sU (sR (sU μ 0 (2) (0)) 2 u5) 0 0 (pushK ((sU μ 0 (2) (0)) 0 0))) 1 u7)]) H := hP
          have hD : va_D A (fl [mdW cI b (sR (sU (sR (sU μ 0 (2) (0)) 2 u5) 0 0 (pushK ((sU μ 0 (2) (0)) 0 0))) 1 u7)]) := hD
          refine lv_aload_n hx hb dX5_settlePart_75 rfl (lv_at hl 2 rfl) ?_
          refine va_get (D := D) (ci := 5) (v := .ref (b 1)) (C := RX5) (T := TX5) (N := 12) hx hb hts hin_X5 hown hK hP 0 rfl rfl 0 (by decide) hw_1 (fun _ h9 => h9) rfl dX5_settlePart_76 ?_
          refine wi_bipush hx hb dX5_settlePart_79 (by decide) ?_
          refine wi_iconst hx hb dX5_settlePart_81 ?_
          refine lv_iload_n hx hb dX5_settlePart_82 rfl (lv_at hl 3 rfl) ?_
          refine wi_imul hx hb dX5_settlePart_83 ?_
          refine wi_iadd hx hb dX5_settlePart_84 ?_
          refine wi_iconst hx hb dX5_settlePart_85 ?_
          refine wi_iadd hx hb dX5_settlePart_86 ?_
          refine lv_dup2_11 hx hb dX5_settlePart_87 rfl rfl ?_
          refine wi_iald hx hb hK hP 1 0 (n := 115) (f := u7) rfl rfl (i := ((35 + (5 * p)) + 2)) (by omega) (by decide) dX5_settlePart_88 ?_
          refine lv_iload hx hb dX5_settlePart_89 (lv_at hl 0 rfl) ?_
          refine wi_isub hx hb dX5_settlePart_91 ?_
          refine wi_iast hx hb hK hP hD hS 1 0 (n := 115) (f := u7) rfl rfl (i := ((35 + (5 * p)) + 2)) (by omega) (by decide) dX5_settlePart_92 (fun H locs hP hD hS => ?_)
          have hP : va_P D vwCl (fl [mdW cI b (sU (sR (sU (sR (sU μ 0 (2) (0)) 2 u5) 0 0 (pushK ((sU μ 0 (2) (0)) 0 0))) 1 u7) 1 (((35 + (5 * p)) + 2)) (((u7 (((35 + (5 * p)) + 2))) - q)))]) H := hP
          have hD : va_D A (fl [mdW cI b (sU (sR (sU (sR (sU μ 0 (2) (0)) 2 u5) 0 0 (pushK ((sU μ 0 (2) (0)) 0 0))) 1 u7) 1 (((35 + (5 * p)) + 2)) (((u7 (((35 + (5 * p)) + 2))) - q)))]) := hD
          refine lv_aload_n hx hb dX5_settlePart_93 rfl (lv_at hl 2 rfl) ?_
          refine lv_iload_n hx hb dX5_settlePart_94 rfl (lv_at hl 3 rfl) ?_
          refine wi_iconst hx hb dX5_settlePart_95 ?_
          refine wr_calli (va_runV (As := [.int (iI (p)), .int (iI (2))]) (rest := []) ⟨hx, hb, hml, hown, hts⟩ (c_X5_of l D cI cO cC cL b (sU (sR (sU (sR (sU μ 0 (2) (0)) 2 u5) 0 0 (pushK ((sU μ 0 (2) (0)) 0 0))) 1 u7) 1 (((35 + (5 * p)) + 2)) (((u7 (((35 + (5 * p)) + 2))) - q))) (p) (2) (by omega) (by omega)) (cwV 2 hts gX5_settlePart_X5_of rfl rfl rfl (by decide +kernel) ⟨Nat.le_of_ble_eq_true rfl, Nat.le_of_ble_eq_true rfl⟩) ⟨pcR_blind, va_recv hK hP (ci := 5) (q0 := 0) rfl rfl, pcR_of hP hK⟩ rfl rfl hl.1 rfl (lv_room (Nat.le_of_ble_eq_true rfl)) dX5_settlePart_96 ⟨(Nat.zero_le _), (Nat.zero_le _)⟩) (fun r8 hr8 => ?_)
          subst hr8
          refine wi_top (y := (((uI (u7) (((35 + (5 * p)) + 2)) (((u7 (((35 + (5 * p)) + 2))) - q)))) (35 + 5 * (p) + (2)))) rfl ?_
          exact W.iret (v := iI ((((uI (u7) (((35 + (5 * p)) + 2)) (((u7 (((35 + (5 * p)) + 2))) - q)))) (35 + 5 * (p) + (2))))) hx hb hr (fun t9 ht9 hW9 => ⟨⟨((((uI (u7) (((35 + (5 * p)) + 2)) (((u7 (((35 + (5 * p)) + 2))) - q)))) (35 + 5 * (p) + (2)))), (sU (sR (sU (sR (sU μ 0 (2) (0)) 2 u5) 0 0 (pushK ((sU μ 0 (2) (0)) 0 0))) 1 u7) 1 (((35 + (5 * p)) + 2)) (((u7 (((35 + (5 * p)) + 2))) - q))), rfl, (OPQ.good (by unfold cd2; first | (rw [if_pos (by omega)] <;> rfl) | (rw [if_neg (by omega), if_pos (by omega)] <;> rfl) | (rw [if_neg (by omega), if_neg (by omega)] <;> rfl)) rfl (by rw [uI_e (by omega), (hcl6.2.2.2 p (by omega) (by show p < σ 0 1; omega)).2.2.1]; show σ 7 p - _ = _; rw [hx9]; first | rw [if_pos (by omega)] | rw [if_neg (by omega)]) (⟨by have hz := hcl6; have hx : prtX σ p q = q := (by rw [hx9]; first | rw [if_pos (by omega)] | rw [if_neg (by omega)]); have h9 := RelN_fld hz (by show σ 0 1 ≤ 16; omega) (p := p) (w := 2) (x := σ 7 p - q) (R := 7) (by show 0 ≤ p ∧ p < σ 0 1; omega) (by omega); unfold prtS; rw [hx]; show RelN _ (uI u7 (35 + 5 * p + 2) (u7 (35 + 5 * p + 2) - q)); rw [(hz.2.2.2 p (by omega) (by show p < σ 0 1; omega)).2.2.1]; exact h9, rfl, hcl4, rfl, hM.2.2.2.2⟩)), ⟨by rw [ht9]; exact hP, va_K.moved hW9.alike hK, hD⟩⟩, hS.F ht9⟩) hS.2.2 dX5_settlePart_99 hlocks
        · skip
          exfalso; omega
      · skip
        refine lv_aload_n hx hb dX5_settlePart_46 rfl (lv_at hl 1 rfl) ?_
        refine wi_iconst hx hb dX5_settlePart_47 ?_
        have hFc := fl_free (SC := [mdW cI b (sU μ 0 (2) (0))]) hD hS hA [0] rfl
        refine wq_calli (va_runV (As := [.int (iI (2))]) (rest := []) ⟨hx, hb, hml, hown, hts⟩ (c_X5_fails l D cI cO cC cL H.size b (sU μ 0 (2) (0)) (2) ) (cwV 1 hts gX5_settlePart_X5_fails rfl rfl rfl (by decide +kernel) ⟨Nat.le_of_ble_eq_true rfl, Nat.le_of_ble_eq_true rfl⟩) ⟨pcW_blind, va_recv hK hP (ci := 5) (q0 := 0) rfl rfl, pcW_of hP hK hD⟩ rfl rfl hl.1 rfl (lv_room (Nat.le_of_ble_eq_true rfl)) dX5_settlePart_48 ⟨(Nat.zero_le _), (Nat.zero_le _)⟩) hS (fun q _ h => hFc q h) hFc (fun r9 u11 t9 H1 locs ht9 hvm hcl10 hB hz1 hk1 hS => ?_)
        obtain ⟨hP1, hK1, hD1⟩ := hB
        rw [ht9] at hP1
        obtain ⟨hP, hD⟩ := fl_join (SR := []) (S1 := [mdW cI b (sU (sU μ 0 (2) (0)) 0 2 (2))]) hP hD [0] [] rfl rfl (by decide) (by decide) hk1 hFc hP1 hD1
        generalize H1 = H at hP hS ⊢
        have hP : va_P D vwCl (fl [mdW cI b (sU (sU μ 0 (2) (0)) 0 2 (2))]) H := hP
        have hD : va_D A (fl [mdW cI b (sU (sU μ 0 (2) (0)) 0 2 (2))]) := hD
        exact W.iret (v := iI (r9)) hx hb hr (fun t9 ht9 hW9 => ⟨⟨(r9), (sU (sU μ 0 (2) (0)) 0 2 (2)), rfl, (OPQ.bad (k := 2) (by unfold cd2; first | (rw [if_pos (by omega)] <;> rfl) | (rw [if_neg (by omega), if_pos (by omega)] <;> rfl) | (rw [if_neg (by omega), if_neg (by omega)] <;> rfl)) (by decide) rfl hM), ⟨by rw [ht9]; exact hP, va_K.moved hW9.alike hK, hD⟩⟩, hS.F ht9⟩) hS.2.2 dX5_settlePart_51 hlocks
    · skip
      refine lv_iload_n hx hb dX5_settlePart_32 rfl (lv_at hl 0 rfl) ?_
      refine wi_ineg hx hb dX5_settlePart_33 ?_
      refine lv_goto (tgt := 38) hx hb dX5_settlePart_34 (by decide) ?_
      refine wi_iconst hx hb dX5_settlePart_38 ?_
      refine wi_isub hx hb dX5_settlePart_39 ?_
      refine wr_calli (va_runS (As := [.int (iI (q)), .int (iI (1)), .int (iI (((-(μ 1 (35 + 5 * (p) + (2)))) - 1)))]) (rest := []) ⟨hx, hb, hml, hown, hts⟩ (c_X5_in l D cI cO cC cL (q) (1) (((-(μ 1 (35 + 5 * (p) + (2)))) - 1)) (by omega) (by omega) (by omega)) (cwS 3 hts gX5_settlePart_X5_in rfl rfl rfl (by decide +kernel) ⟨Nat.le_of_ble_eq_true rfl, Nat.le_of_ble_eq_true rfl⟩) ⟨fun _ _ _ _ h => h, fun U hU hW => ⟨rfl, trivial⟩⟩ rfl rfl hl.1 rfl (lv_room (Nat.le_of_ble_eq_true rfl)) dX5_settlePart_40 ⟨(Nat.zero_le _), (Nat.zero_le _)⟩) (fun r12 hr12 => ?_)
      subst hr12
      refine wi_if_ne (tgt := 52) hx hb dX5_settlePart_43 (by decide) (by omega) (fun c_43 => ?_) (fun c_43 => ?_)
      · skip
        refine lv_aload_n hx hb dX5_settlePart_52 rfl (lv_at hl 1 rfl) ?_
        have hFc := fl_free (SC := [mdW cI b (sU μ 0 (2) (0))]) hD hS hA [0] rfl
        refine va_callv (va_runV (As := []) (rest := []) ⟨hx, hb, hml, hown, hts⟩ (c_X5_saves l D cI cO cC cL H.size b (sU μ 0 (2) (0)) σ ss (hG.2.1) (by omega) (hR) (hM.2.2.1) (hG.2.2.1)) (cwV 0 hts gX5_settlePart_X5_saves rfl rfl rfl (by decide +kernel) ⟨Nat.le_of_ble_eq_true rfl, Nat.le_of_ble_eq_true rfl⟩) ⟨pcW_blind, va_recv hK hP (ci := 5) (q0 := 0) rfl rfl, pcW_of hP hK hD⟩ rfl rfl hl.1 rfl (lv_room (Nat.le_of_ble_eq_true rfl)) dX5_settlePart_53 ⟨(Nat.zero_le _), (Nat.zero_le _)⟩) hS (fun q _ h => hFc q h) hFc (fun  u14 t9 H1 locs ht9 hvm hcl13 hB hz1 hk1 hS => ?_)
        obtain ⟨hP1, hK1, hD1⟩ := hB
        rw [ht9] at hP1
        obtain ⟨hP, hD⟩ := fl_join (SR := []) (S1 := [mdW cI b (sU (sR (sU μ 0 (2) (0)) 2 u14) 0 0 (pushK ((sU μ 0 (2) (0)) 0 0)))]) hP hD [0] [] rfl rfl (by decide) (by decide) hk1 hFc hP1 hD1
        generalize H1 = H at hP hS ⊢
        have hP : va_P D vwCl (fl [mdW cI b (sU (sR (sU μ 0 (2) (0)) 2 u14) 0 0 (pushK ((sU μ 0 (2) (0)) 0 0)))]) H := hP
        have hD : va_D A (fl [mdW cI b (sU (sR (sU μ 0 (2) (0)) 2 u14) 0 0 (pushK ((sU μ 0 (2) (0)) 0 0)))]) := hD
        refine lv_iload_n hx hb dX5_settlePart_56 rfl (lv_at hl 0 rfl) ?_
        refine wi_if_ge (tgt := 65) hx hb dX5_settlePart_57 (by decide) (by omega) (fun c_57 => ?_) (fun c_57 => ?_)
        · skip
          exfalso; omega
        · skip
          refine lv_iload_n hx hb dX5_settlePart_60 rfl (lv_at hl 3 rfl) ?_
          refine wi_ineg hx hb dX5_settlePart_61 ?_
          refine lv_goto (tgt := 66) hx hb dX5_settlePart_62 (by decide) ?_
          refine lv_istore (lv' := [(4, .int (iI ((-q)))), (3, .int (iI ((μ 1 (35 + 5 * (p) + (2)))))), (0, .ref (b 0)), (1, .int (iI (p))), (2, .int (iI (q)))]) hx hb dX5_settlePart_66 hl (by decide) rfl (fun ls hl => ?_)
          refine lv_aload_n hx hb dX5_settlePart_68 rfl (lv_at hl 2 rfl) ?_
          refine lv_iload_n hx hb dX5_settlePart_69 rfl (lv_at hl 3 rfl) ?_
          refine lv_iload hx hb dX5_settlePart_70 (lv_at hl 0 rfl) ?_
          have hFc := fl_free (SC := [mdW cI b (sU (sR (sU μ 0 (2) (0)) 2 u14) 0 0 (pushK ((sU μ 0 (2) (0)) 0 0)))]) hD hS hA [0] rfl
          refine va_callv (va_runV (As := [.int (iI (p)), .int (iI ((-q)))]) (rest := []) ⟨hx, hb, hml, hown, hts⟩ (c_X5_adds l D cI cO cC cL H.size b (sU (sR (sU μ 0 (2) (0)) 2 u14) 0 0 (pushK ((sU μ 0 (2) (0)) 0 0))) σ (p) ((-q)) (by omega) (hpr) (hR)) (cwV 2 hts gX5_settlePart_X5_adds rfl rfl rfl (by decide +kernel) ⟨Nat.le_of_ble_eq_true rfl, Nat.le_of_ble_eq_true rfl⟩) ⟨pcW_blind, va_recv hK hP (ci := 5) (q0 := 0) rfl rfl, pcW_of hP hK hD⟩ rfl rfl hl.1 rfl (lv_room (Nat.le_of_ble_eq_true rfl)) dX5_settlePart_72 ⟨(Nat.zero_le _), (Nat.zero_le _)⟩) hS (fun q _ h => hFc q h) hFc (fun  u16 t9 H1 locs ht9 hvm hcl15 hB hz1 hk1 hS => ?_)
          obtain ⟨hP1, hK1, hD1⟩ := hB
          rw [ht9] at hP1
          obtain ⟨hP, hD⟩ := fl_join (SR := []) (S1 := [mdW cI b (sR (sU (sR (sU μ 0 (2) (0)) 2 u14) 0 0 (pushK ((sU μ 0 (2) (0)) 0 0))) 1 u16)]) hP hD [0] [] rfl rfl (by decide) (by decide) hk1 hFc hP1 hD1
          generalize H1 = H at hP hS ⊢
          have hP : va_P D vwCl (fl [mdW cI b (sR (sU (sR (sU μ 0 (2) (0)) 2 u14) 0 0 (pushK ((sU μ 0 (2) (0)) 0 0))) 1 u16)]) H := hP
          have hD : va_D A (fl [mdW cI b (sR (sU (sR (sU μ 0 (2) (0)) 2 u14) 0 0 (pushK ((sU μ 0 (2) (0)) 0 0))) 1 u16)]) := hD
          refine lv_aload_n hx hb dX5_settlePart_75 rfl (lv_at hl 2 rfl) ?_
          refine va_get (D := D) (ci := 5) (v := .ref (b 1)) (C := RX5) (T := TX5) (N := 12) hx hb hts hin_X5 hown hK hP 0 rfl rfl 0 (by decide) hw_1 (fun _ h9 => h9) rfl dX5_settlePart_76 ?_
          refine wi_bipush hx hb dX5_settlePart_79 (by decide) ?_
          refine wi_iconst hx hb dX5_settlePart_81 ?_
          refine lv_iload_n hx hb dX5_settlePart_82 rfl (lv_at hl 3 rfl) ?_
          refine wi_imul hx hb dX5_settlePart_83 ?_
          refine wi_iadd hx hb dX5_settlePart_84 ?_
          refine wi_iconst hx hb dX5_settlePart_85 ?_
          refine wi_iadd hx hb dX5_settlePart_86 ?_
          refine lv_dup2_11 hx hb dX5_settlePart_87 rfl rfl ?_
          refine wi_iald hx hb hK hP 1 0 (n := 115) (f := u16) rfl rfl (i := ((35 + (5 * p)) + 2)) (by omega) (by decide) dX5_settlePart_88 ?_
          refine lv_iload hx hb dX5_settlePart_89 (lv_at hl 0 rfl) ?_
          refine wi_isub hx hb dX5_settlePart_91 ?_
          refine wi_iast hx hb hK hP hD hS 1 0 (n := 115) (f := u16) rfl rfl (i := ((35 + (5 * p)) + 2)) (by omega) (by decide) dX5_settlePart_92 (fun H locs hP hD hS => ?_)
          have hP : va_P D vwCl (fl [mdW cI b (sU (sR (sU (sR (sU μ 0 (2) (0)) 2 u14) 0 0 (pushK ((sU μ 0 (2) (0)) 0 0))) 1 u16) 1 (((35 + (5 * p)) + 2)) (((u16 (((35 + (5 * p)) + 2))) - (-q))))]) H := hP
          have hD : va_D A (fl [mdW cI b (sU (sR (sU (sR (sU μ 0 (2) (0)) 2 u14) 0 0 (pushK ((sU μ 0 (2) (0)) 0 0))) 1 u16) 1 (((35 + (5 * p)) + 2)) (((u16 (((35 + (5 * p)) + 2))) - (-q))))]) := hD
          refine lv_aload_n hx hb dX5_settlePart_93 rfl (lv_at hl 2 rfl) ?_
          refine lv_iload_n hx hb dX5_settlePart_94 rfl (lv_at hl 3 rfl) ?_
          refine wi_iconst hx hb dX5_settlePart_95 ?_
          refine wr_calli (va_runV (As := [.int (iI (p)), .int (iI (2))]) (rest := []) ⟨hx, hb, hml, hown, hts⟩ (c_X5_of l D cI cO cC cL b (sU (sR (sU (sR (sU μ 0 (2) (0)) 2 u14) 0 0 (pushK ((sU μ 0 (2) (0)) 0 0))) 1 u16) 1 (((35 + (5 * p)) + 2)) (((u16 (((35 + (5 * p)) + 2))) - (-q)))) (p) (2) (by omega) (by omega)) (cwV 2 hts gX5_settlePart_X5_of rfl rfl rfl (by decide +kernel) ⟨Nat.le_of_ble_eq_true rfl, Nat.le_of_ble_eq_true rfl⟩) ⟨pcR_blind, va_recv hK hP (ci := 5) (q0 := 0) rfl rfl, pcR_of hP hK⟩ rfl rfl hl.1 rfl (lv_room (Nat.le_of_ble_eq_true rfl)) dX5_settlePart_96 ⟨(Nat.zero_le _), (Nat.zero_le _)⟩) (fun r17 hr17 => ?_)
          subst hr17
          refine wi_top (y := (((uI (u16) (((35 + (5 * p)) + 2)) (((u16 (((35 + (5 * p)) + 2))) - (-q))))) (35 + 5 * (p) + (2)))) rfl ?_
          exact W.iret (v := iI ((((uI (u16) (((35 + (5 * p)) + 2)) (((u16 (((35 + (5 * p)) + 2))) - (-q))))) (35 + 5 * (p) + (2))))) hx hb hr (fun t9 ht9 hW9 => ⟨⟨((((uI (u16) (((35 + (5 * p)) + 2)) (((u16 (((35 + (5 * p)) + 2))) - (-q))))) (35 + 5 * (p) + (2)))), (sU (sR (sU (sR (sU μ 0 (2) (0)) 2 u14) 0 0 (pushK ((sU μ 0 (2) (0)) 0 0))) 1 u16) 1 (((35 + (5 * p)) + 2)) (((u16 (((35 + (5 * p)) + 2))) - (-q)))), rfl, (OPQ.good (by unfold cd2; first | (rw [if_pos (by omega)] <;> rfl) | (rw [if_neg (by omega), if_pos (by omega)] <;> rfl) | (rw [if_neg (by omega), if_neg (by omega)] <;> rfl)) rfl (by rw [uI_e (by omega), (hcl15.2.2.2 p (by omega) (by show p < σ 0 1; omega)).2.2.1]; show σ 7 p - _ = _; rw [hx9]; first | rw [if_pos (by omega)] | rw [if_neg (by omega)]) (⟨by have hz := hcl15; have hx : prtX σ p q = (-q) := (by rw [hx9]; first | rw [if_pos (by omega)] | rw [if_neg (by omega)]); have h9 := RelN_fld hz (by show σ 0 1 ≤ 16; omega) (p := p) (w := 2) (x := σ 7 p - (-q)) (R := 7) (by show 0 ≤ p ∧ p < σ 0 1; omega) (by omega); unfold prtS; rw [hx]; show RelN _ (uI u16 (35 + 5 * p + 2) (u16 (35 + 5 * p + 2) - (-q))); rw [(hz.2.2.2 p (by omega) (by show p < σ 0 1; omega)).2.2.1]; exact h9, rfl, hcl13, rfl, hM.2.2.2.2⟩)), ⟨by rw [ht9]; exact hP, va_K.moved hW9.alike hK, hD⟩⟩, hS.F ht9⟩) hS.2.2 dX5_settlePart_99 hlocks
      · skip
        refine lv_aload_n hx hb dX5_settlePart_46 rfl (lv_at hl 1 rfl) ?_
        refine wi_iconst hx hb dX5_settlePart_47 ?_
        have hFc := fl_free (SC := [mdW cI b (sU μ 0 (2) (0))]) hD hS hA [0] rfl
        refine wq_calli (va_runV (As := [.int (iI (2))]) (rest := []) ⟨hx, hb, hml, hown, hts⟩ (c_X5_fails l D cI cO cC cL H.size b (sU μ 0 (2) (0)) (2) ) (cwV 1 hts gX5_settlePart_X5_fails rfl rfl rfl (by decide +kernel) ⟨Nat.le_of_ble_eq_true rfl, Nat.le_of_ble_eq_true rfl⟩) ⟨pcW_blind, va_recv hK hP (ci := 5) (q0 := 0) rfl rfl, pcW_of hP hK hD⟩ rfl rfl hl.1 rfl (lv_room (Nat.le_of_ble_eq_true rfl)) dX5_settlePart_48 ⟨(Nat.zero_le _), (Nat.zero_le _)⟩) hS (fun q _ h => hFc q h) hFc (fun r18 u20 t9 H1 locs ht9 hvm hcl19 hB hz1 hk1 hS => ?_)
        obtain ⟨hP1, hK1, hD1⟩ := hB
        rw [ht9] at hP1
        obtain ⟨hP, hD⟩ := fl_join (SR := []) (S1 := [mdW cI b (sU (sU μ 0 (2) (0)) 0 2 (2))]) hP hD [0] [] rfl rfl (by decide) (by decide) hk1 hFc hP1 hD1
        generalize H1 = H at hP hS ⊢
        have hP : va_P D vwCl (fl [mdW cI b (sU (sU μ 0 (2) (0)) 0 2 (2))]) H := hP
        have hD : va_D A (fl [mdW cI b (sU (sU μ 0 (2) (0)) 0 2 (2))]) := hD
        exact W.iret (v := iI (r18)) hx hb hr (fun t9 ht9 hW9 => ⟨⟨(r18), (sU (sU μ 0 (2) (0)) 0 2 (2)), rfl, (OPQ.bad (k := 2) (by unfold cd2; first | (rw [if_pos (by omega)] <;> rfl) | (rw [if_neg (by omega), if_pos (by omega)] <;> rfl) | (rw [if_neg (by omega), if_neg (by omega)] <;> rfl)) (by decide) rfl hM), ⟨by rw [ht9]; exact hP, va_K.moved hW9.alike hK, hD⟩⟩, hS.F ht9⟩) hS.2.2 dX5_settlePart_51 hlocks
  · skip
    refine lv_aload_n hx hb dX5_settlePart_13 rfl (lv_at hl 0 rfl) ?_
    refine wi_iconst hx hb dX5_settlePart_14 ?_
    have hFc := fl_free (SC := [mdW cI b (sU μ 0 (2) (0))]) hD hS hA [0] rfl
    refine wq_calli (va_runV (As := [.int (iI (1))]) (rest := []) ⟨hx, hb, hml, hown, hts⟩ (c_X5_fails l D cI cO cC cL H.size b (sU μ 0 (2) (0)) (1) ) (cwV 1 hts gX5_settlePart_X5_fails rfl rfl rfl (by decide +kernel) ⟨Nat.le_of_ble_eq_true rfl, Nat.le_of_ble_eq_true rfl⟩) ⟨pcW_blind, va_recv hK hP (ci := 5) (q0 := 0) rfl rfl, pcW_of hP hK hD⟩ rfl rfl hl.1 rfl (lv_room (Nat.le_of_ble_eq_true rfl)) dX5_settlePart_15 ⟨(Nat.zero_le _), (Nat.zero_le _)⟩) hS (fun q _ h => hFc q h) hFc (fun r21 u23 t9 H1 locs ht9 hvm hcl22 hB hz1 hk1 hS => ?_)
    obtain ⟨hP1, hK1, hD1⟩ := hB
    rw [ht9] at hP1
    obtain ⟨hP, hD⟩ := fl_join (SR := []) (S1 := [mdW cI b (sU (sU μ 0 (2) (0)) 0 2 (1))]) hP hD [0] [] rfl rfl (by decide) (by decide) hk1 hFc hP1 hD1
    generalize H1 = H at hP hS ⊢
    have hP : va_P D vwCl (fl [mdW cI b (sU (sU μ 0 (2) (0)) 0 2 (1))]) H := hP
    have hD : va_D A (fl [mdW cI b (sU (sU μ 0 (2) (0)) 0 2 (1))]) := hD
    exact W.iret (v := iI (r21)) hx hb hr (fun t9 ht9 hW9 => ⟨⟨(r21), (sU (sU μ 0 (2) (0)) 0 2 (1)), rfl, (OPQ.bad (k := 1) (by unfold cd2; first | (rw [if_pos (by omega)] <;> rfl) | (rw [if_neg (by omega), if_pos (by omega)] <;> rfl) | (rw [if_neg (by omega), if_neg (by omega)] <;> rfl)) (by decide) rfl hM), ⟨by rw [ht9]; exact hP, va_K.moved hW9.alike hK, hD⟩⟩, hS.F ht9⟩) hS.2.2 dX5_settlePart_18 hlocks
set_option maxHeartbeats 4000000 in
set_option maxRecDepth 100000 in
theorem c_X5_append (l : Launch) (D : va_G) (cI cO cC cL : ClassId) (sz : Nat) (b : Nat → Nat) (μ σ : Nat → Int → Int) (ss : Nat → Nat → Int → Int) (β : Int → Int) (x : Int) (hx : R32 x) (hM : RelM σ (μ 0 0) ss (μ 0 1) β μ) (hG : GI σ (μ 0 0) ss (μ 0 1) β) : Met l yX5_append wsX5_append ({ frames := 1, cells := 0, slots := 0, locals := 22 } : Room) (pcW D [(cI, FieldType.int)] [.ref (b 0), .int (iI (x))] (fl [mdW cI b μ]) sz) (wq_i (fun (r : Int) (μ' : Nat → Int → Int) => OPQ (cd2 (33 ≤ x ∧ x ≤ 126) (μ 0 1 ≠ 60)) r (μ 0 1 + 1) (μ' 0 2) (RelM σ (μ 0 0) ss (μ 0 1) β μ') (RelM σ (μ 0 0) ss (μ 0 1 + 1) (uI β (μ 0 1) x) μ')) (fun (μ' : Nat → Int → Int) => (bW D [(cI, FieldType.int)] (fl [mdW cI b μ']) (va_A (fl [mdW cI b μ]) sz))) (va_A (fl [mdW cI b μ]) sz)) 0 0 (va_A (fl [mdW cI b μ]) sz) := by
  refine Met.ofW (cc := cX5_append) (maxL := 2) (ret := (some .int)) (by decide) rfl ?_
  intro p9 e9 s m args9 below9 meth9 c9 s₁ B hml hv
  obtain ⟨rfl, hsz, hP, hK, hD0⟩ := hv
  have hx := B.exec
  have hb := B.bytes
  have hr := B.returns
  have hts := atoms_spec (ws := wsX5_append) B.pre
  have hown : s.vm.findClass RX5 = some m.cls := findClass_of_methodNamed B.named
  have hlocks := B.notSynchronized
  subst hsz
  have hD := hD0.self (sz := s.heap.size)
  generalize hAe : va_A (fl [mdW cI b μ]) s.heap.size = A at hD ⊢
  have hA : ∀ q : Nat, s.heap.size ≤ q → A q := fun q h => by rw [← hAe]; exact Or.inr h
  have hS : va_S A s.heap s.heap [] := va_S.rf
  have hP : va_P D vwCl (fl [mdW cI b μ]) s.heap := hP
  have hl := lv_entry ([.ref (b 0), .int (iI (x))]) (n := 2) (Nat.le_of_ble_eq_true rfl)
  rw [lg_entry_eq]
  generalize (lg_sl ([.ref (b 0), .int (iI (x))]) ++ List.replicate (2 - (lg_sl ([.ref (b 0), .int (iI (x))])).length) Slot.unset).toArray = ls at hl ⊢
  have hl : lv_has ls 2 [(0, .ref (b 0)), (1, .int (iI (x)))] := hl
  have hw_0 := hts (.fieldLink RX5 25 "PromisedCountersModel" "thrown" "I") (by decide +kernel)
  have hin_X5 : ∀ w ∈ u_ws RX5 TX5 12, w ∈ wsX5_append := by decide +kernel
  have hw_1 := hts (.fieldLink RX5 94 "PromisedCountersModel" "typed" "I") (by decide +kernel)
  have hw_2 := hts (.fieldLink RX5 16 "PromisedCountersModel" "text" "[I") (by decide +kernel)
  have hI := hG.1
  have hR := hM.1
  have hn := hI.n
  have hti := hI.t
  obtain ⟨hm0, hm1, hm2, hm3, hm4⟩ := hR.1
  have hln := hG.2.2.2.1
  have he1 : uI (μ 0) 2 0 1 = μ 0 1 := rfl
  refine lv_aload_n hx hb dX5_append_0 rfl (lv_at hl 0 rfl) ?_
  refine wi_iconst hx hb dX5_append_1 ?_
  refine va_put (D := D) (ci := 5) (v := .int (iI (0))) (ty := .int) (C := RX5) (T := TX5) (N := 12) hx hb hts hin_X5 tyX5 tyX5_ok nmX5 hown hK hP hD hS 0 rfl rfl 5 (by decide) hw_0 (fun _ h9 => h9) rfl (by decide +kernel) rfl rfl (Nat.le_of_ble_eq_true rfl) dX5_append_2 (fun H locs hP hD hS => ?_)
  have hP : va_P D vwCl (fl [mdW cI b (sU μ 0 (2) (0))]) H := hP
  have hD : va_D A (fl [mdW cI b (sU μ 0 (2) (0))]) := hD
  refine lv_iload_n hx hb dX5_append_5 rfl (lv_at hl 1 rfl) ?_
  refine wi_bipush hx hb dX5_append_6 (by decide) ?_
  refine wi_bipush hx hb dX5_append_8 (by decide) ?_
  refine wr_calli (va_runS (As := [.int (iI (x)), .int (iI (33)), .int (iI (126))]) (rest := []) ⟨hx, hb, hml, hown, hts⟩ (c_X5_in l D cI cO cC cL (x) (33) (126) (by omega) (by omega) (by omega)) (cwS 3 hts gX5_append_X5_in rfl rfl rfl (by decide +kernel) ⟨Nat.le_of_ble_eq_true rfl, Nat.le_of_ble_eq_true rfl⟩) ⟨fun _ _ _ _ h => h, fun U hU hW => ⟨rfl, trivial⟩⟩ rfl rfl hl.1 rfl (lv_room (Nat.le_of_ble_eq_true rfl)) dX5_append_10 ⟨(Nat.zero_le _), (Nat.zero_le _)⟩) (fun r1 hr1 => ?_)
  subst hr1
  refine wi_if_ne (tgt := 22) hx hb dX5_append_13 (by decide) (by omega) (fun c_13 => ?_) (fun c_13 => ?_)
  · skip
    refine lv_aload_n hx hb dX5_append_22 rfl (lv_at hl 0 rfl) ?_
    refine va_get (D := D) (ci := 5) (v := .int (iI (((uI (μ 0) (2) (0)) 1)))) (C := RX5) (T := TX5) (N := 12) hx hb hts hin_X5 hown hK hP 0 rfl rfl 4 (by decide) hw_1 (fun _ h9 => h9) rfl dX5_append_23 ?_
    refine wi_bipush hx hb dX5_append_26 (by decide) ?_
    refine wi_icmp_ne (tgt := 37) hx hb dX5_append_28 (by decide) (by omega) (fun c_28 => ?_) (fun c_28 => ?_)
    · skip
      refine lv_aload_n hx hb dX5_append_37 rfl (lv_at hl 0 rfl) ?_
      refine va_get (D := D) (ci := 5) (v := .ref (b 3)) (C := RX5) (T := TX5) (N := 12) hx hb hts hin_X5 hown hK hP 0 rfl rfl 3 (by decide) hw_2 (fun _ h9 => h9) rfl dX5_append_38 ?_
      refine lv_aload_n hx hb dX5_append_41 rfl (lv_at hl 0 rfl) ?_
      refine va_get (D := D) (ci := 5) (v := .int (iI (((uI (μ 0) (2) (0)) 1)))) (C := RX5) (T := TX5) (N := 12) hx hb hts hin_X5 hown hK hP 0 rfl rfl 4 (by decide) hw_1 (fun _ h9 => h9) rfl dX5_append_42 ?_
      refine lv_iload_n hx hb dX5_append_45 rfl (lv_at hl 1 rfl) ?_
      refine wi_iast hx hb hK hP hD hS 3 0 (n := 60) (f := μ 3) rfl rfl (i := ((uI (μ 0) (2) (0)) 1)) (by omega) (by decide) dX5_append_46 (fun H locs hP hD hS => ?_)
      have hP : va_P D vwCl (fl [mdW cI b (sU (sU μ 0 (2) (0)) 3 (((uI (μ 0) (2) (0)) 1)) (x))]) H := hP
      have hD : va_D A (fl [mdW cI b (sU (sU μ 0 (2) (0)) 3 (((uI (μ 0) (2) (0)) 1)) (x))]) := hD
      refine lv_aload_n hx hb dX5_append_47 rfl (lv_at hl 0 rfl) ?_
      refine lv_dup hx hb dX5_append_48 rfl ?_
      refine va_get (D := D) (ci := 5) (v := .int (iI (((uI (μ 0) (2) (0)) 1)))) (C := RX5) (T := TX5) (N := 12) hx hb hts hin_X5 hown hK hP 0 rfl rfl 4 (by decide) hw_1 (fun _ h9 => h9) rfl dX5_append_49 ?_
      refine wi_iconst hx hb dX5_append_52 ?_
      refine wi_iadd hx hb dX5_append_53 ?_
      refine va_put (D := D) (ci := 5) (v := .int (iI ((((uI (μ 0) (2) (0)) 1) + 1)))) (ty := .int) (C := RX5) (T := TX5) (N := 12) hx hb hts hin_X5 tyX5 tyX5_ok nmX5 hown hK hP hD hS 0 rfl rfl 4 (by decide) hw_1 (fun _ h9 => h9) rfl (by decide +kernel) rfl rfl (Nat.le_of_ble_eq_true rfl) dX5_append_54 (fun H locs hP hD hS => ?_)
      have hP : va_P D vwCl (fl [mdW cI b (sU (sU (sU μ 0 (2) (0)) 3 (((uI (μ 0) (2) (0)) 1)) (x)) 0 (1) ((((uI (μ 0) (2) (0)) 1) + 1)))]) H := hP
      have hD : va_D A (fl [mdW cI b (sU (sU (sU μ 0 (2) (0)) 3 (((uI (μ 0) (2) (0)) 1)) (x)) 0 (1) ((((uI (μ 0) (2) (0)) 1) + 1)))]) := hD
      refine lv_aload_n hx hb dX5_append_57 rfl (lv_at hl 0 rfl) ?_
      refine va_get (D := D) (ci := 5) (v := .int (iI (((uI ((uI (μ 0) (2) (0))) (1) ((((uI (μ 0) (2) (0)) 1) + 1))) 1)))) (C := RX5) (T := TX5) (N := 12) hx hb hts hin_X5 hown hK hP 0 rfl rfl 4 (by decide) hw_1 (fun _ h9 => h9) rfl dX5_append_58 ?_
      exact W.iret (v := iI (((uI ((uI (μ 0) (2) (0))) (1) ((((uI (μ 0) (2) (0)) 1) + 1))) 1))) hx hb hr (fun t9 ht9 hW9 => ⟨⟨(((uI ((uI (μ 0) (2) (0))) (1) ((((uI (μ 0) (2) (0)) 1) + 1))) 1)), (sU (sU (sU μ 0 (2) (0)) 3 (((uI (μ 0) (2) (0)) 1)) (x)) 0 (1) ((((uI (μ 0) (2) (0)) 1) + 1))), rfl, (OPQ.good (by unfold cd2; first | (rw [if_pos (by omega)] <;> rfl) | (rw [if_neg (by omega), if_pos (by omega)] <;> rfl) | (rw [if_neg (by omega), if_neg (by omega)] <;> rfl)) rfl (rfl) (⟨hM.1, rfl, hM.2.2.1, rfl, fun j j0 j1 => (Decidable.em (j = μ 0 1)).elim (fun q => by rw [q, uI_s]; exact uI_s _ _ _) (fun q => by rw [uI_n q]; exact (uI_n q).trans (hM.2.2.2.2 j j0 (by omega)))⟩)), ⟨by rw [ht9]; exact hP, va_K.moved hW9.alike hK, hD⟩⟩, hS.F ht9⟩) hS.2.2 dX5_append_61 hlocks
    · skip
      refine lv_aload_n hx hb dX5_append_31 rfl (lv_at hl 0 rfl) ?_
      refine wi_iconst hx hb dX5_append_32 ?_
      have hFc := fl_free (SC := [mdW cI b (sU μ 0 (2) (0))]) hD hS hA [0] rfl
      refine wq_calli (va_runV (As := [.int (iI (2))]) (rest := []) ⟨hx, hb, hml, hown, hts⟩ (c_X5_fails l D cI cO cC cL H.size b (sU μ 0 (2) (0)) (2) ) (cwV 1 hts gX5_append_X5_fails rfl rfl rfl (by decide +kernel) ⟨Nat.le_of_ble_eq_true rfl, Nat.le_of_ble_eq_true rfl⟩) ⟨pcW_blind, va_recv hK hP (ci := 5) (q0 := 0) rfl rfl, pcW_of hP hK hD⟩ rfl rfl hl.1 rfl (lv_room (Nat.le_of_ble_eq_true rfl)) dX5_append_33 ⟨(Nat.zero_le _), (Nat.zero_le _)⟩) hS (fun q _ h => hFc q h) hFc (fun r2 u4 t9 H1 locs ht9 hvm hcl3 hB hz1 hk1 hS => ?_)
      obtain ⟨hP1, hK1, hD1⟩ := hB
      rw [ht9] at hP1
      obtain ⟨hP, hD⟩ := fl_join (SR := []) (S1 := [mdW cI b (sU (sU μ 0 (2) (0)) 0 2 (2))]) hP hD [0] [] rfl rfl (by decide) (by decide) hk1 hFc hP1 hD1
      generalize H1 = H at hP hS ⊢
      have hP : va_P D vwCl (fl [mdW cI b (sU (sU μ 0 (2) (0)) 0 2 (2))]) H := hP
      have hD : va_D A (fl [mdW cI b (sU (sU μ 0 (2) (0)) 0 2 (2))]) := hD
      exact W.iret (v := iI (r2)) hx hb hr (fun t9 ht9 hW9 => ⟨⟨(r2), (sU (sU μ 0 (2) (0)) 0 2 (2)), rfl, (OPQ.bad (k := 2) (by unfold cd2; first | (rw [if_pos (by omega)] <;> rfl) | (rw [if_neg (by omega), if_pos (by omega)] <;> rfl) | (rw [if_neg (by omega), if_neg (by omega)] <;> rfl)) (by decide) rfl hM), ⟨by rw [ht9]; exact hP, va_K.moved hW9.alike hK, hD⟩⟩, hS.F ht9⟩) hS.2.2 dX5_append_36 hlocks
  · skip
    refine lv_aload_n hx hb dX5_append_16 rfl (lv_at hl 0 rfl) ?_
    refine wi_iconst hx hb dX5_append_17 ?_
    have hFc := fl_free (SC := [mdW cI b (sU μ 0 (2) (0))]) hD hS hA [0] rfl
    refine wq_calli (va_runV (As := [.int (iI (1))]) (rest := []) ⟨hx, hb, hml, hown, hts⟩ (c_X5_fails l D cI cO cC cL H.size b (sU μ 0 (2) (0)) (1) ) (cwV 1 hts gX5_append_X5_fails rfl rfl rfl (by decide +kernel) ⟨Nat.le_of_ble_eq_true rfl, Nat.le_of_ble_eq_true rfl⟩) ⟨pcW_blind, va_recv hK hP (ci := 5) (q0 := 0) rfl rfl, pcW_of hP hK hD⟩ rfl rfl hl.1 rfl (lv_room (Nat.le_of_ble_eq_true rfl)) dX5_append_18 ⟨(Nat.zero_le _), (Nat.zero_le _)⟩) hS (fun q _ h => hFc q h) hFc (fun r5 u7 t9 H1 locs ht9 hvm hcl6 hB hz1 hk1 hS => ?_)
    obtain ⟨hP1, hK1, hD1⟩ := hB
    rw [ht9] at hP1
    obtain ⟨hP, hD⟩ := fl_join (SR := []) (S1 := [mdW cI b (sU (sU μ 0 (2) (0)) 0 2 (1))]) hP hD [0] [] rfl rfl (by decide) (by decide) hk1 hFc hP1 hD1
    generalize H1 = H at hP hS ⊢
    have hP : va_P D vwCl (fl [mdW cI b (sU (sU μ 0 (2) (0)) 0 2 (1))]) H := hP
    have hD : va_D A (fl [mdW cI b (sU (sU μ 0 (2) (0)) 0 2 (1))]) := hD
    exact W.iret (v := iI (r5)) hx hb hr (fun t9 ht9 hW9 => ⟨⟨(r5), (sU (sU μ 0 (2) (0)) 0 2 (1)), rfl, (OPQ.bad (k := 1) (by unfold cd2; first | (rw [if_pos (by omega)] <;> rfl) | (rw [if_neg (by omega), if_pos (by omega)] <;> rfl) | (rw [if_neg (by omega), if_neg (by omega)] <;> rfl)) (by decide) rfl hM), ⟨by rw [ht9]; exact hP, va_K.moved hW9.alike hK, hD⟩⟩, hS.F ht9⟩) hS.2.2 dX5_append_21 hlocks
