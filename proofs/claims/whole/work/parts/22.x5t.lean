set_option maxHeartbeats 4000000 in
set_option maxRecDepth 100000 in
theorem c_X5_ofPromise (l : Launch) (D : va_G) (cI cO cC cL : ClassId) (b : Nat → Nat) (μ σ : Nat → Int → Int) (p w : Int) (hp0 : 0 ≤ p ∧ p < σ 0 1) (hw : 0 ≤ w ∧ w ≤ 5) (hR : RelN σ (μ 1)) (hI : Inv σ) : Met l yX5_ofPromise wsX5_ofPromise ({ frames := 1, cells := 0, slots := 0, locals := 22 } : Room) (pcR D [(cI, FieldType.int)] [.ref (b 0), .int (iI (p)), .int (iI (w))] (fl [mdW cI b μ])) (wr_Si (fun r => r = prmS σ p w)) 0 0 (fun _ => False) := by
  refine Met.ofW (cc := cX5_ofPromise) (maxL := 3) (ret := (some .int)) (by decide) rfl ?_
  intro p9 e9 s m args9 below9 meth9 c9 s₁ B hml hv
  obtain ⟨rfl, hP, hK⟩ := hv
  have hx := B.exec
  have hb := B.bytes
  have hr := B.returns
  have hts := atoms_spec (ws := wsX5_ofPromise) B.pre
  have hown : s.vm.findClass RX5 = some m.cls := findClass_of_methodNamed B.named
  have hlocks := B.notSynchronized
  have hl := lv_entry ([.ref (b 0), .int (iI (p)), .int (iI (w))]) (n := 3) (Nat.le_of_ble_eq_true rfl)
  rw [lg_entry_eq]
  generalize (lg_sl ([.ref (b 0), .int (iI (p)), .int (iI (w))]) ++ List.replicate (3 - (lg_sl ([.ref (b 0), .int (iI (p)), .int (iI (w))])).length) Slot.unset).toArray = ls at hl ⊢
  have hl : lv_has ls 3 [(0, .ref (b 0)), (1, .int (iI (p))), (2, .int (iI (w)))] := hl
  have hw_0 := hts (.fieldLink RX5 7 "PromisedCountersModel" "now" "[I") (by decide +kernel)
  have hin_X5 : ∀ w ∈ u_ws RX5 TX5 12, w ∈ wsX5_ofPromise := by decide +kernel
  have hn := hI.n
  have hti := hI.t
  obtain ⟨hm0, hm1, hm2, hm3, hm4⟩ := hR.1
  have hpr := hI.pr (p := p) (by omega) (by omega)
  obtain ⟨hp1, hp2, hp3, hp4, hp5⟩ := id hpr
  obtain ⟨hq0, hq1, hq2, hq3, hq4⟩ := hR.2.2.2 p (by omega) (by omega)
  refine lv_iload_n hx hb dX5_ofPromise_0 rfl (lv_at hl 2 rfl) ?_
  refine wi_iconst hx hb dX5_ofPromise_1 ?_
  refine wi_icmp_ne (tgt := 21) hx hb dX5_ofPromise_2 (by decide) (by omega) (fun c_2 => ?_) (fun c_2 => ?_)
  · skip
    refine lv_aload_n hx hb dX5_ofPromise_21 rfl (lv_at hl 0 rfl) ?_
    refine lv_iload_n hx hb dX5_ofPromise_22 rfl (lv_at hl 1 rfl) ?_
    refine lv_iload_n hx hb dX5_ofPromise_23 rfl (lv_at hl 2 rfl) ?_
    refine wr_calli (va_runV (As := [.int (iI (p)), .int (iI (w))]) (rest := []) ⟨hx, hb, hml, hown, hts⟩ (c_X5_of l D cI cO cC cL b μ (p) (w) (by omega) (by omega)) (cwV 2 hts gX5_ofPromise_X5_of rfl rfl rfl (by decide +kernel) ⟨Nat.le_of_ble_eq_true rfl, Nat.le_of_ble_eq_true rfl⟩) ⟨pcR_blind, va_recv hK hP (ci := 5) (q0 := 0) rfl rfl, pcR_of hP hK⟩ rfl rfl hl.1 rfl (lv_room (Nat.le_of_ble_eq_true rfl)) dX5_ofPromise_24 ⟨(Nat.zero_le _), (Nat.zero_le _)⟩) (fun r1 hr1 => ?_)
    subst hr1
    exact W.iret (v := iI ((μ 1 (35 + 5 * (p) + (w))))) hx hb hr (fun t9 ht9 hW9 => ⟨((μ 1 (35 + 5 * (p) + (w)))), rfl, (by unfold prmS; rcases (show w = 0 ∨ w = 1 ∨ w = 2 ∨ w = 3 ∨ w = 4 ∨ w = 5 by omega) with q | q | q | q | q | q <;> first | (exfalso; omega) | (rw [q]; first | exact hq0 | exact hq1 | exact hq2 | exact hq3 | exact hq4 | (rw [hq4, hm0]; rfl))), ht9⟩) (fun _ h => nomatch h) dX5_ofPromise_27 hlocks
  · skip
    refine lv_aload_n hx hb dX5_ofPromise_5 rfl (lv_at hl 0 rfl) ?_
    refine lv_iload_n hx hb dX5_ofPromise_6 rfl (lv_at hl 1 rfl) ?_
    refine wi_iconst hx hb dX5_ofPromise_7 ?_
    refine wr_calli (va_runV (As := [.int (iI (p)), .int (iI (4))]) (rest := []) ⟨hx, hb, hml, hown, hts⟩ (c_X5_of l D cI cO cC cL b μ (p) (4) (by omega) (by omega)) (cwV 2 hts gX5_ofPromise_X5_of rfl rfl rfl (by decide +kernel) ⟨Nat.le_of_ble_eq_true rfl, Nat.le_of_ble_eq_true rfl⟩) ⟨pcR_blind, va_recv hK hP (ci := 5) (q0 := 0) rfl rfl, pcR_of hP hK⟩ rfl rfl hl.1 rfl (lv_room (Nat.le_of_ble_eq_true rfl)) dX5_ofPromise_8 ⟨(Nat.zero_le _), (Nat.zero_le _)⟩) (fun r2 hr2 => ?_)
    subst hr2
    refine lv_aload_n hx hb dX5_ofPromise_11 rfl (lv_at hl 0 rfl) ?_
    refine va_get (D := D) (ci := 5) (v := .ref (b 1)) (C := RX5) (T := TX5) (N := 12) hx hb hts hin_X5 hown hK hP 0 rfl rfl 0 (by decide) hw_0 (fun _ h9 => h9) rfl dX5_ofPromise_12 ?_
    refine wi_iconst hx hb dX5_ofPromise_15 ?_
    refine wi_iald hx hb hK hP 1 0 (n := 115) (f := μ 1) rfl rfl (i := 0) (by omega) (by decide) dX5_ofPromise_16 ?_
    refine wi_isub hx hb dX5_ofPromise_17 ?_
    refine lv_goto (tgt := 27) hx hb dX5_ofPromise_18 (by decide) ?_
    exact W.iret (v := iI (((μ 1 (35 + 5 * (p) + (4))) - (μ 1 (0))))) hx hb hr (fun t9 ht9 hW9 => ⟨(((μ 1 (35 + 5 * (p) + (4))) - (μ 1 (0)))), rfl, (by unfold prmS; rcases (show w = 0 ∨ w = 1 ∨ w = 2 ∨ w = 3 ∨ w = 4 ∨ w = 5 by omega) with q | q | q | q | q | q <;> first | (exfalso; omega) | (rw [q]; first | exact hq0 | exact hq1 | exact hq2 | exact hq3 | exact hq4 | (rw [hq4, hm0]; rfl))), ht9⟩) (fun _ h => nomatch h) dX5_ofPromise_27 hlocks
set_option maxHeartbeats 4000000 in
set_option maxRecDepth 100000 in
theorem c_X5_ofOwner (l : Launch) (D : va_G) (cI cO cC cL : ClassId) (b : Nat → Nat) (μ σ : Nat → Int → Int) (o w : Int) (ho : 0 ≤ o ∧ o < 6) (hw : 0 ≤ w ∧ w ≤ 4) (hR : RelN σ (μ 1)) (hI : Inv σ) : Met l yX5_ofOwner wsX5_ofOwner ({ frames := 2, cells := 0, slots := 0, locals := 45 } : Room) (pcR D [(cI, FieldType.int)] [.ref (b 0), .int (iI (o)), .int (iI (w))] (fl [mdW cI b μ])) (wr_Si (fun r => r = ownS σ o w)) 0 0 (fun _ => False) := by
  refine Met.ofW (cc := cX5_ofOwner) (maxL := 6) (ret := (some .int)) (by decide) rfl ?_
  intro p9 e9 s m args9 below9 meth9 c9 s₁ B hml hv
  obtain ⟨rfl, hP, hK⟩ := hv
  have hx := B.exec
  have hb := B.bytes
  have hr := B.returns
  have hts := atoms_spec (ws := wsX5_ofOwner) B.pre
  have hown : s.vm.findClass RX5 = some m.cls := findClass_of_methodNamed B.named
  have hlocks := B.notSynchronized
  have hl := lv_entry ([.ref (b 0), .int (iI (o)), .int (iI (w))]) (n := 6) (Nat.le_of_ble_eq_true rfl)
  rw [lg_entry_eq]
  generalize (lg_sl ([.ref (b 0), .int (iI (o)), .int (iI (w))]) ++ List.replicate (6 - (lg_sl ([.ref (b 0), .int (iI (o)), .int (iI (w))])).length) Slot.unset).toArray = ls at hl ⊢
  have hl : lv_has ls 6 [(0, .ref (b 0)), (1, .int (iI (o))), (2, .int (iI (w)))] := hl
  have hw_0 := hts (.fieldLink RX5 7 "PromisedCountersModel" "now" "[I") (by decide +kernel)
  have hin_X5 : ∀ w ∈ u_ws RX5 TX5 12, w ∈ wsX5_ofOwner := by decide +kernel
  have hn := hI.n
  have hti := hI.t
  obtain ⟨hm0, hm1, hm2, hm3, hm4⟩ := hR.1
  have hoo : ∀ z : Int, 0 ≤ z → z < 6 → μ 1 (17 + z) = σ 10 z ∧ μ 1 (23 + z) = σ 11 z ∧ μ 1 (29 + z) = σ 12 z := hR.2.2.1
  refine lv_iload_n hx hb dX5_ofOwner_0 rfl (lv_at hl 2 rfl) ?_
  refine wi_iconst hx hb dX5_ofOwner_1 ?_
  refine wi_icmp_ge (tgt := 34) hx hb dX5_ofOwner_2 (by decide) (by omega) (fun c_2 => ?_) (fun c_2 => ?_)
  · skip
    refine wi_iconst hx hb dX5_ofOwner_34 ?_
    refine lv_istore_n (lv' := [(3, .int (iI (0))), (0, .ref (b 0)), (1, .int (iI (o))), (2, .int (iI (w)))]) hx hb dX5_ofOwner_35 rfl hl (by decide) rfl (fun ls hl => ?_)
    refine wi_iconst hx hb dX5_ofOwner_36 ?_
    refine lv_istore (lv' := [(4, .int (iI (0))), (3, .int (iI (0))), (0, .ref (b 0)), (1, .int (iI (o))), (2, .int (iI (w)))]) hx hb dX5_ofOwner_37 hl (by decide) rfl (fun ls hl => ?_)
    have L39 : ∀ (k39 : Nat), ∀ (p : Int) (acc : Int), (σ 0 1 - p).toNat < k39 → (0 ≤ p ∧ p ≤ σ 0 1) → (acc = sm (fun p => if σ 5 p = o then aI (σ 7 p) else 0) p.toNat) → ∀ (ls : Array Slot), lv_has ls 6 [(4, .int (iI (p))), (3, .int (iI (acc))), (0, .ref (b 0)), (1, .int (iI (o))), (2, .int (iI (w)))] → W p9 l e9 ({ frames := 2, cells := 0, slots := 0, locals := 45 } : Room) s m ([.ref (b 0), .int (iI (o)), .int (iI (w))] : List Value).toArray below9 meth9 c9 s.heap [] 0 0 (MQ below9 (wr_Si (fun r => r = ownS σ o w)) ([.ref (b 0), .int (iI (o)), .int (iI (w))] : List Value).toArray s 0 0 (fun _ => False)) (F0 m 39 ls []) := by
      intro k39
      induction k39 with
      | zero =>
        intro p acc hm
        exact absurd hm (Nat.not_lt_zero _)
      | succ k39 ih39 =>
        intro p acc hm39 hp hacc ls hl
        refine lv_iload hx hb dX5_ofOwner_39 (lv_at hl 0 rfl) ?_
        refine lv_aload_n hx hb dX5_ofOwner_41 rfl (lv_at hl 2 rfl) ?_
        refine va_get (D := D) (ci := 5) (v := .ref (b 1)) (C := RX5) (T := TX5) (N := 12) hx hb hts hin_X5 hown hK hP 0 rfl rfl 0 (by decide) hw_0 (fun _ h9 => h9) rfl dX5_ofOwner_42 ?_
        refine wi_iconst hx hb dX5_ofOwner_45 ?_
        refine wi_iald hx hb hK hP 1 0 (n := 115) (f := μ 1) rfl rfl (i := 3) (by omega) (by decide) dX5_ofOwner_46 ?_
        refine wi_icmp_ge (tgt := 96) hx hb dX5_ofOwner_47 (by decide) (by omega) (fun c_47 => ?_) (fun c_47 => ?_)
        · skip
          refine lv_iload_n hx hb dX5_ofOwner_96 rfl (lv_at hl 1 rfl) ?_
          exact W.iret (v := iI (acc)) hx hb hr (fun t9 ht9 hW9 => ⟨(acc), rfl, (by unfold ownS; rw [if_neg (by omega), if_neg (by omega), if_neg (by omega), if_neg (by omega), hacc, show p = σ 0 1 by omega]; rfl), ht9⟩) (fun _ h => nomatch h) dX5_ofOwner_97 hlocks
        · skip
          have hpr := hI.pr (p := p) (by omega) (by omega)
          obtain ⟨hp1, hp2, hp3, hp4, hp5⟩ := id hpr
          obtain ⟨hq0, hq1, hq2, hq3, hq4⟩ := hR.2.2.2 p (by omega) (by omega)
          refine lv_aload_n hx hb dX5_ofOwner_50 rfl (lv_at hl 2 rfl) ?_
          refine lv_iload hx hb dX5_ofOwner_51 (lv_at hl 0 rfl) ?_
          refine wi_iconst hx hb dX5_ofOwner_53 ?_
          refine wr_calli (va_runV (As := [.int (iI (p)), .int (iI (0))]) (rest := []) ⟨hx, hb, hml, hown, hts⟩ (c_X5_of l D cI cO cC cL b μ (p) (0) (by omega) (by omega)) (cwV 2 hts gX5_ofOwner_X5_of rfl rfl rfl (by decide +kernel) ⟨Nat.le_of_ble_eq_true rfl, Nat.le_of_ble_eq_true rfl⟩) ⟨pcR_blind, va_recv hK hP (ci := 5) (q0 := 0) rfl rfl, pcR_of hP hK⟩ rfl rfl hl.1 rfl (lv_room (Nat.le_of_ble_eq_true rfl)) dX5_ofOwner_54 ⟨(Nat.zero_le _), (Nat.zero_le _)⟩) (fun r1 hr1 => ?_)
          subst hr1
          refine lv_iload_n hx hb dX5_ofOwner_57 rfl (lv_at hl 3 rfl) ?_
          refine wi_icmp_ne (tgt := 71) hx hb dX5_ofOwner_58 (by decide) (by omega) (fun c_58 => ?_) (fun c_58 => ?_)
          · skip
            refine wi_iconst hx hb dX5_ofOwner_71 ?_
            refine lv_istore (lv' := [(5, .int (iI (0))), (4, .int (iI (p))), (3, .int (iI (acc))), (0, .ref (b 0)), (1, .int (iI (o))), (2, .int (iI (w)))]) hx hb dX5_ofOwner_72 hl (by decide) rfl (fun ls hl => ?_)
            refine lv_iload_n hx hb dX5_ofOwner_74 rfl (lv_at hl 2 rfl) ?_
            refine lv_iload hx hb dX5_ofOwner_75 (lv_at hl 0 rfl) ?_
            refine wi_if_ge (tgt := 86) hx hb dX5_ofOwner_77 (by decide) (by omega) (fun c_77 => ?_) (fun c_77 => ?_)
            · skip
              refine lv_iload hx hb dX5_ofOwner_86 (lv_at hl 0 rfl) ?_
              refine wi_iadd hx hb dX5_ofOwner_88 ?_
              refine lv_istore_n (lv' := [(3, .int (iI ((acc + 0)))), (5, .int (iI (0))), (4, .int (iI (p))), (0, .ref (b 0)), (1, .int (iI (o))), (2, .int (iI (w)))]) hx hb dX5_ofOwner_89 rfl hl (by decide) rfl (fun ls hl => ?_)
              refine wi_iinc (lv' := [(4, .int (iI ((p + 1)))), (3, .int (iI ((acc + 0)))), (5, .int (iI (0))), (0, .ref (b 0)), (1, .int (iI (o))), (2, .int (iI (w)))]) hx hb dX5_ofOwner_90 hl (k := 2) rfl (by decide) rfl (fun ls hl => ?_)
              refine lv_goto (tgt := 39) hx hb dX5_ofOwner_93 (by decide) ?_
              exact ih39 ((p + 1)) ((acc + 0)) (by omega) (by omega) (by rw [sm_step (by omega)]; have ha9 : aI (σ 7 p) = if σ 7 p < 0 then -σ 7 p else σ 7 p := rfl; omega)  ls (lv_sub hl [0, 1, 3, 4, 5] rfl)
            · skip
              exfalso; omega
          · skip
            refine lv_aload_n hx hb dX5_ofOwner_61 rfl (lv_at hl 2 rfl) ?_
            refine lv_iload hx hb dX5_ofOwner_62 (lv_at hl 0 rfl) ?_
            refine wi_iconst hx hb dX5_ofOwner_64 ?_
            refine wr_calli (va_runV (As := [.int (iI (p)), .int (iI (2))]) (rest := []) ⟨hx, hb, hml, hown, hts⟩ (c_X5_of l D cI cO cC cL b μ (p) (2) (by omega) (by omega)) (cwV 2 hts gX5_ofOwner_X5_of rfl rfl rfl (by decide +kernel) ⟨Nat.le_of_ble_eq_true rfl, Nat.le_of_ble_eq_true rfl⟩) ⟨pcR_blind, va_recv hK hP (ci := 5) (q0 := 0) rfl rfl, pcR_of hP hK⟩ rfl rfl hl.1 rfl (lv_room (Nat.le_of_ble_eq_true rfl)) dX5_ofOwner_65 ⟨(Nat.zero_le _), (Nat.zero_le _)⟩) (fun r2 hr2 => ?_)
            subst hr2
            refine lv_goto (tgt := 72) hx hb dX5_ofOwner_68 (by decide) ?_
            refine lv_istore (lv' := [(5, .int (iI ((μ 1 (35 + 5 * (p) + (2)))))), (4, .int (iI (p))), (3, .int (iI (acc))), (0, .ref (b 0)), (1, .int (iI (o))), (2, .int (iI (w)))]) hx hb dX5_ofOwner_72 hl (by decide) rfl (fun ls hl => ?_)
            refine lv_iload_n hx hb dX5_ofOwner_74 rfl (lv_at hl 2 rfl) ?_
            refine lv_iload hx hb dX5_ofOwner_75 (lv_at hl 0 rfl) ?_
            refine wi_if_ge (tgt := 86) hx hb dX5_ofOwner_77 (by decide) (by omega) (fun c_77 => ?_) (fun c_77 => ?_)
            · skip
              refine lv_iload hx hb dX5_ofOwner_86 (lv_at hl 0 rfl) ?_
              refine wi_iadd hx hb dX5_ofOwner_88 ?_
              refine lv_istore_n (lv' := [(3, .int (iI ((acc + (μ 1 (35 + 5 * (p) + (2))))))), (5, .int (iI ((μ 1 (35 + 5 * (p) + (2)))))), (4, .int (iI (p))), (0, .ref (b 0)), (1, .int (iI (o))), (2, .int (iI (w)))]) hx hb dX5_ofOwner_89 rfl hl (by decide) rfl (fun ls hl => ?_)
              refine wi_iinc (lv' := [(4, .int (iI ((p + 1)))), (3, .int (iI ((acc + (μ 1 (35 + 5 * (p) + (2))))))), (5, .int (iI ((μ 1 (35 + 5 * (p) + (2)))))), (0, .ref (b 0)), (1, .int (iI (o))), (2, .int (iI (w)))]) hx hb dX5_ofOwner_90 hl (k := 2) rfl (by decide) rfl (fun ls hl => ?_)
              refine lv_goto (tgt := 39) hx hb dX5_ofOwner_93 (by decide) ?_
              exact ih39 ((p + 1)) ((acc + (μ 1 (35 + 5 * (p) + (2))))) (by omega) (by omega) (by rw [sm_step (by omega)]; have ha9 : aI (σ 7 p) = if σ 7 p < 0 then -σ 7 p else σ 7 p := rfl; omega)  ls (lv_sub hl [0, 1, 3, 4, 5] rfl)
            · skip
              refine lv_iload hx hb dX5_ofOwner_80 (lv_at hl 0 rfl) ?_
              refine wi_ineg hx hb dX5_ofOwner_82 ?_
              refine lv_goto (tgt := 88) hx hb dX5_ofOwner_83 (by decide) ?_
              refine wi_iadd hx hb dX5_ofOwner_88 ?_
              refine lv_istore_n (lv' := [(3, .int (iI ((acc + (-(μ 1 (35 + 5 * (p) + (2)))))))), (5, .int (iI ((μ 1 (35 + 5 * (p) + (2)))))), (4, .int (iI (p))), (0, .ref (b 0)), (1, .int (iI (o))), (2, .int (iI (w)))]) hx hb dX5_ofOwner_89 rfl hl (by decide) rfl (fun ls hl => ?_)
              refine wi_iinc (lv' := [(4, .int (iI ((p + 1)))), (3, .int (iI ((acc + (-(μ 1 (35 + 5 * (p) + (2)))))))), (5, .int (iI ((μ 1 (35 + 5 * (p) + (2)))))), (0, .ref (b 0)), (1, .int (iI (o))), (2, .int (iI (w)))]) hx hb dX5_ofOwner_90 hl (k := 2) rfl (by decide) rfl (fun ls hl => ?_)
              refine lv_goto (tgt := 39) hx hb dX5_ofOwner_93 (by decide) ?_
              exact ih39 ((p + 1)) ((acc + (-(μ 1 (35 + 5 * (p) + (2)))))) (by omega) (by omega) (by rw [sm_step (by omega)]; have ha9 : aI (σ 7 p) = if σ 7 p < 0 then -σ 7 p else σ 7 p := rfl; omega)  ls (lv_sub hl [0, 1, 3, 4, 5] rfl)
    exact L39 _ (0) (0) (Nat.lt_succ_self _) (by omega) (rfl)  ls (lv_sub hl [0, 1, 2, 3, 4] rfl)
  · skip
    refine lv_iload_n hx hb dX5_ofOwner_5 rfl (lv_at hl 2 rfl) ?_
    refine wi_if_ne (tgt := 17) hx hb dX5_ofOwner_6 (by decide) (by omega) (fun c_6 => ?_) (fun c_6 => ?_)
    · skip
      refine lv_aload_n hx hb dX5_ofOwner_17 rfl (lv_at hl 0 rfl) ?_
      refine va_get (D := D) (ci := 5) (v := .ref (b 1)) (C := RX5) (T := TX5) (N := 12) hx hb hts hin_X5 hown hK hP 0 rfl rfl 0 (by decide) hw_0 (fun _ h9 => h9) rfl dX5_ofOwner_18 ?_
      refine wi_bipush hx hb dX5_ofOwner_21 (by decide) ?_
      refine wi_bipush hx hb dX5_ofOwner_23 (by decide) ?_
      refine lv_iload_n hx hb dX5_ofOwner_25 rfl (lv_at hl 2 rfl) ?_
      refine wi_iconst hx hb dX5_ofOwner_26 ?_
      refine wi_isub hx hb dX5_ofOwner_27 ?_
      refine wi_imul hx hb dX5_ofOwner_28 ?_
      refine wi_iadd hx hb dX5_ofOwner_29 ?_
      refine lv_iload_n hx hb dX5_ofOwner_30 rfl (lv_at hl 1 rfl) ?_
      refine wi_iadd hx hb dX5_ofOwner_31 ?_
      refine wi_iald hx hb hK hP 1 0 (n := 115) (f := μ 1) rfl rfl (i := ((17 + (6 * (w - 1))) + o)) (by omega) (by decide) dX5_ofOwner_32 ?_
      exact W.iret (v := iI ((μ 1 (((17 + (6 * (w - 1))) + o))))) hx hb hr (fun t9 ht9 hW9 => ⟨((μ 1 (((17 + (6 * (w - 1))) + o)))), rfl, (by obtain ⟨z1, z2, z3⟩ := hoo o ho.1 ho.2; unfold ownS; rcases (show w = 1 ∨ w = 2 ∨ w = 3 by omega) with q | q | q <;> rw [q] <;> first | exact z1 | exact z2 | exact z3), ht9⟩) (fun _ h => nomatch h) dX5_ofOwner_33 hlocks
    · skip
      refine lv_aload_n hx hb dX5_ofOwner_9 rfl (lv_at hl 0 rfl) ?_
      refine lv_iload_n hx hb dX5_ofOwner_10 rfl (lv_at hl 1 rfl) ?_
      refine wr_calli (va_runV (As := [.int (iI (o))]) (rest := []) ⟨hx, hb, hml, hown, hts⟩ (c_X5_promisesOf l D cI cO cC cL b μ σ (o) (by omega) (hR) (hI)) (cwV 1 hts gX5_ofOwner_X5_promisesOf rfl rfl rfl (by decide +kernel) ⟨Nat.le_of_ble_eq_true rfl, Nat.le_of_ble_eq_true rfl⟩) ⟨pcR_blind, va_recv hK hP (ci := 5) (q0 := 0) rfl rfl, pcR_of hP hK⟩ rfl rfl hl.1 rfl (lv_room (Nat.le_of_ble_eq_true rfl)) dX5_ofOwner_11 ⟨(Nat.zero_le _), (Nat.zero_le _)⟩) (fun r3 hr3 => ?_)
      subst hr3
      refine lv_goto (tgt := 33) hx hb dX5_ofOwner_14 (by decide) ?_
      exact W.iret (v := iI ((ofN σ (o)))) hx hb hr (fun t9 ht9 hW9 => ⟨((ofN σ (o))), rfl, (by unfold ownS; rw [if_pos (by omega)]), ht9⟩) (fun _ h => nomatch h) dX5_ofOwner_33 hlocks
set_option maxHeartbeats 4000000 in
set_option maxRecDepth 100000 in
theorem c_X5_counted (l : Launch) (D : va_G) (cI cO cC cL : ClassId) (b : Nat → Nat) (μ σ : Nat → Int → Int) (w : Int) (hw : 0 ≤ w ∧ w ≤ 9) (hR : RelN σ (μ 1)) (hI : Inv σ) : Met l yX5_counted wsX5_counted ({ frames := 2, cells := 0, slots := 0, locals := 44 } : Room) (pcR D [(cI, FieldType.int)] [.ref (b 0), .int (iI (w))] (fl [mdW cI b μ])) (wr_Si (fun r => r = cntS σ (μ 0 0) w)) 0 0 (fun _ => False) := by
  refine Met.ofW (cc := cX5_counted) (maxL := 2) (ret := (some .int)) (by decide) rfl ?_
  intro p9 e9 s m args9 below9 meth9 c9 s₁ B hml hv
  obtain ⟨rfl, hP, hK⟩ := hv
  have hx := B.exec
  have hb := B.bytes
  have hr := B.returns
  have hts := atoms_spec (ws := wsX5_counted) B.pre
  have hown : s.vm.findClass RX5 = some m.cls := findClass_of_methodNamed B.named
  have hlocks := B.notSynchronized
  have hl := lv_entry ([.ref (b 0), .int (iI (w))]) (n := 2) (Nat.le_of_ble_eq_true rfl)
  rw [lg_entry_eq]
  generalize (lg_sl ([.ref (b 0), .int (iI (w))]) ++ List.replicate (2 - (lg_sl ([.ref (b 0), .int (iI (w))])).length) Slot.unset).toArray = ls at hl ⊢
  have hl : lv_has ls 2 [(0, .ref (b 0)), (1, .int (iI (w)))] := hl
  have hw_0 := hts (.fieldLink RX5 33 "PromisedCountersModel" "kept" "I") (by decide +kernel)
  have hin_X5 : ∀ w ∈ u_ws RX5 TX5 12, w ∈ wsX5_counted := by decide +kernel
  have hw_1 := hts (.fieldLink RX5 7 "PromisedCountersModel" "now" "[I") (by decide +kernel)
  have hn := hI.n
  have hti := hI.t
  obtain ⟨hm0, hm1, hm2, hm3, hm4⟩ := hR.1
  have hoo : ∀ z : Int, 0 ≤ z → z < 6 → μ 1 (17 + z) = σ 10 z ∧ μ 1 (23 + z) = σ 11 z ∧ μ 1 (29 + z) = σ 12 z := hR.2.2.1
  have hcv : ∀ z : Int, 0 ≤ z → z < 4 → μ 1 (5 + z) = σ 2 z := fun z h0 h1 => (hR.2.1 z h0 h1).1
  have hv0 : μ 1 5 = σ 2 0 := hcv 0 (by omega) (by omega)
  have hv1 : μ 1 6 = σ 2 1 := hcv 1 (by omega) (by omega)
  have hv2 : μ 1 7 = σ 2 2 := hcv 2 (by omega) (by omega)
  have hv3 : μ 1 8 = σ 2 3 := hcv 3 (by omega) (by omega)
  refine lv_iload_n hx hb dX5_counted_0 rfl (lv_at hl 1 rfl) ?_
  refine wi_iconst hx hb dX5_counted_1 ?_
  refine wi_icmp_ge (tgt := 51) hx hb dX5_counted_2 (by decide) (by omega) (fun c_2 => ?_) (fun c_2 => ?_)
  · skip
    refine lv_iload_n hx hb dX5_counted_51 rfl (lv_at hl 1 rfl) ?_
    refine wi_bipush hx hb dX5_counted_52 (by decide) ?_
    refine wi_icmp_ge (tgt := 71) hx hb dX5_counted_54 (by decide) (by omega) (fun c_54 => ?_) (fun c_54 => ?_)
    · skip
      refine lv_iload_n hx hb dX5_counted_71 rfl (lv_at hl 1 rfl) ?_
      refine wi_bipush hx hb dX5_counted_72 (by decide) ?_
      refine wi_icmp_ne (tgt := 110) hx hb dX5_counted_74 (by decide) (by omega) (fun c_74 => ?_) (fun c_74 => ?_)
      · skip
        refine lv_iload_n hx hb dX5_counted_110 rfl (lv_at hl 1 rfl) ?_
        refine wi_bipush hx hb dX5_counted_111 (by decide) ?_
        refine wi_icmp_ne (tgt := 123) hx hb dX5_counted_113 (by decide) (by omega) (fun c_113 => ?_) (fun c_113 => ?_)
        · skip
          refine lv_aload_n hx hb dX5_counted_123 rfl (lv_at hl 0 rfl) ?_
          refine va_get (D := D) (ci := 5) (v := .int (iI ((μ 0 0)))) (C := RX5) (T := TX5) (N := 12) hx hb hts hin_X5 hown hK hP 0 rfl rfl 2 (by decide) hw_0 (fun _ h9 => h9) rfl dX5_counted_124 ?_
          exact W.iret (v := iI ((μ 0 0))) hx hb hr (fun t9 ht9 hW9 => ⟨((μ 0 0)), rfl, (by unfold cntS; rw [show w = 9 by omega]; rfl), ht9⟩) (fun _ h => nomatch h) dX5_counted_127 hlocks
        · skip
          refine lv_aload_n hx hb dX5_counted_116 rfl (lv_at hl 0 rfl) ?_
          refine wr_calli (va_runV (As := []) (rest := []) ⟨hx, hb, hml, hown, hts⟩ (c_X5_firstLapse l D cI cO cC cL b μ σ (hR) (hI)) (cwV 0 hts gX5_counted_X5_firstLapse rfl rfl rfl (by decide +kernel) ⟨Nat.le_of_ble_eq_true rfl, Nat.le_of_ble_eq_true rfl⟩) ⟨pcR_blind, va_recv hK hP (ci := 5) (q0 := 0) rfl rfl, pcR_of hP hK⟩ rfl rfl hl.1 rfl (lv_room (Nat.le_of_ble_eq_true rfl)) dX5_counted_117 ⟨(Nat.zero_le _), (Nat.zero_le _)⟩) (fun r1 hr1 => ?_)
          subst hr1
          refine lv_goto (tgt := 127) hx hb dX5_counted_120 (by decide) ?_
          exact W.iret (v := iI ((frS σ))) hx hb hr (fun t9 ht9 hW9 => ⟨((frS σ)), rfl, (by unfold cntS; rw [show w = 8 by omega]; rfl), ht9⟩) (fun _ h => nomatch h) dX5_counted_127 hlocks
      · skip
        refine lv_aload_n hx hb dX5_counted_77 rfl (lv_at hl 0 rfl) ?_
        refine va_get (D := D) (ci := 5) (v := .ref (b 1)) (C := RX5) (T := TX5) (N := 12) hx hb hts hin_X5 hown hK hP 0 rfl rfl 0 (by decide) hw_1 (fun _ h9 => h9) rfl dX5_counted_78 ?_
        refine wi_iconst hx hb dX5_counted_81 ?_
        refine wi_iald hx hb hK hP 1 0 (n := 115) (f := μ 1) rfl rfl (i := 5) (by omega) (by decide) dX5_counted_82 ?_
        refine lv_aload_n hx hb dX5_counted_83 rfl (lv_at hl 0 rfl) ?_
        refine va_get (D := D) (ci := 5) (v := .ref (b 1)) (C := RX5) (T := TX5) (N := 12) hx hb hts hin_X5 hown hK hP 0 rfl rfl 0 (by decide) hw_1 (fun _ h9 => h9) rfl dX5_counted_84 ?_
        refine wi_bipush hx hb dX5_counted_87 (by decide) ?_
        refine wi_iald hx hb hK hP 1 0 (n := 115) (f := μ 1) rfl rfl (i := 6) (by omega) (by decide) dX5_counted_89 ?_
        refine wi_iadd hx hb dX5_counted_90 ?_
        refine lv_aload_n hx hb dX5_counted_91 rfl (lv_at hl 0 rfl) ?_
        refine va_get (D := D) (ci := 5) (v := .ref (b 1)) (C := RX5) (T := TX5) (N := 12) hx hb hts hin_X5 hown hK hP 0 rfl rfl 0 (by decide) hw_1 (fun _ h9 => h9) rfl dX5_counted_92 ?_
        refine wi_bipush hx hb dX5_counted_95 (by decide) ?_
        refine wi_iald hx hb hK hP 1 0 (n := 115) (f := μ 1) rfl rfl (i := 7) (by omega) (by decide) dX5_counted_97 ?_
        refine wi_iadd hx hb dX5_counted_98 ?_
        refine lv_aload_n hx hb dX5_counted_99 rfl (lv_at hl 0 rfl) ?_
        refine va_get (D := D) (ci := 5) (v := .ref (b 1)) (C := RX5) (T := TX5) (N := 12) hx hb hts hin_X5 hown hK hP 0 rfl rfl 0 (by decide) hw_1 (fun _ h9 => h9) rfl dX5_counted_100 ?_
        refine wi_bipush hx hb dX5_counted_103 (by decide) ?_
        refine wi_iald hx hb hK hP 1 0 (n := 115) (f := μ 1) rfl rfl (i := 8) (by omega) (by decide) dX5_counted_105 ?_
        refine wi_iadd hx hb dX5_counted_106 ?_
        refine lv_goto (tgt := 127) hx hb dX5_counted_107 (by decide) ?_
        exact W.iret (v := iI (((((μ 1 (5)) + (μ 1 (6))) + (μ 1 (7))) + (μ 1 (8))))) hx hb hr (fun t9 ht9 hW9 => ⟨(((((μ 1 (5)) + (μ 1 (6))) + (μ 1 (7))) + (μ 1 (8)))), rfl, (by unfold cntS; rw [show w = 7 by omega, hv0, hv1, hv2, hv3]; show _ = 0 + σ 2 0 + σ 2 1 + σ 2 2 + σ 2 3; omega), ht9⟩) (fun _ h => nomatch h) dX5_counted_127 hlocks
    · skip
      refine lv_aload_n hx hb dX5_counted_57 rfl (lv_at hl 0 rfl) ?_
      refine wi_bipush hx hb dX5_counted_58 (by decide) ?_
      refine wi_bipush hx hb dX5_counted_60 (by decide) ?_
      refine lv_iload_n hx hb dX5_counted_62 rfl (lv_at hl 1 rfl) ?_
      refine wi_iconst hx hb dX5_counted_63 ?_
      refine wi_isub hx hb dX5_counted_64 ?_
      refine wi_imul hx hb dX5_counted_65 ?_
      refine wi_iadd hx hb dX5_counted_66 ?_
      refine wr_calli (va_runV (As := [.int (iI ((17 + (6 * (w - 4)))))]) (rest := []) ⟨hx, hb, hml, hown, hts⟩ (c_X5_ended l D cI cO cC cL b μ σ ((17 + (6 * (w - 4)))) (by omega)) (cwV 1 hts gX5_counted_X5_ended rfl rfl rfl (by decide +kernel) ⟨Nat.le_of_ble_eq_true rfl, Nat.le_of_ble_eq_true rfl⟩) ⟨pcR_blind, va_recv hK hP (ci := 5) (q0 := 0) rfl rfl, pcR_of hP hK⟩ rfl rfl hl.1 rfl (lv_room (Nat.le_of_ble_eq_true rfl)) dX5_counted_67 ⟨(Nat.zero_le _), (Nat.zero_le _)⟩) (fun r2 hr2 => ?_)
      subst hr2
      exact W.iret (v := iI ((sm (fun o => μ 1 (((17 + (6 * (w - 4)))) + o)) 6))) hx hb hr (fun t9 ht9 hW9 => ⟨((sm (fun o => μ 1 (((17 + (6 * (w - 4)))) + o)) 6)), rfl, (by unfold cntS; rcases (show w = 4 ∨ w = 5 ∨ w = 6 by omega) with q | q | q <;> rw [q] <;> first | exact sm_congr (fun j h0 h1 => (hoo j h0 (by omega)).1) | exact sm_congr (fun j h0 h1 => (hoo j h0 (by omega)).2.1) | exact sm_congr (fun j h0 h1 => (hoo j h0 (by omega)).2.2)), ht9⟩) (fun _ h => nomatch h) dX5_counted_70 hlocks
  · skip
    refine lv_iload_n hx hb dX5_counted_5 rfl (lv_at hl 1 rfl) ?_
    refine wi_if_ne (tgt := 18) hx hb dX5_counted_6 (by decide) (by omega) (fun c_6 => ?_) (fun c_6 => ?_)
    · skip
      refine lv_iload_n hx hb dX5_counted_18 rfl (lv_at hl 1 rfl) ?_
      refine wi_iconst hx hb dX5_counted_19 ?_
      refine wi_icmp_ne (tgt := 32) hx hb dX5_counted_20 (by decide) (by omega) (fun c_20 => ?_) (fun c_20 => ?_)
      · skip
        refine lv_iload_n hx hb dX5_counted_32 rfl (lv_at hl 1 rfl) ?_
        refine wi_iconst hx hb dX5_counted_33 ?_
        refine wi_icmp_ne (tgt := 44) hx hb dX5_counted_34 (by decide) (by omega) (fun c_34 => ?_) (fun c_34 => ?_)
        · skip
          refine lv_aload_n hx hb dX5_counted_44 rfl (lv_at hl 0 rfl) ?_
          refine va_get (D := D) (ci := 5) (v := .ref (b 1)) (C := RX5) (T := TX5) (N := 12) hx hb hts hin_X5 hown hK hP 0 rfl rfl 0 (by decide) hw_1 (fun _ h9 => h9) rfl dX5_counted_45 ?_
          refine wi_iconst hx hb dX5_counted_48 ?_
          refine wi_iald hx hb hK hP 1 0 (n := 115) (f := μ 1) rfl rfl (i := 4) (by omega) (by decide) dX5_counted_49 ?_
          exact W.iret (v := iI ((μ 1 (4)))) hx hb hr (fun t9 ht9 hW9 => ⟨((μ 1 (4))), rfl, (by unfold cntS; rw [if_neg (by omega), if_neg (by omega), if_neg (by omega), if_pos (by omega), hm4]), ht9⟩) (fun _ h => nomatch h) dX5_counted_50 hlocks
        · skip
          refine lv_aload_n hx hb dX5_counted_37 rfl (lv_at hl 0 rfl) ?_
          refine wr_calli (va_runV (As := []) (rest := []) ⟨hx, hb, hml, hown, hts⟩ (c_X5_transfers l D cI cO cC cL b μ σ (hR) (hI)) (cwV 0 hts gX5_counted_X5_transfers rfl rfl rfl (by decide +kernel) ⟨Nat.le_of_ble_eq_true rfl, Nat.le_of_ble_eq_true rfl⟩) ⟨pcR_blind, va_recv hK hP (ci := 5) (q0 := 0) rfl rfl, pcR_of hP hK⟩ rfl rfl hl.1 rfl (lv_room (Nat.le_of_ble_eq_true rfl)) dX5_counted_38 ⟨(Nat.zero_le _), (Nat.zero_le _)⟩) (fun r3 hr3 => ?_)
          subst hr3
          refine lv_goto (tgt := 50) hx hb dX5_counted_41 (by decide) ?_
          exact W.iret (v := iI ((trN σ))) hx hb hr (fun t9 ht9 hW9 => ⟨((trN σ)), rfl, (by unfold cntS; rw [if_neg (by omega), if_neg (by omega), if_pos (by omega)]), ht9⟩) (fun _ h => nomatch h) dX5_counted_50 hlocks
      · skip
        refine lv_aload_n hx hb dX5_counted_23 rfl (lv_at hl 0 rfl) ?_
        refine va_get (D := D) (ci := 5) (v := .ref (b 1)) (C := RX5) (T := TX5) (N := 12) hx hb hts hin_X5 hown hK hP 0 rfl rfl 0 (by decide) hw_1 (fun _ h9 => h9) rfl dX5_counted_24 ?_
        refine wi_iconst hx hb dX5_counted_27 ?_
        refine wi_iald hx hb hK hP 1 0 (n := 115) (f := μ 1) rfl rfl (i := 3) (by omega) (by decide) dX5_counted_28 ?_
        refine lv_goto (tgt := 50) hx hb dX5_counted_29 (by decide) ?_
        exact W.iret (v := iI ((μ 1 (3)))) hx hb hr (fun t9 ht9 hW9 => ⟨((μ 1 (3))), rfl, (by unfold cntS; rw [if_neg (by omega), if_pos (by omega), hm3]), ht9⟩) (fun _ h => nomatch h) dX5_counted_50 hlocks
    · skip
      refine lv_aload_n hx hb dX5_counted_9 rfl (lv_at hl 0 rfl) ?_
      refine va_get (D := D) (ci := 5) (v := .ref (b 1)) (C := RX5) (T := TX5) (N := 12) hx hb hts hin_X5 hown hK hP 0 rfl rfl 0 (by decide) hw_1 (fun _ h9 => h9) rfl dX5_counted_10 ?_
      refine wi_iconst hx hb dX5_counted_13 ?_
      refine wi_iald hx hb hK hP 1 0 (n := 115) (f := μ 1) rfl rfl (i := 0) (by omega) (by decide) dX5_counted_14 ?_
      refine lv_goto (tgt := 50) hx hb dX5_counted_15 (by decide) ?_
      exact W.iret (v := iI ((μ 1 (0)))) hx hb hr (fun t9 ht9 hW9 => ⟨((μ 1 (0))), rfl, (by unfold cntS; rw [if_pos (by omega), hm0]), ht9⟩) (fun _ h => nomatch h) dX5_counted_50 hlocks
set_option maxHeartbeats 4000000 in
set_option maxRecDepth 100000 in
theorem c_X5_mostOf (l : Launch) (D : va_G) (cI cO cC cL : ClassId) (b : Nat → Nat) (μ σ : Nat → Int → Int) (o c im : Int) (ho : R32 o) (hc : 0 ≤ c ∧ c < 4) (him : im = 0 ∨ im = 1) (hR : RelN σ (μ 1)) (hI : Inv σ) : Met l yX5_mostOf wsX5_mostOf ({ frames := 5, cells := 0, slots := 0, locals := 118 } : Room) (pcR D [(cI, FieldType.int)] [.ref (b 0), .int (iI (o)), .int (iI (c)), .int (iI (im))] (fl [mdW cI b μ])) (wr_Si (fun r => r = mostS σ o c im)) 0 0 (fun _ => False) := by
  refine Met.ofW (cc := cX5_mostOf) (maxL := 5) (ret := (some .int)) (by decide) rfl ?_
  intro p9 e9 s m args9 below9 meth9 c9 s₁ B hml hv
  obtain ⟨rfl, hP, hK⟩ := hv
  have hx := B.exec
  have hb := B.bytes
  have hr := B.returns
  have hts := atoms_spec (ws := wsX5_mostOf) B.pre
  have hown : s.vm.findClass RX5 = some m.cls := findClass_of_methodNamed B.named
  have hlocks := B.notSynchronized
  have hl := lv_entry ([.ref (b 0), .int (iI (o)), .int (iI (c)), .int (iI (im))]) (n := 5) (Nat.le_of_ble_eq_true rfl)
  rw [lg_entry_eq]
  generalize (lg_sl ([.ref (b 0), .int (iI (o)), .int (iI (c)), .int (iI (im))]) ++ List.replicate (5 - (lg_sl ([.ref (b 0), .int (iI (o)), .int (iI (c)), .int (iI (im))])).length) Slot.unset).toArray = ls at hl ⊢
  have hl : lv_has ls 5 [(0, .ref (b 0)), (1, .int (iI (o))), (2, .int (iI (c))), (3, .int (iI (im)))] := hl
  have hn := hI.n
  have hti := hI.t
  obtain ⟨hm0, hm1, hm2, hm3, hm4⟩ := hR.1
  have hcc := hI.c hc.1 hc.2
  have hrn := reason_r σ o c
  have hrp := fun z (h : 0 < z) => reason_pos (σ := σ) (o := o) (c := c) (y := z) h
  have hrm := fun z (h : 0 < z) => reason_neg (σ := σ) (o := o) (c := c) (y := z) h
  refine wi_bipush hx hb dX5_mostOf_0 (by decide) ?_
  refine lv_istore (lv' := [(4, .int (iI (99))), (0, .ref (b 0)), (1, .int (iI (o))), (2, .int (iI (c))), (3, .int (iI (im)))]) hx hb dX5_mostOf_2 hl (by decide) rfl (fun ls hl => ?_)
  have L4 : ∀ (k4 : Nat), ∀ (z : Int), (z).toNat < k4 → (0 ≤ z ∧ z ≤ 99) → (z = 99 ∨ reasonN σ o ≠ 0 ∨ (if im = 0 then lowS σ c (σ 0 0) - σ 3 c else σ 4 c - highS σ c) < z + 1) → ∀ (ls : Array Slot), lv_has ls 5 [(4, .int (iI (z))), (0, .ref (b 0)), (1, .int (iI (o))), (2, .int (iI (c))), (3, .int (iI (im)))] → W p9 l e9 ({ frames := 5, cells := 0, slots := 0, locals := 118 } : Room) s m ([.ref (b 0), .int (iI (o)), .int (iI (c)), .int (iI (im))] : List Value).toArray below9 meth9 c9 s.heap [] 0 0 (MQ below9 (wr_Si (fun r => r = mostS σ o c im)) ([.ref (b 0), .int (iI (o)), .int (iI (c)), .int (iI (im))] : List Value).toArray s 0 0 (fun _ => False)) (F0 m 4 ls []) := by
    intro k4
    induction k4 with
    | zero =>
      intro z hm
      exact absurd hm (Nat.not_lt_zero _)
    | succ k4 ih4 =>
      intro z hm4 hz hz2 ls hl
      refine lv_iload hx hb dX5_mostOf_4 (lv_at hl 0 rfl) ?_
      refine wi_if_le (tgt := 37) hx hb dX5_mostOf_6 (by decide) (by omega) (fun c_6 => ?_) (fun c_6 => ?_)
      · skip
        refine lv_iload hx hb dX5_mostOf_37 (lv_at hl 0 rfl) ?_
        exact W.iret (v := iI (z)) hx hb hr (fun t9 ht9 hW9 => ⟨(z), rfl, ((Decidable.em (reasonN σ o ≠ 0)).elim (fun q => by unfold mostS; rw [if_pos q]; omega) (fun q => by unfold mostS; rw [if_neg q]; omega)), ht9⟩) (fun _ h => nomatch h) dX5_mostOf_39 hlocks
      · skip
        have hp9 := hrp z (by omega)
        have hm9 := hrm z (by omega)
        have hr1 := hrn z (-1)
        have hr2 := hrn (-z) (-1)
        refine lv_aload_n hx hb dX5_mostOf_9 rfl (lv_at hl 1 rfl) ?_
        refine lv_iload_n hx hb dX5_mostOf_10 rfl (lv_at hl 2 rfl) ?_
        refine lv_iload_n hx hb dX5_mostOf_11 rfl (lv_at hl 3 rfl) ?_
        refine lv_iload_n hx hb dX5_mostOf_12 rfl (lv_at hl 4 rfl) ?_
        refine wi_if_eq (tgt := 21) hx hb dX5_mostOf_13 (by decide) (by omega) (fun c_13 => ?_) (fun c_13 => ?_)
        · skip
          refine lv_iload hx hb dX5_mostOf_21 (lv_at hl 0 rfl) ?_
          refine wi_ineg hx hb dX5_mostOf_23 ?_
          refine wi_iconst hx hb dX5_mostOf_24 ?_
          refine wr_calli (va_runV (As := [.int (iI (o)), .int (iI (c)), .int (iI ((-z))), .int (iI (-1))]) (rest := []) ⟨hx, hb, hml, hown, hts⟩ (c_X5_reason l D cI cO cC cL b μ σ (o) (c) ((-z)) (-1) (ho) (hc) (by omega) (by omega) (hR) (hI)) (cwV 4 hts gX5_mostOf_X5_reason rfl rfl rfl (by decide +kernel) ⟨Nat.le_of_ble_eq_true rfl, Nat.le_of_ble_eq_true rfl⟩) ⟨pcR_blind, va_recv hK hP (ci := 5) (q0 := 0) rfl rfl, pcR_of hP hK⟩ rfl rfl hl.1 rfl (lv_room (Nat.le_of_ble_eq_true rfl)) dX5_mostOf_25 ⟨(Nat.zero_le _), (Nat.zero_le _)⟩) (fun r1 hr1 => ?_)
          subst hr1
          refine wi_if_le (tgt := 37) hx hb dX5_mostOf_28 (by decide) (by omega) (fun c_28 => ?_) (fun c_28 => ?_)
          · skip
            refine lv_iload hx hb dX5_mostOf_37 (lv_at hl 0 rfl) ?_
            exact W.iret (v := iI (z)) hx hb hr (fun t9 ht9 hW9 => ⟨(z), rfl, ((Decidable.em (reasonN σ o ≠ 0)).elim (fun q => by unfold mostS; rw [if_pos q]; omega) (fun q => by unfold mostS; rw [if_neg q]; omega)), ht9⟩) (fun _ h => nomatch h) dX5_mostOf_39 hlocks
          · skip
            refine wi_iinc (lv' := [(4, .int (iI ((z + (-1))))), (0, .ref (b 0)), (1, .int (iI (o))), (2, .int (iI (c))), (3, .int (iI (im)))]) hx hb dX5_mostOf_31 hl (k := 0) rfl (by decide) rfl (fun ls hl => ?_)
            refine lv_goto (tgt := 4) hx hb dX5_mostOf_34 (by decide) ?_
            exact ih4 ((z + (-1))) (by omega) (by omega) (by omega)  ls (lv_sub hl [0, 1, 2, 3, 4] rfl)
        · skip
          refine lv_iload hx hb dX5_mostOf_16 (lv_at hl 0 rfl) ?_
          refine lv_goto (tgt := 24) hx hb dX5_mostOf_18 (by decide) ?_
          refine wi_iconst hx hb dX5_mostOf_24 ?_
          refine wr_calli (va_runV (As := [.int (iI (o)), .int (iI (c)), .int (iI (z)), .int (iI (-1))]) (rest := []) ⟨hx, hb, hml, hown, hts⟩ (c_X5_reason l D cI cO cC cL b μ σ (o) (c) (z) (-1) (ho) (hc) (by omega) (by omega) (hR) (hI)) (cwV 4 hts gX5_mostOf_X5_reason rfl rfl rfl (by decide +kernel) ⟨Nat.le_of_ble_eq_true rfl, Nat.le_of_ble_eq_true rfl⟩) ⟨pcR_blind, va_recv hK hP (ci := 5) (q0 := 0) rfl rfl, pcR_of hP hK⟩ rfl rfl hl.1 rfl (lv_room (Nat.le_of_ble_eq_true rfl)) dX5_mostOf_25 ⟨(Nat.zero_le _), (Nat.zero_le _)⟩) (fun r2 hr2 => ?_)
          subst hr2
          refine wi_if_le (tgt := 37) hx hb dX5_mostOf_28 (by decide) (by omega) (fun c_28 => ?_) (fun c_28 => ?_)
          · skip
            refine lv_iload hx hb dX5_mostOf_37 (lv_at hl 0 rfl) ?_
            exact W.iret (v := iI (z)) hx hb hr (fun t9 ht9 hW9 => ⟨(z), rfl, ((Decidable.em (reasonN σ o ≠ 0)).elim (fun q => by unfold mostS; rw [if_pos q]; omega) (fun q => by unfold mostS; rw [if_neg q]; omega)), ht9⟩) (fun _ h => nomatch h) dX5_mostOf_39 hlocks
          · skip
            refine wi_iinc (lv' := [(4, .int (iI ((z + (-1))))), (0, .ref (b 0)), (1, .int (iI (o))), (2, .int (iI (c))), (3, .int (iI (im)))]) hx hb dX5_mostOf_31 hl (k := 0) rfl (by decide) rfl (fun ls hl => ?_)
            refine lv_goto (tgt := 4) hx hb dX5_mostOf_34 (by decide) ?_
            exact ih4 ((z + (-1))) (by omega) (by omega) (by omega)  ls (lv_sub hl [0, 1, 2, 3, 4] rfl)
  exact L4 _ (99) (Nat.lt_succ_self _) (by omega) (by omega)  ls (lv_sub hl [0, 1, 2, 3, 4] rfl)
set_option maxHeartbeats 4000000 in
set_option maxRecDepth 100000 in
theorem c_X5_passedBy (l : Launch) (D : va_G) (cI cO cC cL : ClassId) (b : Nat → Nat) (μ σ : Nat → Int → Int) (u w : Int) (hu : 0 ≤ u ∧ u ≤ 200) (hw : 0 ≤ w ∧ w ≤ 4) (hR : RelN σ (μ 1)) (hI : Inv σ) : Met l yX5_passedBy wsX5_passedBy ({ frames := 3, cells := 0, slots := 0, locals := 70 } : Room) (pcR D [(cI, FieldType.int)] [.ref (b 0), .int (iI (u)), .int (iI (w))] (fl [mdW cI b μ])) (wr_Si (fun r => r = pasS σ u w)) 0 0 (fun _ => False) := by
  refine Met.ofW (cc := cX5_passedBy) (maxL := 5) (ret := (some .int)) (by decide) rfl ?_
  intro p9 e9 s m args9 below9 meth9 c9 s₁ B hml hv
  obtain ⟨rfl, hP, hK⟩ := hv
  have hx := B.exec
  have hb := B.bytes
  have hr := B.returns
  have hts := atoms_spec (ws := wsX5_passedBy) B.pre
  have hown : s.vm.findClass RX5 = some m.cls := findClass_of_methodNamed B.named
  have hlocks := B.notSynchronized
  have hl := lv_entry ([.ref (b 0), .int (iI (u)), .int (iI (w))]) (n := 5) (Nat.le_of_ble_eq_true rfl)
  rw [lg_entry_eq]
  generalize (lg_sl ([.ref (b 0), .int (iI (u)), .int (iI (w))]) ++ List.replicate (5 - (lg_sl ([.ref (b 0), .int (iI (u)), .int (iI (w))])).length) Slot.unset).toArray = ls at hl ⊢
  have hl : lv_has ls 5 [(0, .ref (b 0)), (1, .int (iI (u))), (2, .int (iI (w)))] := hl
  have hw_0 := hts (.fieldLink RX5 7 "PromisedCountersModel" "now" "[I") (by decide +kernel)
  have hin_X5 : ∀ w ∈ u_ws RX5 TX5 12, w ∈ wsX5_passedBy := by decide +kernel
  have hn := hI.n
  have hti := hI.t
  obtain ⟨hm0, hm1, hm2, hm3, hm4⟩ := hR.1
  refine lv_iload_n hx hb dX5_passedBy_0 rfl (lv_at hl 2 rfl) ?_
  refine wi_if_le (tgt := 42) hx hb dX5_passedBy_1 (by decide) (by omega) (fun c_1 => ?_) (fun c_1 => ?_)
  · skip
    refine wi_iconst hx hb dX5_passedBy_42 ?_
    refine lv_istore_n (lv' := [(3, .int (iI (0))), (0, .ref (b 0)), (1, .int (iI (u))), (2, .int (iI (w)))]) hx hb dX5_passedBy_43 rfl hl (by decide) rfl (fun ls hl => ?_)
    refine wi_iconst hx hb dX5_passedBy_44 ?_
    refine lv_istore (lv' := [(4, .int (iI (0))), (3, .int (iI (0))), (0, .ref (b 0)), (1, .int (iI (u))), (2, .int (iI (w)))]) hx hb dX5_passedBy_45 hl (by decide) rfl (fun ls hl => ?_)
    have L47 : ∀ (k47 : Nat), ∀ (p : Int) (acc : Int), (σ 0 1 - p).toNat < k47 → (0 ≤ p ∧ p ≤ σ 0 1) → (acc = sm (fun p => if σ 9 p ≤ σ 0 0 + u then 1 else 0) p.toNat) → ∀ (ls : Array Slot), lv_has ls 5 [(4, .int (iI (p))), (3, .int (iI (acc))), (0, .ref (b 0)), (1, .int (iI (u))), (2, .int (iI (w)))] → W p9 l e9 ({ frames := 3, cells := 0, slots := 0, locals := 70 } : Room) s m ([.ref (b 0), .int (iI (u)), .int (iI (w))] : List Value).toArray below9 meth9 c9 s.heap [] 0 0 (MQ below9 (wr_Si (fun r => r = pasS σ u w)) ([.ref (b 0), .int (iI (u)), .int (iI (w))] : List Value).toArray s 0 0 (fun _ => False)) (F0 m 47 ls []) := by
      intro k47
      induction k47 with
      | zero =>
        intro p acc hm
        exact absurd hm (Nat.not_lt_zero _)
      | succ k47 ih47 =>
        intro p acc hm47 hp hacc ls hl
        refine lv_iload hx hb dX5_passedBy_47 (lv_at hl 0 rfl) ?_
        refine lv_aload_n hx hb dX5_passedBy_49 rfl (lv_at hl 2 rfl) ?_
        refine va_get (D := D) (ci := 5) (v := .ref (b 1)) (C := RX5) (T := TX5) (N := 12) hx hb hts hin_X5 hown hK hP 0 rfl rfl 0 (by decide) hw_0 (fun _ h9 => h9) rfl dX5_passedBy_50 ?_
        refine wi_iconst hx hb dX5_passedBy_53 ?_
        refine wi_iald hx hb hK hP 1 0 (n := 115) (f := μ 1) rfl rfl (i := 3) (by omega) (by decide) dX5_passedBy_54 ?_
        refine wi_icmp_ge (tgt := 90) hx hb dX5_passedBy_55 (by decide) (by omega) (fun c_55 => ?_) (fun c_55 => ?_)
        · skip
          refine lv_iload_n hx hb dX5_passedBy_90 rfl (lv_at hl 1 rfl) ?_
          exact W.iret (v := iI (acc)) hx hb hr (fun t9 ht9 hW9 => ⟨(acc), rfl, (by unfold pasS; rw [if_pos (by omega), hacc, show p = σ 0 1 by omega]; rfl), ht9⟩) (fun _ h => nomatch h) dX5_passedBy_91 hlocks
        · skip
          have hpr := hI.pr (p := p) (by omega) (by omega)
          obtain ⟨hp1, hp2, hp3, hp4, hp5⟩ := id hpr
          obtain ⟨hq0, hq1, hq2, hq3, hq4⟩ := hR.2.2.2 p (by omega) (by omega)
          refine lv_iload_n hx hb dX5_passedBy_58 rfl (lv_at hl 1 rfl) ?_
          refine lv_aload_n hx hb dX5_passedBy_59 rfl (lv_at hl 2 rfl) ?_
          refine lv_iload hx hb dX5_passedBy_60 (lv_at hl 0 rfl) ?_
          refine wi_iconst hx hb dX5_passedBy_62 ?_
          refine wr_calli (va_runV (As := [.int (iI (p)), .int (iI (4))]) (rest := [.int (iI (acc))]) ⟨hx, hb, hml, hown, hts⟩ (c_X5_of l D cI cO cC cL b μ (p) (4) (by omega) (by omega)) (cwV 2 hts gX5_passedBy_X5_of rfl rfl rfl (by decide +kernel) ⟨Nat.le_of_ble_eq_true rfl, Nat.le_of_ble_eq_true rfl⟩) ⟨pcR_blind, va_recv hK hP (ci := 5) (q0 := 0) rfl rfl, pcR_of hP hK⟩ rfl rfl hl.1 rfl (lv_room (Nat.le_of_ble_eq_true rfl)) dX5_passedBy_63 ⟨(Nat.zero_le _), (Nat.zero_le _)⟩) (fun r1 hr1 => ?_)
          subst hr1
          refine lv_aload_n hx hb dX5_passedBy_66 rfl (lv_at hl 2 rfl) ?_
          refine va_get (D := D) (ci := 5) (v := .ref (b 1)) (C := RX5) (T := TX5) (N := 12) hx hb hts hin_X5 hown hK hP 0 rfl rfl 0 (by decide) hw_0 (fun _ h9 => h9) rfl dX5_passedBy_67 ?_
          refine wi_iconst hx hb dX5_passedBy_70 ?_
          refine wi_iald hx hb hK hP 1 0 (n := 115) (f := μ 1) rfl rfl (i := 0) (by omega) (by decide) dX5_passedBy_71 ?_
          refine lv_iload_n hx hb dX5_passedBy_72 rfl (lv_at hl 3 rfl) ?_
          refine wi_iadd hx hb dX5_passedBy_73 ?_
          refine wi_icmp_gt (tgt := 81) hx hb dX5_passedBy_74 (by decide) (by omega) (fun c_74 => ?_) (fun c_74 => ?_)
          · skip
            refine wi_iconst hx hb dX5_passedBy_81 ?_
            refine wi_iadd hx hb dX5_passedBy_82 ?_
            refine lv_istore_n (lv' := [(3, .int (iI ((acc + 0)))), (4, .int (iI (p))), (0, .ref (b 0)), (1, .int (iI (u))), (2, .int (iI (w)))]) hx hb dX5_passedBy_83 rfl hl (by decide) rfl (fun ls hl => ?_)
            refine wi_iinc (lv' := [(4, .int (iI ((p + 1)))), (3, .int (iI ((acc + 0)))), (0, .ref (b 0)), (1, .int (iI (u))), (2, .int (iI (w)))]) hx hb dX5_passedBy_84 hl (k := 1) rfl (by decide) rfl (fun ls hl => ?_)
            refine lv_goto (tgt := 47) hx hb dX5_passedBy_87 (by decide) ?_
            exact ih47 ((p + 1)) ((acc + 0)) (by omega) (by omega) (by rw [sm_step (by omega)]; omega)  ls (lv_sub hl [0, 1, 2, 3, 4] rfl)
          · skip
            refine wi_iconst hx hb dX5_passedBy_77 ?_
            refine lv_goto (tgt := 82) hx hb dX5_passedBy_78 (by decide) ?_
            refine wi_iadd hx hb dX5_passedBy_82 ?_
            refine lv_istore_n (lv' := [(3, .int (iI ((acc + 1)))), (4, .int (iI (p))), (0, .ref (b 0)), (1, .int (iI (u))), (2, .int (iI (w)))]) hx hb dX5_passedBy_83 rfl hl (by decide) rfl (fun ls hl => ?_)
            refine wi_iinc (lv' := [(4, .int (iI ((p + 1)))), (3, .int (iI ((acc + 1)))), (0, .ref (b 0)), (1, .int (iI (u))), (2, .int (iI (w)))]) hx hb dX5_passedBy_84 hl (k := 1) rfl (by decide) rfl (fun ls hl => ?_)
            refine lv_goto (tgt := 47) hx hb dX5_passedBy_87 (by decide) ?_
            exact ih47 ((p + 1)) ((acc + 1)) (by omega) (by omega) (by rw [sm_step (by omega)]; omega)  ls (lv_sub hl [0, 1, 2, 3, 4] rfl)
    exact L47 _ (0) (0) (Nat.lt_succ_self _) (by omega) (rfl)  ls (lv_sub hl [0, 1, 2, 3, 4] rfl)
  · skip
    obtain ⟨hk1, hk2, hk3⟩ := hR.2.1 (w - 1) (by omega) (by omega)
    refine lv_iload_n hx hb dX5_passedBy_4 rfl (lv_at hl 2 rfl) ?_
    refine wi_iconst hx hb dX5_passedBy_5 ?_
    refine wi_isub hx hb dX5_passedBy_6 ?_
    refine lv_istore_n (lv' := [(3, .int (iI ((w - 1)))), (0, .ref (b 0)), (1, .int (iI (u))), (2, .int (iI (w)))]) hx hb dX5_passedBy_7 rfl hl (by decide) rfl (fun ls hl => ?_)
    refine lv_aload_n hx hb dX5_passedBy_8 rfl (lv_at hl 1 rfl) ?_
    refine va_get (D := D) (ci := 5) (v := .ref (b 1)) (C := RX5) (T := TX5) (N := 12) hx hb hts hin_X5 hown hK hP 0 rfl rfl 0 (by decide) hw_0 (fun _ h9 => h9) rfl dX5_passedBy_9 ?_
    refine wi_iconst hx hb dX5_passedBy_12 ?_
    refine lv_iload_n hx hb dX5_passedBy_13 rfl (lv_at hl 0 rfl) ?_
    refine wi_iadd hx hb dX5_passedBy_14 ?_
    refine wi_iald hx hb hK hP 1 0 (n := 115) (f := μ 1) rfl rfl (i := (5 + (w - 1))) (by omega) (by decide) dX5_passedBy_15 ?_
    refine lv_aload_n hx hb dX5_passedBy_16 rfl (lv_at hl 1 rfl) ?_
    refine lv_iload_n hx hb dX5_passedBy_17 rfl (lv_at hl 0 rfl) ?_
    refine wi_iconst hx hb dX5_passedBy_18 ?_
    refine lv_aload_n hx hb dX5_passedBy_19 rfl (lv_at hl 1 rfl) ?_
    refine va_get (D := D) (ci := 5) (v := .ref (b 1)) (C := RX5) (T := TX5) (N := 12) hx hb hts hin_X5 hown hK hP 0 rfl rfl 0 (by decide) hw_0 (fun _ h9 => h9) rfl dX5_passedBy_20 ?_
    refine wi_iconst hx hb dX5_passedBy_23 ?_
    refine wi_iald hx hb hK hP 1 0 (n := 115) (f := μ 1) rfl rfl (i := 0) (by omega) (by decide) dX5_passedBy_24 ?_
    refine lv_iload_n hx hb dX5_passedBy_25 rfl (lv_at hl 2 rfl) ?_
    refine wi_iadd hx hb dX5_passedBy_26 ?_
    refine wr_calli (va_runV (As := [.int (iI ((w - 1))), .int (iI (-1)), .int (iI (((μ 1 (0)) + u)))]) (rest := [.int (iI ((μ 1 ((5 + (w - 1))))))]) ⟨hx, hb, hml, hown, hts⟩ (c_X5_sum l D cI cO cC cL b μ σ ((w - 1)) (-1) (((μ 1 (0)) + u)) (by omega) (by omega) (by omega) (hR) (hI)) (cwV 3 hts gX5_passedBy_X5_sum rfl rfl rfl (by decide +kernel) ⟨Nat.le_of_ble_eq_true rfl, Nat.le_of_ble_eq_true rfl⟩) ⟨pcR_blind, va_recv hK hP (ci := 5) (q0 := 0) rfl rfl, pcR_of hP hK⟩ rfl rfl hl.1 rfl (lv_room (Nat.le_of_ble_eq_true rfl)) dX5_passedBy_27 ⟨(Nat.zero_le _), (Nat.zero_le _)⟩) (fun r2 hr2 => ?_)
    subst hr2
    refine wi_iadd hx hb dX5_passedBy_30 ?_
    refine lv_aload_n hx hb dX5_passedBy_31 rfl (lv_at hl 1 rfl) ?_
    refine va_get (D := D) (ci := 5) (v := .ref (b 1)) (C := RX5) (T := TX5) (N := 12) hx hb hts hin_X5 hown hK hP 0 rfl rfl 0 (by decide) hw_0 (fun _ h9 => h9) rfl dX5_passedBy_32 ?_
    refine wi_bipush hx hb dX5_passedBy_35 (by decide) ?_
    refine lv_iload_n hx hb dX5_passedBy_37 rfl (lv_at hl 0 rfl) ?_
    refine wi_iadd hx hb dX5_passedBy_38 ?_
    refine wi_iald hx hb hK hP 1 0 (n := 115) (f := μ 1) rfl rfl (i := (9 + (w - 1))) (by omega) (by decide) dX5_passedBy_39 ?_
    refine wi_isub hx hb dX5_passedBy_40 ?_
    exact W.iret (v := iI ((((μ 1 ((5 + (w - 1)))) + (sumM σ ((w - 1)) (-1) (((μ 1 (0)) + u)))) - (μ 1 ((9 + (w - 1))))))) hx hb hr (fun t9 ht9 hW9 => ⟨((((μ 1 ((5 + (w - 1)))) + (sumM σ ((w - 1)) (-1) (((μ 1 (0)) + u)))) - (μ 1 ((9 + (w - 1)))))), rfl, (by unfold pasS; rw [if_neg (by omega), hk1, hm0, sumM_low, hk2]), ht9⟩) (fun _ h => nomatch h) dX5_passedBy_41 hlocks
set_option maxHeartbeats 4000000 in
set_option maxRecDepth 100000 in
theorem c_X5_fewestFor (l : Launch) (D : va_G) (cI cO cC cL : ClassId) (sz : Nat) (b : Nat → Nat) (μ σ : Nat → Int → Int) (c x : Int) (hc : 0 ≤ c ∧ c < 4) (hx0 : R32 x) (hR : RelN σ (μ 1)) (hI : Inv σ) : Met l yX5_fewestFor wsX5_fewestFor ({ frames := 4, cells := 0, slots := 0, locals := 91 } : Room) (pcW D [(cI, FieldType.int)] [.ref (b 0), .int (iI (c)), .int (iI (x))] (fl [mdW cI b μ]) sz) (wq_i (fun (r : Int) (f : Int → Int) => r = fewS σ c x) (fun (f : Int → Int) => (bW D [(cI, FieldType.int)] (fl [mdW cI b (sR μ 5 f)]) (va_A (fl [mdW cI b μ]) sz))) (va_A (fl [mdW cI b μ]) sz)) 0 0 (va_A (fl [mdW cI b μ]) sz) := by
  refine Met.ofW (cc := cX5_fewestFor) (maxL := 3) (ret := (some .int)) (by decide) rfl ?_
  intro p9 e9 s m args9 below9 meth9 c9 s₁ B hml hv
  obtain ⟨rfl, hsz, hP, hK, hD0⟩ := hv
  have hx := B.exec
  have hb := B.bytes
  have hr := B.returns
  have hts := atoms_spec (ws := wsX5_fewestFor) B.pre
  have hown : s.vm.findClass RX5 = some m.cls := findClass_of_methodNamed B.named
  have hlocks := B.notSynchronized
  subst hsz
  have hD := hD0.self (sz := s.heap.size)
  generalize hAe : va_A (fl [mdW cI b μ]) s.heap.size = A at hD ⊢
  have hA : ∀ q : Nat, s.heap.size ≤ q → A q := fun q h => by rw [← hAe]; exact Or.inr h
  have hS : va_S A s.heap s.heap [] := va_S.rf
  have hP : va_P D vwCl (fl [mdW cI b μ]) s.heap := hP
  have hl := lv_entry ([.ref (b 0), .int (iI (c)), .int (iI (x))]) (n := 3) (Nat.le_of_ble_eq_true rfl)
  rw [lg_entry_eq]
  generalize (lg_sl ([.ref (b 0), .int (iI (c)), .int (iI (x))]) ++ List.replicate (3 - (lg_sl ([.ref (b 0), .int (iI (c)), .int (iI (x))])).length) Slot.unset).toArray = ls at hl ⊢
  have hl : lv_has ls 3 [(0, .ref (b 0)), (1, .int (iI (c))), (2, .int (iI (x)))] := hl
  have hw_0 := hts (.fieldLink RX5 22 "PromisedCountersModel" "fewest" "[I") (by decide +kernel)
  have hin_X5 : ∀ w ∈ u_ws RX5 TX5 12, w ∈ wsX5_fewestFor := by decide +kernel
  have hw_1 := hts (.fieldLink RX5 7 "PromisedCountersModel" "now" "[I") (by decide +kernel)
  have hn := hI.n
  have hti := hI.t
  obtain ⟨hm0, hm1, hm2, hm3, hm4⟩ := hR.1
  obtain ⟨hk1, hk2, hk3⟩ := hR.2.1 c hc.1 hc.2
  have hcc := hI.c hc.1 hc.2
  have hlm := low_mn hI c
  have hhm := high_mx σ c
  have hmr := mx_r hI c (k := (σ 0 1).toNat) (by omega)
  refine lv_iload_n hx hb dX5_fewestFor_0 rfl (lv_at hl 2 rfl) ?_
  refine lv_aload_n hx hb dX5_fewestFor_1 rfl (lv_at hl 0 rfl) ?_
  refine lv_iload_n hx hb dX5_fewestFor_2 rfl (lv_at hl 1 rfl) ?_
  refine wr_calli (va_runV (As := [.int (iI (c))]) (rest := [.int (iI (x))]) ⟨hx, hb, hml, hown, hts⟩ (c_X5_low l D cI cO cC cL b μ σ (c) (hc) (hR) (hI)) (cwV 1 hts gX5_fewestFor_X5_low rfl rfl rfl (by decide +kernel) ⟨Nat.le_of_ble_eq_true rfl, Nat.le_of_ble_eq_true rfl⟩) ⟨pcR_blind, va_recv hK hP (ci := 5) (q0 := 0) rfl rfl, pcR_of hP hK⟩ rfl rfl hl.1 rfl (lv_room (Nat.le_of_ble_eq_true rfl)) dX5_fewestFor_3 ⟨(Nat.zero_le _), (Nat.zero_le _)⟩) (fun r1 hr1 => ?_)
  subst hr1
  refine lv_aload_n hx hb dX5_fewestFor_6 rfl (lv_at hl 0 rfl) ?_
  refine lv_iload_n hx hb dX5_fewestFor_7 rfl (lv_at hl 1 rfl) ?_
  refine wr_calli (va_runV (As := [.int (iI (c))]) (rest := [.int (iI ((lowS σ (c) (σ 0 0)))), .int (iI (x))]) ⟨hx, hb, hml, hown, hts⟩ (c_X5_high l D cI cO cC cL b μ σ (c) (hc) (hR) (hI)) (cwV 1 hts gX5_fewestFor_X5_high rfl rfl rfl (by decide +kernel) ⟨Nat.le_of_ble_eq_true rfl, Nat.le_of_ble_eq_true rfl⟩) ⟨pcR_blind, va_recv hK hP (ci := 5) (q0 := 0) rfl rfl, pcR_of hP hK⟩ rfl rfl hl.1 rfl (lv_room (Nat.le_of_ble_eq_true rfl)) dX5_fewestFor_8 ⟨(Nat.zero_le _), (Nat.zero_le _)⟩) (fun r2 hr2 => ?_)
  subst hr2
  refine wr_calli (va_runS (As := [.int (iI (x)), .int (iI ((lowS σ (c) (σ 0 0)))), .int (iI ((highS σ (c))))]) (rest := []) ⟨hx, hb, hml, hown, hts⟩ (c_X5_in l D cI cO cC cL (x) ((lowS σ (c) (σ 0 0))) ((highS σ (c))) (by omega) (by omega) (by omega)) (cwS 3 hts gX5_fewestFor_X5_in rfl rfl rfl (by decide +kernel) ⟨Nat.le_of_ble_eq_true rfl, Nat.le_of_ble_eq_true rfl⟩) ⟨fun _ _ _ _ h => h, fun U hU hW => ⟨rfl, trivial⟩⟩ rfl rfl hl.1 rfl (lv_room (Nat.le_of_ble_eq_true rfl)) dX5_fewestFor_11 ⟨(Nat.zero_le _), (Nat.zero_le _)⟩) (fun r3 hr3 => ?_)
  subst hr3
  refine wi_if_ne (tgt := 19) hx hb dX5_fewestFor_14 (by decide) (by omega) (fun c_14 => ?_) (fun c_14 => ?_)
  · skip
    refine lv_aload_n hx hb dX5_fewestFor_19 rfl (lv_at hl 0 rfl) ?_
    refine lv_iload_n hx hb dX5_fewestFor_20 rfl (lv_at hl 1 rfl) ?_
    have hFc := fl_free (SC := [mdW cI b μ]) hD hS hA [0] rfl
    refine wq_calli (va_runV (As := [.int (iI (c))]) (rest := []) ⟨hx, hb, hml, hown, hts⟩ (c_X5_sums l D cI cO cC cL s.heap.size b μ σ (c) (hc) (hR) (hI)) (cwV 1 hts gX5_fewestFor_X5_sums rfl rfl rfl (by decide +kernel) ⟨Nat.le_of_ble_eq_true rfl, Nat.le_of_ble_eq_true rfl⟩) ⟨pcW_blind, va_recv hK hP (ci := 5) (q0 := 0) rfl rfl, pcW_of hP hK hD⟩ rfl rfl hl.1 rfl (lv_room (Nat.le_of_ble_eq_true rfl)) dX5_fewestFor_21 ⟨(Nat.zero_le _), (Nat.zero_le _)⟩) hS (fun q _ h => hFc q h) hFc (fun r4 u6 t9 H1 locs ht9 hvm hq5 hB hz1 hk1 hS => ?_)
    obtain ⟨hP1, hK1, hD1⟩ := hB
    rw [ht9] at hP1
    obtain ⟨hP, hD⟩ := fl_join (SR := []) (S1 := [mdW cI b (sR μ 5 u6)]) hP hD [0] [] rfl rfl (by decide) (by decide) hk1 hFc hP1 hD1
    generalize H1 = H at hP hS ⊢
    have hP : va_P D vwCl (fl [mdW cI b (sR μ 5 u6)]) H := hP
    have hD : va_D A (fl [mdW cI b (sR μ 5 u6)]) := hD
    obtain ⟨hr9, hu9⟩ := hq5
    refine lv_pop hx hb dX5_fewestFor_24 rfl ?_
    refine lv_aload_n hx hb dX5_fewestFor_25 rfl (lv_at hl 0 rfl) ?_
    refine va_get (D := D) (ci := 5) (v := .ref (b 5)) (C := RX5) (T := TX5) (N := 12) hx hb hts hin_X5 hown hK hP 0 rfl rfl 11 (by decide) hw_0 (fun _ h9 => h9) rfl dX5_fewestFor_26 ?_
    refine wi_sipush hx hb dX5_fewestFor_29 (by decide) ?_
    refine lv_iload_n hx hb dX5_fewestFor_32 rfl (lv_at hl 2 rfl) ?_
    refine wi_iadd hx hb dX5_fewestFor_33 ?_
    refine lv_aload_n hx hb dX5_fewestFor_34 rfl (lv_at hl 0 rfl) ?_
    refine va_get (D := D) (ci := 5) (v := .ref (b 1)) (C := RX5) (T := TX5) (N := 12) hx hb hts hin_X5 hown hK hP 0 rfl rfl 0 (by decide) hw_1 (fun _ h9 => h9) rfl dX5_fewestFor_35 ?_
    refine wi_iconst hx hb dX5_fewestFor_38 ?_
    refine lv_iload_n hx hb dX5_fewestFor_39 rfl (lv_at hl 1 rfl) ?_
    refine wi_iadd hx hb dX5_fewestFor_40 ?_
    refine wi_iald hx hb hK hP 1 0 (n := 115) (f := μ 1) rfl rfl (i := (5 + c)) (by omega) (by decide) dX5_fewestFor_41 ?_
    refine wi_isub hx hb dX5_fewestFor_42 ?_
    refine wi_iald hx hb hK hP 5 0 (n := 3169) (f := u6) rfl rfl (i := ((1584 + x) - (μ 1 ((5 + c))))) (by omega) (by decide) dX5_fewestFor_43 ?_
    have hP : va_P D vwCl (fl [mdW cI b (sR μ 5 (u6))]) H := hP
    have hD : va_D A (fl [mdW cI b (sR μ 5 (u6))]) := hD
    exact W.iret (v := iI ((u6 (((1584 + x) - (μ 1 ((5 + c)))))))) hx hb hr (fun t9 ht9 hW9 => ⟨⟨((u6 (((1584 + x) - (μ 1 ((5 + c))))))), (u6), rfl, (by unfold fewS; rw [if_neg (by omega)]; show u6 (1584 + x - μ 1 (5 + c)) = _; rw [hu9 _ (by omega) (by omega)]; exact congrArg _ (by omega)), ⟨by rw [ht9]; exact hP, va_K.moved hW9.alike hK, hD⟩⟩, hS.F ht9⟩) hS.2.2 dX5_fewestFor_44 hlocks
  · skip
    refine wi_iconst hx hb dX5_fewestFor_17 ?_
    have hP : va_P D vwCl (fl [mdW cI b (sR μ 5 (μ 5))]) s.heap := hP
    have hD : va_D A (fl [mdW cI b (sR μ 5 (μ 5))]) := hD
    exact W.iret (v := iI (-1)) hx hb hr (fun t9 ht9 hW9 => ⟨⟨(-1), (μ 5), rfl, (by unfold fewS; rw [if_pos (by omega)]), ⟨by rw [ht9]; exact hP, va_K.moved hW9.alike hK, hD⟩⟩, hS.F ht9⟩) hS.2.2 dX5_fewestFor_18 hlocks
set_option maxHeartbeats 4000000 in
set_option maxRecDepth 100000 in
theorem c_X5_ofCounter (l : Launch) (D : va_G) (cI cO cC cL : ClassId) (sz : Nat) (b : Nat → Nat) (μ σ : Nat → Int → Int) (c w : Int) (hc : 0 ≤ c ∧ c < 4) (hw : 0 ≤ w ∧ w ≤ 9) (hR : RelN σ (μ 1)) (hI : Inv σ) : Met l yX5_ofCounter wsX5_ofCounter ({ frames := 4, cells := 0, slots := 0, locals := 91 } : Room) (pcW D [(cI, FieldType.int)] [.ref (b 0), .int (iI (c)), .int (iI (w))] (fl [mdW cI b μ]) sz) (wq_i (fun (r : Int) (f : Int → Int) => r = ctrS σ c w) (fun (f : Int → Int) => (bW D [(cI, FieldType.int)] (fl [mdW cI b (sR μ 5 f)]) (va_A (fl [mdW cI b μ]) sz))) (va_A (fl [mdW cI b μ]) sz)) 0 0 (va_A (fl [mdW cI b μ]) sz) := by
  refine Met.ofW (cc := cX5_ofCounter) (maxL := 3) (ret := (some .int)) (by decide) rfl ?_
  intro p9 e9 s m args9 below9 meth9 c9 s₁ B hml hv
  obtain ⟨rfl, hsz, hP, hK, hD0⟩ := hv
  have hx := B.exec
  have hb := B.bytes
  have hr := B.returns
  have hts := atoms_spec (ws := wsX5_ofCounter) B.pre
  have hown : s.vm.findClass RX5 = some m.cls := findClass_of_methodNamed B.named
  have hlocks := B.notSynchronized
  subst hsz
  have hD := hD0.self (sz := s.heap.size)
  generalize hAe : va_A (fl [mdW cI b μ]) s.heap.size = A at hD ⊢
  have hA : ∀ q : Nat, s.heap.size ≤ q → A q := fun q h => by rw [← hAe]; exact Or.inr h
  have hS : va_S A s.heap s.heap [] := va_S.rf
  have hP : va_P D vwCl (fl [mdW cI b μ]) s.heap := hP
  have hl := lv_entry ([.ref (b 0), .int (iI (c)), .int (iI (w))]) (n := 3) (Nat.le_of_ble_eq_true rfl)
  rw [lg_entry_eq]
  generalize (lg_sl ([.ref (b 0), .int (iI (c)), .int (iI (w))]) ++ List.replicate (3 - (lg_sl ([.ref (b 0), .int (iI (c)), .int (iI (w))])).length) Slot.unset).toArray = ls at hl ⊢
  have hl : lv_has ls 3 [(0, .ref (b 0)), (1, .int (iI (c))), (2, .int (iI (w)))] := hl
  have hw_0 := hts (.fieldLink RX5 7 "PromisedCountersModel" "now" "[I") (by decide +kernel)
  have hin_X5 : ∀ w ∈ u_ws RX5 TX5 12, w ∈ wsX5_ofCounter := by decide +kernel
  have hn := hI.n
  have hti := hI.t
  obtain ⟨hm0, hm1, hm2, hm3, hm4⟩ := hR.1
  obtain ⟨hk1, hk2, hk3⟩ := hR.2.1 c hc.1 hc.2
  refine lv_iload_n hx hb dX5_ofCounter_0 rfl (lv_at hl 2 rfl) ?_
  have hsx : (iI (w)).toInt = w := iI_toInt (by omega)
  by_cases hc1_0 : w = 0
  · skip
    refine lv_tableIn (tgt := 52) hx hb dX5_ofCounter_1 (by rw [hsx]; omega) (by rw [hsx]; omega) (off := 51) (by rw [hsx, hc1_0]; rfl) (by decide) ?_
    refine lv_aload_n hx hb dX5_ofCounter_52 rfl (lv_at hl 0 rfl) ?_
    refine va_get (D := D) (ci := 5) (v := .ref (b 1)) (C := RX5) (T := TX5) (N := 12) hx hb hts hin_X5 hown hK hP 0 rfl rfl 0 (by decide) hw_0 (fun _ h9 => h9) rfl dX5_ofCounter_53 ?_
    refine wi_iconst hx hb dX5_ofCounter_56 ?_
    refine lv_iload_n hx hb dX5_ofCounter_57 rfl (lv_at hl 1 rfl) ?_
    refine wi_iadd hx hb dX5_ofCounter_58 ?_
    refine wi_iald hx hb hK hP 1 0 (n := 115) (f := μ 1) rfl rfl (i := (5 + c)) (by omega) (by decide) dX5_ofCounter_59 ?_
    have hP : va_P D vwCl (fl [mdW cI b (sR μ 5 (μ 5))]) s.heap := hP
    have hD : va_D A (fl [mdW cI b (sR μ 5 (μ 5))]) := hD
    exact W.iret (v := iI ((μ 1 ((5 + c))))) hx hb hr (fun t9 ht9 hW9 => ⟨⟨((μ 1 ((5 + c)))), (μ 5), rfl, (by rw [hc1_0]; exact hk1), ⟨by rw [ht9]; exact hP, va_K.moved hW9.alike hK, hD⟩⟩, hS.F ht9⟩) hS.2.2 dX5_ofCounter_60 hlocks
  by_cases hc1_1 : w = 1
  · skip
    refine lv_tableIn (tgt := 61) hx hb dX5_ofCounter_1 (by rw [hsx]; omega) (by rw [hsx]; omega) (off := 60) (by rw [hsx, hc1_1]; rfl) (by decide) ?_
    refine lv_aload_n hx hb dX5_ofCounter_61 rfl (lv_at hl 0 rfl) ?_
    refine va_get (D := D) (ci := 5) (v := .ref (b 1)) (C := RX5) (T := TX5) (N := 12) hx hb hts hin_X5 hown hK hP 0 rfl rfl 0 (by decide) hw_0 (fun _ h9 => h9) rfl dX5_ofCounter_62 ?_
    refine wi_bipush hx hb dX5_ofCounter_65 (by decide) ?_
    refine lv_iload_n hx hb dX5_ofCounter_67 rfl (lv_at hl 1 rfl) ?_
    refine wi_iadd hx hb dX5_ofCounter_68 ?_
    refine wi_iald hx hb hK hP 1 0 (n := 115) (f := μ 1) rfl rfl (i := (9 + c)) (by omega) (by decide) dX5_ofCounter_69 ?_
    have hP : va_P D vwCl (fl [mdW cI b (sR μ 5 (μ 5))]) s.heap := hP
    have hD : va_D A (fl [mdW cI b (sR μ 5 (μ 5))]) := hD
    exact W.iret (v := iI ((μ 1 ((9 + c))))) hx hb hr (fun t9 ht9 hW9 => ⟨⟨((μ 1 ((9 + c)))), (μ 5), rfl, (by rw [hc1_1]; exact hk2), ⟨by rw [ht9]; exact hP, va_K.moved hW9.alike hK, hD⟩⟩, hS.F ht9⟩) hS.2.2 dX5_ofCounter_70 hlocks
  by_cases hc1_2 : w = 2
  · skip
    refine lv_tableIn (tgt := 71) hx hb dX5_ofCounter_1 (by rw [hsx]; omega) (by rw [hsx]; omega) (off := 70) (by rw [hsx, hc1_2]; rfl) (by decide) ?_
    refine lv_aload_n hx hb dX5_ofCounter_71 rfl (lv_at hl 0 rfl) ?_
    refine va_get (D := D) (ci := 5) (v := .ref (b 1)) (C := RX5) (T := TX5) (N := 12) hx hb hts hin_X5 hown hK hP 0 rfl rfl 0 (by decide) hw_0 (fun _ h9 => h9) rfl dX5_ofCounter_72 ?_
    refine wi_bipush hx hb dX5_ofCounter_75 (by decide) ?_
    refine lv_iload_n hx hb dX5_ofCounter_77 rfl (lv_at hl 1 rfl) ?_
    refine wi_iadd hx hb dX5_ofCounter_78 ?_
    refine wi_iald hx hb hK hP 1 0 (n := 115) (f := μ 1) rfl rfl (i := (13 + c)) (by omega) (by decide) dX5_ofCounter_79 ?_
    have hP : va_P D vwCl (fl [mdW cI b (sR μ 5 (μ 5))]) s.heap := hP
    have hD : va_D A (fl [mdW cI b (sR μ 5 (μ 5))]) := hD
    exact W.iret (v := iI ((μ 1 ((13 + c))))) hx hb hr (fun t9 ht9 hW9 => ⟨⟨((μ 1 ((13 + c)))), (μ 5), rfl, (by rw [hc1_2]; exact hk3), ⟨by rw [ht9]; exact hP, va_K.moved hW9.alike hK, hD⟩⟩, hS.F ht9⟩) hS.2.2 dX5_ofCounter_80 hlocks
  by_cases hc1_3 : w = 3
  · skip
    refine lv_tableIn (tgt := 81) hx hb dX5_ofCounter_1 (by rw [hsx]; omega) (by rw [hsx]; omega) (off := 80) (by rw [hsx, hc1_3]; rfl) (by decide) ?_
    refine lv_aload_n hx hb dX5_ofCounter_81 rfl (lv_at hl 0 rfl) ?_
    refine lv_iload_n hx hb dX5_ofCounter_82 rfl (lv_at hl 1 rfl) ?_
    refine wr_calli (va_runV (As := [.int (iI (c))]) (rest := []) ⟨hx, hb, hml, hown, hts⟩ (c_X5_low l D cI cO cC cL b μ σ (c) (hc) (hR) (hI)) (cwV 1 hts gX5_ofCounter_X5_low rfl rfl rfl (by decide +kernel) ⟨Nat.le_of_ble_eq_true rfl, Nat.le_of_ble_eq_true rfl⟩) ⟨pcR_blind, va_recv hK hP (ci := 5) (q0 := 0) rfl rfl, pcR_of hP hK⟩ rfl rfl hl.1 rfl (lv_room (Nat.le_of_ble_eq_true rfl)) dX5_ofCounter_83 ⟨(Nat.zero_le _), (Nat.zero_le _)⟩) (fun r1 hr1 => ?_)
    subst hr1
    have hP : va_P D vwCl (fl [mdW cI b (sR μ 5 (μ 5))]) s.heap := hP
    have hD : va_D A (fl [mdW cI b (sR μ 5 (μ 5))]) := hD
    exact W.iret (v := iI ((lowS σ (c) (σ 0 0)))) hx hb hr (fun t9 ht9 hW9 => ⟨⟨((lowS σ (c) (σ 0 0))), (μ 5), rfl, (by rw [hc1_3]; rfl), ⟨by rw [ht9]; exact hP, va_K.moved hW9.alike hK, hD⟩⟩, hS.F ht9⟩) hS.2.2 dX5_ofCounter_86 hlocks
  by_cases hc1_4 : w = 4
  · skip
    refine lv_tableIn (tgt := 87) hx hb dX5_ofCounter_1 (by rw [hsx]; omega) (by rw [hsx]; omega) (off := 86) (by rw [hsx, hc1_4]; rfl) (by decide) ?_
    refine lv_aload_n hx hb dX5_ofCounter_87 rfl (lv_at hl 0 rfl) ?_
    refine lv_iload_n hx hb dX5_ofCounter_88 rfl (lv_at hl 1 rfl) ?_
    refine wr_calli (va_runV (As := [.int (iI (c))]) (rest := []) ⟨hx, hb, hml, hown, hts⟩ (c_X5_high l D cI cO cC cL b μ σ (c) (hc) (hR) (hI)) (cwV 1 hts gX5_ofCounter_X5_high rfl rfl rfl (by decide +kernel) ⟨Nat.le_of_ble_eq_true rfl, Nat.le_of_ble_eq_true rfl⟩) ⟨pcR_blind, va_recv hK hP (ci := 5) (q0 := 0) rfl rfl, pcR_of hP hK⟩ rfl rfl hl.1 rfl (lv_room (Nat.le_of_ble_eq_true rfl)) dX5_ofCounter_89 ⟨(Nat.zero_le _), (Nat.zero_le _)⟩) (fun r2 hr2 => ?_)
    subst hr2
    have hP : va_P D vwCl (fl [mdW cI b (sR μ 5 (μ 5))]) s.heap := hP
    have hD : va_D A (fl [mdW cI b (sR μ 5 (μ 5))]) := hD
    exact W.iret (v := iI ((highS σ (c)))) hx hb hr (fun t9 ht9 hW9 => ⟨⟨((highS σ (c))), (μ 5), rfl, (by rw [hc1_4]; rfl), ⟨by rw [ht9]; exact hP, va_K.moved hW9.alike hK, hD⟩⟩, hS.F ht9⟩) hS.2.2 dX5_ofCounter_92 hlocks
  by_cases hc1_5 : w = 5
  · skip
    refine lv_tableIn (tgt := 93) hx hb dX5_ofCounter_1 (by rw [hsx]; omega) (by rw [hsx]; omega) (off := 92) (by rw [hsx, hc1_5]; rfl) (by decide) ?_
    refine lv_aload_n hx hb dX5_ofCounter_93 rfl (lv_at hl 0 rfl) ?_
    refine lv_iload_n hx hb dX5_ofCounter_94 rfl (lv_at hl 1 rfl) ?_
    refine wr_calli (va_runV (As := [.int (iI (c))]) (rest := []) ⟨hx, hb, hml, hown, hts⟩ (c_X5_changing l D cI cO cC cL b μ σ (c) (hc) (hR) (hI)) (cwV 1 hts gX5_ofCounter_X5_changing rfl rfl rfl (by decide +kernel) ⟨Nat.le_of_ble_eq_true rfl, Nat.le_of_ble_eq_true rfl⟩) ⟨pcR_blind, va_recv hK hP (ci := 5) (q0 := 0) rfl rfl, pcR_of hP hK⟩ rfl rfl hl.1 rfl (lv_room (Nat.le_of_ble_eq_true rfl)) dX5_ofCounter_95 ⟨(Nat.zero_le _), (Nat.zero_le _)⟩) (fun r3 hr3 => ?_)
    subst hr3
    have hP : va_P D vwCl (fl [mdW cI b (sR μ 5 (μ 5))]) s.heap := hP
    have hD : va_D A (fl [mdW cI b (sR μ 5 (μ 5))]) := hD
    exact W.iret (v := iI ((chN σ (c)))) hx hb hr (fun t9 ht9 hW9 => ⟨⟨((chN σ (c))), (μ 5), rfl, (by rw [hc1_5]; rfl), ⟨by rw [ht9]; exact hP, va_K.moved hW9.alike hK, hD⟩⟩, hS.F ht9⟩) hS.2.2 dX5_ofCounter_98 hlocks
  by_cases hc1_6 : w = 6
  · skip
    refine lv_tableIn (tgt := 99) hx hb dX5_ofCounter_1 (by rw [hsx]; omega) (by rw [hsx]; omega) (off := 98) (by rw [hsx, hc1_6]; rfl) (by decide) ?_
    refine lv_aload_n hx hb dX5_ofCounter_99 rfl (lv_at hl 0 rfl) ?_
    refine lv_iload_n hx hb dX5_ofCounter_100 rfl (lv_at hl 1 rfl) ?_
    refine wi_iconst hx hb dX5_ofCounter_101 ?_
    refine lv_aload_n hx hb dX5_ofCounter_102 rfl (lv_at hl 0 rfl) ?_
    refine va_get (D := D) (ci := 5) (v := .ref (b 1)) (C := RX5) (T := TX5) (N := 12) hx hb hts hin_X5 hown hK hP 0 rfl rfl 0 (by decide) hw_0 (fun _ h9 => h9) rfl dX5_ofCounter_103 ?_
    refine wi_iconst hx hb dX5_ofCounter_106 ?_
    refine wi_iald hx hb hK hP 1 0 (n := 115) (f := μ 1) rfl rfl (i := 0) (by omega) (by decide) dX5_ofCounter_107 ?_
    refine wr_calli (va_runV (As := [.int (iI (c)), .int (iI (0)), .int (iI ((μ 1 (0))))]) (rest := []) ⟨hx, hb, hml, hown, hts⟩ (c_X5_sum l D cI cO cC cL b μ σ (c) (0) ((μ 1 (0))) (by omega) (by omega) (by omega) (hR) (hI)) (cwV 3 hts gX5_ofCounter_X5_sum rfl rfl rfl (by decide +kernel) ⟨Nat.le_of_ble_eq_true rfl, Nat.le_of_ble_eq_true rfl⟩) ⟨pcR_blind, va_recv hK hP (ci := 5) (q0 := 0) rfl rfl, pcR_of hP hK⟩ rfl rfl hl.1 rfl (lv_room (Nat.le_of_ble_eq_true rfl)) dX5_ofCounter_108 ⟨(Nat.zero_le _), (Nat.zero_le _)⟩) (fun r4 hr4 => ?_)
    subst hr4
    have hP : va_P D vwCl (fl [mdW cI b (sR μ 5 (μ 5))]) s.heap := hP
    have hD : va_D A (fl [mdW cI b (sR μ 5 (μ 5))]) := hD
    exact W.iret (v := iI ((sumM σ (c) (0) ((μ 1 (0)))))) hx hb hr (fun t9 ht9 hW9 => ⟨⟨((sumM σ (c) (0) ((μ 1 (0))))), (μ 5), rfl, (by rw [hc1_6, hm0, sumM_all hI]; rfl), ⟨by rw [ht9]; exact hP, va_K.moved hW9.alike hK, hD⟩⟩, hS.F ht9⟩) hS.2.2 dX5_ofCounter_111 hlocks
  by_cases hc1_7 : w = 7
  · skip
    refine lv_tableIn (tgt := 112) hx hb dX5_ofCounter_1 (by rw [hsx]; omega) (by rw [hsx]; omega) (off := 111) (by rw [hsx, hc1_7]; rfl) (by decide) ?_
    refine lv_aload_n hx hb dX5_ofCounter_112 rfl (lv_at hl 0 rfl) ?_
    refine lv_iload_n hx hb dX5_ofCounter_113 rfl (lv_at hl 1 rfl) ?_
    refine wr_calli (va_runV (As := [.int (iI (c))]) (rest := []) ⟨hx, hb, hml, hown, hts⟩ (c_X5_low l D cI cO cC cL b μ σ (c) (hc) (hR) (hI)) (cwV 1 hts gX5_ofCounter_X5_low rfl rfl rfl (by decide +kernel) ⟨Nat.le_of_ble_eq_true rfl, Nat.le_of_ble_eq_true rfl⟩) ⟨pcR_blind, va_recv hK hP (ci := 5) (q0 := 0) rfl rfl, pcR_of hP hK⟩ rfl rfl hl.1 rfl (lv_room (Nat.le_of_ble_eq_true rfl)) dX5_ofCounter_114 ⟨(Nat.zero_le _), (Nat.zero_le _)⟩) (fun r5 hr5 => ?_)
    subst hr5
    refine lv_aload_n hx hb dX5_ofCounter_117 rfl (lv_at hl 0 rfl) ?_
    refine va_get (D := D) (ci := 5) (v := .ref (b 1)) (C := RX5) (T := TX5) (N := 12) hx hb hts hin_X5 hown hK hP 0 rfl rfl 0 (by decide) hw_0 (fun _ h9 => h9) rfl dX5_ofCounter_118 ?_
    refine wi_bipush hx hb dX5_ofCounter_121 (by decide) ?_
    refine lv_iload_n hx hb dX5_ofCounter_123 rfl (lv_at hl 1 rfl) ?_
    refine wi_iadd hx hb dX5_ofCounter_124 ?_
    refine wi_iald hx hb hK hP 1 0 (n := 115) (f := μ 1) rfl rfl (i := (9 + c)) (by omega) (by decide) dX5_ofCounter_125 ?_
    refine wi_isub hx hb dX5_ofCounter_126 ?_
    have hP : va_P D vwCl (fl [mdW cI b (sR μ 5 (μ 5))]) s.heap := hP
    have hD : va_D A (fl [mdW cI b (sR μ 5 (μ 5))]) := hD
    exact W.iret (v := iI (((lowS σ (c) (σ 0 0)) - (μ 1 ((9 + c)))))) hx hb hr (fun t9 ht9 hW9 => ⟨⟨(((lowS σ (c) (σ 0 0)) - (μ 1 ((9 + c))))), (μ 5), rfl, (by rw [hc1_7, hk2]; rfl), ⟨by rw [ht9]; exact hP, va_K.moved hW9.alike hK, hD⟩⟩, hS.F ht9⟩) hS.2.2 dX5_ofCounter_127 hlocks
  by_cases hc1_8 : w = 8
  · skip
    refine lv_tableIn (tgt := 128) hx hb dX5_ofCounter_1 (by rw [hsx]; omega) (by rw [hsx]; omega) (off := 127) (by rw [hsx, hc1_8]; rfl) (by decide) ?_
    refine lv_aload_n hx hb dX5_ofCounter_128 rfl (lv_at hl 0 rfl) ?_
    refine va_get (D := D) (ci := 5) (v := .ref (b 1)) (C := RX5) (T := TX5) (N := 12) hx hb hts hin_X5 hown hK hP 0 rfl rfl 0 (by decide) hw_0 (fun _ h9 => h9) rfl dX5_ofCounter_129 ?_
    refine wi_bipush hx hb dX5_ofCounter_132 (by decide) ?_
    refine lv_iload_n hx hb dX5_ofCounter_134 rfl (lv_at hl 1 rfl) ?_
    refine wi_iadd hx hb dX5_ofCounter_135 ?_
    refine wi_iald hx hb hK hP 1 0 (n := 115) (f := μ 1) rfl rfl (i := (13 + c)) (by omega) (by decide) dX5_ofCounter_136 ?_
    refine lv_aload_n hx hb dX5_ofCounter_137 rfl (lv_at hl 0 rfl) ?_
    refine lv_iload_n hx hb dX5_ofCounter_138 rfl (lv_at hl 1 rfl) ?_
    refine wr_calli (va_runV (As := [.int (iI (c))]) (rest := [.int (iI ((μ 1 ((13 + c)))))]) ⟨hx, hb, hml, hown, hts⟩ (c_X5_high l D cI cO cC cL b μ σ (c) (hc) (hR) (hI)) (cwV 1 hts gX5_ofCounter_X5_high rfl rfl rfl (by decide +kernel) ⟨Nat.le_of_ble_eq_true rfl, Nat.le_of_ble_eq_true rfl⟩) ⟨pcR_blind, va_recv hK hP (ci := 5) (q0 := 0) rfl rfl, pcR_of hP hK⟩ rfl rfl hl.1 rfl (lv_room (Nat.le_of_ble_eq_true rfl)) dX5_ofCounter_139 ⟨(Nat.zero_le _), (Nat.zero_le _)⟩) (fun r6 hr6 => ?_)
    subst hr6
    refine wi_isub hx hb dX5_ofCounter_142 ?_
    have hP : va_P D vwCl (fl [mdW cI b (sR μ 5 (μ 5))]) s.heap := hP
    have hD : va_D A (fl [mdW cI b (sR μ 5 (μ 5))]) := hD
    exact W.iret (v := iI (((μ 1 ((13 + c))) - (highS σ (c))))) hx hb hr (fun t9 ht9 hW9 => ⟨⟨(((μ 1 ((13 + c))) - (highS σ (c)))), (μ 5), rfl, (by rw [hc1_8, hk3]; rfl), ⟨by rw [ht9]; exact hP, va_K.moved hW9.alike hK, hD⟩⟩, hS.F ht9⟩) hS.2.2 dX5_ofCounter_143 hlocks
  refine lv_tableOut (tgt := 144) hx hb dX5_ofCounter_1 (by rw [hsx]; omega) (by decide) ?_
  refine lv_aload_n hx hb dX5_ofCounter_144 rfl (lv_at hl 0 rfl) ?_
  refine lv_iload_n hx hb dX5_ofCounter_145 rfl (lv_at hl 1 rfl) ?_
  have hFc := fl_free (SC := [mdW cI b μ]) hD hS hA [0] rfl
  refine wq_calli (va_runV (As := [.int (iI (c))]) (rest := []) ⟨hx, hb, hml, hown, hts⟩ (c_X5_sums l D cI cO cC cL s.heap.size b μ σ (c) (hc) (hR) (hI)) (cwV 1 hts gX5_ofCounter_X5_sums rfl rfl rfl (by decide +kernel) ⟨Nat.le_of_ble_eq_true rfl, Nat.le_of_ble_eq_true rfl⟩) ⟨pcW_blind, va_recv hK hP (ci := 5) (q0 := 0) rfl rfl, pcW_of hP hK hD⟩ rfl rfl hl.1 rfl (lv_room (Nat.le_of_ble_eq_true rfl)) dX5_ofCounter_146 ⟨(Nat.zero_le _), (Nat.zero_le _)⟩) hS (fun q _ h => hFc q h) hFc (fun r7 u9 t9 H1 locs ht9 hvm hq8 hB hz1 hk1 hS => ?_)
  obtain ⟨hP1, hK1, hD1⟩ := hB
  rw [ht9] at hP1
  obtain ⟨hP, hD⟩ := fl_join (SR := []) (S1 := [mdW cI b (sR μ 5 u9)]) hP hD [0] [] rfl rfl (by decide) (by decide) hk1 hFc hP1 hD1
  generalize H1 = H at hP hS ⊢
  have hP : va_P D vwCl (fl [mdW cI b (sR μ 5 u9)]) H := hP
  have hD : va_D A (fl [mdW cI b (sR μ 5 u9)]) := hD
  obtain ⟨hr9, hu9⟩ := hq8
  have hP : va_P D vwCl (fl [mdW cI b (sR μ 5 (u9))]) H := hP
  have hD : va_D A (fl [mdW cI b (sR μ 5 (u9))]) := hD
  exact W.iret (v := iI (r7)) hx hb hr (fun t9 ht9 hW9 => ⟨⟨(r7), (u9), rfl, (by rw [show w = 9 by omega]; exact hr9), ⟨by rw [ht9]; exact hP, va_K.moved hW9.alike hK, hD⟩⟩, hS.F ht9⟩) hS.2.2 dX5_ofCounter_149 hlocks
