set_option maxHeartbeats 4000000 in
set_option maxRecDepth 100000 in
theorem c_X3_changeOf (l : Launch) (D : va_G) (cI cO cC cL : ClassId) (a : Nat → Nat) (σ : Nat → Int → Int) (p c : Int) (h0 : 0 ≤ p ∧ p < 16) (hc : R32 c) (hpr : PR σ p) : Met l yX3_changeOf wsX3_changeOf ({ frames := 0, cells := 0, slots := 0, locals := 0 } : Room) (pcR D [(cI, FieldType.int)] [.ref (a 0), .int (iI (p)), .int (iI (c))] (fl [stW cI a σ])) (wr_Si (fun r => r = chg σ p c)) 0 0 (fun _ => False) := by
  refine Met.ofW (cc := cX3_changeOf) (maxL := 3) (ret := (some .int)) (by decide) rfl ?_
  intro p9 e9 s m args9 below9 meth9 c9 s₁ B hml hv
  obtain ⟨rfl, hP, hK⟩ := hv
  have hx := B.exec
  have hb := B.bytes
  have hr := B.returns
  have hts := atoms_spec (ws := wsX3_changeOf) B.pre
  have hown : s.vm.findClass RX3 = some m.cls := findClass_of_methodNamed B.named
  have hlocks := B.notSynchronized
  have hl := lv_entry ([.ref (a 0), .int (iI (p)), .int (iI (c))]) (n := 3) (Nat.le_of_ble_eq_true rfl)
  rw [lg_entry_eq]
  generalize (lg_sl ([.ref (a 0), .int (iI (p)), .int (iI (c))]) ++ List.replicate (3 - (lg_sl ([.ref (a 0), .int (iI (p)), .int (iI (c))])).length) Slot.unset).toArray = ls at hl ⊢
  have hl : lv_has ls 3 [(0, .ref (a 0)), (1, .int (iI (p))), (2, .int (iI (c)))] := hl
  have hw_0 := hts (.fieldLink RX3 37 "PromisedCounters$State" "counter" "[I") (by decide +kernel)
  have hin_X3 : ∀ w ∈ u_ws RX3 TX3 15, w ∈ wsX3_changeOf := by decide +kernel
  have hw_1 := hts (.fieldLink RX3 43 "PromisedCounters$State" "other" "[I") (by decide +kernel)
  have hw_2 := hts (.fieldLink RX3 40 "PromisedCounters$State" "change" "[I") (by decide +kernel)
  obtain ⟨hp1, hp2, hp3, hp4, hp5⟩ := id hpr
  refine lv_aload_n hx hb dX3_changeOf_0 rfl (lv_at hl 0 rfl) ?_
  refine va_get (D := D) (ci := 3) (v := .ref (a 6)) (C := RX3) (T := TX3) (N := 15) hx hb hts hin_X3 hown hK hP 0 rfl rfl 8 (by decide) hw_0 (fun _ h9 => h9) rfl dX3_changeOf_1 ?_
  refine lv_iload_n hx hb dX3_changeOf_4 rfl (lv_at hl 1 rfl) ?_
  refine wi_iald hx hb hK hP 6 0 (n := 16) (f := σ 6) rfl rfl (i := p) (by omega) (by decide) dX3_changeOf_5 ?_
  refine lv_iload_n hx hb dX3_changeOf_6 rfl (lv_at hl 2 rfl) ?_
  refine wi_icmp_ne (tgt := 17) hx hb dX3_changeOf_7 (by decide) (by omega) (fun c_7 => ?_) (fun c_7 => ?_)
  · skip
    refine lv_aload_n hx hb dX3_changeOf_17 rfl (lv_at hl 0 rfl) ?_
    refine va_get (D := D) (ci := 3) (v := .ref (a 8)) (C := RX3) (T := TX3) (N := 15) hx hb hts hin_X3 hown hK hP 0 rfl rfl 10 (by decide) hw_1 (fun _ h9 => h9) rfl dX3_changeOf_18 ?_
    refine lv_iload_n hx hb dX3_changeOf_21 rfl (lv_at hl 1 rfl) ?_
    refine wi_iald hx hb hK hP 8 0 (n := 16) (f := σ 8) rfl rfl (i := p) (by omega) (by decide) dX3_changeOf_22 ?_
    refine lv_iload_n hx hb dX3_changeOf_23 rfl (lv_at hl 2 rfl) ?_
    refine wi_icmp_ne (tgt := 37) hx hb dX3_changeOf_24 (by decide) (by omega) (fun c_24 => ?_) (fun c_24 => ?_)
    · skip
      refine wi_iconst hx hb dX3_changeOf_37 ?_
      exact W.iret (v := iI (0)) hx hb hr (fun t9 ht9 hW9 => ⟨(0), rfl, (by unfold chg; first | (rw [if_pos (by omega)] <;> omega) | (rw [if_neg (by omega), if_pos (by omega)] <;> omega) | (rw [if_neg (by omega), if_neg (by omega)] <;> omega)), ht9⟩) (fun _ h => nomatch h) dX3_changeOf_38 hlocks
    · skip
      refine lv_aload_n hx hb dX3_changeOf_27 rfl (lv_at hl 0 rfl) ?_
      refine va_get (D := D) (ci := 3) (v := .ref (a 7)) (C := RX3) (T := TX3) (N := 15) hx hb hts hin_X3 hown hK hP 0 rfl rfl 9 (by decide) hw_2 (fun _ h9 => h9) rfl dX3_changeOf_28 ?_
      refine lv_iload_n hx hb dX3_changeOf_31 rfl (lv_at hl 1 rfl) ?_
      refine wi_iald hx hb hK hP 7 0 (n := 16) (f := σ 7) rfl rfl (i := p) (by omega) (by decide) dX3_changeOf_32 ?_
      refine wi_ineg hx hb dX3_changeOf_33 ?_
      refine lv_goto (tgt := 38) hx hb dX3_changeOf_34 (by decide) ?_
      exact W.iret (v := iI ((-(σ 7 (p))))) hx hb hr (fun t9 ht9 hW9 => ⟨((-(σ 7 (p)))), rfl, (by unfold chg; first | (rw [if_pos (by omega)] <;> omega) | (rw [if_neg (by omega), if_pos (by omega)] <;> omega) | (rw [if_neg (by omega), if_neg (by omega)] <;> omega)), ht9⟩) (fun _ h => nomatch h) dX3_changeOf_38 hlocks
  · skip
    refine lv_aload_n hx hb dX3_changeOf_10 rfl (lv_at hl 0 rfl) ?_
    refine va_get (D := D) (ci := 3) (v := .ref (a 7)) (C := RX3) (T := TX3) (N := 15) hx hb hts hin_X3 hown hK hP 0 rfl rfl 9 (by decide) hw_2 (fun _ h9 => h9) rfl dX3_changeOf_11 ?_
    refine lv_iload_n hx hb dX3_changeOf_14 rfl (lv_at hl 1 rfl) ?_
    refine wi_iald hx hb hK hP 7 0 (n := 16) (f := σ 7) rfl rfl (i := p) (by omega) (by decide) dX3_changeOf_15 ?_
    exact W.iret (v := iI ((σ 7 (p)))) hx hb hr (fun t9 ht9 hW9 => ⟨((σ 7 (p))), rfl, (by unfold chg; first | (rw [if_pos (by omega)] <;> omega) | (rw [if_neg (by omega), if_pos (by omega)] <;> omega) | (rw [if_neg (by omega), if_neg (by omega)] <;> omega)), ht9⟩) (fun _ h => nomatch h) dX3_changeOf_16 hlocks
set_option maxHeartbeats 4000000 in
set_option maxRecDepth 100000 in
theorem c_X3_lowThen (l : Launch) (D : va_G) (cI cO cC cL : ClassId) (a : Nat → Nat) (σ : Nat → Int → Int) (c t : Int) (hc : 0 ≤ c ∧ c < 4) (ht0 : R32 t) (hI : Inv σ) : Met l yX3_lowThen wsX3_lowThen ({ frames := 1, cells := 0, slots := 0, locals := 24 } : Room) (pcR D [(cI, FieldType.int)] [.ref (a 0), .int (iI (c)), .int (iI (t))] (fl [stW cI a σ])) (wr_Si (fun r => r = lowS σ c t)) 0 0 (fun _ => False) := by
  refine Met.ofW (cc := cX3_lowThen) (maxL := 5) (ret := (some .int)) (by decide) rfl ?_
  intro p9 e9 s m args9 below9 meth9 c9 s₁ B hml hv
  obtain ⟨rfl, hP, hK⟩ := hv
  have hx := B.exec
  have hb := B.bytes
  have hr := B.returns
  have hts := atoms_spec (ws := wsX3_lowThen) B.pre
  have hown : s.vm.findClass RX3 = some m.cls := findClass_of_methodNamed B.named
  have hlocks := B.notSynchronized
  have hl := lv_entry ([.ref (a 0), .int (iI (c)), .int (iI (t))]) (n := 5) (Nat.le_of_ble_eq_true rfl)
  rw [lg_entry_eq]
  generalize (lg_sl ([.ref (a 0), .int (iI (c)), .int (iI (t))]) ++ List.replicate (5 - (lg_sl ([.ref (a 0), .int (iI (c)), .int (iI (t))])).length) Slot.unset).toArray = ls at hl ⊢
  have hl : lv_has ls 5 [(0, .ref (a 0)), (1, .int (iI (c))), (2, .int (iI (t)))] := hl
  have hw_0 := hts (.fieldLink RX3 25 "PromisedCounters$State" "value" "[I") (by decide +kernel)
  have hin_X3 : ∀ w ∈ u_ws RX3 TX3 15, w ∈ wsX3_lowThen := by decide +kernel
  have hw_1 := hts (.fieldLink RX3 15 "PromisedCounters$State" "promises" "I") (by decide +kernel)
  have hw_2 := hts (.fieldLink RX3 46 "PromisedCounters$State" "until" "[I") (by decide +kernel)
  have hw_3 := hts (Cond.methodLink RX3 71 Lib.Math.min.name) (by decide +kernel)
  have hw_4 := hts (Cond.static Lib.Math.min.name) (by decide +kernel)
  have hw_5 := hts (Cond.initialized "java/lang/Math") (by decide +kernel)
  have hw_6 := hts (Cond.code Lib.Math.min.name Lib.Math.min.code 2 (some .int)) (by decide +kernel)
  have hn := hI.n
  have hti := hI.t
  refine lv_aload_n hx hb dX3_lowThen_0 rfl (lv_at hl 0 rfl) ?_
  refine va_get (D := D) (ci := 3) (v := .ref (a 2)) (C := RX3) (T := TX3) (N := 15) hx hb hts hin_X3 hown hK hP 0 rfl rfl 4 (by decide) hw_0 (fun _ h9 => h9) rfl dX3_lowThen_1 ?_
  refine lv_iload_n hx hb dX3_lowThen_4 rfl (lv_at hl 1 rfl) ?_
  refine wi_iald hx hb hK hP 2 0 (n := 4) (f := σ 2) rfl rfl (i := c) (by omega) (by decide) dX3_lowThen_5 ?_
  refine lv_istore_n (lv' := [(3, .int (iI ((σ 2 (c))))), (0, .ref (a 0)), (1, .int (iI (c))), (2, .int (iI (t)))]) hx hb dX3_lowThen_6 rfl hl (by decide) rfl (fun ls hl => ?_)
  refine wi_iconst hx hb dX3_lowThen_7 ?_
  refine lv_istore (lv' := [(4, .int (iI (0))), (3, .int (iI ((σ 2 (c))))), (0, .ref (a 0)), (1, .int (iI (c))), (2, .int (iI (t)))]) hx hb dX3_lowThen_8 hl (by decide) rfl (fun ls hl => ?_)
  have L10 : ∀ (k10 : Nat), ∀ (p : Int) (acc : Int), (σ 0 1 - p).toNat < k10 → (0 ≤ p ∧ p ≤ σ 0 1) → (acc = σ 2 c + sm (fun p => if t < σ 9 p then min (chg σ p c) 0 else 0) p.toNat) → ∀ (ls : Array Slot), lv_has ls 5 [(4, .int (iI (p))), (3, .int (iI (acc))), (0, .ref (a 0)), (1, .int (iI (c))), (2, .int (iI (t)))] → W p9 l e9 ({ frames := 1, cells := 0, slots := 0, locals := 24 } : Room) s m ([.ref (a 0), .int (iI (c)), .int (iI (t))] : List Value).toArray below9 meth9 c9 s.heap [] 0 0 (MQ below9 (wr_Si (fun r => r = lowS σ c t)) ([.ref (a 0), .int (iI (c)), .int (iI (t))] : List Value).toArray s 0 0 (fun _ => False)) (F0 m 10 ls []) := by
    intro k10
    induction k10 with
    | zero =>
      intro p acc hm
      exact absurd hm (Nat.not_lt_zero _)
    | succ k10 ih10 =>
      intro p acc hm10 hp hacc ls hl
      refine lv_iload hx hb dX3_lowThen_10 (lv_at hl 0 rfl) ?_
      refine lv_aload_n hx hb dX3_lowThen_12 rfl (lv_at hl 2 rfl) ?_
      refine va_get (D := D) (ci := 3) (v := .int (iI ((σ 0 1)))) (C := RX3) (T := TX3) (N := 15) hx hb hts hin_X3 hown hK hP 0 rfl rfl 1 (by decide) hw_1 (fun _ h9 => h9) rfl dX3_lowThen_13 ?_
      refine wi_icmp_ge (tgt := 50) hx hb dX3_lowThen_16 (by decide) (by omega) (fun c_16 => ?_) (fun c_16 => ?_)
      · skip
        refine lv_iload_n hx hb dX3_lowThen_50 rfl (lv_at hl 1 rfl) ?_
        exact W.iret (v := iI (acc)) hx hb hr (fun t9 ht9 hW9 => ⟨(acc), rfl, (by rw [hacc, show p = σ 0 1 by omega]; rfl), ht9⟩) (fun _ h => nomatch h) dX3_lowThen_51 hlocks
      · skip
        have hpr := hI.pr (p := p) (by omega) (by omega)
        obtain ⟨hp1, hp2, hp3, hp4, hp5⟩ := id hpr
        have hcr := chg_r hpr c
        refine lv_aload_n hx hb dX3_lowThen_19 rfl (lv_at hl 2 rfl) ?_
        refine va_get (D := D) (ci := 3) (v := .ref (a 9)) (C := RX3) (T := TX3) (N := 15) hx hb hts hin_X3 hown hK hP 0 rfl rfl 11 (by decide) hw_2 (fun _ h9 => h9) rfl dX3_lowThen_20 ?_
        refine lv_iload hx hb dX3_lowThen_23 (lv_at hl 0 rfl) ?_
        refine wi_iald hx hb hK hP 9 0 (n := 16) (f := σ 9) rfl rfl (i := p) (by omega) (by decide) dX3_lowThen_25 ?_
        refine lv_iload_n hx hb dX3_lowThen_26 rfl (lv_at hl 4 rfl) ?_
        refine wi_icmp_le (tgt := 44) hx hb dX3_lowThen_27 (by decide) (by omega) (fun c_27 => ?_) (fun c_27 => ?_)
        · skip
          refine wi_iinc (lv' := [(4, .int (iI ((p + 1)))), (3, .int (iI (acc))), (0, .ref (a 0)), (1, .int (iI (c))), (2, .int (iI (t)))]) hx hb dX3_lowThen_44 hl (k := 0) rfl (by decide) rfl (fun ls hl => ?_)
          refine lv_goto (tgt := 10) hx hb dX3_lowThen_47 (by decide) ?_
          exact ih10 ((p + 1)) (acc) (by omega) (by omega) (by rw [sm_step (by omega)]; omega)  ls (lv_sub hl [0, 1, 2, 3, 4] rfl)
        · skip
          refine lv_iload_n hx hb dX3_lowThen_30 rfl (lv_at hl 1 rfl) ?_
          refine lv_aload_n hx hb dX3_lowThen_31 rfl (lv_at hl 2 rfl) ?_
          refine lv_iload hx hb dX3_lowThen_32 (lv_at hl 0 rfl) ?_
          refine lv_iload_n hx hb dX3_lowThen_34 rfl (lv_at hl 3 rfl) ?_
          refine wr_calli (va_runV (As := [.int (iI (p)), .int (iI (c))]) (rest := [.int (iI (acc))]) ⟨hx, hb, hml, hown, hts⟩ (c_X3_changeOf l D cI cO cC cL a σ (p) (c) (by omega) (by omega) (hpr)) (cwV 2 hts gX3_lowThen_X3_changeOf rfl rfl rfl (by decide +kernel) ⟨Nat.le_of_ble_eq_true rfl, Nat.le_of_ble_eq_true rfl⟩) ⟨pcR_blind, va_recv hK hP (ci := 3) (q0 := 0) rfl rfl, pcR_of hP hK⟩ rfl rfl hl.1 rfl (lv_room (Nat.le_of_ble_eq_true rfl)) dX3_lowThen_35 ⟨(Nat.zero_le _), (Nat.zero_le _)⟩) (fun r1 hr1 => ?_)
          subst hr1
          refine wi_iconst hx hb dX3_lowThen_38 ?_
          refine va_mmin hx hb (hml.trans hl.1.symm) hown hw_3 hw_4 hw_5 hw_6 (Nat.le_of_ble_eq_true rfl) (Nat.le_of_ble_eq_true rfl) (Nat.zero_le _) (Nat.zero_le _) dX3_lowThen_39 ?_
          rw [min_ii (by omega)]
          refine wi_iadd hx hb dX3_lowThen_42 ?_
          refine lv_istore_n (lv' := [(3, .int (iI ((acc + (min ((chg σ (p) (c))) (0)))))), (4, .int (iI (p))), (0, .ref (a 0)), (1, .int (iI (c))), (2, .int (iI (t)))]) hx hb dX3_lowThen_43 rfl hl (by decide) rfl (fun ls hl => ?_)
          refine wi_iinc (lv' := [(4, .int (iI ((p + 1)))), (3, .int (iI ((acc + (min ((chg σ (p) (c))) (0)))))), (0, .ref (a 0)), (1, .int (iI (c))), (2, .int (iI (t)))]) hx hb dX3_lowThen_44 hl (k := 1) rfl (by decide) rfl (fun ls hl => ?_)
          refine lv_goto (tgt := 10) hx hb dX3_lowThen_47 (by decide) ?_
          exact ih10 ((p + 1)) ((acc + (min ((chg σ (p) (c))) (0)))) (by omega) (by omega) (by rw [sm_step (by omega)]; omega)  ls (lv_sub hl [0, 1, 2, 3, 4] rfl)
  exact L10 _ (0) ((σ 2 (c))) (Nat.lt_succ_self _) (by omega) ((Int.add_zero _).symm)  ls (lv_sub hl [0, 1, 2, 3, 4] rfl)
set_option maxHeartbeats 4000000 in
set_option maxRecDepth 100000 in
theorem c_X3_lowOf (l : Launch) (D : va_G) (cI cO cC cL : ClassId) (a : Nat → Nat) (σ : Nat → Int → Int) (c : Int) (hc : 0 ≤ c ∧ c < 4) (hI : Inv σ) : Met l yX3_lowOf wsX3_lowOf ({ frames := 2, cells := 0, slots := 0, locals := 48 } : Room) (pcR D [(cI, FieldType.int)] [.ref (a 0), .int (iI (c))] (fl [stW cI a σ])) (wr_Si (fun r => r = lowS σ c (σ 0 0))) 0 0 (fun _ => False) := by
  refine Met.ofW (cc := cX3_lowOf) (maxL := 2) (ret := (some .int)) (by decide) rfl ?_
  intro p9 e9 s m args9 below9 meth9 c9 s₁ B hml hv
  obtain ⟨rfl, hP, hK⟩ := hv
  have hx := B.exec
  have hb := B.bytes
  have hr := B.returns
  have hts := atoms_spec (ws := wsX3_lowOf) B.pre
  have hown : s.vm.findClass RX3 = some m.cls := findClass_of_methodNamed B.named
  have hlocks := B.notSynchronized
  have hl := lv_entry ([.ref (a 0), .int (iI (c))]) (n := 2) (Nat.le_of_ble_eq_true rfl)
  rw [lg_entry_eq]
  generalize (lg_sl ([.ref (a 0), .int (iI (c))]) ++ List.replicate (2 - (lg_sl ([.ref (a 0), .int (iI (c))])).length) Slot.unset).toArray = ls at hl ⊢
  have hl : lv_has ls 2 [(0, .ref (a 0)), (1, .int (iI (c)))] := hl
  have hw_0 := hts (.fieldLink RX3 9 "PromisedCounters$State" "time" "I") (by decide +kernel)
  have hin_X3 : ∀ w ∈ u_ws RX3 TX3 15, w ∈ wsX3_lowOf := by decide +kernel
  have ht := hI.t
  refine lv_aload_n hx hb dX3_lowOf_0 rfl (lv_at hl 0 rfl) ?_
  refine lv_iload_n hx hb dX3_lowOf_1 rfl (lv_at hl 1 rfl) ?_
  refine lv_aload_n hx hb dX3_lowOf_2 rfl (lv_at hl 0 rfl) ?_
  refine va_get (D := D) (ci := 3) (v := .int (iI ((σ 0 0)))) (C := RX3) (T := TX3) (N := 15) hx hb hts hin_X3 hown hK hP 0 rfl rfl 0 (by decide) hw_0 (fun _ h9 => h9) rfl dX3_lowOf_3 ?_
  refine wr_calli (va_runV (As := [.int (iI (c)), .int (iI ((σ 0 0)))]) (rest := []) ⟨hx, hb, hml, hown, hts⟩ (c_X3_lowThen l D cI cO cC cL a σ (c) ((σ 0 0)) (hc) (by omega) (hI)) (cwV 2 hts gX3_lowOf_X3_lowThen rfl rfl rfl (by decide +kernel) ⟨Nat.le_of_ble_eq_true rfl, Nat.le_of_ble_eq_true rfl⟩) ⟨pcR_blind, va_recv hK hP (ci := 3) (q0 := 0) rfl rfl, pcR_of hP hK⟩ rfl rfl hl.1 rfl (lv_room (Nat.le_of_ble_eq_true rfl)) dX3_lowOf_6 ⟨(Nat.zero_le _), (Nat.zero_le _)⟩) (fun r1 hr1 => ?_)
  subst hr1
  exact W.iret (v := iI ((lowS σ (c) ((σ 0 0))))) hx hb hr (fun t9 ht9 hW9 => ⟨((lowS σ (c) ((σ 0 0)))), rfl, (rfl), ht9⟩) (fun _ h => nomatch h) dX3_lowOf_9 hlocks
set_option maxHeartbeats 4000000 in
set_option maxRecDepth 100000 in
theorem c_X3_highOf (l : Launch) (D : va_G) (cI cO cC cL : ClassId) (a : Nat → Nat) (σ : Nat → Int → Int) (c : Int) (hc : 0 ≤ c ∧ c < 4) (hI : Inv σ) : Met l yX3_highOf wsX3_highOf ({ frames := 1, cells := 0, slots := 0, locals := 24 } : Room) (pcR D [(cI, FieldType.int)] [.ref (a 0), .int (iI (c))] (fl [stW cI a σ])) (wr_Si (fun r => r = highS σ c)) 0 0 (fun _ => False) := by
  refine Met.ofW (cc := cX3_highOf) (maxL := 4) (ret := (some .int)) (by decide) rfl ?_
  intro p9 e9 s m args9 below9 meth9 c9 s₁ B hml hv
  obtain ⟨rfl, hP, hK⟩ := hv
  have hx := B.exec
  have hb := B.bytes
  have hr := B.returns
  have hts := atoms_spec (ws := wsX3_highOf) B.pre
  have hown : s.vm.findClass RX3 = some m.cls := findClass_of_methodNamed B.named
  have hlocks := B.notSynchronized
  have hl := lv_entry ([.ref (a 0), .int (iI (c))]) (n := 4) (Nat.le_of_ble_eq_true rfl)
  rw [lg_entry_eq]
  generalize (lg_sl ([.ref (a 0), .int (iI (c))]) ++ List.replicate (4 - (lg_sl ([.ref (a 0), .int (iI (c))])).length) Slot.unset).toArray = ls at hl ⊢
  have hl : lv_has ls 4 [(0, .ref (a 0)), (1, .int (iI (c)))] := hl
  have hw_0 := hts (.fieldLink RX3 25 "PromisedCounters$State" "value" "[I") (by decide +kernel)
  have hin_X3 : ∀ w ∈ u_ws RX3 TX3 15, w ∈ wsX3_highOf := by decide +kernel
  have hw_1 := hts (.fieldLink RX3 15 "PromisedCounters$State" "promises" "I") (by decide +kernel)
  have hw_2 := hts (Cond.methodLink RX3 76 Lib.Math.max.name) (by decide +kernel)
  have hw_3 := hts (Cond.static Lib.Math.max.name) (by decide +kernel)
  have hw_4 := hts (Cond.initialized "java/lang/Math") (by decide +kernel)
  have hw_5 := hts (Cond.code Lib.Math.max.name Lib.Math.max.code 2 (some .int)) (by decide +kernel)
  have hn := hI.n
  have hti := hI.t
  refine lv_aload_n hx hb dX3_highOf_0 rfl (lv_at hl 0 rfl) ?_
  refine va_get (D := D) (ci := 3) (v := .ref (a 2)) (C := RX3) (T := TX3) (N := 15) hx hb hts hin_X3 hown hK hP 0 rfl rfl 4 (by decide) hw_0 (fun _ h9 => h9) rfl dX3_highOf_1 ?_
  refine lv_iload_n hx hb dX3_highOf_4 rfl (lv_at hl 1 rfl) ?_
  refine wi_iald hx hb hK hP 2 0 (n := 4) (f := σ 2) rfl rfl (i := c) (by omega) (by decide) dX3_highOf_5 ?_
  refine lv_istore_n (lv' := [(2, .int (iI ((σ 2 (c))))), (0, .ref (a 0)), (1, .int (iI (c)))]) hx hb dX3_highOf_6 rfl hl (by decide) rfl (fun ls hl => ?_)
  refine wi_iconst hx hb dX3_highOf_7 ?_
  refine lv_istore_n (lv' := [(3, .int (iI (0))), (2, .int (iI ((σ 2 (c))))), (0, .ref (a 0)), (1, .int (iI (c)))]) hx hb dX3_highOf_8 rfl hl (by decide) rfl (fun ls hl => ?_)
  have L9 : ∀ (k9 : Nat), ∀ (p : Int) (acc : Int), (σ 0 1 - p).toNat < k9 → (0 ≤ p ∧ p ≤ σ 0 1) → (acc = σ 2 c + sm (fun p => max (chg σ p c) 0) p.toNat) → ∀ (ls : Array Slot), lv_has ls 4 [(3, .int (iI (p))), (2, .int (iI (acc))), (0, .ref (a 0)), (1, .int (iI (c)))] → W p9 l e9 ({ frames := 1, cells := 0, slots := 0, locals := 24 } : Room) s m ([.ref (a 0), .int (iI (c))] : List Value).toArray below9 meth9 c9 s.heap [] 0 0 (MQ below9 (wr_Si (fun r => r = highS σ c)) ([.ref (a 0), .int (iI (c))] : List Value).toArray s 0 0 (fun _ => False)) (F0 m 9 ls []) := by
    intro k9
    induction k9 with
    | zero =>
      intro p acc hm
      exact absurd hm (Nat.not_lt_zero _)
    | succ k9 ih9 =>
      intro p acc hm9 hp hacc ls hl
      refine lv_iload_n hx hb dX3_highOf_9 rfl (lv_at hl 0 rfl) ?_
      refine lv_aload_n hx hb dX3_highOf_10 rfl (lv_at hl 2 rfl) ?_
      refine va_get (D := D) (ci := 3) (v := .int (iI ((σ 0 1)))) (C := RX3) (T := TX3) (N := 15) hx hb hts hin_X3 hown hK hP 0 rfl rfl 1 (by decide) hw_1 (fun _ h9 => h9) rfl dX3_highOf_11 ?_
      refine wi_icmp_ge (tgt := 36) hx hb dX3_highOf_14 (by decide) (by omega) (fun c_14 => ?_) (fun c_14 => ?_)
      · skip
        refine lv_iload_n hx hb dX3_highOf_36 rfl (lv_at hl 1 rfl) ?_
        exact W.iret (v := iI (acc)) hx hb hr (fun t9 ht9 hW9 => ⟨(acc), rfl, (by rw [hacc, show p = σ 0 1 by omega]; rfl), ht9⟩) (fun _ h => nomatch h) dX3_highOf_37 hlocks
      · skip
        have hpr := hI.pr (p := p) (by omega) (by omega)
        obtain ⟨hp1, hp2, hp3, hp4, hp5⟩ := id hpr
        have hcr := chg_r hpr c
        refine lv_iload_n hx hb dX3_highOf_17 rfl (lv_at hl 1 rfl) ?_
        refine lv_aload_n hx hb dX3_highOf_18 rfl (lv_at hl 2 rfl) ?_
        refine lv_iload_n hx hb dX3_highOf_19 rfl (lv_at hl 0 rfl) ?_
        refine lv_iload_n hx hb dX3_highOf_20 rfl (lv_at hl 3 rfl) ?_
        refine wr_calli (va_runV (As := [.int (iI (p)), .int (iI (c))]) (rest := [.int (iI (acc))]) ⟨hx, hb, hml, hown, hts⟩ (c_X3_changeOf l D cI cO cC cL a σ (p) (c) (by omega) (by omega) (hpr)) (cwV 2 hts gX3_highOf_X3_changeOf rfl rfl rfl (by decide +kernel) ⟨Nat.le_of_ble_eq_true rfl, Nat.le_of_ble_eq_true rfl⟩) ⟨pcR_blind, va_recv hK hP (ci := 3) (q0 := 0) rfl rfl, pcR_of hP hK⟩ rfl rfl hl.1 rfl (lv_room (Nat.le_of_ble_eq_true rfl)) dX3_highOf_21 ⟨(Nat.zero_le _), (Nat.zero_le _)⟩) (fun r1 hr1 => ?_)
        subst hr1
        refine wi_iconst hx hb dX3_highOf_24 ?_
        refine va_mmax hx hb (hml.trans hl.1.symm) hown hw_2 hw_3 hw_4 hw_5 (Nat.le_of_ble_eq_true rfl) (Nat.le_of_ble_eq_true rfl) (Nat.zero_le _) (Nat.zero_le _) dX3_highOf_25 ?_
        rw [max_ii (by omega)]
        refine wi_iadd hx hb dX3_highOf_28 ?_
        refine lv_istore_n (lv' := [(2, .int (iI ((acc + (max ((chg σ (p) (c))) (0)))))), (3, .int (iI (p))), (0, .ref (a 0)), (1, .int (iI (c)))]) hx hb dX3_highOf_29 rfl hl (by decide) rfl (fun ls hl => ?_)
        refine wi_iinc (lv' := [(3, .int (iI ((p + 1)))), (2, .int (iI ((acc + (max ((chg σ (p) (c))) (0)))))), (0, .ref (a 0)), (1, .int (iI (c)))]) hx hb dX3_highOf_30 hl (k := 1) rfl (by decide) rfl (fun ls hl => ?_)
        refine lv_goto (tgt := 9) hx hb dX3_highOf_33 (by decide) ?_
        exact ih9 ((p + 1)) ((acc + (max ((chg σ (p) (c))) (0)))) (by omega) (by omega) (by rw [sm_step (by omega)]; omega)  ls (lv_sub hl [0, 1, 2, 3] rfl)
  exact L9 _ (0) ((σ 2 (c))) (Nat.lt_succ_self _) (by omega) ((Int.add_zero _).symm)  ls (lv_sub hl [0, 1, 2, 3] rfl)
set_option maxHeartbeats 4000000 in
set_option maxRecDepth 100000 in
theorem c_X3_roomBelow (l : Launch) (D : va_G) (cI cO cC cL : ClassId) (a : Nat → Nat) (σ : Nat → Int → Int) (c t : Int) (hc : 0 ≤ c ∧ c < 4) (ht0 : R32 t) (hI : Inv σ) : Met l yX3_roomBelow wsX3_roomBelow ({ frames := 2, cells := 0, slots := 0, locals := 48 } : Room) (pcR D [(cI, FieldType.int)] [.ref (a 0), .int (iI (c)), .int (iI (t))] (fl [stW cI a σ])) (wr_Si (fun r => r = lowS σ c t - σ 3 c)) 0 0 (fun _ => False) := by
  refine Met.ofW (cc := cX3_roomBelow) (maxL := 3) (ret := (some .int)) (by decide) rfl ?_
  intro p9 e9 s m args9 below9 meth9 c9 s₁ B hml hv
  obtain ⟨rfl, hP, hK⟩ := hv
  have hx := B.exec
  have hb := B.bytes
  have hr := B.returns
  have hts := atoms_spec (ws := wsX3_roomBelow) B.pre
  have hown : s.vm.findClass RX3 = some m.cls := findClass_of_methodNamed B.named
  have hlocks := B.notSynchronized
  have hl := lv_entry ([.ref (a 0), .int (iI (c)), .int (iI (t))]) (n := 3) (Nat.le_of_ble_eq_true rfl)
  rw [lg_entry_eq]
  generalize (lg_sl ([.ref (a 0), .int (iI (c)), .int (iI (t))]) ++ List.replicate (3 - (lg_sl ([.ref (a 0), .int (iI (c)), .int (iI (t))])).length) Slot.unset).toArray = ls at hl ⊢
  have hl : lv_has ls 3 [(0, .ref (a 0)), (1, .int (iI (c))), (2, .int (iI (t)))] := hl
  have hw_0 := hts (.fieldLink RX3 28 "PromisedCounters$State" "least" "[I") (by decide +kernel)
  have hin_X3 : ∀ w ∈ u_ws RX3 TX3 15, w ∈ wsX3_roomBelow := by decide +kernel
  refine lv_aload_n hx hb dX3_roomBelow_0 rfl (lv_at hl 0 rfl) ?_
  refine lv_iload_n hx hb dX3_roomBelow_1 rfl (lv_at hl 1 rfl) ?_
  refine lv_iload_n hx hb dX3_roomBelow_2 rfl (lv_at hl 2 rfl) ?_
  refine wr_calli (va_runV (As := [.int (iI (c)), .int (iI (t))]) (rest := []) ⟨hx, hb, hml, hown, hts⟩ (c_X3_lowThen l D cI cO cC cL a σ (c) (t) (hc) (ht0) (hI)) (cwV 2 hts gX3_roomBelow_X3_lowThen rfl rfl rfl (by decide +kernel) ⟨Nat.le_of_ble_eq_true rfl, Nat.le_of_ble_eq_true rfl⟩) ⟨pcR_blind, va_recv hK hP (ci := 3) (q0 := 0) rfl rfl, pcR_of hP hK⟩ rfl rfl hl.1 rfl (lv_room (Nat.le_of_ble_eq_true rfl)) dX3_roomBelow_3 ⟨(Nat.zero_le _), (Nat.zero_le _)⟩) (fun r1 hr1 => ?_)
  subst hr1
  refine lv_aload_n hx hb dX3_roomBelow_6 rfl (lv_at hl 0 rfl) ?_
  refine va_get (D := D) (ci := 3) (v := .ref (a 3)) (C := RX3) (T := TX3) (N := 15) hx hb hts hin_X3 hown hK hP 0 rfl rfl 5 (by decide) hw_0 (fun _ h9 => h9) rfl dX3_roomBelow_7 ?_
  refine lv_iload_n hx hb dX3_roomBelow_10 rfl (lv_at hl 1 rfl) ?_
  refine wi_iald hx hb hK hP 3 0 (n := 4) (f := σ 3) rfl rfl (i := c) (by omega) (by decide) dX3_roomBelow_11 ?_
  refine wi_isub hx hb dX3_roomBelow_12 ?_
  exact W.iret (v := iI (((lowS σ (c) (t)) - (σ 3 (c))))) hx hb hr (fun t9 ht9 hW9 => ⟨(((lowS σ (c) (t)) - (σ 3 (c)))), rfl, (rfl), ht9⟩) (fun _ h => nomatch h) dX3_roomBelow_13 hlocks
set_option maxHeartbeats 4000000 in
set_option maxRecDepth 100000 in
theorem c_X3_roomAbove (l : Launch) (D : va_G) (cI cO cC cL : ClassId) (a : Nat → Nat) (σ : Nat → Int → Int) (c : Int) (hc : 0 ≤ c ∧ c < 4) (hI : Inv σ) : Met l yX3_roomAbove wsX3_roomAbove ({ frames := 2, cells := 0, slots := 0, locals := 47 } : Room) (pcR D [(cI, FieldType.int)] [.ref (a 0), .int (iI (c))] (fl [stW cI a σ])) (wr_Si (fun r => r = σ 4 c - highS σ c)) 0 0 (fun _ => False) := by
  refine Met.ofW (cc := cX3_roomAbove) (maxL := 2) (ret := (some .int)) (by decide) rfl ?_
  intro p9 e9 s m args9 below9 meth9 c9 s₁ B hml hv
  obtain ⟨rfl, hP, hK⟩ := hv
  have hx := B.exec
  have hb := B.bytes
  have hr := B.returns
  have hts := atoms_spec (ws := wsX3_roomAbove) B.pre
  have hown : s.vm.findClass RX3 = some m.cls := findClass_of_methodNamed B.named
  have hlocks := B.notSynchronized
  have hl := lv_entry ([.ref (a 0), .int (iI (c))]) (n := 2) (Nat.le_of_ble_eq_true rfl)
  rw [lg_entry_eq]
  generalize (lg_sl ([.ref (a 0), .int (iI (c))]) ++ List.replicate (2 - (lg_sl ([.ref (a 0), .int (iI (c))])).length) Slot.unset).toArray = ls at hl ⊢
  have hl : lv_has ls 2 [(0, .ref (a 0)), (1, .int (iI (c)))] := hl
  have hw_0 := hts (.fieldLink RX3 31 "PromisedCounters$State" "most" "[I") (by decide +kernel)
  have hin_X3 : ∀ w ∈ u_ws RX3 TX3 15, w ∈ wsX3_roomAbove := by decide +kernel
  refine lv_aload_n hx hb dX3_roomAbove_0 rfl (lv_at hl 0 rfl) ?_
  refine va_get (D := D) (ci := 3) (v := .ref (a 4)) (C := RX3) (T := TX3) (N := 15) hx hb hts hin_X3 hown hK hP 0 rfl rfl 6 (by decide) hw_0 (fun _ h9 => h9) rfl dX3_roomAbove_1 ?_
  refine lv_iload_n hx hb dX3_roomAbove_4 rfl (lv_at hl 1 rfl) ?_
  refine wi_iald hx hb hK hP 4 0 (n := 4) (f := σ 4) rfl rfl (i := c) (by omega) (by decide) dX3_roomAbove_5 ?_
  refine lv_aload_n hx hb dX3_roomAbove_6 rfl (lv_at hl 0 rfl) ?_
  refine lv_iload_n hx hb dX3_roomAbove_7 rfl (lv_at hl 1 rfl) ?_
  refine wr_calli (va_runV (As := [.int (iI (c))]) (rest := [.int (iI ((σ 4 (c))))]) ⟨hx, hb, hml, hown, hts⟩ (c_X3_highOf l D cI cO cC cL a σ (c) (hc) (hI)) (cwV 1 hts gX3_roomAbove_X3_highOf rfl rfl rfl (by decide +kernel) ⟨Nat.le_of_ble_eq_true rfl, Nat.le_of_ble_eq_true rfl⟩) ⟨pcR_blind, va_recv hK hP (ci := 3) (q0 := 0) rfl rfl, pcR_of hP hK⟩ rfl rfl hl.1 rfl (lv_room (Nat.le_of_ble_eq_true rfl)) dX3_roomAbove_8 ⟨(Nat.zero_le _), (Nat.zero_le _)⟩) (fun r1 hr1 => ?_)
  subst hr1
  refine wi_isub hx hb dX3_roomAbove_11 ?_
  exact W.iret (v := iI (((σ 4 (c)) - (highS σ (c))))) hx hb hr (fun t9 ht9 hW9 => ⟨(((σ 4 (c)) - (highS σ (c)))), rfl, (rfl), ht9⟩) (fun _ h => nomatch h) dX3_roomAbove_12 hlocks
set_option maxHeartbeats 4000000 in
set_option maxRecDepth 100000 in
theorem c_X3_promisesChanging (l : Launch) (D : va_G) (cI cO cC cL : ClassId) (a : Nat → Nat) (σ : Nat → Int → Int) (c : Int) (hc : 0 ≤ c ∧ c < 4) (hI : Inv σ) : Met l yX3_promisesChanging wsX3_promisesChanging ({ frames := 1, cells := 0, slots := 0, locals := 22 } : Room) (pcR D [(cI, FieldType.int)] [.ref (a 0), .int (iI (c))] (fl [stW cI a σ])) (wr_Si (fun r => r = chN σ c)) 0 0 (fun _ => False) := by
  refine Met.ofW (cc := cX3_promisesChanging) (maxL := 4) (ret := (some .int)) (by decide) rfl ?_
  intro p9 e9 s m args9 below9 meth9 c9 s₁ B hml hv
  obtain ⟨rfl, hP, hK⟩ := hv
  have hx := B.exec
  have hb := B.bytes
  have hr := B.returns
  have hts := atoms_spec (ws := wsX3_promisesChanging) B.pre
  have hown : s.vm.findClass RX3 = some m.cls := findClass_of_methodNamed B.named
  have hlocks := B.notSynchronized
  have hl := lv_entry ([.ref (a 0), .int (iI (c))]) (n := 4) (Nat.le_of_ble_eq_true rfl)
  rw [lg_entry_eq]
  generalize (lg_sl ([.ref (a 0), .int (iI (c))]) ++ List.replicate (4 - (lg_sl ([.ref (a 0), .int (iI (c))])).length) Slot.unset).toArray = ls at hl ⊢
  have hl : lv_has ls 4 [(0, .ref (a 0)), (1, .int (iI (c)))] := hl
  have hw_0 := hts (.fieldLink RX3 15 "PromisedCounters$State" "promises" "I") (by decide +kernel)
  have hin_X3 : ∀ w ∈ u_ws RX3 TX3 15, w ∈ wsX3_promisesChanging := by decide +kernel
  have hn := hI.n
  have hti := hI.t
  refine wi_iconst hx hb dX3_promisesChanging_0 ?_
  refine lv_istore_n (lv' := [(2, .int (iI (0))), (0, .ref (a 0)), (1, .int (iI (c)))]) hx hb dX3_promisesChanging_1 rfl hl (by decide) rfl (fun ls hl => ?_)
  refine wi_iconst hx hb dX3_promisesChanging_2 ?_
  refine lv_istore_n (lv' := [(3, .int (iI (0))), (2, .int (iI (0))), (0, .ref (a 0)), (1, .int (iI (c)))]) hx hb dX3_promisesChanging_3 rfl hl (by decide) rfl (fun ls hl => ?_)
  have L4 : ∀ (k4 : Nat), ∀ (p : Int) (acc : Int), (σ 0 1 - p).toNat < k4 → (0 ≤ p ∧ p ≤ σ 0 1) → (acc = sm (fun p => if chg σ p c = 0 then 0 else 1) p.toNat) → ∀ (ls : Array Slot), lv_has ls 4 [(3, .int (iI (p))), (2, .int (iI (acc))), (0, .ref (a 0)), (1, .int (iI (c)))] → W p9 l e9 ({ frames := 1, cells := 0, slots := 0, locals := 22 } : Room) s m ([.ref (a 0), .int (iI (c))] : List Value).toArray below9 meth9 c9 s.heap [] 0 0 (MQ below9 (wr_Si (fun r => r = chN σ c)) ([.ref (a 0), .int (iI (c))] : List Value).toArray s 0 0 (fun _ => False)) (F0 m 4 ls []) := by
    intro k4
    induction k4 with
    | zero =>
      intro p acc hm
      exact absurd hm (Nat.not_lt_zero _)
    | succ k4 ih4 =>
      intro p acc hm4 hp hacc ls hl
      refine lv_iload_n hx hb dX3_promisesChanging_4 rfl (lv_at hl 0 rfl) ?_
      refine lv_aload_n hx hb dX3_promisesChanging_5 rfl (lv_at hl 2 rfl) ?_
      refine va_get (D := D) (ci := 3) (v := .int (iI ((σ 0 1)))) (C := RX3) (T := TX3) (N := 15) hx hb hts hin_X3 hown hK hP 0 rfl rfl 1 (by decide) hw_0 (fun _ h9 => h9) rfl dX3_promisesChanging_6 ?_
      refine wi_icmp_ge (tgt := 30) hx hb dX3_promisesChanging_9 (by decide) (by omega) (fun c_9 => ?_) (fun c_9 => ?_)
      · skip
        refine lv_iload_n hx hb dX3_promisesChanging_30 rfl (lv_at hl 1 rfl) ?_
        exact W.iret (v := iI (acc)) hx hb hr (fun t9 ht9 hW9 => ⟨(acc), rfl, (by rw [hacc, show p = σ 0 1 by omega]; rfl), ht9⟩) (fun _ h => nomatch h) dX3_promisesChanging_31 hlocks
      · skip
        have hpr := hI.pr (p := p) (by omega) (by omega)
        obtain ⟨hp1, hp2, hp3, hp4, hp5⟩ := id hpr
        have hcr := chg_r hpr c
        refine lv_aload_n hx hb dX3_promisesChanging_12 rfl (lv_at hl 2 rfl) ?_
        refine lv_iload_n hx hb dX3_promisesChanging_13 rfl (lv_at hl 0 rfl) ?_
        refine lv_iload_n hx hb dX3_promisesChanging_14 rfl (lv_at hl 3 rfl) ?_
        refine wr_calli (va_runV (As := [.int (iI (p)), .int (iI (c))]) (rest := []) ⟨hx, hb, hml, hown, hts⟩ (c_X3_changeOf l D cI cO cC cL a σ (p) (c) (by omega) (by omega) (hpr)) (cwV 2 hts gX3_promisesChanging_X3_changeOf rfl rfl rfl (by decide +kernel) ⟨Nat.le_of_ble_eq_true rfl, Nat.le_of_ble_eq_true rfl⟩) ⟨pcR_blind, va_recv hK hP (ci := 3) (q0 := 0) rfl rfl, pcR_of hP hK⟩ rfl rfl hl.1 rfl (lv_room (Nat.le_of_ble_eq_true rfl)) dX3_promisesChanging_15 ⟨(Nat.zero_le _), (Nat.zero_le _)⟩) (fun r1 hr1 => ?_)
        subst hr1
        refine wi_if_eq (tgt := 24) hx hb dX3_promisesChanging_18 (by decide) (by omega) (fun c_18 => ?_) (fun c_18 => ?_)
        · skip
          refine wi_iinc (lv' := [(3, .int (iI ((p + 1)))), (2, .int (iI (acc))), (0, .ref (a 0)), (1, .int (iI (c)))]) hx hb dX3_promisesChanging_24 hl (k := 0) rfl (by decide) rfl (fun ls hl => ?_)
          refine lv_goto (tgt := 4) hx hb dX3_promisesChanging_27 (by decide) ?_
          exact ih4 ((p + 1)) (acc) (by omega) (by omega) (by rw [sm_step (by omega)]; omega)  ls (lv_sub hl [0, 1, 2, 3] rfl)
        · skip
          refine wi_iinc (lv' := [(2, .int (iI ((acc + 1)))), (3, .int (iI (p))), (0, .ref (a 0)), (1, .int (iI (c)))]) hx hb dX3_promisesChanging_21 hl (k := 1) rfl (by decide) rfl (fun ls hl => ?_)
          refine wi_iinc (lv' := [(3, .int (iI ((p + 1)))), (2, .int (iI ((acc + 1)))), (0, .ref (a 0)), (1, .int (iI (c)))]) hx hb dX3_promisesChanging_24 hl (k := 1) rfl (by decide) rfl (fun ls hl => ?_)
          refine lv_goto (tgt := 4) hx hb dX3_promisesChanging_27 (by decide) ?_
          exact ih4 ((p + 1)) ((acc + 1)) (by omega) (by omega) (by rw [sm_step (by omega)]; omega)  ls (lv_sub hl [0, 1, 2, 3] rfl)
  exact L4 _ (0) (0) (Nat.lt_succ_self _) (by omega) (rfl)  ls (lv_sub hl [0, 1, 2, 3] rfl)
set_option maxHeartbeats 4000000 in
set_option maxRecDepth 100000 in
theorem c_X3_sumOfChanges (l : Launch) (D : va_G) (cI cO cC cL : ClassId) (a : Nat → Nat) (σ : Nat → Int → Int) (c : Int) (hc : 0 ≤ c ∧ c < 4) (hI : Inv σ) : Met l yX3_sumOfChanges wsX3_sumOfChanges ({ frames := 1, cells := 0, slots := 0, locals := 22 } : Room) (pcR D [(cI, FieldType.int)] [.ref (a 0), .int (iI (c))] (fl [stW cI a σ])) (wr_Si (fun r => r = chSum σ c)) 0 0 (fun _ => False) := by
  refine Met.ofW (cc := cX3_sumOfChanges) (maxL := 4) (ret := (some .int)) (by decide) rfl ?_
  intro p9 e9 s m args9 below9 meth9 c9 s₁ B hml hv
  obtain ⟨rfl, hP, hK⟩ := hv
  have hx := B.exec
  have hb := B.bytes
  have hr := B.returns
  have hts := atoms_spec (ws := wsX3_sumOfChanges) B.pre
  have hown : s.vm.findClass RX3 = some m.cls := findClass_of_methodNamed B.named
  have hlocks := B.notSynchronized
  have hl := lv_entry ([.ref (a 0), .int (iI (c))]) (n := 4) (Nat.le_of_ble_eq_true rfl)
  rw [lg_entry_eq]
  generalize (lg_sl ([.ref (a 0), .int (iI (c))]) ++ List.replicate (4 - (lg_sl ([.ref (a 0), .int (iI (c))])).length) Slot.unset).toArray = ls at hl ⊢
  have hl : lv_has ls 4 [(0, .ref (a 0)), (1, .int (iI (c)))] := hl
  have hw_0 := hts (.fieldLink RX3 15 "PromisedCounters$State" "promises" "I") (by decide +kernel)
  have hin_X3 : ∀ w ∈ u_ws RX3 TX3 15, w ∈ wsX3_sumOfChanges := by decide +kernel
  have hn := hI.n
  have hti := hI.t
  refine wi_iconst hx hb dX3_sumOfChanges_0 ?_
  refine lv_istore_n (lv' := [(2, .int (iI (0))), (0, .ref (a 0)), (1, .int (iI (c)))]) hx hb dX3_sumOfChanges_1 rfl hl (by decide) rfl (fun ls hl => ?_)
  refine wi_iconst hx hb dX3_sumOfChanges_2 ?_
  refine lv_istore_n (lv' := [(3, .int (iI (0))), (2, .int (iI (0))), (0, .ref (a 0)), (1, .int (iI (c)))]) hx hb dX3_sumOfChanges_3 rfl hl (by decide) rfl (fun ls hl => ?_)
  have L4 : ∀ (k4 : Nat), ∀ (p : Int) (acc : Int), (σ 0 1 - p).toNat < k4 → (0 ≤ p ∧ p ≤ σ 0 1) → (acc = sm (fun p => chg σ p c) p.toNat) → ∀ (ls : Array Slot), lv_has ls 4 [(3, .int (iI (p))), (2, .int (iI (acc))), (0, .ref (a 0)), (1, .int (iI (c)))] → W p9 l e9 ({ frames := 1, cells := 0, slots := 0, locals := 22 } : Room) s m ([.ref (a 0), .int (iI (c))] : List Value).toArray below9 meth9 c9 s.heap [] 0 0 (MQ below9 (wr_Si (fun r => r = chSum σ c)) ([.ref (a 0), .int (iI (c))] : List Value).toArray s 0 0 (fun _ => False)) (F0 m 4 ls []) := by
    intro k4
    induction k4 with
    | zero =>
      intro p acc hm
      exact absurd hm (Nat.not_lt_zero _)
    | succ k4 ih4 =>
      intro p acc hm4 hp hacc ls hl
      refine lv_iload_n hx hb dX3_sumOfChanges_4 rfl (lv_at hl 0 rfl) ?_
      refine lv_aload_n hx hb dX3_sumOfChanges_5 rfl (lv_at hl 2 rfl) ?_
      refine va_get (D := D) (ci := 3) (v := .int (iI ((σ 0 1)))) (C := RX3) (T := TX3) (N := 15) hx hb hts hin_X3 hown hK hP 0 rfl rfl 1 (by decide) hw_0 (fun _ h9 => h9) rfl dX3_sumOfChanges_6 ?_
      refine wi_icmp_ge (tgt := 27) hx hb dX3_sumOfChanges_9 (by decide) (by omega) (fun c_9 => ?_) (fun c_9 => ?_)
      · skip
        refine lv_iload_n hx hb dX3_sumOfChanges_27 rfl (lv_at hl 1 rfl) ?_
        exact W.iret (v := iI (acc)) hx hb hr (fun t9 ht9 hW9 => ⟨(acc), rfl, (by rw [hacc, show p = σ 0 1 by omega]; rfl), ht9⟩) (fun _ h => nomatch h) dX3_sumOfChanges_28 hlocks
      · skip
        have hpr := hI.pr (p := p) (by omega) (by omega)
        obtain ⟨hp1, hp2, hp3, hp4, hp5⟩ := id hpr
        have hcr := chg_r hpr c
        refine lv_iload_n hx hb dX3_sumOfChanges_12 rfl (lv_at hl 1 rfl) ?_
        refine lv_aload_n hx hb dX3_sumOfChanges_13 rfl (lv_at hl 2 rfl) ?_
        refine lv_iload_n hx hb dX3_sumOfChanges_14 rfl (lv_at hl 0 rfl) ?_
        refine lv_iload_n hx hb dX3_sumOfChanges_15 rfl (lv_at hl 3 rfl) ?_
        refine wr_calli (va_runV (As := [.int (iI (p)), .int (iI (c))]) (rest := [.int (iI (acc))]) ⟨hx, hb, hml, hown, hts⟩ (c_X3_changeOf l D cI cO cC cL a σ (p) (c) (by omega) (by omega) (hpr)) (cwV 2 hts gX3_sumOfChanges_X3_changeOf rfl rfl rfl (by decide +kernel) ⟨Nat.le_of_ble_eq_true rfl, Nat.le_of_ble_eq_true rfl⟩) ⟨pcR_blind, va_recv hK hP (ci := 3) (q0 := 0) rfl rfl, pcR_of hP hK⟩ rfl rfl hl.1 rfl (lv_room (Nat.le_of_ble_eq_true rfl)) dX3_sumOfChanges_16 ⟨(Nat.zero_le _), (Nat.zero_le _)⟩) (fun r1 hr1 => ?_)
        subst hr1
        refine wi_iadd hx hb dX3_sumOfChanges_19 ?_
        refine lv_istore_n (lv' := [(2, .int (iI ((acc + (chg σ (p) (c)))))), (3, .int (iI (p))), (0, .ref (a 0)), (1, .int (iI (c)))]) hx hb dX3_sumOfChanges_20 rfl hl (by decide) rfl (fun ls hl => ?_)
        refine wi_iinc (lv' := [(3, .int (iI ((p + 1)))), (2, .int (iI ((acc + (chg σ (p) (c)))))), (0, .ref (a 0)), (1, .int (iI (c)))]) hx hb dX3_sumOfChanges_21 hl (k := 1) rfl (by decide) rfl (fun ls hl => ?_)
        refine lv_goto (tgt := 4) hx hb dX3_sumOfChanges_24 (by decide) ?_
        exact ih4 ((p + 1)) ((acc + (chg σ (p) (c)))) (by omega) (by omega) (by rw [sm_step (by omega)]; omega)  ls (lv_sub hl [0, 1, 2, 3] rfl)
  exact L4 _ (0) (0) (Nat.lt_succ_self _) (by omega) (rfl)  ls (lv_sub hl [0, 1, 2, 3] rfl)
set_option maxHeartbeats 4000000 in
set_option maxRecDepth 100000 in
theorem c_X3_promisesOf (l : Launch) (D : va_G) (cI cO cC cL : ClassId) (a : Nat → Nat) (σ : Nat → Int → Int) (o : Int) (ho : R32 o) (hI : Inv σ) : Met l yX3_promisesOf wsX3_promisesOf ({ frames := 0, cells := 0, slots := 0, locals := 0 } : Room) (pcR D [(cI, FieldType.int)] [.ref (a 0), .int (iI (o))] (fl [stW cI a σ])) (wr_Si (fun r => r = ofN σ o)) 0 0 (fun _ => False) := by
  refine Met.ofW (cc := cX3_promisesOf) (maxL := 4) (ret := (some .int)) (by decide) rfl ?_
  intro p9 e9 s m args9 below9 meth9 c9 s₁ B hml hv
  obtain ⟨rfl, hP, hK⟩ := hv
  have hx := B.exec
  have hb := B.bytes
  have hr := B.returns
  have hts := atoms_spec (ws := wsX3_promisesOf) B.pre
  have hown : s.vm.findClass RX3 = some m.cls := findClass_of_methodNamed B.named
  have hlocks := B.notSynchronized
  have hl := lv_entry ([.ref (a 0), .int (iI (o))]) (n := 4) (Nat.le_of_ble_eq_true rfl)
  rw [lg_entry_eq]
  generalize (lg_sl ([.ref (a 0), .int (iI (o))]) ++ List.replicate (4 - (lg_sl ([.ref (a 0), .int (iI (o))])).length) Slot.unset).toArray = ls at hl ⊢
  have hl : lv_has ls 4 [(0, .ref (a 0)), (1, .int (iI (o)))] := hl
  have hw_0 := hts (.fieldLink RX3 15 "PromisedCounters$State" "promises" "I") (by decide +kernel)
  have hin_X3 : ∀ w ∈ u_ws RX3 TX3 15, w ∈ wsX3_promisesOf := by decide +kernel
  have hw_1 := hts (.fieldLink RX3 34 "PromisedCounters$State" "owner" "[I") (by decide +kernel)
  have hn := hI.n
  have hti := hI.t
  refine wi_iconst hx hb dX3_promisesOf_0 ?_
  refine lv_istore_n (lv' := [(2, .int (iI (0))), (0, .ref (a 0)), (1, .int (iI (o)))]) hx hb dX3_promisesOf_1 rfl hl (by decide) rfl (fun ls hl => ?_)
  refine wi_iconst hx hb dX3_promisesOf_2 ?_
  refine lv_istore_n (lv' := [(3, .int (iI (0))), (2, .int (iI (0))), (0, .ref (a 0)), (1, .int (iI (o)))]) hx hb dX3_promisesOf_3 rfl hl (by decide) rfl (fun ls hl => ?_)
  have L4 : ∀ (k4 : Nat), ∀ (p : Int) (acc : Int), (σ 0 1 - p).toNat < k4 → (0 ≤ p ∧ p ≤ σ 0 1) → (acc = sm (fun p => if σ 5 p = o then 1 else 0) p.toNat) → ∀ (ls : Array Slot), lv_has ls 4 [(3, .int (iI (p))), (2, .int (iI (acc))), (0, .ref (a 0)), (1, .int (iI (o)))] → W p9 l e9 ({ frames := 0, cells := 0, slots := 0, locals := 0 } : Room) s m ([.ref (a 0), .int (iI (o))] : List Value).toArray below9 meth9 c9 s.heap [] 0 0 (MQ below9 (wr_Si (fun r => r = ofN σ o)) ([.ref (a 0), .int (iI (o))] : List Value).toArray s 0 0 (fun _ => False)) (F0 m 4 ls []) := by
    intro k4
    induction k4 with
    | zero =>
      intro p acc hm
      exact absurd hm (Nat.not_lt_zero _)
    | succ k4 ih4 =>
      intro p acc hm4 hp hacc ls hl
      refine lv_iload_n hx hb dX3_promisesOf_4 rfl (lv_at hl 0 rfl) ?_
      refine lv_aload_n hx hb dX3_promisesOf_5 rfl (lv_at hl 2 rfl) ?_
      refine va_get (D := D) (ci := 3) (v := .int (iI ((σ 0 1)))) (C := RX3) (T := TX3) (N := 15) hx hb hts hin_X3 hown hK hP 0 rfl rfl 1 (by decide) hw_0 (fun _ h9 => h9) rfl dX3_promisesOf_6 ?_
      refine wi_icmp_ge (tgt := 31) hx hb dX3_promisesOf_9 (by decide) (by omega) (fun c_9 => ?_) (fun c_9 => ?_)
      · skip
        refine lv_iload_n hx hb dX3_promisesOf_31 rfl (lv_at hl 1 rfl) ?_
        exact W.iret (v := iI (acc)) hx hb hr (fun t9 ht9 hW9 => ⟨(acc), rfl, (by rw [hacc, show p = σ 0 1 by omega]; rfl), ht9⟩) (fun _ h => nomatch h) dX3_promisesOf_32 hlocks
      · skip
        have hpr := hI.pr (p := p) (by omega) (by omega)
        obtain ⟨hp1, hp2, hp3, hp4, hp5⟩ := id hpr
        refine lv_aload_n hx hb dX3_promisesOf_12 rfl (lv_at hl 2 rfl) ?_
        refine va_get (D := D) (ci := 3) (v := .ref (a 5)) (C := RX3) (T := TX3) (N := 15) hx hb hts hin_X3 hown hK hP 0 rfl rfl 7 (by decide) hw_1 (fun _ h9 => h9) rfl dX3_promisesOf_13 ?_
        refine lv_iload_n hx hb dX3_promisesOf_16 rfl (lv_at hl 0 rfl) ?_
        refine wi_iald hx hb hK hP 5 0 (n := 16) (f := σ 5) rfl rfl (i := p) (by omega) (by decide) dX3_promisesOf_17 ?_
        refine lv_iload_n hx hb dX3_promisesOf_18 rfl (lv_at hl 3 rfl) ?_
        refine wi_icmp_ne (tgt := 25) hx hb dX3_promisesOf_19 (by decide) (by omega) (fun c_19 => ?_) (fun c_19 => ?_)
        · skip
          refine wi_iinc (lv' := [(3, .int (iI ((p + 1)))), (2, .int (iI (acc))), (0, .ref (a 0)), (1, .int (iI (o)))]) hx hb dX3_promisesOf_25 hl (k := 0) rfl (by decide) rfl (fun ls hl => ?_)
          refine lv_goto (tgt := 4) hx hb dX3_promisesOf_28 (by decide) ?_
          exact ih4 ((p + 1)) (acc) (by omega) (by omega) (by rw [sm_step (by omega)]; omega)  ls (lv_sub hl [0, 1, 2, 3] rfl)
        · skip
          refine wi_iinc (lv' := [(2, .int (iI ((acc + 1)))), (3, .int (iI (p))), (0, .ref (a 0)), (1, .int (iI (o)))]) hx hb dX3_promisesOf_22 hl (k := 1) rfl (by decide) rfl (fun ls hl => ?_)
          refine wi_iinc (lv' := [(3, .int (iI ((p + 1)))), (2, .int (iI ((acc + 1)))), (0, .ref (a 0)), (1, .int (iI (o)))]) hx hb dX3_promisesOf_25 hl (k := 1) rfl (by decide) rfl (fun ls hl => ?_)
          refine lv_goto (tgt := 4) hx hb dX3_promisesOf_28 (by decide) ?_
          exact ih4 ((p + 1)) ((acc + 1)) (by omega) (by omega) (by rw [sm_step (by omega)]; omega)  ls (lv_sub hl [0, 1, 2, 3] rfl)
  exact L4 _ (0) (0) (Nat.lt_succ_self _) (by omega) (rfl)  ls (lv_sub hl [0, 1, 2, 3] rfl)
set_option maxHeartbeats 4000000 in
set_option maxRecDepth 100000 in
theorem c_X3_sizesOf (l : Launch) (D : va_G) (cI cO cC cL : ClassId) (a : Nat → Nat) (σ : Nat → Int → Int) (o : Int) (ho : R32 o) (hI : Inv σ) : Met l yX3_sizesOf wsX3_sizesOf ({ frames := 1, cells := 0, slots := 0, locals := 24 } : Room) (pcR D [(cI, FieldType.int)] [.ref (a 0), .int (iI (o))] (fl [stW cI a σ])) (wr_Si (fun r => r = ofSz σ o)) 0 0 (fun _ => False) := by
  refine Met.ofW (cc := cX3_sizesOf) (maxL := 4) (ret := (some .int)) (by decide) rfl ?_
  intro p9 e9 s m args9 below9 meth9 c9 s₁ B hml hv
  obtain ⟨rfl, hP, hK⟩ := hv
  have hx := B.exec
  have hb := B.bytes
  have hr := B.returns
  have hts := atoms_spec (ws := wsX3_sizesOf) B.pre
  have hown : s.vm.findClass RX3 = some m.cls := findClass_of_methodNamed B.named
  have hlocks := B.notSynchronized
  have hl := lv_entry ([.ref (a 0), .int (iI (o))]) (n := 4) (Nat.le_of_ble_eq_true rfl)
  rw [lg_entry_eq]
  generalize (lg_sl ([.ref (a 0), .int (iI (o))]) ++ List.replicate (4 - (lg_sl ([.ref (a 0), .int (iI (o))])).length) Slot.unset).toArray = ls at hl ⊢
  have hl : lv_has ls 4 [(0, .ref (a 0)), (1, .int (iI (o)))] := hl
  have hw_0 := hts (.fieldLink RX3 15 "PromisedCounters$State" "promises" "I") (by decide +kernel)
  have hin_X3 : ∀ w ∈ u_ws RX3 TX3 15, w ∈ wsX3_sizesOf := by decide +kernel
  have hw_1 := hts (.fieldLink RX3 34 "PromisedCounters$State" "owner" "[I") (by decide +kernel)
  have hw_2 := hts (.fieldLink RX3 40 "PromisedCounters$State" "change" "[I") (by decide +kernel)
  have hw_3 := hts (Cond.methodLink RX3 83 Lib.Math.abs.name) (by decide +kernel)
  have hw_4 := hts (Cond.static Lib.Math.abs.name) (by decide +kernel)
  have hw_5 := hts (Cond.initialized "java/lang/Math") (by decide +kernel)
  have hw_6 := hts (Cond.code Lib.Math.abs.name Lib.Math.abs.code 1 (some .int)) (by decide +kernel)
  have hn := hI.n
  have hti := hI.t
  refine wi_iconst hx hb dX3_sizesOf_0 ?_
  refine lv_istore_n (lv' := [(2, .int (iI (0))), (0, .ref (a 0)), (1, .int (iI (o)))]) hx hb dX3_sizesOf_1 rfl hl (by decide) rfl (fun ls hl => ?_)
  refine wi_iconst hx hb dX3_sizesOf_2 ?_
  refine lv_istore_n (lv' := [(3, .int (iI (0))), (2, .int (iI (0))), (0, .ref (a 0)), (1, .int (iI (o)))]) hx hb dX3_sizesOf_3 rfl hl (by decide) rfl (fun ls hl => ?_)
  have L4 : ∀ (k4 : Nat), ∀ (p : Int) (acc : Int), (σ 0 1 - p).toNat < k4 → (0 ≤ p ∧ p ≤ σ 0 1) → (acc = sm (fun p => if σ 5 p = o then aI (σ 7 p) else 0) p.toNat) → ∀ (ls : Array Slot), lv_has ls 4 [(3, .int (iI (p))), (2, .int (iI (acc))), (0, .ref (a 0)), (1, .int (iI (o)))] → W p9 l e9 ({ frames := 1, cells := 0, slots := 0, locals := 24 } : Room) s m ([.ref (a 0), .int (iI (o))] : List Value).toArray below9 meth9 c9 s.heap [] 0 0 (MQ below9 (wr_Si (fun r => r = ofSz σ o)) ([.ref (a 0), .int (iI (o))] : List Value).toArray s 0 0 (fun _ => False)) (F0 m 4 ls []) := by
    intro k4
    induction k4 with
    | zero =>
      intro p acc hm
      exact absurd hm (Nat.not_lt_zero _)
    | succ k4 ih4 =>
      intro p acc hm4 hp hacc ls hl
      refine lv_iload_n hx hb dX3_sizesOf_4 rfl (lv_at hl 0 rfl) ?_
      refine lv_aload_n hx hb dX3_sizesOf_5 rfl (lv_at hl 2 rfl) ?_
      refine va_get (D := D) (ci := 3) (v := .int (iI ((σ 0 1)))) (C := RX3) (T := TX3) (N := 15) hx hb hts hin_X3 hown hK hP 0 rfl rfl 1 (by decide) hw_0 (fun _ h9 => h9) rfl dX3_sizesOf_6 ?_
      refine wi_icmp_ge (tgt := 40) hx hb dX3_sizesOf_9 (by decide) (by omega) (fun c_9 => ?_) (fun c_9 => ?_)
      · skip
        refine lv_iload_n hx hb dX3_sizesOf_40 rfl (lv_at hl 1 rfl) ?_
        exact W.iret (v := iI (acc)) hx hb hr (fun t9 ht9 hW9 => ⟨(acc), rfl, (by rw [hacc, show p = σ 0 1 by omega]; rfl), ht9⟩) (fun _ h => nomatch h) dX3_sizesOf_41 hlocks
      · skip
        have hpr := hI.pr (p := p) (by omega) (by omega)
        obtain ⟨hp1, hp2, hp3, hp4, hp5⟩ := id hpr
        refine lv_aload_n hx hb dX3_sizesOf_12 rfl (lv_at hl 2 rfl) ?_
        refine va_get (D := D) (ci := 3) (v := .ref (a 5)) (C := RX3) (T := TX3) (N := 15) hx hb hts hin_X3 hown hK hP 0 rfl rfl 7 (by decide) hw_1 (fun _ h9 => h9) rfl dX3_sizesOf_13 ?_
        refine lv_iload_n hx hb dX3_sizesOf_16 rfl (lv_at hl 0 rfl) ?_
        refine wi_iald hx hb hK hP 5 0 (n := 16) (f := σ 5) rfl rfl (i := p) (by omega) (by decide) dX3_sizesOf_17 ?_
        refine lv_iload_n hx hb dX3_sizesOf_18 rfl (lv_at hl 3 rfl) ?_
        refine wi_icmp_ne (tgt := 34) hx hb dX3_sizesOf_19 (by decide) (by omega) (fun c_19 => ?_) (fun c_19 => ?_)
        · skip
          refine wi_iinc (lv' := [(3, .int (iI ((p + 1)))), (2, .int (iI (acc))), (0, .ref (a 0)), (1, .int (iI (o)))]) hx hb dX3_sizesOf_34 hl (k := 0) rfl (by decide) rfl (fun ls hl => ?_)
          refine lv_goto (tgt := 4) hx hb dX3_sizesOf_37 (by decide) ?_
          exact ih4 ((p + 1)) (acc) (by omega) (by omega) (by rw [sm_step (by omega)]; omega)  ls (lv_sub hl [0, 1, 2, 3] rfl)
        · skip
          refine lv_iload_n hx hb dX3_sizesOf_22 rfl (lv_at hl 1 rfl) ?_
          refine lv_aload_n hx hb dX3_sizesOf_23 rfl (lv_at hl 2 rfl) ?_
          refine va_get (D := D) (ci := 3) (v := .ref (a 7)) (C := RX3) (T := TX3) (N := 15) hx hb hts hin_X3 hown hK hP 0 rfl rfl 9 (by decide) hw_2 (fun _ h9 => h9) rfl dX3_sizesOf_24 ?_
          refine lv_iload_n hx hb dX3_sizesOf_27 rfl (lv_at hl 0 rfl) ?_
          refine wi_iald hx hb hK hP 7 0 (n := 16) (f := σ 7) rfl rfl (i := p) (by omega) (by decide) dX3_sizesOf_28 ?_
          refine va_mabs hx hb (hml.trans hl.1.symm) hown hw_3 hw_4 hw_5 hw_6 (Nat.le_of_ble_eq_true rfl) (Nat.le_of_ble_eq_true rfl) (Nat.zero_le _) (Nat.zero_le _) dX3_sizesOf_29 ?_
          rw [abs_ii (by omega)]
          refine wi_iadd hx hb dX3_sizesOf_32 ?_
          refine lv_istore_n (lv' := [(2, .int (iI ((acc + (aI ((σ 7 (p)))))))), (3, .int (iI (p))), (0, .ref (a 0)), (1, .int (iI (o)))]) hx hb dX3_sizesOf_33 rfl hl (by decide) rfl (fun ls hl => ?_)
          refine wi_iinc (lv' := [(3, .int (iI ((p + 1)))), (2, .int (iI ((acc + (aI ((σ 7 (p)))))))), (0, .ref (a 0)), (1, .int (iI (o)))]) hx hb dX3_sizesOf_34 hl (k := 1) rfl (by decide) rfl (fun ls hl => ?_)
          refine lv_goto (tgt := 4) hx hb dX3_sizesOf_37 (by decide) ?_
          exact ih4 ((p + 1)) ((acc + (aI ((σ 7 (p)))))) (by omega) (by omega) (by rw [sm_step (by omega)]; omega)  ls (lv_sub hl [0, 1, 2, 3] rfl)
  exact L4 _ (0) (0) (Nat.lt_succ_self _) (by omega) (rfl)  ls (lv_sub hl [0, 1, 2, 3] rfl)
set_option maxHeartbeats 4000000 in
set_option maxRecDepth 100000 in
theorem c_X3_transfers (l : Launch) (D : va_G) (cI cO cC cL : ClassId) (a : Nat → Nat) (σ : Nat → Int → Int) (hI : Inv σ) : Met l yX3_transfers wsX3_transfers ({ frames := 0, cells := 0, slots := 0, locals := 0 } : Room) (pcR D [(cI, FieldType.int)] [.ref (a 0)] (fl [stW cI a σ])) (wr_Si (fun r => r = trN σ)) 0 0 (fun _ => False) := by
  refine Met.ofW (cc := cX3_transfers) (maxL := 3) (ret := (some .int)) (by decide) rfl ?_
  intro p9 e9 s m args9 below9 meth9 c9 s₁ B hml hv
  obtain ⟨rfl, hP, hK⟩ := hv
  have hx := B.exec
  have hb := B.bytes
  have hr := B.returns
  have hts := atoms_spec (ws := wsX3_transfers) B.pre
  have hown : s.vm.findClass RX3 = some m.cls := findClass_of_methodNamed B.named
  have hlocks := B.notSynchronized
  have hl := lv_entry ([.ref (a 0)]) (n := 3) (Nat.le_of_ble_eq_true rfl)
  rw [lg_entry_eq]
  generalize (lg_sl ([.ref (a 0)]) ++ List.replicate (3 - (lg_sl ([.ref (a 0)])).length) Slot.unset).toArray = ls at hl ⊢
  have hl : lv_has ls 3 [(0, .ref (a 0))] := hl
  have hw_0 := hts (.fieldLink RX3 15 "PromisedCounters$State" "promises" "I") (by decide +kernel)
  have hin_X3 : ∀ w ∈ u_ws RX3 TX3 15, w ∈ wsX3_transfers := by decide +kernel
  have hw_1 := hts (.fieldLink RX3 43 "PromisedCounters$State" "other" "[I") (by decide +kernel)
  have hn := hI.n
  have hti := hI.t
  refine wi_iconst hx hb dX3_transfers_0 ?_
  refine lv_istore_n (lv' := [(1, .int (iI (0))), (0, .ref (a 0))]) hx hb dX3_transfers_1 rfl hl (by decide) rfl (fun ls hl => ?_)
  refine wi_iconst hx hb dX3_transfers_2 ?_
  refine lv_istore_n (lv' := [(2, .int (iI (0))), (1, .int (iI (0))), (0, .ref (a 0))]) hx hb dX3_transfers_3 rfl hl (by decide) rfl (fun ls hl => ?_)
  have L4 : ∀ (k4 : Nat), ∀ (p : Int) (acc : Int), (σ 0 1 - p).toNat < k4 → (0 ≤ p ∧ p ≤ σ 0 1) → (acc = sm (fun p => if σ 8 p = -1 then 0 else 1) p.toNat) → ∀ (ls : Array Slot), lv_has ls 3 [(2, .int (iI (p))), (1, .int (iI (acc))), (0, .ref (a 0))] → W p9 l e9 ({ frames := 0, cells := 0, slots := 0, locals := 0 } : Room) s m ([.ref (a 0)] : List Value).toArray below9 meth9 c9 s.heap [] 0 0 (MQ below9 (wr_Si (fun r => r = trN σ)) ([.ref (a 0)] : List Value).toArray s 0 0 (fun _ => False)) (F0 m 4 ls []) := by
    intro k4
    induction k4 with
    | zero =>
      intro p acc hm
      exact absurd hm (Nat.not_lt_zero _)
    | succ k4 ih4 =>
      intro p acc hm4 hp hacc ls hl
      refine lv_iload_n hx hb dX3_transfers_4 rfl (lv_at hl 0 rfl) ?_
      refine lv_aload_n hx hb dX3_transfers_5 rfl (lv_at hl 2 rfl) ?_
      refine va_get (D := D) (ci := 3) (v := .int (iI ((σ 0 1)))) (C := RX3) (T := TX3) (N := 15) hx hb hts hin_X3 hown hK hP 0 rfl rfl 1 (by decide) hw_0 (fun _ h9 => h9) rfl dX3_transfers_6 ?_
      refine wi_icmp_ge (tgt := 31) hx hb dX3_transfers_9 (by decide) (by omega) (fun c_9 => ?_) (fun c_9 => ?_)
      · skip
        refine lv_iload_n hx hb dX3_transfers_31 rfl (lv_at hl 1 rfl) ?_
        exact W.iret (v := iI (acc)) hx hb hr (fun t9 ht9 hW9 => ⟨(acc), rfl, (by rw [hacc, show p = σ 0 1 by omega]; rfl), ht9⟩) (fun _ h => nomatch h) dX3_transfers_32 hlocks
      · skip
        have hpr := hI.pr (p := p) (by omega) (by omega)
        obtain ⟨hp1, hp2, hp3, hp4, hp5⟩ := id hpr
        refine lv_aload_n hx hb dX3_transfers_12 rfl (lv_at hl 2 rfl) ?_
        refine va_get (D := D) (ci := 3) (v := .ref (a 8)) (C := RX3) (T := TX3) (N := 15) hx hb hts hin_X3 hown hK hP 0 rfl rfl 10 (by decide) hw_1 (fun _ h9 => h9) rfl dX3_transfers_13 ?_
        refine lv_iload_n hx hb dX3_transfers_16 rfl (lv_at hl 0 rfl) ?_
        refine wi_iald hx hb hK hP 8 0 (n := 16) (f := σ 8) rfl rfl (i := p) (by omega) (by decide) dX3_transfers_17 ?_
        refine wi_iconst hx hb dX3_transfers_18 ?_
        refine wi_icmp_eq (tgt := 25) hx hb dX3_transfers_19 (by decide) (by omega) (fun c_19 => ?_) (fun c_19 => ?_)
        · skip
          refine wi_iinc (lv' := [(2, .int (iI ((p + 1)))), (1, .int (iI (acc))), (0, .ref (a 0))]) hx hb dX3_transfers_25 hl (k := 0) rfl (by decide) rfl (fun ls hl => ?_)
          refine lv_goto (tgt := 4) hx hb dX3_transfers_28 (by decide) ?_
          exact ih4 ((p + 1)) (acc) (by omega) (by omega) (by rw [sm_step (by omega)]; omega)  ls (lv_sub hl [0, 1, 2] rfl)
        · skip
          refine wi_iinc (lv' := [(1, .int (iI ((acc + 1)))), (2, .int (iI (p))), (0, .ref (a 0))]) hx hb dX3_transfers_22 hl (k := 1) rfl (by decide) rfl (fun ls hl => ?_)
          refine wi_iinc (lv' := [(2, .int (iI ((p + 1)))), (1, .int (iI ((acc + 1)))), (0, .ref (a 0))]) hx hb dX3_transfers_25 hl (k := 1) rfl (by decide) rfl (fun ls hl => ?_)
          refine lv_goto (tgt := 4) hx hb dX3_transfers_28 (by decide) ?_
          exact ih4 ((p + 1)) ((acc + 1)) (by omega) (by omega) (by rw [sm_step (by omega)]; omega)  ls (lv_sub hl [0, 1, 2] rfl)
  exact L4 _ (0) (0) (Nat.lt_succ_self _) (by omega) (rfl)  ls (lv_sub hl [0, 1, 2] rfl)
set_option maxHeartbeats 4000000 in
set_option maxRecDepth 100000 in
theorem c_X3_firstLapse (l : Launch) (D : va_G) (cI cO cC cL : ClassId) (a : Nat → Nat) (σ : Nat → Int → Int) (hI : Inv σ) : Met l yX3_firstLapse wsX3_firstLapse ({ frames := 0, cells := 0, slots := 0, locals := 0 } : Room) (pcR D [(cI, FieldType.int)] [.ref (a 0)] (fl [stW cI a σ])) (wr_Si (fun r => r = frS σ)) 0 0 (fun _ => False) := by
  refine Met.ofW (cc := cX3_firstLapse) (maxL := 3) (ret := (some .int)) (by decide) rfl ?_
  intro p9 e9 s m args9 below9 meth9 c9 s₁ B hml hv
  obtain ⟨rfl, hP, hK⟩ := hv
  have hx := B.exec
  have hb := B.bytes
  have hr := B.returns
  have hts := atoms_spec (ws := wsX3_firstLapse) B.pre
  have hown : s.vm.findClass RX3 = some m.cls := findClass_of_methodNamed B.named
  have hlocks := B.notSynchronized
  have hl := lv_entry ([.ref (a 0)]) (n := 3) (Nat.le_of_ble_eq_true rfl)
  rw [lg_entry_eq]
  generalize (lg_sl ([.ref (a 0)]) ++ List.replicate (3 - (lg_sl ([.ref (a 0)])).length) Slot.unset).toArray = ls at hl ⊢
  have hl : lv_has ls 3 [(0, .ref (a 0))] := hl
  have hw_0 := hts (.fieldLink RX3 15 "PromisedCounters$State" "promises" "I") (by decide +kernel)
  have hin_X3 : ∀ w ∈ u_ws RX3 TX3 15, w ∈ wsX3_firstLapse := by decide +kernel
  have hw_1 := hts (.fieldLink RX3 46 "PromisedCounters$State" "until" "[I") (by decide +kernel)
  have hn := hI.n
  have hti := hI.t
  refine wi_iconst hx hb dX3_firstLapse_0 ?_
  refine lv_istore_n (lv' := [(1, .int (iI (-1))), (0, .ref (a 0))]) hx hb dX3_firstLapse_1 rfl hl (by decide) rfl (fun ls hl => ?_)
  refine wi_iconst hx hb dX3_firstLapse_2 ?_
  refine lv_istore_n (lv' := [(2, .int (iI (0))), (1, .int (iI (-1))), (0, .ref (a 0))]) hx hb dX3_firstLapse_3 rfl hl (by decide) rfl (fun ls hl => ?_)
  have L4 : ∀ (k4 : Nat), ∀ (p : Int) (acc : Int), (σ 0 1 - p).toNat < k4 → (0 ≤ p ∧ p ≤ σ 0 1) → (acc = fL (σ 9) p.toNat) → (-1 ≤ acc ∧ acc ≤ 20000) → ∀ (ls : Array Slot), lv_has ls 3 [(2, .int (iI (p))), (1, .int (iI (acc))), (0, .ref (a 0))] → W p9 l e9 ({ frames := 0, cells := 0, slots := 0, locals := 0 } : Room) s m ([.ref (a 0)] : List Value).toArray below9 meth9 c9 s.heap [] 0 0 (MQ below9 (wr_Si (fun r => r = frS σ)) ([.ref (a 0)] : List Value).toArray s 0 0 (fun _ => False)) (F0 m 4 ls []) := by
    intro k4
    induction k4 with
    | zero =>
      intro p acc hm
      exact absurd hm (Nat.not_lt_zero _)
    | succ k4 ih4 =>
      intro p acc hm4 hp hacc hra ls hl
      refine lv_iload_n hx hb dX3_firstLapse_4 rfl (lv_at hl 0 rfl) ?_
      refine lv_aload_n hx hb dX3_firstLapse_5 rfl (lv_at hl 2 rfl) ?_
      refine va_get (D := D) (ci := 3) (v := .int (iI ((σ 0 1)))) (C := RX3) (T := TX3) (N := 15) hx hb hts hin_X3 hown hK hP 0 rfl rfl 1 (by decide) hw_0 (fun _ h9 => h9) rfl dX3_firstLapse_6 ?_
      refine wi_icmp_ge (tgt := 40) hx hb dX3_firstLapse_9 (by decide) (by omega) (fun c_9 => ?_) (fun c_9 => ?_)
      · skip
        refine lv_iload_n hx hb dX3_firstLapse_40 rfl (lv_at hl 1 rfl) ?_
        exact W.iret (v := iI (acc)) hx hb hr (fun t9 ht9 hW9 => ⟨(acc), rfl, (by rw [hacc, show p = σ 0 1 by omega]; rfl), ht9⟩) (fun _ h => nomatch h) dX3_firstLapse_41 hlocks
      · skip
        have hpr := hI.pr (p := p) (by omega) (by omega)
        obtain ⟨hp1, hp2, hp3, hp4, hp5⟩ := id hpr
        refine lv_iload_n hx hb dX3_firstLapse_12 rfl (lv_at hl 1 rfl) ?_
        refine wi_iconst hx hb dX3_firstLapse_13 ?_
        refine wi_icmp_eq (tgt := 27) hx hb dX3_firstLapse_14 (by decide) (by omega) (fun c_14 => ?_) (fun c_14 => ?_)
        · skip
          refine lv_aload_n hx hb dX3_firstLapse_27 rfl (lv_at hl 2 rfl) ?_
          refine va_get (D := D) (ci := 3) (v := .ref (a 9)) (C := RX3) (T := TX3) (N := 15) hx hb hts hin_X3 hown hK hP 0 rfl rfl 11 (by decide) hw_1 (fun _ h9 => h9) rfl dX3_firstLapse_28 ?_
          refine lv_iload_n hx hb dX3_firstLapse_31 rfl (lv_at hl 0 rfl) ?_
          refine wi_iald hx hb hK hP 9 0 (n := 16) (f := σ 9) rfl rfl (i := p) (by omega) (by decide) dX3_firstLapse_32 ?_
          refine lv_istore_n (lv' := [(1, .int (iI ((σ 9 (p))))), (2, .int (iI (p))), (0, .ref (a 0))]) hx hb dX3_firstLapse_33 rfl hl (by decide) rfl (fun ls hl => ?_)
          refine wi_iinc (lv' := [(2, .int (iI ((p + 1)))), (1, .int (iI ((σ 9 (p))))), (0, .ref (a 0))]) hx hb dX3_firstLapse_34 hl (k := 1) rfl (by decide) rfl (fun ls hl => ?_)
          refine lv_goto (tgt := 4) hx hb dX3_firstLapse_37 (by decide) ?_
          exact ih4 ((p + 1)) ((σ 9 (p))) (by omega) (by omega) (by rw [fL_step (by omega), ← hacc]; first | rw [if_pos (by omega)] | rw [if_neg (by omega)]) (by omega)  ls (lv_sub hl [0, 1, 2] rfl)
        · skip
          refine lv_aload_n hx hb dX3_firstLapse_17 rfl (lv_at hl 2 rfl) ?_
          refine va_get (D := D) (ci := 3) (v := .ref (a 9)) (C := RX3) (T := TX3) (N := 15) hx hb hts hin_X3 hown hK hP 0 rfl rfl 11 (by decide) hw_1 (fun _ h9 => h9) rfl dX3_firstLapse_18 ?_
          refine lv_iload_n hx hb dX3_firstLapse_21 rfl (lv_at hl 0 rfl) ?_
          refine wi_iald hx hb hK hP 9 0 (n := 16) (f := σ 9) rfl rfl (i := p) (by omega) (by decide) dX3_firstLapse_22 ?_
          refine lv_iload_n hx hb dX3_firstLapse_23 rfl (lv_at hl 1 rfl) ?_
          refine wi_icmp_ge (tgt := 34) hx hb dX3_firstLapse_24 (by decide) (by omega) (fun c_24 => ?_) (fun c_24 => ?_)
          · skip
            refine wi_iinc (lv' := [(2, .int (iI ((p + 1)))), (1, .int (iI (acc))), (0, .ref (a 0))]) hx hb dX3_firstLapse_34 hl (k := 0) rfl (by decide) rfl (fun ls hl => ?_)
            refine lv_goto (tgt := 4) hx hb dX3_firstLapse_37 (by decide) ?_
            exact ih4 ((p + 1)) (acc) (by omega) (by omega) (by rw [fL_step (by omega), ← hacc]; first | rw [if_pos (by omega)] | rw [if_neg (by omega)]) (by omega)  ls (lv_sub hl [0, 1, 2] rfl)
          · skip
            refine lv_aload_n hx hb dX3_firstLapse_27 rfl (lv_at hl 2 rfl) ?_
            refine va_get (D := D) (ci := 3) (v := .ref (a 9)) (C := RX3) (T := TX3) (N := 15) hx hb hts hin_X3 hown hK hP 0 rfl rfl 11 (by decide) hw_1 (fun _ h9 => h9) rfl dX3_firstLapse_28 ?_
            refine lv_iload_n hx hb dX3_firstLapse_31 rfl (lv_at hl 0 rfl) ?_
            refine wi_iald hx hb hK hP 9 0 (n := 16) (f := σ 9) rfl rfl (i := p) (by omega) (by decide) dX3_firstLapse_32 ?_
            refine lv_istore_n (lv' := [(1, .int (iI ((σ 9 (p))))), (2, .int (iI (p))), (0, .ref (a 0))]) hx hb dX3_firstLapse_33 rfl hl (by decide) rfl (fun ls hl => ?_)
            refine wi_iinc (lv' := [(2, .int (iI ((p + 1)))), (1, .int (iI ((σ 9 (p))))), (0, .ref (a 0))]) hx hb dX3_firstLapse_34 hl (k := 1) rfl (by decide) rfl (fun ls hl => ?_)
            refine lv_goto (tgt := 4) hx hb dX3_firstLapse_37 (by decide) ?_
            exact ih4 ((p + 1)) ((σ 9 (p))) (by omega) (by omega) (by rw [fL_step (by omega), ← hacc]; first | rw [if_pos (by omega)] | rw [if_neg (by omega)]) (by omega)  ls (lv_sub hl [0, 1, 2] rfl)
  exact L4 _ (0) (-1) (Nat.lt_succ_self _) (by omega) (rfl) (by omega)  ls (lv_sub hl [0, 1, 2] rfl)
set_option maxHeartbeats 4000000 in
set_option maxRecDepth 100000 in
theorem c_X3_reasonOfNumber (l : Launch) (D : va_G) (cI cO cC cL : ClassId) (a : Nat → Nat) (σ : Nat → Int → Int) (o : Int) (ho : R32 o) (hI : Inv σ) : Met l yX3_reasonOfNumber wsX3_reasonOfNumber ({ frames := 1, cells := 0, slots := 0, locals := 23 } : Room) (pcR D [(cI, FieldType.int)] [.ref (a 0), .int (iI (o))] (fl [stW cI a σ])) (wr_Si (fun r => r = reasonN σ o)) 0 0 (fun _ => False) := by
  refine Met.ofW (cc := cX3_reasonOfNumber) (maxL := 2) (ret := (some .int)) (by decide) rfl ?_
  intro p9 e9 s m args9 below9 meth9 c9 s₁ B hml hv
  obtain ⟨rfl, hP, hK⟩ := hv
  have hx := B.exec
  have hb := B.bytes
  have hr := B.returns
  have hts := atoms_spec (ws := wsX3_reasonOfNumber) B.pre
  have hown : s.vm.findClass RX3 = some m.cls := findClass_of_methodNamed B.named
  have hlocks := B.notSynchronized
  have hl := lv_entry ([.ref (a 0), .int (iI (o))]) (n := 2) (Nat.le_of_ble_eq_true rfl)
  rw [lg_entry_eq]
  generalize (lg_sl ([.ref (a 0), .int (iI (o))]) ++ List.replicate (2 - (lg_sl ([.ref (a 0), .int (iI (o))])).length) Slot.unset).toArray = ls at hl ⊢
  have hl : lv_has ls 2 [(0, .ref (a 0)), (1, .int (iI (o)))] := hl
  have hw_0 := hts (.fieldLink RX3 15 "PromisedCounters$State" "promises" "I") (by decide +kernel)
  have hin_X3 : ∀ w ∈ u_ws RX3 TX3 15, w ∈ wsX3_reasonOfNumber := by decide +kernel
  have hw_1 := hts (.fieldLink RX3 21 "PromisedCounters$State" "settings" "[I") (by decide +kernel)
  have hn := hI.n
  have hti := hI.t
  have hof := ofN_r hI o
  have hst := hI.2.2.1
  refine lv_aload_n hx hb dX3_reasonOfNumber_0 rfl (lv_at hl 0 rfl) ?_
  refine va_get (D := D) (ci := 3) (v := .int (iI ((σ 0 1)))) (C := RX3) (T := TX3) (N := 15) hx hb hts hin_X3 hown hK hP 0 rfl rfl 1 (by decide) hw_0 (fun _ h9 => h9) rfl dX3_reasonOfNumber_1 ?_
  refine wi_bipush hx hb dX3_reasonOfNumber_4 (by decide) ?_
  refine wi_icmp_lt (tgt := 11) hx hb dX3_reasonOfNumber_6 (by decide) (by omega) (fun c_6 => ?_) (fun c_6 => ?_)
  · skip
    refine lv_aload_n hx hb dX3_reasonOfNumber_11 rfl (lv_at hl 0 rfl) ?_
    refine lv_iload_n hx hb dX3_reasonOfNumber_12 rfl (lv_at hl 1 rfl) ?_
    refine wr_calli (va_runV (As := [.int (iI (o))]) (rest := []) ⟨hx, hb, hml, hown, hts⟩ (c_X3_promisesOf l D cI cO cC cL a σ (o) (ho) (hI)) (cwV 1 hts gX3_reasonOfNumber_X3_promisesOf rfl rfl rfl (by decide +kernel) ⟨Nat.le_of_ble_eq_true rfl, Nat.le_of_ble_eq_true rfl⟩) ⟨pcR_blind, va_recv hK hP (ci := 3) (q0 := 0) rfl rfl, pcR_of hP hK⟩ rfl rfl hl.1 rfl (lv_room (Nat.le_of_ble_eq_true rfl)) dX3_reasonOfNumber_13 ⟨(Nat.zero_le _), (Nat.zero_le _)⟩) (fun r1 hr1 => ?_)
    subst hr1
    refine lv_aload_n hx hb dX3_reasonOfNumber_16 rfl (lv_at hl 0 rfl) ?_
    refine va_get (D := D) (ci := 3) (v := .ref (a 1)) (C := RX3) (T := TX3) (N := 15) hx hb hts hin_X3 hown hK hP 0 rfl rfl 3 (by decide) hw_1 (fun _ h9 => h9) rfl dX3_reasonOfNumber_17 ?_
    refine wi_iconst hx hb dX3_reasonOfNumber_20 ?_
    refine wi_iald hx hb hK hP 1 0 (n := 2) (f := σ 1) rfl rfl (i := 0) (by omega) (by decide) dX3_reasonOfNumber_21 ?_
    refine wi_icmp_lt (tgt := 29) hx hb dX3_reasonOfNumber_22 (by decide) (by omega) (fun c_22 => ?_) (fun c_22 => ?_)
    · skip
      refine wi_iconst hx hb dX3_reasonOfNumber_29 ?_
      exact W.iret (v := iI (0)) hx hb hr (fun t9 ht9 hW9 => ⟨(0), rfl, (by unfold reasonN; first | (rw [if_pos (by omega)] <;> omega) | (rw [if_neg (by omega), if_pos (by omega)] <;> omega) | (rw [if_neg (by omega), if_neg (by omega)] <;> omega)), ht9⟩) (fun _ h => nomatch h) dX3_reasonOfNumber_30 hlocks
    · skip
      refine wi_iconst hx hb dX3_reasonOfNumber_25 ?_
      refine lv_goto (tgt := 30) hx hb dX3_reasonOfNumber_26 (by decide) ?_
      exact W.iret (v := iI (2)) hx hb hr (fun t9 ht9 hW9 => ⟨(2), rfl, (by unfold reasonN; first | (rw [if_pos (by omega)] <;> omega) | (rw [if_neg (by omega), if_pos (by omega)] <;> omega) | (rw [if_neg (by omega), if_neg (by omega)] <;> omega)), ht9⟩) (fun _ h => nomatch h) dX3_reasonOfNumber_30 hlocks
  · skip
    refine wi_iconst hx hb dX3_reasonOfNumber_9 ?_
    exact W.iret (v := iI (1)) hx hb hr (fun t9 ht9 hW9 => ⟨(1), rfl, (by unfold reasonN; first | (rw [if_pos (by omega)] <;> omega) | (rw [if_neg (by omega), if_pos (by omega)] <;> omega) | (rw [if_neg (by omega), if_neg (by omega)] <;> omega)), ht9⟩) (fun _ h => nomatch h) dX3_reasonOfNumber_10 hlocks
set_option maxHeartbeats 4000000 in
set_option maxRecDepth 100000 in
theorem c_X3_reasonAgainst (l : Launch) (D : va_G) (cI cO cC cL : ClassId) (a : Nat → Nat) (σ : Nat → Int → Int) (o c b to : Int) (ho : R32 o) (hc : 0 ≤ c ∧ c < 4) (hb0 : -99 ≤ b ∧ b ≤ 99) (hto : to = -1 ∨ (0 ≤ to ∧ to < 4)) (hI : Inv σ) : Met l yX3_reasonAgainst wsX3_reasonAgainst ({ frames := 3, cells := 0, slots := 0, locals := 70 } : Room) (pcR D [(cI, FieldType.int)] [.ref (a 0), .int (iI (o)), .int (iI (c)), .int (iI (b)), .int (iI (to))] (fl [stW cI a σ])) (wr_Si (fun r => r = reasonS σ o c b to)) 0 0 (fun _ => False) := by
  refine Met.ofW (cc := cX3_reasonAgainst) (maxL := 6) (ret := (some .int)) (by decide) rfl ?_
  intro p9 e9 s m args9 below9 meth9 c9 s₁ B hml hv
  obtain ⟨rfl, hP, hK⟩ := hv
  have hx := B.exec
  have hb := B.bytes
  have hr := B.returns
  have hts := atoms_spec (ws := wsX3_reasonAgainst) B.pre
  have hown : s.vm.findClass RX3 = some m.cls := findClass_of_methodNamed B.named
  have hlocks := B.notSynchronized
  have hl := lv_entry ([.ref (a 0), .int (iI (o)), .int (iI (c)), .int (iI (b)), .int (iI (to))]) (n := 6) (Nat.le_of_ble_eq_true rfl)
  rw [lg_entry_eq]
  generalize (lg_sl ([.ref (a 0), .int (iI (o)), .int (iI (c)), .int (iI (b)), .int (iI (to))]) ++ List.replicate (6 - (lg_sl ([.ref (a 0), .int (iI (o)), .int (iI (c)), .int (iI (b)), .int (iI (to))])).length) Slot.unset).toArray = ls at hl ⊢
  have hl : lv_has ls 6 [(0, .ref (a 0)), (1, .int (iI (o))), (2, .int (iI (c))), (3, .int (iI (b))), (4, .int (iI (to)))] := hl
  have hw_0 := hts (.fieldLink RX3 9 "PromisedCounters$State" "time" "I") (by decide +kernel)
  have hin_X3 : ∀ w ∈ u_ws RX3 TX3 15, w ∈ wsX3_reasonAgainst := by decide +kernel
  have hti := hI.t
  have hcc := hI.c hc.1 hc.2
  have hrn : 0 ≤ reasonN σ o ∧ reasonN σ o ≤ 2 := by unfold reasonN; split <;> (try split) <;> omega
  refine lv_aload_n hx hb dX3_reasonAgainst_0 rfl (lv_at hl 0 rfl) ?_
  refine lv_iload_n hx hb dX3_reasonAgainst_1 rfl (lv_at hl 1 rfl) ?_
  refine wr_calli (va_runV (As := [.int (iI (o))]) (rest := []) ⟨hx, hb, hml, hown, hts⟩ (c_X3_reasonOfNumber l D cI cO cC cL a σ (o) (ho) (hI)) (cwV 1 hts gX3_reasonAgainst_X3_reasonOfNumber rfl rfl rfl (by decide +kernel) ⟨Nat.le_of_ble_eq_true rfl, Nat.le_of_ble_eq_true rfl⟩) ⟨pcR_blind, va_recv hK hP (ci := 3) (q0 := 0) rfl rfl, pcR_of hP hK⟩ rfl rfl hl.1 rfl (lv_room (Nat.le_of_ble_eq_true rfl)) dX3_reasonAgainst_2 ⟨(Nat.zero_le _), (Nat.zero_le _)⟩) (fun r1 hr1 => ?_)
  subst hr1
  refine lv_istore (lv' := [(5, .int (iI ((reasonN σ (o))))), (0, .ref (a 0)), (1, .int (iI (o))), (2, .int (iI (c))), (3, .int (iI (b))), (4, .int (iI (to)))]) hx hb dX3_reasonAgainst_5 hl (by decide) rfl (fun ls hl => ?_)
  refine lv_iload hx hb dX3_reasonAgainst_7 (lv_at hl 0 rfl) ?_
  refine wi_if_eq (tgt := 15) hx hb dX3_reasonAgainst_9 (by decide) (by omega) (fun c_9 => ?_) (fun c_9 => ?_)
  · skip
    refine lv_iload_n hx hb dX3_reasonAgainst_15 rfl (lv_at hl 4 rfl) ?_
    refine wi_if_ge (tgt := 35) hx hb dX3_reasonAgainst_16 (by decide) (by omega) (fun c_16 => ?_) (fun c_16 => ?_)
    · skip
      refine lv_iload_n hx hb dX3_reasonAgainst_35 rfl (lv_at hl 4 rfl) ?_
      refine wi_if_le (tgt := 50) hx hb dX3_reasonAgainst_36 (by decide) (by omega) (fun c_36 => ?_) (fun c_36 => ?_)
      · skip
        refine lv_iload hx hb dX3_reasonAgainst_50 (lv_at hl 5 rfl) ?_
        refine wi_iconst hx hb dX3_reasonAgainst_52 ?_
        refine wi_icmp_eq (tgt := 71) hx hb dX3_reasonAgainst_53 (by decide) (by omega) (fun c_53 => ?_) (fun c_53 => ?_)
        · skip
          refine wi_iconst hx hb dX3_reasonAgainst_71 ?_
          exact W.iret (v := iI (0)) hx hb hr (fun t9 ht9 hW9 => ⟨(0), rfl, (by unfold reasonS; first | (rw [if_pos (by omega)] <;> omega) | (rw [if_neg (by omega), if_pos (by omega)] <;> omega) | (rw [if_neg (by omega), if_neg (by omega), if_pos (by omega)] <;> omega) | (rw [if_neg (by omega), if_neg (by omega), if_neg (by omega), if_pos (by omega)] <;> omega) | (rw [if_neg (by omega), if_neg (by omega), if_neg (by omega), if_neg (by omega)] <;> omega)), ht9⟩) (fun _ h => nomatch h) dX3_reasonAgainst_72 hlocks
        · skip
          have hcc2 := hI.c (c := to) (by omega) (by omega)
          refine lv_iload_n hx hb dX3_reasonAgainst_56 rfl (lv_at hl 4 rfl) ?_
          refine wi_ineg hx hb dX3_reasonAgainst_57 ?_
          refine lv_aload_n hx hb dX3_reasonAgainst_58 rfl (lv_at hl 1 rfl) ?_
          refine lv_iload hx hb dX3_reasonAgainst_59 (lv_at hl 5 rfl) ?_
          refine wr_calli (va_runV (As := [.int (iI (to))]) (rest := [.int (iI ((-b)))]) ⟨hx, hb, hml, hown, hts⟩ (c_X3_roomAbove l D cI cO cC cL a σ (to) (by omega) (hI)) (cwV 1 hts gX3_reasonAgainst_X3_roomAbove rfl rfl rfl (by decide +kernel) ⟨Nat.le_of_ble_eq_true rfl, Nat.le_of_ble_eq_true rfl⟩) ⟨pcR_blind, va_recv hK hP (ci := 3) (q0 := 0) rfl rfl, pcR_of hP hK⟩ rfl rfl hl.1 rfl (lv_room (Nat.le_of_ble_eq_true rfl)) dX3_reasonAgainst_61 ⟨(Nat.zero_le _), (Nat.zero_le _)⟩) (fun r2 hr2 => ?_)
          subst hr2
          refine wi_icmp_le (tgt := 71) hx hb dX3_reasonAgainst_64 (by decide) (by omega) (fun c_64 => ?_) (fun c_64 => ?_)
          · skip
            refine wi_iconst hx hb dX3_reasonAgainst_71 ?_
            exact W.iret (v := iI (0)) hx hb hr (fun t9 ht9 hW9 => ⟨(0), rfl, (by unfold reasonS; first | (rw [if_pos (by omega)] <;> omega) | (rw [if_neg (by omega), if_pos (by omega)] <;> omega) | (rw [if_neg (by omega), if_neg (by omega), if_pos (by omega)] <;> omega) | (rw [if_neg (by omega), if_neg (by omega), if_neg (by omega), if_pos (by omega)] <;> omega) | (rw [if_neg (by omega), if_neg (by omega), if_neg (by omega), if_neg (by omega)] <;> omega)), ht9⟩) (fun _ h => nomatch h) dX3_reasonAgainst_72 hlocks
          · skip
            refine wi_iconst hx hb dX3_reasonAgainst_67 ?_
            refine lv_goto (tgt := 72) hx hb dX3_reasonAgainst_68 (by decide) ?_
            exact W.iret (v := iI (4)) hx hb hr (fun t9 ht9 hW9 => ⟨(4), rfl, (by unfold reasonS; first | (rw [if_pos (by omega)] <;> omega) | (rw [if_neg (by omega), if_pos (by omega)] <;> omega) | (rw [if_neg (by omega), if_neg (by omega), if_pos (by omega)] <;> omega) | (rw [if_neg (by omega), if_neg (by omega), if_neg (by omega), if_pos (by omega)] <;> omega) | (rw [if_neg (by omega), if_neg (by omega), if_neg (by omega), if_neg (by omega)] <;> omega)), ht9⟩) (fun _ h => nomatch h) dX3_reasonAgainst_72 hlocks
      · skip
        refine lv_iload_n hx hb dX3_reasonAgainst_39 rfl (lv_at hl 4 rfl) ?_
        refine lv_aload_n hx hb dX3_reasonAgainst_40 rfl (lv_at hl 1 rfl) ?_
        refine lv_iload_n hx hb dX3_reasonAgainst_41 rfl (lv_at hl 3 rfl) ?_
        refine wr_calli (va_runV (As := [.int (iI (c))]) (rest := [.int (iI (b))]) ⟨hx, hb, hml, hown, hts⟩ (c_X3_roomAbove l D cI cO cC cL a σ (c) (hc) (hI)) (cwV 1 hts gX3_reasonAgainst_X3_roomAbove rfl rfl rfl (by decide +kernel) ⟨Nat.le_of_ble_eq_true rfl, Nat.le_of_ble_eq_true rfl⟩) ⟨pcR_blind, va_recv hK hP (ci := 3) (q0 := 0) rfl rfl, pcR_of hP hK⟩ rfl rfl hl.1 rfl (lv_room (Nat.le_of_ble_eq_true rfl)) dX3_reasonAgainst_42 ⟨(Nat.zero_le _), (Nat.zero_le _)⟩) (fun r3 hr3 => ?_)
        subst hr3
        refine wi_icmp_le (tgt := 50) hx hb dX3_reasonAgainst_45 (by decide) (by omega) (fun c_45 => ?_) (fun c_45 => ?_)
        · skip
          refine lv_iload hx hb dX3_reasonAgainst_50 (lv_at hl 5 rfl) ?_
          refine wi_iconst hx hb dX3_reasonAgainst_52 ?_
          refine wi_icmp_eq (tgt := 71) hx hb dX3_reasonAgainst_53 (by decide) (by omega) (fun c_53 => ?_) (fun c_53 => ?_)
          · skip
            refine wi_iconst hx hb dX3_reasonAgainst_71 ?_
            exact W.iret (v := iI (0)) hx hb hr (fun t9 ht9 hW9 => ⟨(0), rfl, (by unfold reasonS; first | (rw [if_pos (by omega)] <;> omega) | (rw [if_neg (by omega), if_pos (by omega)] <;> omega) | (rw [if_neg (by omega), if_neg (by omega), if_pos (by omega)] <;> omega) | (rw [if_neg (by omega), if_neg (by omega), if_neg (by omega), if_pos (by omega)] <;> omega) | (rw [if_neg (by omega), if_neg (by omega), if_neg (by omega), if_neg (by omega)] <;> omega)), ht9⟩) (fun _ h => nomatch h) dX3_reasonAgainst_72 hlocks
          · skip
            have hcc2 := hI.c (c := to) (by omega) (by omega)
            refine lv_iload_n hx hb dX3_reasonAgainst_56 rfl (lv_at hl 4 rfl) ?_
            refine wi_ineg hx hb dX3_reasonAgainst_57 ?_
            refine lv_aload_n hx hb dX3_reasonAgainst_58 rfl (lv_at hl 1 rfl) ?_
            refine lv_iload hx hb dX3_reasonAgainst_59 (lv_at hl 5 rfl) ?_
            refine wr_calli (va_runV (As := [.int (iI (to))]) (rest := [.int (iI ((-b)))]) ⟨hx, hb, hml, hown, hts⟩ (c_X3_roomAbove l D cI cO cC cL a σ (to) (by omega) (hI)) (cwV 1 hts gX3_reasonAgainst_X3_roomAbove rfl rfl rfl (by decide +kernel) ⟨Nat.le_of_ble_eq_true rfl, Nat.le_of_ble_eq_true rfl⟩) ⟨pcR_blind, va_recv hK hP (ci := 3) (q0 := 0) rfl rfl, pcR_of hP hK⟩ rfl rfl hl.1 rfl (lv_room (Nat.le_of_ble_eq_true rfl)) dX3_reasonAgainst_61 ⟨(Nat.zero_le _), (Nat.zero_le _)⟩) (fun r4 hr4 => ?_)
            subst hr4
            refine wi_icmp_le (tgt := 71) hx hb dX3_reasonAgainst_64 (by decide) (by omega) (fun c_64 => ?_) (fun c_64 => ?_)
            · skip
              refine wi_iconst hx hb dX3_reasonAgainst_71 ?_
              exact W.iret (v := iI (0)) hx hb hr (fun t9 ht9 hW9 => ⟨(0), rfl, (by unfold reasonS; first | (rw [if_pos (by omega)] <;> omega) | (rw [if_neg (by omega), if_pos (by omega)] <;> omega) | (rw [if_neg (by omega), if_neg (by omega), if_pos (by omega)] <;> omega) | (rw [if_neg (by omega), if_neg (by omega), if_neg (by omega), if_pos (by omega)] <;> omega) | (rw [if_neg (by omega), if_neg (by omega), if_neg (by omega), if_neg (by omega)] <;> omega)), ht9⟩) (fun _ h => nomatch h) dX3_reasonAgainst_72 hlocks
            · skip
              refine wi_iconst hx hb dX3_reasonAgainst_67 ?_
              refine lv_goto (tgt := 72) hx hb dX3_reasonAgainst_68 (by decide) ?_
              exact W.iret (v := iI (4)) hx hb hr (fun t9 ht9 hW9 => ⟨(4), rfl, (by unfold reasonS; first | (rw [if_pos (by omega)] <;> omega) | (rw [if_neg (by omega), if_pos (by omega)] <;> omega) | (rw [if_neg (by omega), if_neg (by omega), if_pos (by omega)] <;> omega) | (rw [if_neg (by omega), if_neg (by omega), if_neg (by omega), if_pos (by omega)] <;> omega) | (rw [if_neg (by omega), if_neg (by omega), if_neg (by omega), if_neg (by omega)] <;> omega)), ht9⟩) (fun _ h => nomatch h) dX3_reasonAgainst_72 hlocks
        · skip
          refine wi_iconst hx hb dX3_reasonAgainst_48 ?_
          exact W.iret (v := iI (4)) hx hb hr (fun t9 ht9 hW9 => ⟨(4), rfl, (by unfold reasonS; first | (rw [if_pos (by omega)] <;> omega) | (rw [if_neg (by omega), if_pos (by omega)] <;> omega) | (rw [if_neg (by omega), if_neg (by omega), if_pos (by omega)] <;> omega) | (rw [if_neg (by omega), if_neg (by omega), if_neg (by omega), if_pos (by omega)] <;> omega) | (rw [if_neg (by omega), if_neg (by omega), if_neg (by omega), if_neg (by omega)] <;> omega)), ht9⟩) (fun _ h => nomatch h) dX3_reasonAgainst_49 hlocks
    · skip
      refine lv_iload_n hx hb dX3_reasonAgainst_19 rfl (lv_at hl 4 rfl) ?_
      refine wi_ineg hx hb dX3_reasonAgainst_20 ?_
      refine lv_aload_n hx hb dX3_reasonAgainst_21 rfl (lv_at hl 1 rfl) ?_
      refine lv_iload_n hx hb dX3_reasonAgainst_22 rfl (lv_at hl 3 rfl) ?_
      refine lv_aload_n hx hb dX3_reasonAgainst_23 rfl (lv_at hl 1 rfl) ?_
      refine va_get (D := D) (ci := 3) (v := .int (iI ((σ 0 0)))) (C := RX3) (T := TX3) (N := 15) hx hb hts hin_X3 hown hK hP 0 rfl rfl 0 (by decide) hw_0 (fun _ h9 => h9) rfl dX3_reasonAgainst_24 ?_
      refine wr_calli (va_runV (As := [.int (iI (c)), .int (iI ((σ 0 0)))]) (rest := [.int (iI ((-b)))]) ⟨hx, hb, hml, hown, hts⟩ (c_X3_roomBelow l D cI cO cC cL a σ (c) ((σ 0 0)) (hc) (by omega) (hI)) (cwV 2 hts gX3_reasonAgainst_X3_roomBelow rfl rfl rfl (by decide +kernel) ⟨Nat.le_of_ble_eq_true rfl, Nat.le_of_ble_eq_true rfl⟩) ⟨pcR_blind, va_recv hK hP (ci := 3) (q0 := 0) rfl rfl, pcR_of hP hK⟩ rfl rfl hl.1 rfl (lv_room (Nat.le_of_ble_eq_true rfl)) dX3_reasonAgainst_27 ⟨(Nat.zero_le _), (Nat.zero_le _)⟩) (fun r5 hr5 => ?_)
      subst hr5
      refine wi_icmp_le (tgt := 35) hx hb dX3_reasonAgainst_30 (by decide) (by omega) (fun c_30 => ?_) (fun c_30 => ?_)
      · skip
        refine lv_iload_n hx hb dX3_reasonAgainst_35 rfl (lv_at hl 4 rfl) ?_
        refine wi_if_le (tgt := 50) hx hb dX3_reasonAgainst_36 (by decide) (by omega) (fun c_36 => ?_) (fun c_36 => ?_)
        · skip
          refine lv_iload hx hb dX3_reasonAgainst_50 (lv_at hl 5 rfl) ?_
          refine wi_iconst hx hb dX3_reasonAgainst_52 ?_
          refine wi_icmp_eq (tgt := 71) hx hb dX3_reasonAgainst_53 (by decide) (by omega) (fun c_53 => ?_) (fun c_53 => ?_)
          · skip
            refine wi_iconst hx hb dX3_reasonAgainst_71 ?_
            exact W.iret (v := iI (0)) hx hb hr (fun t9 ht9 hW9 => ⟨(0), rfl, (by unfold reasonS; first | (rw [if_pos (by omega)] <;> omega) | (rw [if_neg (by omega), if_pos (by omega)] <;> omega) | (rw [if_neg (by omega), if_neg (by omega), if_pos (by omega)] <;> omega) | (rw [if_neg (by omega), if_neg (by omega), if_neg (by omega), if_pos (by omega)] <;> omega) | (rw [if_neg (by omega), if_neg (by omega), if_neg (by omega), if_neg (by omega)] <;> omega)), ht9⟩) (fun _ h => nomatch h) dX3_reasonAgainst_72 hlocks
          · skip
            have hcc2 := hI.c (c := to) (by omega) (by omega)
            refine lv_iload_n hx hb dX3_reasonAgainst_56 rfl (lv_at hl 4 rfl) ?_
            refine wi_ineg hx hb dX3_reasonAgainst_57 ?_
            refine lv_aload_n hx hb dX3_reasonAgainst_58 rfl (lv_at hl 1 rfl) ?_
            refine lv_iload hx hb dX3_reasonAgainst_59 (lv_at hl 5 rfl) ?_
            refine wr_calli (va_runV (As := [.int (iI (to))]) (rest := [.int (iI ((-b)))]) ⟨hx, hb, hml, hown, hts⟩ (c_X3_roomAbove l D cI cO cC cL a σ (to) (by omega) (hI)) (cwV 1 hts gX3_reasonAgainst_X3_roomAbove rfl rfl rfl (by decide +kernel) ⟨Nat.le_of_ble_eq_true rfl, Nat.le_of_ble_eq_true rfl⟩) ⟨pcR_blind, va_recv hK hP (ci := 3) (q0 := 0) rfl rfl, pcR_of hP hK⟩ rfl rfl hl.1 rfl (lv_room (Nat.le_of_ble_eq_true rfl)) dX3_reasonAgainst_61 ⟨(Nat.zero_le _), (Nat.zero_le _)⟩) (fun r6 hr6 => ?_)
            subst hr6
            refine wi_icmp_le (tgt := 71) hx hb dX3_reasonAgainst_64 (by decide) (by omega) (fun c_64 => ?_) (fun c_64 => ?_)
            · skip
              refine wi_iconst hx hb dX3_reasonAgainst_71 ?_
              exact W.iret (v := iI (0)) hx hb hr (fun t9 ht9 hW9 => ⟨(0), rfl, (by unfold reasonS; first | (rw [if_pos (by omega)] <;> omega) | (rw [if_neg (by omega), if_pos (by omega)] <;> omega) | (rw [if_neg (by omega), if_neg (by omega), if_pos (by omega)] <;> omega) | (rw [if_neg (by omega), if_neg (by omega), if_neg (by omega), if_pos (by omega)] <;> omega) | (rw [if_neg (by omega), if_neg (by omega), if_neg (by omega), if_neg (by omega)] <;> omega)), ht9⟩) (fun _ h => nomatch h) dX3_reasonAgainst_72 hlocks
            · skip
              refine wi_iconst hx hb dX3_reasonAgainst_67 ?_
              refine lv_goto (tgt := 72) hx hb dX3_reasonAgainst_68 (by decide) ?_
              exact W.iret (v := iI (4)) hx hb hr (fun t9 ht9 hW9 => ⟨(4), rfl, (by unfold reasonS; first | (rw [if_pos (by omega)] <;> omega) | (rw [if_neg (by omega), if_pos (by omega)] <;> omega) | (rw [if_neg (by omega), if_neg (by omega), if_pos (by omega)] <;> omega) | (rw [if_neg (by omega), if_neg (by omega), if_neg (by omega), if_pos (by omega)] <;> omega) | (rw [if_neg (by omega), if_neg (by omega), if_neg (by omega), if_neg (by omega)] <;> omega)), ht9⟩) (fun _ h => nomatch h) dX3_reasonAgainst_72 hlocks
        · skip
          refine lv_iload_n hx hb dX3_reasonAgainst_39 rfl (lv_at hl 4 rfl) ?_
          refine lv_aload_n hx hb dX3_reasonAgainst_40 rfl (lv_at hl 1 rfl) ?_
          refine lv_iload_n hx hb dX3_reasonAgainst_41 rfl (lv_at hl 3 rfl) ?_
          refine wr_calli (va_runV (As := [.int (iI (c))]) (rest := [.int (iI (b))]) ⟨hx, hb, hml, hown, hts⟩ (c_X3_roomAbove l D cI cO cC cL a σ (c) (hc) (hI)) (cwV 1 hts gX3_reasonAgainst_X3_roomAbove rfl rfl rfl (by decide +kernel) ⟨Nat.le_of_ble_eq_true rfl, Nat.le_of_ble_eq_true rfl⟩) ⟨pcR_blind, va_recv hK hP (ci := 3) (q0 := 0) rfl rfl, pcR_of hP hK⟩ rfl rfl hl.1 rfl (lv_room (Nat.le_of_ble_eq_true rfl)) dX3_reasonAgainst_42 ⟨(Nat.zero_le _), (Nat.zero_le _)⟩) (fun r7 hr7 => ?_)
          subst hr7
          refine wi_icmp_le (tgt := 50) hx hb dX3_reasonAgainst_45 (by decide) (by omega) (fun c_45 => ?_) (fun c_45 => ?_)
          · skip
            refine lv_iload hx hb dX3_reasonAgainst_50 (lv_at hl 5 rfl) ?_
            refine wi_iconst hx hb dX3_reasonAgainst_52 ?_
            refine wi_icmp_eq (tgt := 71) hx hb dX3_reasonAgainst_53 (by decide) (by omega) (fun c_53 => ?_) (fun c_53 => ?_)
            · skip
              refine wi_iconst hx hb dX3_reasonAgainst_71 ?_
              exact W.iret (v := iI (0)) hx hb hr (fun t9 ht9 hW9 => ⟨(0), rfl, (by unfold reasonS; first | (rw [if_pos (by omega)] <;> omega) | (rw [if_neg (by omega), if_pos (by omega)] <;> omega) | (rw [if_neg (by omega), if_neg (by omega), if_pos (by omega)] <;> omega) | (rw [if_neg (by omega), if_neg (by omega), if_neg (by omega), if_pos (by omega)] <;> omega) | (rw [if_neg (by omega), if_neg (by omega), if_neg (by omega), if_neg (by omega)] <;> omega)), ht9⟩) (fun _ h => nomatch h) dX3_reasonAgainst_72 hlocks
            · skip
              have hcc2 := hI.c (c := to) (by omega) (by omega)
              refine lv_iload_n hx hb dX3_reasonAgainst_56 rfl (lv_at hl 4 rfl) ?_
              refine wi_ineg hx hb dX3_reasonAgainst_57 ?_
              refine lv_aload_n hx hb dX3_reasonAgainst_58 rfl (lv_at hl 1 rfl) ?_
              refine lv_iload hx hb dX3_reasonAgainst_59 (lv_at hl 5 rfl) ?_
              refine wr_calli (va_runV (As := [.int (iI (to))]) (rest := [.int (iI ((-b)))]) ⟨hx, hb, hml, hown, hts⟩ (c_X3_roomAbove l D cI cO cC cL a σ (to) (by omega) (hI)) (cwV 1 hts gX3_reasonAgainst_X3_roomAbove rfl rfl rfl (by decide +kernel) ⟨Nat.le_of_ble_eq_true rfl, Nat.le_of_ble_eq_true rfl⟩) ⟨pcR_blind, va_recv hK hP (ci := 3) (q0 := 0) rfl rfl, pcR_of hP hK⟩ rfl rfl hl.1 rfl (lv_room (Nat.le_of_ble_eq_true rfl)) dX3_reasonAgainst_61 ⟨(Nat.zero_le _), (Nat.zero_le _)⟩) (fun r8 hr8 => ?_)
              subst hr8
              refine wi_icmp_le (tgt := 71) hx hb dX3_reasonAgainst_64 (by decide) (by omega) (fun c_64 => ?_) (fun c_64 => ?_)
              · skip
                refine wi_iconst hx hb dX3_reasonAgainst_71 ?_
                exact W.iret (v := iI (0)) hx hb hr (fun t9 ht9 hW9 => ⟨(0), rfl, (by unfold reasonS; first | (rw [if_pos (by omega)] <;> omega) | (rw [if_neg (by omega), if_pos (by omega)] <;> omega) | (rw [if_neg (by omega), if_neg (by omega), if_pos (by omega)] <;> omega) | (rw [if_neg (by omega), if_neg (by omega), if_neg (by omega), if_pos (by omega)] <;> omega) | (rw [if_neg (by omega), if_neg (by omega), if_neg (by omega), if_neg (by omega)] <;> omega)), ht9⟩) (fun _ h => nomatch h) dX3_reasonAgainst_72 hlocks
              · skip
                refine wi_iconst hx hb dX3_reasonAgainst_67 ?_
                refine lv_goto (tgt := 72) hx hb dX3_reasonAgainst_68 (by decide) ?_
                exact W.iret (v := iI (4)) hx hb hr (fun t9 ht9 hW9 => ⟨(4), rfl, (by unfold reasonS; first | (rw [if_pos (by omega)] <;> omega) | (rw [if_neg (by omega), if_pos (by omega)] <;> omega) | (rw [if_neg (by omega), if_neg (by omega), if_pos (by omega)] <;> omega) | (rw [if_neg (by omega), if_neg (by omega), if_neg (by omega), if_pos (by omega)] <;> omega) | (rw [if_neg (by omega), if_neg (by omega), if_neg (by omega), if_neg (by omega)] <;> omega)), ht9⟩) (fun _ h => nomatch h) dX3_reasonAgainst_72 hlocks
          · skip
            refine wi_iconst hx hb dX3_reasonAgainst_48 ?_
            exact W.iret (v := iI (4)) hx hb hr (fun t9 ht9 hW9 => ⟨(4), rfl, (by unfold reasonS; first | (rw [if_pos (by omega)] <;> omega) | (rw [if_neg (by omega), if_pos (by omega)] <;> omega) | (rw [if_neg (by omega), if_neg (by omega), if_pos (by omega)] <;> omega) | (rw [if_neg (by omega), if_neg (by omega), if_neg (by omega), if_pos (by omega)] <;> omega) | (rw [if_neg (by omega), if_neg (by omega), if_neg (by omega), if_neg (by omega)] <;> omega)), ht9⟩) (fun _ h => nomatch h) dX3_reasonAgainst_49 hlocks
      · skip
        refine wi_iconst hx hb dX3_reasonAgainst_33 ?_
        exact W.iret (v := iI (3)) hx hb hr (fun t9 ht9 hW9 => ⟨(3), rfl, (by unfold reasonS; first | (rw [if_pos (by omega)] <;> omega) | (rw [if_neg (by omega), if_pos (by omega)] <;> omega) | (rw [if_neg (by omega), if_neg (by omega), if_pos (by omega)] <;> omega) | (rw [if_neg (by omega), if_neg (by omega), if_neg (by omega), if_pos (by omega)] <;> omega) | (rw [if_neg (by omega), if_neg (by omega), if_neg (by omega), if_neg (by omega)] <;> omega)), ht9⟩) (fun _ h => nomatch h) dX3_reasonAgainst_34 hlocks
  · skip
    refine lv_iload hx hb dX3_reasonAgainst_12 (lv_at hl 0 rfl) ?_
    exact W.iret (v := iI ((reasonN σ (o)))) hx hb hr (fun t9 ht9 hW9 => ⟨((reasonN σ (o))), rfl, (by unfold reasonS; first | (rw [if_pos (by omega)] <;> omega) | (rw [if_neg (by omega), if_pos (by omega)] <;> omega) | (rw [if_neg (by omega), if_neg (by omega), if_pos (by omega)] <;> omega) | (rw [if_neg (by omega), if_neg (by omega), if_neg (by omega), if_pos (by omega)] <;> omega) | (rw [if_neg (by omega), if_neg (by omega), if_neg (by omega), if_neg (by omega)] <;> omega)), ht9⟩) (fun _ h => nomatch h) dX3_reasonAgainst_14 hlocks
