set_option maxHeartbeats 4000000 in
set_option maxRecDepth 100000 in
theorem c_X5_in (l : Launch) (D : va_G) (cI cO cC cL : ClassId) (v lo hi : Int) (hv0 : R32 v) (hlo : R32 lo) (hhi : R32 hi) : Met l yX5_in wsX5_in ({ frames := 0, cells := 0, slots := 0, locals := 0 } : Room) (va_Pc [.int (iI (v)), .int (iI (lo)), .int (iI (hi))] (fun _ => True)) (wr_Si (fun r => r = (if lo ≤ v ∧ v ≤ hi then 1 else 0))) 0 0 (fun _ => False) := by
  refine Met.ofW (cc := cX5_in) (maxL := 3) (ret := (some .boolean)) (by decide) rfl ?_
  intro p9 e9 s m args9 below9 meth9 c9 s₁ B hml hv
  obtain ⟨rfl, -⟩ := hv
  have hx := B.exec
  have hb := B.bytes
  have hr := B.returns
  have hts := atoms_spec (ws := wsX5_in) B.pre
  have hown : s.vm.findClass RX5 = some m.cls := findClass_of_methodNamed B.named
  have hlocks := B.notSynchronized
  have hl := lv_entry ([.int (iI (v)), .int (iI (lo)), .int (iI (hi))]) (n := 3) (Nat.le_of_ble_eq_true rfl)
  rw [lg_entry_eq]
  generalize (lg_sl ([.int (iI (v)), .int (iI (lo)), .int (iI (hi))]) ++ List.replicate (3 - (lg_sl ([.int (iI (v)), .int (iI (lo)), .int (iI (hi))])).length) Slot.unset).toArray = ls at hl ⊢
  have hl : lv_has ls 3 [(0, .int (iI (v))), (1, .int (iI (lo))), (2, .int (iI (hi)))] := hl
  refine lv_iload_n hx hb dX5_in_0 rfl (lv_at hl 0 rfl) ?_
  refine lv_iload_n hx hb dX5_in_1 rfl (lv_at hl 1 rfl) ?_
  refine wi_icmp_lt (tgt := 14) hx hb dX5_in_2 (by decide) (by omega) (fun c_2 => ?_) (fun c_2 => ?_)
  · skip
    refine wi_iconst hx hb dX5_in_14 ?_
    exact W.zret (v := iI (0)) hx hb hr (nar_z (by omega)) (fun t9 ht9 hW9 => ⟨(0), rfl, (by omega), ht9⟩) (fun _ h => nomatch h) dX5_in_15 hlocks
  · skip
    refine lv_iload_n hx hb dX5_in_5 rfl (lv_at hl 0 rfl) ?_
    refine lv_iload_n hx hb dX5_in_6 rfl (lv_at hl 2 rfl) ?_
    refine wi_icmp_gt (tgt := 14) hx hb dX5_in_7 (by decide) (by omega) (fun c_7 => ?_) (fun c_7 => ?_)
    · skip
      refine wi_iconst hx hb dX5_in_14 ?_
      exact W.zret (v := iI (0)) hx hb hr (nar_z (by omega)) (fun t9 ht9 hW9 => ⟨(0), rfl, (by omega), ht9⟩) (fun _ h => nomatch h) dX5_in_15 hlocks
    · skip
      refine wi_iconst hx hb dX5_in_10 ?_
      refine lv_goto (tgt := 15) hx hb dX5_in_11 (by decide) ?_
      exact W.zret (v := iI (1)) hx hb hr (nar_z (by omega)) (fun t9 ht9 hW9 => ⟨(1), rfl, (by omega), ht9⟩) (fun _ h => nomatch h) dX5_in_15 hlocks
set_option maxHeartbeats 4000000 in
set_option maxRecDepth 100000 in
theorem c_X5_isCounter (l : Launch) (D : va_G) (cI cO cC cL : ClassId) (v : Int) (hv0 : R32 v) : Met l yX5_isCounter wsX5_isCounter ({ frames := 1, cells := 0, slots := 0, locals := 22 } : Room) (va_Pc [.int (iI (v))] (fun _ => True)) (wr_Si (fun r => r = (if 0 ≤ v ∧ v ≤ 3 then 1 else 0))) 0 0 (fun _ => False) := by
  refine Met.ofW (cc := cX5_isCounter) (maxL := 1) (ret := (some .boolean)) (by decide) rfl ?_
  intro p9 e9 s m args9 below9 meth9 c9 s₁ B hml hv
  obtain ⟨rfl, -⟩ := hv
  have hx := B.exec
  have hb := B.bytes
  have hr := B.returns
  have hts := atoms_spec (ws := wsX5_isCounter) B.pre
  have hown : s.vm.findClass RX5 = some m.cls := findClass_of_methodNamed B.named
  have hlocks := B.notSynchronized
  have hl := lv_entry ([.int (iI (v))]) (n := 1) (Nat.le_of_ble_eq_true rfl)
  rw [lg_entry_eq]
  generalize (lg_sl ([.int (iI (v))]) ++ List.replicate (1 - (lg_sl ([.int (iI (v))])).length) Slot.unset).toArray = ls at hl ⊢
  have hl : lv_has ls 1 [(0, .int (iI (v)))] := hl
  refine lv_iload_n hx hb dX5_isCounter_0 rfl (lv_at hl 0 rfl) ?_
  refine wi_iconst hx hb dX5_isCounter_1 ?_
  refine wi_iconst hx hb dX5_isCounter_2 ?_
  refine wr_calli (va_runS (As := [.int (iI (v)), .int (iI (0)), .int (iI (3))]) (rest := []) ⟨hx, hb, hml, hown, hts⟩ (c_X5_in l D cI cO cC cL (v) (0) (3) (by omega) (by omega) (by omega)) (cwS 3 hts gX5_isCounter_X5_in rfl rfl rfl (by decide +kernel) ⟨Nat.le_of_ble_eq_true rfl, Nat.le_of_ble_eq_true rfl⟩) ⟨fun _ _ _ _ h => h, fun U hU hW => ⟨rfl, trivial⟩⟩ rfl rfl hl.1 rfl (lv_room (Nat.le_of_ble_eq_true rfl)) dX5_isCounter_3 ⟨(Nat.zero_le _), (Nat.zero_le _)⟩) (fun r1 hr1 => ?_)
  subst hr1
  exact W.zret (v := iI ((if (0) ≤ (v) ∧ (v) ≤ (3) then (1 : Int) else 0))) hx hb hr (nar_z (by omega)) (fun t9 ht9 hW9 => ⟨((if (0) ≤ (v) ∧ (v) ≤ (3) then (1 : Int) else 0)), rfl, (rfl), ht9⟩) (fun _ h => nomatch h) dX5_isCounter_6 hlocks
set_option maxHeartbeats 4000000 in
set_option maxRecDepth 100000 in
theorem c_X5_isOwner (l : Launch) (D : va_G) (cI cO cC cL : ClassId) (v : Int) (hv0 : R32 v) : Met l yX5_isOwner wsX5_isOwner ({ frames := 1, cells := 0, slots := 0, locals := 22 } : Room) (va_Pc [.int (iI (v))] (fun _ => True)) (wr_Si (fun r => r = (if 0 ≤ v ∧ v ≤ 5 then 1 else 0))) 0 0 (fun _ => False) := by
  refine Met.ofW (cc := cX5_isOwner) (maxL := 1) (ret := (some .boolean)) (by decide) rfl ?_
  intro p9 e9 s m args9 below9 meth9 c9 s₁ B hml hv
  obtain ⟨rfl, -⟩ := hv
  have hx := B.exec
  have hb := B.bytes
  have hr := B.returns
  have hts := atoms_spec (ws := wsX5_isOwner) B.pre
  have hown : s.vm.findClass RX5 = some m.cls := findClass_of_methodNamed B.named
  have hlocks := B.notSynchronized
  have hl := lv_entry ([.int (iI (v))]) (n := 1) (Nat.le_of_ble_eq_true rfl)
  rw [lg_entry_eq]
  generalize (lg_sl ([.int (iI (v))]) ++ List.replicate (1 - (lg_sl ([.int (iI (v))])).length) Slot.unset).toArray = ls at hl ⊢
  have hl : lv_has ls 1 [(0, .int (iI (v)))] := hl
  refine lv_iload_n hx hb dX5_isOwner_0 rfl (lv_at hl 0 rfl) ?_
  refine wi_iconst hx hb dX5_isOwner_1 ?_
  refine wi_iconst hx hb dX5_isOwner_2 ?_
  refine wr_calli (va_runS (As := [.int (iI (v)), .int (iI (0)), .int (iI (5))]) (rest := []) ⟨hx, hb, hml, hown, hts⟩ (c_X5_in l D cI cO cC cL (v) (0) (5) (by omega) (by omega) (by omega)) (cwS 3 hts gX5_isOwner_X5_in rfl rfl rfl (by decide +kernel) ⟨Nat.le_of_ble_eq_true rfl, Nat.le_of_ble_eq_true rfl⟩) ⟨fun _ _ _ _ h => h, fun U hU hW => ⟨rfl, trivial⟩⟩ rfl rfl hl.1 rfl (lv_room (Nat.le_of_ble_eq_true rfl)) dX5_isOwner_3 ⟨(Nat.zero_le _), (Nat.zero_le _)⟩) (fun r1 hr1 => ?_)
  subst hr1
  exact W.zret (v := iI ((if (0) ≤ (v) ∧ (v) ≤ (5) then (1 : Int) else 0))) hx hb hr (nar_z (by omega)) (fun t9 ht9 hW9 => ⟨((if (0) ≤ (v) ∧ (v) ≤ (5) then (1 : Int) else 0)), rfl, (rfl), ht9⟩) (fun _ h => nomatch h) dX5_isOwner_6 hlocks
set_option maxHeartbeats 4000000 in
set_option maxRecDepth 100000 in
theorem c_X5_isChange (l : Launch) (D : va_G) (cI cO cC cL : ClassId) (v : Int) (hv0 : R32 v) : Met l yX5_isChange wsX5_isChange ({ frames := 1, cells := 0, slots := 0, locals := 22 } : Room) (va_Pc [.int (iI (v))] (fun _ => True)) (wr_Si (fun r => r = (if v ≠ 0 ∧ -99 ≤ v ∧ v ≤ 99 then 1 else 0))) 0 0 (fun _ => False) := by
  refine Met.ofW (cc := cX5_isChange) (maxL := 1) (ret := (some .boolean)) (by decide) rfl ?_
  intro p9 e9 s m args9 below9 meth9 c9 s₁ B hml hv
  obtain ⟨rfl, -⟩ := hv
  have hx := B.exec
  have hb := B.bytes
  have hr := B.returns
  have hts := atoms_spec (ws := wsX5_isChange) B.pre
  have hown : s.vm.findClass RX5 = some m.cls := findClass_of_methodNamed B.named
  have hlocks := B.notSynchronized
  have hl := lv_entry ([.int (iI (v))]) (n := 1) (Nat.le_of_ble_eq_true rfl)
  rw [lg_entry_eq]
  generalize (lg_sl ([.int (iI (v))]) ++ List.replicate (1 - (lg_sl ([.int (iI (v))])).length) Slot.unset).toArray = ls at hl ⊢
  have hl : lv_has ls 1 [(0, .int (iI (v)))] := hl
  refine lv_iload_n hx hb dX5_isChange_0 rfl (lv_at hl 0 rfl) ?_
  refine wi_if_eq (tgt := 19) hx hb dX5_isChange_1 (by decide) (by omega) (fun c_1 => ?_) (fun c_1 => ?_)
  · skip
    refine wi_iconst hx hb dX5_isChange_19 ?_
    exact W.zret (v := iI (0)) hx hb hr (nar_z (by omega)) (fun t9 ht9 hW9 => ⟨(0), rfl, (by omega), ht9⟩) (fun _ h => nomatch h) dX5_isChange_20 hlocks
  · skip
    refine lv_iload_n hx hb dX5_isChange_4 rfl (lv_at hl 0 rfl) ?_
    refine wi_bipush hx hb dX5_isChange_5 (by decide) ?_
    refine wi_bipush hx hb dX5_isChange_7 (by decide) ?_
    refine wr_calli (va_runS (As := [.int (iI (v)), .int (iI (-99)), .int (iI (99))]) (rest := []) ⟨hx, hb, hml, hown, hts⟩ (c_X5_in l D cI cO cC cL (v) (-99) (99) (by omega) (by omega) (by omega)) (cwS 3 hts gX5_isChange_X5_in rfl rfl rfl (by decide +kernel) ⟨Nat.le_of_ble_eq_true rfl, Nat.le_of_ble_eq_true rfl⟩) ⟨fun _ _ _ _ h => h, fun U hU hW => ⟨rfl, trivial⟩⟩ rfl rfl hl.1 rfl (lv_room (Nat.le_of_ble_eq_true rfl)) dX5_isChange_9 ⟨(Nat.zero_le _), (Nat.zero_le _)⟩) (fun r1 hr1 => ?_)
    subst hr1
    refine wi_if_eq (tgt := 19) hx hb dX5_isChange_12 (by decide) (by omega) (fun c_12 => ?_) (fun c_12 => ?_)
    · skip
      refine wi_iconst hx hb dX5_isChange_19 ?_
      exact W.zret (v := iI (0)) hx hb hr (nar_z (by omega)) (fun t9 ht9 hW9 => ⟨(0), rfl, (by omega), ht9⟩) (fun _ h => nomatch h) dX5_isChange_20 hlocks
    · skip
      refine wi_iconst hx hb dX5_isChange_15 ?_
      refine lv_goto (tgt := 20) hx hb dX5_isChange_16 (by decide) ?_
      exact W.zret (v := iI (1)) hx hb hr (nar_z (by omega)) (fun t9 ht9 hW9 => ⟨(1), rfl, (by omega), ht9⟩) (fun _ h => nomatch h) dX5_isChange_20 hlocks
set_option maxHeartbeats 4000000 in
set_option maxRecDepth 100000 in
theorem c_X5_isPromise (l : Launch) (D : va_G) (cI cO cC cL : ClassId) (b : Nat → Nat) (μ σ : Nat → Int → Int) (p : Int) (hp0 : R32 p) (hR : RelN σ (μ 1)) (hI : Inv σ) : Met l yX5_isPromise wsX5_isPromise ({ frames := 1, cells := 0, slots := 0, locals := 22 } : Room) (pcR D [(cI, FieldType.int)] [.ref (b 0), .int (iI (p))] (fl [mdW cI b μ])) (wr_Si (fun r => r = (if 0 ≤ p ∧ p < σ 0 1 then 1 else 0))) 0 0 (fun _ => False) := by
  refine Met.ofW (cc := cX5_isPromise) (maxL := 2) (ret := (some .boolean)) (by decide) rfl ?_
  intro p9 e9 s m args9 below9 meth9 c9 s₁ B hml hv
  obtain ⟨rfl, hP, hK⟩ := hv
  have hx := B.exec
  have hb := B.bytes
  have hr := B.returns
  have hts := atoms_spec (ws := wsX5_isPromise) B.pre
  have hown : s.vm.findClass RX5 = some m.cls := findClass_of_methodNamed B.named
  have hlocks := B.notSynchronized
  have hl := lv_entry ([.ref (b 0), .int (iI (p))]) (n := 2) (Nat.le_of_ble_eq_true rfl)
  rw [lg_entry_eq]
  generalize (lg_sl ([.ref (b 0), .int (iI (p))]) ++ List.replicate (2 - (lg_sl ([.ref (b 0), .int (iI (p))])).length) Slot.unset).toArray = ls at hl ⊢
  have hl : lv_has ls 2 [(0, .ref (b 0)), (1, .int (iI (p)))] := hl
  have hw_0 := hts (.fieldLink RX5 7 "PromisedCountersModel" "now" "[I") (by decide +kernel)
  have hin_X5 : ∀ w ∈ u_ws RX5 TX5 12, w ∈ wsX5_isPromise := by decide +kernel
  have hn := hI.n
  have hti := hI.t
  obtain ⟨hm0, hm1, hm2, hm3, hm4⟩ := hR.1
  refine lv_iload_n hx hb dX5_isPromise_0 rfl (lv_at hl 1 rfl) ?_
  refine wi_iconst hx hb dX5_isPromise_1 ?_
  refine lv_aload_n hx hb dX5_isPromise_2 rfl (lv_at hl 0 rfl) ?_
  refine va_get (D := D) (ci := 5) (v := .ref (b 1)) (C := RX5) (T := TX5) (N := 12) hx hb hts hin_X5 hown hK hP 0 rfl rfl 0 (by decide) hw_0 (fun _ h9 => h9) rfl dX5_isPromise_3 ?_
  refine wi_iconst hx hb dX5_isPromise_6 ?_
  refine wi_iald hx hb hK hP 1 0 (n := 115) (f := μ 1) rfl rfl (i := 3) (by omega) (by decide) dX5_isPromise_7 ?_
  refine wi_iconst hx hb dX5_isPromise_8 ?_
  refine wi_isub hx hb dX5_isPromise_9 ?_
  refine wr_calli (va_runS (As := [.int (iI (p)), .int (iI (0)), .int (iI (((μ 1 (3)) - 1)))]) (rest := []) ⟨hx, hb, hml, hown, hts⟩ (c_X5_in l D cI cO cC cL (p) (0) (((μ 1 (3)) - 1)) (by omega) (by omega) (by omega)) (cwS 3 hts gX5_isPromise_X5_in rfl rfl rfl (by decide +kernel) ⟨Nat.le_of_ble_eq_true rfl, Nat.le_of_ble_eq_true rfl⟩) ⟨fun _ _ _ _ h => h, fun U hU hW => ⟨rfl, trivial⟩⟩ rfl rfl hl.1 rfl (lv_room (Nat.le_of_ble_eq_true rfl)) dX5_isPromise_10 ⟨(Nat.zero_le _), (Nat.zero_le _)⟩) (fun r1 hr1 => ?_)
  subst hr1
  exact W.zret (v := iI ((if (0) ≤ (p) ∧ (p) ≤ (((μ 1 (3)) - 1)) then (1 : Int) else 0))) hx hb hr (nar_z (by omega)) (fun t9 ht9 hW9 => ⟨((if (0) ≤ (p) ∧ (p) ≤ (((μ 1 (3)) - 1)) then (1 : Int) else 0)), rfl, (by omega), ht9⟩) (fun _ h => nomatch h) dX5_isPromise_13 hlocks
set_option maxHeartbeats 4000000 in
set_option maxRecDepth 100000 in
theorem c_X5_of (l : Launch) (D : va_G) (cI cO cC cL : ClassId) (b : Nat → Nat) (μ : Nat → Int → Int) (p w : Int) (h0 : 0 ≤ p ∧ p < 16) (h1 : 0 ≤ w ∧ w < 5) : Met l yX5_of wsX5_of ({ frames := 0, cells := 0, slots := 0, locals := 0 } : Room) (pcR D [(cI, FieldType.int)] [.ref (b 0), .int (iI (p)), .int (iI (w))] (fl [mdW cI b μ])) (wr_Si (fun r => r = μ 1 (35 + 5 * p + w))) 0 0 (fun _ => False) := by
  refine Met.ofW (cc := cX5_of) (maxL := 3) (ret := (some .int)) (by decide) rfl ?_
  intro p9 e9 s m args9 below9 meth9 c9 s₁ B hml hv
  obtain ⟨rfl, hP, hK⟩ := hv
  have hx := B.exec
  have hb := B.bytes
  have hr := B.returns
  have hts := atoms_spec (ws := wsX5_of) B.pre
  have hown : s.vm.findClass RX5 = some m.cls := findClass_of_methodNamed B.named
  have hlocks := B.notSynchronized
  have hl := lv_entry ([.ref (b 0), .int (iI (p)), .int (iI (w))]) (n := 3) (Nat.le_of_ble_eq_true rfl)
  rw [lg_entry_eq]
  generalize (lg_sl ([.ref (b 0), .int (iI (p)), .int (iI (w))]) ++ List.replicate (3 - (lg_sl ([.ref (b 0), .int (iI (p)), .int (iI (w))])).length) Slot.unset).toArray = ls at hl ⊢
  have hl : lv_has ls 3 [(0, .ref (b 0)), (1, .int (iI (p))), (2, .int (iI (w)))] := hl
  have hw_0 := hts (.fieldLink RX5 7 "PromisedCountersModel" "now" "[I") (by decide +kernel)
  have hin_X5 : ∀ w ∈ u_ws RX5 TX5 12, w ∈ wsX5_of := by decide +kernel
  refine lv_aload_n hx hb dX5_of_0 rfl (lv_at hl 0 rfl) ?_
  refine va_get (D := D) (ci := 5) (v := .ref (b 1)) (C := RX5) (T := TX5) (N := 12) hx hb hts hin_X5 hown hK hP 0 rfl rfl 0 (by decide) hw_0 (fun _ h9 => h9) rfl dX5_of_1 ?_
  refine wi_bipush hx hb dX5_of_4 (by decide) ?_
  refine wi_iconst hx hb dX5_of_6 ?_
  refine lv_iload_n hx hb dX5_of_7 rfl (lv_at hl 1 rfl) ?_
  refine wi_imul hx hb dX5_of_8 ?_
  refine wi_iadd hx hb dX5_of_9 ?_
  refine lv_iload_n hx hb dX5_of_10 rfl (lv_at hl 2 rfl) ?_
  refine wi_iadd hx hb dX5_of_11 ?_
  refine wi_iald hx hb hK hP 1 0 (n := 115) (f := μ 1) rfl rfl (i := ((35 + (5 * p)) + w)) (by omega) (by decide) dX5_of_12 ?_
  exact W.iret (v := iI ((μ 1 (((35 + (5 * p)) + w))))) hx hb hr (fun t9 ht9 hW9 => ⟨((μ 1 (((35 + (5 * p)) + w)))), rfl, (rfl), ht9⟩) (fun _ h => nomatch h) dX5_of_13 hlocks
set_option maxHeartbeats 4000000 in
set_option maxRecDepth 100000 in
theorem c_X5_change (l : Launch) (D : va_G) (cI cO cC cL : ClassId) (b : Nat → Nat) (μ σ : Nat → Int → Int) (p c : Int) (h0 : 0 ≤ p ∧ p < σ 0 1) (hc : R32 c) (hR : RelN σ (μ 1)) (hI : Inv σ) : Met l yX5_change wsX5_change ({ frames := 1, cells := 0, slots := 0, locals := 22 } : Room) (pcR D [(cI, FieldType.int)] [.ref (b 0), .int (iI (p)), .int (iI (c))] (fl [mdW cI b μ])) (wr_Si (fun r => r = chg σ p c)) 0 0 (fun _ => False) := by
  refine Met.ofW (cc := cX5_change) (maxL := 3) (ret := (some .int)) (by decide) rfl ?_
  intro p9 e9 s m args9 below9 meth9 c9 s₁ B hml hv
  obtain ⟨rfl, hP, hK⟩ := hv
  have hx := B.exec
  have hb := B.bytes
  have hr := B.returns
  have hts := atoms_spec (ws := wsX5_change) B.pre
  have hown : s.vm.findClass RX5 = some m.cls := findClass_of_methodNamed B.named
  have hlocks := B.notSynchronized
  have hl := lv_entry ([.ref (b 0), .int (iI (p)), .int (iI (c))]) (n := 3) (Nat.le_of_ble_eq_true rfl)
  rw [lg_entry_eq]
  generalize (lg_sl ([.ref (b 0), .int (iI (p)), .int (iI (c))]) ++ List.replicate (3 - (lg_sl ([.ref (b 0), .int (iI (p)), .int (iI (c))])).length) Slot.unset).toArray = ls at hl ⊢
  have hl : lv_has ls 3 [(0, .ref (b 0)), (1, .int (iI (p))), (2, .int (iI (c)))] := hl
  have hn := hI.n
  have hti := hI.t
  obtain ⟨hm0, hm1, hm2, hm3, hm4⟩ := hR.1
  have hpr := hI.pr (p := p) (by omega) (by omega)
  obtain ⟨hp1, hp2, hp3, hp4, hp5⟩ := id hpr
  obtain ⟨hq0, hq1, hq2, hq3, hq4⟩ := hR.2.2.2 p (by omega) (by omega)
  refine lv_aload_n hx hb dX5_change_0 rfl (lv_at hl 0 rfl) ?_
  refine lv_iload_n hx hb dX5_change_1 rfl (lv_at hl 1 rfl) ?_
  refine wi_iconst hx hb dX5_change_2 ?_
  refine wr_calli (va_runV (As := [.int (iI (p)), .int (iI (1))]) (rest := []) ⟨hx, hb, hml, hown, hts⟩ (c_X5_of l D cI cO cC cL b μ (p) (1) (by omega) (by omega)) (cwV 2 hts gX5_change_X5_of rfl rfl rfl (by decide +kernel) ⟨Nat.le_of_ble_eq_true rfl, Nat.le_of_ble_eq_true rfl⟩) ⟨pcR_blind, va_recv hK hP (ci := 5) (q0 := 0) rfl rfl, pcR_of hP hK⟩ rfl rfl hl.1 rfl (lv_room (Nat.le_of_ble_eq_true rfl)) dX5_change_3 ⟨(Nat.zero_le _), (Nat.zero_le _)⟩) (fun r1 hr1 => ?_)
  subst hr1
  refine lv_iload_n hx hb dX5_change_6 rfl (lv_at hl 2 rfl) ?_
  refine wi_icmp_ne (tgt := 19) hx hb dX5_change_7 (by decide) (by omega) (fun c_7 => ?_) (fun c_7 => ?_)
  · skip
    refine lv_aload_n hx hb dX5_change_19 rfl (lv_at hl 0 rfl) ?_
    refine lv_iload_n hx hb dX5_change_20 rfl (lv_at hl 1 rfl) ?_
    refine wi_iconst hx hb dX5_change_21 ?_
    refine wr_calli (va_runV (As := [.int (iI (p)), .int (iI (3))]) (rest := []) ⟨hx, hb, hml, hown, hts⟩ (c_X5_of l D cI cO cC cL b μ (p) (3) (by omega) (by omega)) (cwV 2 hts gX5_change_X5_of rfl rfl rfl (by decide +kernel) ⟨Nat.le_of_ble_eq_true rfl, Nat.le_of_ble_eq_true rfl⟩) ⟨pcR_blind, va_recv hK hP (ci := 5) (q0 := 0) rfl rfl, pcR_of hP hK⟩ rfl rfl hl.1 rfl (lv_room (Nat.le_of_ble_eq_true rfl)) dX5_change_22 ⟨(Nat.zero_le _), (Nat.zero_le _)⟩) (fun r2 hr2 => ?_)
    subst hr2
    refine lv_iload_n hx hb dX5_change_25 rfl (lv_at hl 2 rfl) ?_
    refine wi_icmp_ne (tgt := 39) hx hb dX5_change_26 (by decide) (by omega) (fun c_26 => ?_) (fun c_26 => ?_)
    · skip
      refine wi_iconst hx hb dX5_change_39 ?_
      exact W.iret (v := iI (0)) hx hb hr (fun t9 ht9 hW9 => ⟨(0), rfl, (by unfold chg; first | (rw [if_pos (by omega)] <;> omega) | (rw [if_neg (by omega), if_pos (by omega)] <;> omega) | (rw [if_neg (by omega), if_neg (by omega)] <;> omega)), ht9⟩) (fun _ h => nomatch h) dX5_change_40 hlocks
    · skip
      refine lv_aload_n hx hb dX5_change_29 rfl (lv_at hl 0 rfl) ?_
      refine lv_iload_n hx hb dX5_change_30 rfl (lv_at hl 1 rfl) ?_
      refine wi_iconst hx hb dX5_change_31 ?_
      refine wr_calli (va_runV (As := [.int (iI (p)), .int (iI (2))]) (rest := []) ⟨hx, hb, hml, hown, hts⟩ (c_X5_of l D cI cO cC cL b μ (p) (2) (by omega) (by omega)) (cwV 2 hts gX5_change_X5_of rfl rfl rfl (by decide +kernel) ⟨Nat.le_of_ble_eq_true rfl, Nat.le_of_ble_eq_true rfl⟩) ⟨pcR_blind, va_recv hK hP (ci := 5) (q0 := 0) rfl rfl, pcR_of hP hK⟩ rfl rfl hl.1 rfl (lv_room (Nat.le_of_ble_eq_true rfl)) dX5_change_32 ⟨(Nat.zero_le _), (Nat.zero_le _)⟩) (fun r3 hr3 => ?_)
      subst hr3
      refine wi_ineg hx hb dX5_change_35 ?_
      refine lv_goto (tgt := 40) hx hb dX5_change_36 (by decide) ?_
      exact W.iret (v := iI ((-(μ 1 (35 + 5 * (p) + (2)))))) hx hb hr (fun t9 ht9 hW9 => ⟨((-(μ 1 (35 + 5 * (p) + (2))))), rfl, (by unfold chg; first | (rw [if_pos (by omega)] <;> omega) | (rw [if_neg (by omega), if_pos (by omega)] <;> omega) | (rw [if_neg (by omega), if_neg (by omega)] <;> omega)), ht9⟩) (fun _ h => nomatch h) dX5_change_40 hlocks
  · skip
    refine lv_aload_n hx hb dX5_change_10 rfl (lv_at hl 0 rfl) ?_
    refine lv_iload_n hx hb dX5_change_11 rfl (lv_at hl 1 rfl) ?_
    refine wi_iconst hx hb dX5_change_12 ?_
    refine wr_calli (va_runV (As := [.int (iI (p)), .int (iI (2))]) (rest := []) ⟨hx, hb, hml, hown, hts⟩ (c_X5_of l D cI cO cC cL b μ (p) (2) (by omega) (by omega)) (cwV 2 hts gX5_change_X5_of rfl rfl rfl (by decide +kernel) ⟨Nat.le_of_ble_eq_true rfl, Nat.le_of_ble_eq_true rfl⟩) ⟨pcR_blind, va_recv hK hP (ci := 5) (q0 := 0) rfl rfl, pcR_of hP hK⟩ rfl rfl hl.1 rfl (lv_room (Nat.le_of_ble_eq_true rfl)) dX5_change_13 ⟨(Nat.zero_le _), (Nat.zero_le _)⟩) (fun r4 hr4 => ?_)
    subst hr4
    refine lv_goto (tgt := 40) hx hb dX5_change_16 (by decide) ?_
    exact W.iret (v := iI ((μ 1 (35 + 5 * (p) + (2))))) hx hb hr (fun t9 ht9 hW9 => ⟨((μ 1 (35 + 5 * (p) + (2)))), rfl, (by unfold chg; first | (rw [if_pos (by omega)] <;> omega) | (rw [if_neg (by omega), if_pos (by omega)] <;> omega) | (rw [if_neg (by omega), if_neg (by omega)] <;> omega)), ht9⟩) (fun _ h => nomatch h) dX5_change_40 hlocks
set_option maxHeartbeats 4000000 in
set_option maxRecDepth 100000 in
theorem c_X5_sum (l : Launch) (D : va_G) (cI cO cC cL : ClassId) (b : Nat → Nat) (μ σ : Nat → Int → Int) (c sg t : Int) (hc : 0 ≤ c ∧ c < 4) (hsg : sg = -1 ∨ sg = 0 ∨ sg = 1) (ht0 : R32 t) (hR : RelN σ (μ 1)) (hI : Inv σ) : Met l yX5_sum wsX5_sum ({ frames := 2, cells := 0, slots := 0, locals := 44 } : Room) (pcR D [(cI, FieldType.int)] [.ref (b 0), .int (iI (c)), .int (iI (sg)), .int (iI (t))] (fl [mdW cI b μ])) (wr_Si (fun r => r = sumM σ c sg t)) 0 0 (fun _ => False) := by
  refine Met.ofW (cc := cX5_sum) (maxL := 7) (ret := (some .int)) (by decide) rfl ?_
  intro p9 e9 s m args9 below9 meth9 c9 s₁ B hml hv
  obtain ⟨rfl, hP, hK⟩ := hv
  have hx := B.exec
  have hb := B.bytes
  have hr := B.returns
  have hts := atoms_spec (ws := wsX5_sum) B.pre
  have hown : s.vm.findClass RX5 = some m.cls := findClass_of_methodNamed B.named
  have hlocks := B.notSynchronized
  have hl := lv_entry ([.ref (b 0), .int (iI (c)), .int (iI (sg)), .int (iI (t))]) (n := 7) (Nat.le_of_ble_eq_true rfl)
  rw [lg_entry_eq]
  generalize (lg_sl ([.ref (b 0), .int (iI (c)), .int (iI (sg)), .int (iI (t))]) ++ List.replicate (7 - (lg_sl ([.ref (b 0), .int (iI (c)), .int (iI (sg)), .int (iI (t))])).length) Slot.unset).toArray = ls at hl ⊢
  have hl : lv_has ls 7 [(0, .ref (b 0)), (1, .int (iI (c))), (2, .int (iI (sg))), (3, .int (iI (t)))] := hl
  have hw_0 := hts (.fieldLink RX5 7 "PromisedCountersModel" "now" "[I") (by decide +kernel)
  have hin_X5 : ∀ w ∈ u_ws RX5 TX5 12, w ∈ wsX5_sum := by decide +kernel
  have hn := hI.n
  have hti := hI.t
  obtain ⟨hm0, hm1, hm2, hm3, hm4⟩ := hR.1
  refine wi_iconst hx hb dX5_sum_0 ?_
  refine lv_istore (lv' := [(4, .int (iI (0))), (0, .ref (b 0)), (1, .int (iI (c))), (2, .int (iI (sg))), (3, .int (iI (t)))]) hx hb dX5_sum_1 hl (by decide) rfl (fun ls hl => ?_)
  refine wi_iconst hx hb dX5_sum_3 ?_
  refine lv_istore (lv' := [(5, .int (iI (0))), (4, .int (iI (0))), (0, .ref (b 0)), (1, .int (iI (c))), (2, .int (iI (sg))), (3, .int (iI (t)))]) hx hb dX5_sum_4 hl (by decide) rfl (fun ls hl => ?_)
  have L6 : ∀ (k6 : Nat), ∀ (p : Int) (acc : Int), (σ 0 1 - p).toNat < k6 → (0 ≤ p ∧ p ≤ σ 0 1) → (acc = sm (fun p => if t < σ 9 p ∧ 0 ≤ chg σ p c * sg then chg σ p c else 0) p.toNat) → ∀ (ls : Array Slot), lv_has ls 7 [(5, .int (iI (p))), (4, .int (iI (acc))), (0, .ref (b 0)), (1, .int (iI (c))), (2, .int (iI (sg))), (3, .int (iI (t)))] → W p9 l e9 ({ frames := 2, cells := 0, slots := 0, locals := 44 } : Room) s m ([.ref (b 0), .int (iI (c)), .int (iI (sg)), .int (iI (t))] : List Value).toArray below9 meth9 c9 s.heap [] 0 0 (MQ below9 (wr_Si (fun r => r = sumM σ c sg t)) ([.ref (b 0), .int (iI (c)), .int (iI (sg)), .int (iI (t))] : List Value).toArray s 0 0 (fun _ => False)) (F0 m 6 ls []) := by
    intro k6
    induction k6 with
    | zero =>
      intro p acc hm
      exact absurd hm (Nat.not_lt_zero _)
    | succ k6 ih6 =>
      intro p acc hm6 hp hacc ls hl
      refine lv_iload hx hb dX5_sum_6 (lv_at hl 0 rfl) ?_
      refine lv_aload_n hx hb dX5_sum_8 rfl (lv_at hl 2 rfl) ?_
      refine va_get (D := D) (ci := 5) (v := .ref (b 1)) (C := RX5) (T := TX5) (N := 12) hx hb hts hin_X5 hown hK hP 0 rfl rfl 0 (by decide) hw_0 (fun _ h9 => h9) rfl dX5_sum_9 ?_
      refine wi_iconst hx hb dX5_sum_12 ?_
      refine wi_iald hx hb hK hP 1 0 (n := 115) (f := μ 1) rfl rfl (i := 3) (by omega) (by decide) dX5_sum_13 ?_
      refine wi_icmp_ge (tgt := 61) hx hb dX5_sum_14 (by decide) (by omega) (fun c_14 => ?_) (fun c_14 => ?_)
      · skip
        refine lv_iload hx hb dX5_sum_61 (lv_at hl 1 rfl) ?_
        exact W.iret (v := iI (acc)) hx hb hr (fun t9 ht9 hW9 => ⟨(acc), rfl, (by rw [hacc, show p = σ 0 1 by omega]; rfl), ht9⟩) (fun _ h => nomatch h) dX5_sum_63 hlocks
      · skip
        have hpr := hI.pr (p := p) (by omega) (by omega)
        obtain ⟨hp1, hp2, hp3, hp4, hp5⟩ := id hpr
        have hcr := chg_r hpr c
        obtain ⟨hq0, hq1, hq2, hq3, hq4⟩ := hR.2.2.2 p (by omega) (by omega)
        refine lv_aload_n hx hb dX5_sum_17 rfl (lv_at hl 2 rfl) ?_
        refine lv_iload hx hb dX5_sum_18 (lv_at hl 0 rfl) ?_
        refine lv_iload_n hx hb dX5_sum_20 rfl (lv_at hl 3 rfl) ?_
        refine wr_calli (va_runV (As := [.int (iI (p)), .int (iI (c))]) (rest := []) ⟨hx, hb, hml, hown, hts⟩ (c_X5_change l D cI cO cC cL b μ σ (p) (c) (by omega) (by omega) (hR) (hI)) (cwV 2 hts gX5_sum_X5_change rfl rfl rfl (by decide +kernel) ⟨Nat.le_of_ble_eq_true rfl, Nat.le_of_ble_eq_true rfl⟩) ⟨pcR_blind, va_recv hK hP (ci := 5) (q0 := 0) rfl rfl, pcR_of hP hK⟩ rfl rfl hl.1 rfl (lv_room (Nat.le_of_ble_eq_true rfl)) dX5_sum_21 ⟨(Nat.zero_le _), (Nat.zero_le _)⟩) (fun r1 hr1 => ?_)
        subst hr1
        refine lv_istore (lv' := [(6, .int (iI ((chg σ (p) (c))))), (5, .int (iI (p))), (4, .int (iI (acc))), (0, .ref (b 0)), (1, .int (iI (c))), (2, .int (iI (sg))), (3, .int (iI (t)))]) hx hb dX5_sum_24 hl (by decide) rfl (fun ls hl => ?_)
        refine lv_iload hx hb dX5_sum_26 (lv_at hl 2 rfl) ?_
        refine lv_aload_n hx hb dX5_sum_28 rfl (lv_at hl 3 rfl) ?_
        refine lv_iload hx hb dX5_sum_29 (lv_at hl 1 rfl) ?_
        refine wi_iconst hx hb dX5_sum_31 ?_
        refine wr_calli (va_runV (As := [.int (iI (p)), .int (iI (4))]) (rest := [.int (iI (acc))]) ⟨hx, hb, hml, hown, hts⟩ (c_X5_of l D cI cO cC cL b μ (p) (4) (by omega) (by omega)) (cwV 2 hts gX5_sum_X5_of rfl rfl rfl (by decide +kernel) ⟨Nat.le_of_ble_eq_true rfl, Nat.le_of_ble_eq_true rfl⟩) ⟨pcR_blind, va_recv hK hP (ci := 5) (q0 := 0) rfl rfl, pcR_of hP hK⟩ rfl rfl hl.1 rfl (lv_room (Nat.le_of_ble_eq_true rfl)) dX5_sum_32 ⟨(Nat.zero_le _), (Nat.zero_le _)⟩) (fun r2 hr2 => ?_)
        subst hr2
        refine lv_iload_n hx hb dX5_sum_35 rfl (lv_at hl 6 rfl) ?_
        refine wi_icmp_le (tgt := 51) hx hb dX5_sum_36 (by decide) (by omega) (fun c_36 => ?_) (fun c_36 => ?_)
        · skip
          refine wi_iconst hx hb dX5_sum_51 ?_
          refine wi_iadd hx hb dX5_sum_52 ?_
          refine lv_istore (lv' := [(4, .int (iI ((acc + 0)))), (6, .int (iI ((chg σ (p) (c))))), (5, .int (iI (p))), (0, .ref (b 0)), (1, .int (iI (c))), (2, .int (iI (sg))), (3, .int (iI (t)))]) hx hb dX5_sum_53 hl (by decide) rfl (fun ls hl => ?_)
          refine wi_iinc (lv' := [(5, .int (iI ((p + 1)))), (4, .int (iI ((acc + 0)))), (6, .int (iI ((chg σ (p) (c))))), (0, .ref (b 0)), (1, .int (iI (c))), (2, .int (iI (sg))), (3, .int (iI (t)))]) hx hb dX5_sum_55 hl (k := 2) rfl (by decide) rfl (fun ls hl => ?_)
          refine lv_goto (tgt := 6) hx hb dX5_sum_58 (by decide) ?_
          exact ih6 ((p + 1)) ((acc + 0)) (by omega) (by omega) (by rw [sm_step (by omega)]; omega)  ls (lv_sub hl [0, 1, 3, 4, 5, 6] rfl)
        · skip
          refine lv_iload hx hb dX5_sum_39 (lv_at hl 0 rfl) ?_
          refine lv_iload_n hx hb dX5_sum_41 rfl (lv_at hl 5 rfl) ?_
          refine wi_imul hx hb dX5_sum_42 ?_
          refine wi_if_lt (tgt := 51) hx hb dX5_sum_43 (by decide) (by rcases hsg with h | h | h <;> rw [h] <;> omega) (fun c_43 => ?_) (fun c_43 => ?_)
          · skip
            refine wi_iconst hx hb dX5_sum_51 ?_
            refine wi_iadd hx hb dX5_sum_52 ?_
            refine lv_istore (lv' := [(4, .int (iI ((acc + 0)))), (6, .int (iI ((chg σ (p) (c))))), (5, .int (iI (p))), (0, .ref (b 0)), (1, .int (iI (c))), (2, .int (iI (sg))), (3, .int (iI (t)))]) hx hb dX5_sum_53 hl (by decide) rfl (fun ls hl => ?_)
            refine wi_iinc (lv' := [(5, .int (iI ((p + 1)))), (4, .int (iI ((acc + 0)))), (6, .int (iI ((chg σ (p) (c))))), (0, .ref (b 0)), (1, .int (iI (c))), (2, .int (iI (sg))), (3, .int (iI (t)))]) hx hb dX5_sum_55 hl (k := 2) rfl (by decide) rfl (fun ls hl => ?_)
            refine lv_goto (tgt := 6) hx hb dX5_sum_58 (by decide) ?_
            exact ih6 ((p + 1)) ((acc + 0)) (by omega) (by omega) (by rw [sm_step (by omega)]; omega)  ls (lv_sub hl [0, 1, 3, 4, 5, 6] rfl)
          · skip
            refine lv_iload hx hb dX5_sum_46 (lv_at hl 0 rfl) ?_
            refine lv_goto (tgt := 52) hx hb dX5_sum_48 (by decide) ?_
            refine wi_iadd hx hb dX5_sum_52 ?_
            refine lv_istore (lv' := [(4, .int (iI ((acc + (chg σ (p) (c)))))), (6, .int (iI ((chg σ (p) (c))))), (5, .int (iI (p))), (0, .ref (b 0)), (1, .int (iI (c))), (2, .int (iI (sg))), (3, .int (iI (t)))]) hx hb dX5_sum_53 hl (by decide) rfl (fun ls hl => ?_)
            refine wi_iinc (lv' := [(5, .int (iI ((p + 1)))), (4, .int (iI ((acc + (chg σ (p) (c)))))), (6, .int (iI ((chg σ (p) (c))))), (0, .ref (b 0)), (1, .int (iI (c))), (2, .int (iI (sg))), (3, .int (iI (t)))]) hx hb dX5_sum_55 hl (k := 2) rfl (by decide) rfl (fun ls hl => ?_)
            refine lv_goto (tgt := 6) hx hb dX5_sum_58 (by decide) ?_
            exact ih6 ((p + 1)) ((acc + (chg σ (p) (c)))) (by omega) (by omega) (by rw [sm_step (by omega)]; omega)  ls (lv_sub hl [0, 1, 3, 4, 5, 6] rfl)
  exact L6 _ (0) (0) (Nat.lt_succ_self _) (by omega) (rfl)  ls (lv_sub hl [0, 1, 2, 3, 4, 5] rfl)
set_option maxHeartbeats 4000000 in
set_option maxRecDepth 100000 in
theorem c_X5_low (l : Launch) (D : va_G) (cI cO cC cL : ClassId) (b : Nat → Nat) (μ σ : Nat → Int → Int) (c : Int) (hc : 0 ≤ c ∧ c < 4) (hR : RelN σ (μ 1)) (hI : Inv σ) : Met l yX5_low wsX5_low ({ frames := 3, cells := 0, slots := 0, locals := 70 } : Room) (pcR D [(cI, FieldType.int)] [.ref (b 0), .int (iI (c))] (fl [mdW cI b μ])) (wr_Si (fun r => r = lowS σ c (σ 0 0))) 0 0 (fun _ => False) := by
  refine Met.ofW (cc := cX5_low) (maxL := 2) (ret := (some .int)) (by decide) rfl ?_
  intro p9 e9 s m args9 below9 meth9 c9 s₁ B hml hv
  obtain ⟨rfl, hP, hK⟩ := hv
  have hx := B.exec
  have hb := B.bytes
  have hr := B.returns
  have hts := atoms_spec (ws := wsX5_low) B.pre
  have hown : s.vm.findClass RX5 = some m.cls := findClass_of_methodNamed B.named
  have hlocks := B.notSynchronized
  have hl := lv_entry ([.ref (b 0), .int (iI (c))]) (n := 2) (Nat.le_of_ble_eq_true rfl)
  rw [lg_entry_eq]
  generalize (lg_sl ([.ref (b 0), .int (iI (c))]) ++ List.replicate (2 - (lg_sl ([.ref (b 0), .int (iI (c))])).length) Slot.unset).toArray = ls at hl ⊢
  have hl : lv_has ls 2 [(0, .ref (b 0)), (1, .int (iI (c)))] := hl
  have hw_0 := hts (.fieldLink RX5 7 "PromisedCountersModel" "now" "[I") (by decide +kernel)
  have hin_X5 : ∀ w ∈ u_ws RX5 TX5 12, w ∈ wsX5_low := by decide +kernel
  have hn := hI.n
  have hti := hI.t
  obtain ⟨hm0, hm1, hm2, hm3, hm4⟩ := hR.1
  obtain ⟨hk1, hk2, hk3⟩ := hR.2.1 c hc.1 hc.2
  refine lv_aload_n hx hb dX5_low_0 rfl (lv_at hl 0 rfl) ?_
  refine va_get (D := D) (ci := 5) (v := .ref (b 1)) (C := RX5) (T := TX5) (N := 12) hx hb hts hin_X5 hown hK hP 0 rfl rfl 0 (by decide) hw_0 (fun _ h9 => h9) rfl dX5_low_1 ?_
  refine wi_iconst hx hb dX5_low_4 ?_
  refine lv_iload_n hx hb dX5_low_5 rfl (lv_at hl 1 rfl) ?_
  refine wi_iadd hx hb dX5_low_6 ?_
  refine wi_iald hx hb hK hP 1 0 (n := 115) (f := μ 1) rfl rfl (i := (5 + c)) (by omega) (by decide) dX5_low_7 ?_
  refine lv_aload_n hx hb dX5_low_8 rfl (lv_at hl 0 rfl) ?_
  refine lv_iload_n hx hb dX5_low_9 rfl (lv_at hl 1 rfl) ?_
  refine wi_iconst hx hb dX5_low_10 ?_
  refine lv_aload_n hx hb dX5_low_11 rfl (lv_at hl 0 rfl) ?_
  refine va_get (D := D) (ci := 5) (v := .ref (b 1)) (C := RX5) (T := TX5) (N := 12) hx hb hts hin_X5 hown hK hP 0 rfl rfl 0 (by decide) hw_0 (fun _ h9 => h9) rfl dX5_low_12 ?_
  refine wi_iconst hx hb dX5_low_15 ?_
  refine wi_iald hx hb hK hP 1 0 (n := 115) (f := μ 1) rfl rfl (i := 0) (by omega) (by decide) dX5_low_16 ?_
  refine wr_calli (va_runV (As := [.int (iI (c)), .int (iI (-1)), .int (iI ((μ 1 (0))))]) (rest := [.int (iI ((μ 1 ((5 + c)))))]) ⟨hx, hb, hml, hown, hts⟩ (c_X5_sum l D cI cO cC cL b μ σ (c) (-1) ((μ 1 (0))) (by omega) (by omega) (by omega) (hR) (hI)) (cwV 3 hts gX5_low_X5_sum rfl rfl rfl (by decide +kernel) ⟨Nat.le_of_ble_eq_true rfl, Nat.le_of_ble_eq_true rfl⟩) ⟨pcR_blind, va_recv hK hP (ci := 5) (q0 := 0) rfl rfl, pcR_of hP hK⟩ rfl rfl hl.1 rfl (lv_room (Nat.le_of_ble_eq_true rfl)) dX5_low_17 ⟨(Nat.zero_le _), (Nat.zero_le _)⟩) (fun r1 hr1 => ?_)
  subst hr1
  refine wi_iadd hx hb dX5_low_20 ?_
  exact W.iret (v := iI (((μ 1 ((5 + c))) + (sumM σ (c) (-1) ((μ 1 (0))))))) hx hb hr (fun t9 ht9 hW9 => ⟨(((μ 1 ((5 + c))) + (sumM σ (c) (-1) ((μ 1 (0)))))), rfl, (by rw [hk1, hm0, sumM_low]), ht9⟩) (fun _ h => nomatch h) dX5_low_21 hlocks
set_option maxHeartbeats 4000000 in
set_option maxRecDepth 100000 in
theorem c_X5_high (l : Launch) (D : va_G) (cI cO cC cL : ClassId) (b : Nat → Nat) (μ σ : Nat → Int → Int) (c : Int) (hc : 0 ≤ c ∧ c < 4) (hR : RelN σ (μ 1)) (hI : Inv σ) : Met l yX5_high wsX5_high ({ frames := 3, cells := 0, slots := 0, locals := 70 } : Room) (pcR D [(cI, FieldType.int)] [.ref (b 0), .int (iI (c))] (fl [mdW cI b μ])) (wr_Si (fun r => r = highS σ c)) 0 0 (fun _ => False) := by
  refine Met.ofW (cc := cX5_high) (maxL := 2) (ret := (some .int)) (by decide) rfl ?_
  intro p9 e9 s m args9 below9 meth9 c9 s₁ B hml hv
  obtain ⟨rfl, hP, hK⟩ := hv
  have hx := B.exec
  have hb := B.bytes
  have hr := B.returns
  have hts := atoms_spec (ws := wsX5_high) B.pre
  have hown : s.vm.findClass RX5 = some m.cls := findClass_of_methodNamed B.named
  have hlocks := B.notSynchronized
  have hl := lv_entry ([.ref (b 0), .int (iI (c))]) (n := 2) (Nat.le_of_ble_eq_true rfl)
  rw [lg_entry_eq]
  generalize (lg_sl ([.ref (b 0), .int (iI (c))]) ++ List.replicate (2 - (lg_sl ([.ref (b 0), .int (iI (c))])).length) Slot.unset).toArray = ls at hl ⊢
  have hl : lv_has ls 2 [(0, .ref (b 0)), (1, .int (iI (c)))] := hl
  have hw_0 := hts (.fieldLink RX5 7 "PromisedCountersModel" "now" "[I") (by decide +kernel)
  have hin_X5 : ∀ w ∈ u_ws RX5 TX5 12, w ∈ wsX5_high := by decide +kernel
  have hn := hI.n
  have hti := hI.t
  obtain ⟨hm0, hm1, hm2, hm3, hm4⟩ := hR.1
  obtain ⟨hk1, hk2, hk3⟩ := hR.2.1 c hc.1 hc.2
  refine lv_aload_n hx hb dX5_high_0 rfl (lv_at hl 0 rfl) ?_
  refine va_get (D := D) (ci := 5) (v := .ref (b 1)) (C := RX5) (T := TX5) (N := 12) hx hb hts hin_X5 hown hK hP 0 rfl rfl 0 (by decide) hw_0 (fun _ h9 => h9) rfl dX5_high_1 ?_
  refine wi_iconst hx hb dX5_high_4 ?_
  refine lv_iload_n hx hb dX5_high_5 rfl (lv_at hl 1 rfl) ?_
  refine wi_iadd hx hb dX5_high_6 ?_
  refine wi_iald hx hb hK hP 1 0 (n := 115) (f := μ 1) rfl rfl (i := (5 + c)) (by omega) (by decide) dX5_high_7 ?_
  refine lv_aload_n hx hb dX5_high_8 rfl (lv_at hl 0 rfl) ?_
  refine lv_iload_n hx hb dX5_high_9 rfl (lv_at hl 1 rfl) ?_
  refine wi_iconst hx hb dX5_high_10 ?_
  refine lv_aload_n hx hb dX5_high_11 rfl (lv_at hl 0 rfl) ?_
  refine va_get (D := D) (ci := 5) (v := .ref (b 1)) (C := RX5) (T := TX5) (N := 12) hx hb hts hin_X5 hown hK hP 0 rfl rfl 0 (by decide) hw_0 (fun _ h9 => h9) rfl dX5_high_12 ?_
  refine wi_iconst hx hb dX5_high_15 ?_
  refine wi_iald hx hb hK hP 1 0 (n := 115) (f := μ 1) rfl rfl (i := 0) (by omega) (by decide) dX5_high_16 ?_
  refine wr_calli (va_runV (As := [.int (iI (c)), .int (iI (1)), .int (iI ((μ 1 (0))))]) (rest := [.int (iI ((μ 1 ((5 + c)))))]) ⟨hx, hb, hml, hown, hts⟩ (c_X5_sum l D cI cO cC cL b μ σ (c) (1) ((μ 1 (0))) (by omega) (by omega) (by omega) (hR) (hI)) (cwV 3 hts gX5_high_X5_sum rfl rfl rfl (by decide +kernel) ⟨Nat.le_of_ble_eq_true rfl, Nat.le_of_ble_eq_true rfl⟩) ⟨pcR_blind, va_recv hK hP (ci := 5) (q0 := 0) rfl rfl, pcR_of hP hK⟩ rfl rfl hl.1 rfl (lv_room (Nat.le_of_ble_eq_true rfl)) dX5_high_17 ⟨(Nat.zero_le _), (Nat.zero_le _)⟩) (fun r1 hr1 => ?_)
  subst hr1
  refine wi_iadd hx hb dX5_high_20 ?_
  exact W.iret (v := iI (((μ 1 ((5 + c))) + (sumM σ (c) (1) ((μ 1 (0))))))) hx hb hr (fun t9 ht9 hW9 => ⟨(((μ 1 ((5 + c))) + (sumM σ (c) (1) ((μ 1 (0)))))), rfl, (by rw [hk1, hm0, sumM_high hI]), ht9⟩) (fun _ h => nomatch h) dX5_high_21 hlocks
set_option maxHeartbeats 4000000 in
set_option maxRecDepth 100000 in
theorem c_X5_promisesOf (l : Launch) (D : va_G) (cI cO cC cL : ClassId) (b : Nat → Nat) (μ σ : Nat → Int → Int) (o : Int) (ho : R32 o) (hR : RelN σ (μ 1)) (hI : Inv σ) : Met l yX5_promisesOf wsX5_promisesOf ({ frames := 1, cells := 0, slots := 0, locals := 22 } : Room) (pcR D [(cI, FieldType.int)] [.ref (b 0), .int (iI (o))] (fl [mdW cI b μ])) (wr_Si (fun r => r = ofN σ o)) 0 0 (fun _ => False) := by
  refine Met.ofW (cc := cX5_promisesOf) (maxL := 4) (ret := (some .int)) (by decide) rfl ?_
  intro p9 e9 s m args9 below9 meth9 c9 s₁ B hml hv
  obtain ⟨rfl, hP, hK⟩ := hv
  have hx := B.exec
  have hb := B.bytes
  have hr := B.returns
  have hts := atoms_spec (ws := wsX5_promisesOf) B.pre
  have hown : s.vm.findClass RX5 = some m.cls := findClass_of_methodNamed B.named
  have hlocks := B.notSynchronized
  have hl := lv_entry ([.ref (b 0), .int (iI (o))]) (n := 4) (Nat.le_of_ble_eq_true rfl)
  rw [lg_entry_eq]
  generalize (lg_sl ([.ref (b 0), .int (iI (o))]) ++ List.replicate (4 - (lg_sl ([.ref (b 0), .int (iI (o))])).length) Slot.unset).toArray = ls at hl ⊢
  have hl : lv_has ls 4 [(0, .ref (b 0)), (1, .int (iI (o)))] := hl
  have hw_0 := hts (.fieldLink RX5 7 "PromisedCountersModel" "now" "[I") (by decide +kernel)
  have hin_X5 : ∀ w ∈ u_ws RX5 TX5 12, w ∈ wsX5_promisesOf := by decide +kernel
  have hn := hI.n
  have hti := hI.t
  obtain ⟨hm0, hm1, hm2, hm3, hm4⟩ := hR.1
  refine wi_iconst hx hb dX5_promisesOf_0 ?_
  refine lv_istore_n (lv' := [(2, .int (iI (0))), (0, .ref (b 0)), (1, .int (iI (o)))]) hx hb dX5_promisesOf_1 rfl hl (by decide) rfl (fun ls hl => ?_)
  refine wi_iconst hx hb dX5_promisesOf_2 ?_
  refine lv_istore_n (lv' := [(3, .int (iI (0))), (2, .int (iI (0))), (0, .ref (b 0)), (1, .int (iI (o)))]) hx hb dX5_promisesOf_3 rfl hl (by decide) rfl (fun ls hl => ?_)
  have L4 : ∀ (k4 : Nat), ∀ (p : Int) (acc : Int), (σ 0 1 - p).toNat < k4 → (0 ≤ p ∧ p ≤ σ 0 1) → (acc = sm (fun p => if σ 5 p = o then 1 else 0) p.toNat) → ∀ (ls : Array Slot), lv_has ls 4 [(3, .int (iI (p))), (2, .int (iI (acc))), (0, .ref (b 0)), (1, .int (iI (o)))] → W p9 l e9 ({ frames := 1, cells := 0, slots := 0, locals := 22 } : Room) s m ([.ref (b 0), .int (iI (o))] : List Value).toArray below9 meth9 c9 s.heap [] 0 0 (MQ below9 (wr_Si (fun r => r = ofN σ o)) ([.ref (b 0), .int (iI (o))] : List Value).toArray s 0 0 (fun _ => False)) (F0 m 4 ls []) := by
    intro k4
    induction k4 with
    | zero =>
      intro p acc hm
      exact absurd hm (Nat.not_lt_zero _)
    | succ k4 ih4 =>
      intro p acc hm4 hp hacc ls hl
      refine lv_iload_n hx hb dX5_promisesOf_4 rfl (lv_at hl 0 rfl) ?_
      refine lv_aload_n hx hb dX5_promisesOf_5 rfl (lv_at hl 2 rfl) ?_
      refine va_get (D := D) (ci := 5) (v := .ref (b 1)) (C := RX5) (T := TX5) (N := 12) hx hb hts hin_X5 hown hK hP 0 rfl rfl 0 (by decide) hw_0 (fun _ h9 => h9) rfl dX5_promisesOf_6 ?_
      refine wi_iconst hx hb dX5_promisesOf_9 ?_
      refine wi_iald hx hb hK hP 1 0 (n := 115) (f := μ 1) rfl rfl (i := 3) (by omega) (by decide) dX5_promisesOf_10 ?_
      refine wi_icmp_ge (tgt := 38) hx hb dX5_promisesOf_11 (by decide) (by omega) (fun c_11 => ?_) (fun c_11 => ?_)
      · skip
        refine lv_iload_n hx hb dX5_promisesOf_38 rfl (lv_at hl 1 rfl) ?_
        exact W.iret (v := iI (acc)) hx hb hr (fun t9 ht9 hW9 => ⟨(acc), rfl, (by rw [hacc, show p = σ 0 1 by omega]; rfl), ht9⟩) (fun _ h => nomatch h) dX5_promisesOf_39 hlocks
      · skip
        have hpr := hI.pr (p := p) (by omega) (by omega)
        obtain ⟨hp1, hp2, hp3, hp4, hp5⟩ := id hpr
        obtain ⟨hq0, hq1, hq2, hq3, hq4⟩ := hR.2.2.2 p (by omega) (by omega)
        refine lv_iload_n hx hb dX5_promisesOf_14 rfl (lv_at hl 1 rfl) ?_
        refine lv_aload_n hx hb dX5_promisesOf_15 rfl (lv_at hl 2 rfl) ?_
        refine lv_iload_n hx hb dX5_promisesOf_16 rfl (lv_at hl 0 rfl) ?_
        refine wi_iconst hx hb dX5_promisesOf_17 ?_
        refine wr_calli (va_runV (As := [.int (iI (p)), .int (iI (0))]) (rest := [.int (iI (acc))]) ⟨hx, hb, hml, hown, hts⟩ (c_X5_of l D cI cO cC cL b μ (p) (0) (by omega) (by omega)) (cwV 2 hts gX5_promisesOf_X5_of rfl rfl rfl (by decide +kernel) ⟨Nat.le_of_ble_eq_true rfl, Nat.le_of_ble_eq_true rfl⟩) ⟨pcR_blind, va_recv hK hP (ci := 5) (q0 := 0) rfl rfl, pcR_of hP hK⟩ rfl rfl hl.1 rfl (lv_room (Nat.le_of_ble_eq_true rfl)) dX5_promisesOf_18 ⟨(Nat.zero_le _), (Nat.zero_le _)⟩) (fun r1 hr1 => ?_)
        subst hr1
        refine lv_iload_n hx hb dX5_promisesOf_21 rfl (lv_at hl 3 rfl) ?_
        refine wi_icmp_ne (tgt := 29) hx hb dX5_promisesOf_22 (by decide) (by omega) (fun c_22 => ?_) (fun c_22 => ?_)
        · skip
          refine wi_iconst hx hb dX5_promisesOf_29 ?_
          refine wi_iadd hx hb dX5_promisesOf_30 ?_
          refine lv_istore_n (lv' := [(2, .int (iI ((acc + 0)))), (3, .int (iI (p))), (0, .ref (b 0)), (1, .int (iI (o)))]) hx hb dX5_promisesOf_31 rfl hl (by decide) rfl (fun ls hl => ?_)
          refine wi_iinc (lv' := [(3, .int (iI ((p + 1)))), (2, .int (iI ((acc + 0)))), (0, .ref (b 0)), (1, .int (iI (o)))]) hx hb dX5_promisesOf_32 hl (k := 1) rfl (by decide) rfl (fun ls hl => ?_)
          refine lv_goto (tgt := 4) hx hb dX5_promisesOf_35 (by decide) ?_
          exact ih4 ((p + 1)) ((acc + 0)) (by omega) (by omega) (by rw [sm_step (by omega)]; omega)  ls (lv_sub hl [0, 1, 2, 3] rfl)
        · skip
          refine wi_iconst hx hb dX5_promisesOf_25 ?_
          refine lv_goto (tgt := 30) hx hb dX5_promisesOf_26 (by decide) ?_
          refine wi_iadd hx hb dX5_promisesOf_30 ?_
          refine lv_istore_n (lv' := [(2, .int (iI ((acc + 1)))), (3, .int (iI (p))), (0, .ref (b 0)), (1, .int (iI (o)))]) hx hb dX5_promisesOf_31 rfl hl (by decide) rfl (fun ls hl => ?_)
          refine wi_iinc (lv' := [(3, .int (iI ((p + 1)))), (2, .int (iI ((acc + 1)))), (0, .ref (b 0)), (1, .int (iI (o)))]) hx hb dX5_promisesOf_32 hl (k := 1) rfl (by decide) rfl (fun ls hl => ?_)
          refine lv_goto (tgt := 4) hx hb dX5_promisesOf_35 (by decide) ?_
          exact ih4 ((p + 1)) ((acc + 1)) (by omega) (by omega) (by rw [sm_step (by omega)]; omega)  ls (lv_sub hl [0, 1, 2, 3] rfl)
  exact L4 _ (0) (0) (Nat.lt_succ_self _) (by omega) (rfl)  ls (lv_sub hl [0, 1, 2, 3] rfl)
set_option maxHeartbeats 4000000 in
set_option maxRecDepth 100000 in
theorem c_X5_changing (l : Launch) (D : va_G) (cI cO cC cL : ClassId) (b : Nat → Nat) (μ σ : Nat → Int → Int) (c : Int) (hc : 0 ≤ c ∧ c < 4) (hR : RelN σ (μ 1)) (hI : Inv σ) : Met l yX5_changing wsX5_changing ({ frames := 2, cells := 0, slots := 0, locals := 44 } : Room) (pcR D [(cI, FieldType.int)] [.ref (b 0), .int (iI (c))] (fl [mdW cI b μ])) (wr_Si (fun r => r = chN σ c)) 0 0 (fun _ => False) := by
  refine Met.ofW (cc := cX5_changing) (maxL := 4) (ret := (some .int)) (by decide) rfl ?_
  intro p9 e9 s m args9 below9 meth9 c9 s₁ B hml hv
  obtain ⟨rfl, hP, hK⟩ := hv
  have hx := B.exec
  have hb := B.bytes
  have hr := B.returns
  have hts := atoms_spec (ws := wsX5_changing) B.pre
  have hown : s.vm.findClass RX5 = some m.cls := findClass_of_methodNamed B.named
  have hlocks := B.notSynchronized
  have hl := lv_entry ([.ref (b 0), .int (iI (c))]) (n := 4) (Nat.le_of_ble_eq_true rfl)
  rw [lg_entry_eq]
  generalize (lg_sl ([.ref (b 0), .int (iI (c))]) ++ List.replicate (4 - (lg_sl ([.ref (b 0), .int (iI (c))])).length) Slot.unset).toArray = ls at hl ⊢
  have hl : lv_has ls 4 [(0, .ref (b 0)), (1, .int (iI (c)))] := hl
  have hw_0 := hts (.fieldLink RX5 7 "PromisedCountersModel" "now" "[I") (by decide +kernel)
  have hin_X5 : ∀ w ∈ u_ws RX5 TX5 12, w ∈ wsX5_changing := by decide +kernel
  have hn := hI.n
  have hti := hI.t
  obtain ⟨hm0, hm1, hm2, hm3, hm4⟩ := hR.1
  refine wi_iconst hx hb dX5_changing_0 ?_
  refine lv_istore_n (lv' := [(2, .int (iI (0))), (0, .ref (b 0)), (1, .int (iI (c)))]) hx hb dX5_changing_1 rfl hl (by decide) rfl (fun ls hl => ?_)
  refine wi_iconst hx hb dX5_changing_2 ?_
  refine lv_istore_n (lv' := [(3, .int (iI (0))), (2, .int (iI (0))), (0, .ref (b 0)), (1, .int (iI (c)))]) hx hb dX5_changing_3 rfl hl (by decide) rfl (fun ls hl => ?_)
  have L4 : ∀ (k4 : Nat), ∀ (p : Int) (acc : Int), (σ 0 1 - p).toNat < k4 → (0 ≤ p ∧ p ≤ σ 0 1) → (acc = sm (fun p => if chg σ p c = 0 then 0 else 1) p.toNat) → ∀ (ls : Array Slot), lv_has ls 4 [(3, .int (iI (p))), (2, .int (iI (acc))), (0, .ref (b 0)), (1, .int (iI (c)))] → W p9 l e9 ({ frames := 2, cells := 0, slots := 0, locals := 44 } : Room) s m ([.ref (b 0), .int (iI (c))] : List Value).toArray below9 meth9 c9 s.heap [] 0 0 (MQ below9 (wr_Si (fun r => r = chN σ c)) ([.ref (b 0), .int (iI (c))] : List Value).toArray s 0 0 (fun _ => False)) (F0 m 4 ls []) := by
    intro k4
    induction k4 with
    | zero =>
      intro p acc hm
      exact absurd hm (Nat.not_lt_zero _)
    | succ k4 ih4 =>
      intro p acc hm4 hp hacc ls hl
      refine lv_iload_n hx hb dX5_changing_4 rfl (lv_at hl 0 rfl) ?_
      refine lv_aload_n hx hb dX5_changing_5 rfl (lv_at hl 2 rfl) ?_
      refine va_get (D := D) (ci := 5) (v := .ref (b 1)) (C := RX5) (T := TX5) (N := 12) hx hb hts hin_X5 hown hK hP 0 rfl rfl 0 (by decide) hw_0 (fun _ h9 => h9) rfl dX5_changing_6 ?_
      refine wi_iconst hx hb dX5_changing_9 ?_
      refine wi_iald hx hb hK hP 1 0 (n := 115) (f := μ 1) rfl rfl (i := 3) (by omega) (by decide) dX5_changing_10 ?_
      refine wi_icmp_ge (tgt := 37) hx hb dX5_changing_11 (by decide) (by omega) (fun c_11 => ?_) (fun c_11 => ?_)
      · skip
        refine lv_iload_n hx hb dX5_changing_37 rfl (lv_at hl 1 rfl) ?_
        exact W.iret (v := iI (acc)) hx hb hr (fun t9 ht9 hW9 => ⟨(acc), rfl, (by rw [hacc, show p = σ 0 1 by omega]; rfl), ht9⟩) (fun _ h => nomatch h) dX5_changing_38 hlocks
      · skip
        have hpr := hI.pr (p := p) (by omega) (by omega)
        obtain ⟨hp1, hp2, hp3, hp4, hp5⟩ := id hpr
        have hcr := chg_r hpr c
        obtain ⟨hq0, hq1, hq2, hq3, hq4⟩ := hR.2.2.2 p (by omega) (by omega)
        refine lv_iload_n hx hb dX5_changing_14 rfl (lv_at hl 1 rfl) ?_
        refine lv_aload_n hx hb dX5_changing_15 rfl (lv_at hl 2 rfl) ?_
        refine lv_iload_n hx hb dX5_changing_16 rfl (lv_at hl 0 rfl) ?_
        refine lv_iload_n hx hb dX5_changing_17 rfl (lv_at hl 3 rfl) ?_
        refine wr_calli (va_runV (As := [.int (iI (p)), .int (iI (c))]) (rest := [.int (iI (acc))]) ⟨hx, hb, hml, hown, hts⟩ (c_X5_change l D cI cO cC cL b μ σ (p) (c) (by omega) (by omega) (hR) (hI)) (cwV 2 hts gX5_changing_X5_change rfl rfl rfl (by decide +kernel) ⟨Nat.le_of_ble_eq_true rfl, Nat.le_of_ble_eq_true rfl⟩) ⟨pcR_blind, va_recv hK hP (ci := 5) (q0 := 0) rfl rfl, pcR_of hP hK⟩ rfl rfl hl.1 rfl (lv_room (Nat.le_of_ble_eq_true rfl)) dX5_changing_18 ⟨(Nat.zero_le _), (Nat.zero_le _)⟩) (fun r1 hr1 => ?_)
        subst hr1
        refine wi_if_ne (tgt := 28) hx hb dX5_changing_21 (by decide) (by omega) (fun c_21 => ?_) (fun c_21 => ?_)
        · skip
          refine wi_iconst hx hb dX5_changing_28 ?_
          refine wi_iadd hx hb dX5_changing_29 ?_
          refine lv_istore_n (lv' := [(2, .int (iI ((acc + 1)))), (3, .int (iI (p))), (0, .ref (b 0)), (1, .int (iI (c)))]) hx hb dX5_changing_30 rfl hl (by decide) rfl (fun ls hl => ?_)
          refine wi_iinc (lv' := [(3, .int (iI ((p + 1)))), (2, .int (iI ((acc + 1)))), (0, .ref (b 0)), (1, .int (iI (c)))]) hx hb dX5_changing_31 hl (k := 1) rfl (by decide) rfl (fun ls hl => ?_)
          refine lv_goto (tgt := 4) hx hb dX5_changing_34 (by decide) ?_
          exact ih4 ((p + 1)) ((acc + 1)) (by omega) (by omega) (by rw [sm_step (by omega)]; omega)  ls (lv_sub hl [0, 1, 2, 3] rfl)
        · skip
          refine wi_iconst hx hb dX5_changing_24 ?_
          refine lv_goto (tgt := 29) hx hb dX5_changing_25 (by decide) ?_
          refine wi_iadd hx hb dX5_changing_29 ?_
          refine lv_istore_n (lv' := [(2, .int (iI ((acc + 0)))), (3, .int (iI (p))), (0, .ref (b 0)), (1, .int (iI (c)))]) hx hb dX5_changing_30 rfl hl (by decide) rfl (fun ls hl => ?_)
          refine wi_iinc (lv' := [(3, .int (iI ((p + 1)))), (2, .int (iI ((acc + 0)))), (0, .ref (b 0)), (1, .int (iI (c)))]) hx hb dX5_changing_31 hl (k := 1) rfl (by decide) rfl (fun ls hl => ?_)
          refine lv_goto (tgt := 4) hx hb dX5_changing_34 (by decide) ?_
          exact ih4 ((p + 1)) ((acc + 0)) (by omega) (by omega) (by rw [sm_step (by omega)]; omega)  ls (lv_sub hl [0, 1, 2, 3] rfl)
  exact L4 _ (0) (0) (Nat.lt_succ_self _) (by omega) (rfl)  ls (lv_sub hl [0, 1, 2, 3] rfl)
set_option maxHeartbeats 4000000 in
set_option maxRecDepth 100000 in
theorem c_X5_transfers (l : Launch) (D : va_G) (cI cO cC cL : ClassId) (b : Nat → Nat) (μ σ : Nat → Int → Int) (hR : RelN σ (μ 1)) (hI : Inv σ) : Met l yX5_transfers wsX5_transfers ({ frames := 1, cells := 0, slots := 0, locals := 22 } : Room) (pcR D [(cI, FieldType.int)] [.ref (b 0)] (fl [mdW cI b μ])) (wr_Si (fun r => r = trN σ)) 0 0 (fun _ => False) := by
  refine Met.ofW (cc := cX5_transfers) (maxL := 3) (ret := (some .int)) (by decide) rfl ?_
  intro p9 e9 s m args9 below9 meth9 c9 s₁ B hml hv
  obtain ⟨rfl, hP, hK⟩ := hv
  have hx := B.exec
  have hb := B.bytes
  have hr := B.returns
  have hts := atoms_spec (ws := wsX5_transfers) B.pre
  have hown : s.vm.findClass RX5 = some m.cls := findClass_of_methodNamed B.named
  have hlocks := B.notSynchronized
  have hl := lv_entry ([.ref (b 0)]) (n := 3) (Nat.le_of_ble_eq_true rfl)
  rw [lg_entry_eq]
  generalize (lg_sl ([.ref (b 0)]) ++ List.replicate (3 - (lg_sl ([.ref (b 0)])).length) Slot.unset).toArray = ls at hl ⊢
  have hl : lv_has ls 3 [(0, .ref (b 0))] := hl
  have hw_0 := hts (.fieldLink RX5 7 "PromisedCountersModel" "now" "[I") (by decide +kernel)
  have hin_X5 : ∀ w ∈ u_ws RX5 TX5 12, w ∈ wsX5_transfers := by decide +kernel
  have hn := hI.n
  have hti := hI.t
  obtain ⟨hm0, hm1, hm2, hm3, hm4⟩ := hR.1
  refine wi_iconst hx hb dX5_transfers_0 ?_
  refine lv_istore_n (lv' := [(1, .int (iI (0))), (0, .ref (b 0))]) hx hb dX5_transfers_1 rfl hl (by decide) rfl (fun ls hl => ?_)
  refine wi_iconst hx hb dX5_transfers_2 ?_
  refine lv_istore_n (lv' := [(2, .int (iI (0))), (1, .int (iI (0))), (0, .ref (b 0))]) hx hb dX5_transfers_3 rfl hl (by decide) rfl (fun ls hl => ?_)
  have L4 : ∀ (k4 : Nat), ∀ (p : Int) (acc : Int), (σ 0 1 - p).toNat < k4 → (0 ≤ p ∧ p ≤ σ 0 1) → (acc = sm (fun p => if σ 8 p = -1 then 0 else 1) p.toNat) → ∀ (ls : Array Slot), lv_has ls 3 [(2, .int (iI (p))), (1, .int (iI (acc))), (0, .ref (b 0))] → W p9 l e9 ({ frames := 1, cells := 0, slots := 0, locals := 22 } : Room) s m ([.ref (b 0)] : List Value).toArray below9 meth9 c9 s.heap [] 0 0 (MQ below9 (wr_Si (fun r => r = trN σ)) ([.ref (b 0)] : List Value).toArray s 0 0 (fun _ => False)) (F0 m 4 ls []) := by
    intro k4
    induction k4 with
    | zero =>
      intro p acc hm
      exact absurd hm (Nat.not_lt_zero _)
    | succ k4 ih4 =>
      intro p acc hm4 hp hacc ls hl
      refine lv_iload_n hx hb dX5_transfers_4 rfl (lv_at hl 0 rfl) ?_
      refine lv_aload_n hx hb dX5_transfers_5 rfl (lv_at hl 2 rfl) ?_
      refine va_get (D := D) (ci := 5) (v := .ref (b 1)) (C := RX5) (T := TX5) (N := 12) hx hb hts hin_X5 hown hK hP 0 rfl rfl 0 (by decide) hw_0 (fun _ h9 => h9) rfl dX5_transfers_6 ?_
      refine wi_iconst hx hb dX5_transfers_9 ?_
      refine wi_iald hx hb hK hP 1 0 (n := 115) (f := μ 1) rfl rfl (i := 3) (by omega) (by decide) dX5_transfers_10 ?_
      refine wi_icmp_ge (tgt := 38) hx hb dX5_transfers_11 (by decide) (by omega) (fun c_11 => ?_) (fun c_11 => ?_)
      · skip
        refine lv_iload_n hx hb dX5_transfers_38 rfl (lv_at hl 1 rfl) ?_
        exact W.iret (v := iI (acc)) hx hb hr (fun t9 ht9 hW9 => ⟨(acc), rfl, (by rw [hacc, show p = σ 0 1 by omega]; rfl), ht9⟩) (fun _ h => nomatch h) dX5_transfers_39 hlocks
      · skip
        have hpr := hI.pr (p := p) (by omega) (by omega)
        obtain ⟨hp1, hp2, hp3, hp4, hp5⟩ := id hpr
        obtain ⟨hq0, hq1, hq2, hq3, hq4⟩ := hR.2.2.2 p (by omega) (by omega)
        refine lv_iload_n hx hb dX5_transfers_14 rfl (lv_at hl 1 rfl) ?_
        refine lv_aload_n hx hb dX5_transfers_15 rfl (lv_at hl 2 rfl) ?_
        refine lv_iload_n hx hb dX5_transfers_16 rfl (lv_at hl 0 rfl) ?_
        refine wi_iconst hx hb dX5_transfers_17 ?_
        refine wr_calli (va_runV (As := [.int (iI (p)), .int (iI (3))]) (rest := [.int (iI (acc))]) ⟨hx, hb, hml, hown, hts⟩ (c_X5_of l D cI cO cC cL b μ (p) (3) (by omega) (by omega)) (cwV 2 hts gX5_transfers_X5_of rfl rfl rfl (by decide +kernel) ⟨Nat.le_of_ble_eq_true rfl, Nat.le_of_ble_eq_true rfl⟩) ⟨pcR_blind, va_recv hK hP (ci := 5) (q0 := 0) rfl rfl, pcR_of hP hK⟩ rfl rfl hl.1 rfl (lv_room (Nat.le_of_ble_eq_true rfl)) dX5_transfers_18 ⟨(Nat.zero_le _), (Nat.zero_le _)⟩) (fun r1 hr1 => ?_)
        subst hr1
        refine wi_iconst hx hb dX5_transfers_21 ?_
        refine wi_icmp_ne (tgt := 29) hx hb dX5_transfers_22 (by decide) (by omega) (fun c_22 => ?_) (fun c_22 => ?_)
        · skip
          refine wi_iconst hx hb dX5_transfers_29 ?_
          refine wi_iadd hx hb dX5_transfers_30 ?_
          refine lv_istore_n (lv' := [(1, .int (iI ((acc + 1)))), (2, .int (iI (p))), (0, .ref (b 0))]) hx hb dX5_transfers_31 rfl hl (by decide) rfl (fun ls hl => ?_)
          refine wi_iinc (lv' := [(2, .int (iI ((p + 1)))), (1, .int (iI ((acc + 1)))), (0, .ref (b 0))]) hx hb dX5_transfers_32 hl (k := 1) rfl (by decide) rfl (fun ls hl => ?_)
          refine lv_goto (tgt := 4) hx hb dX5_transfers_35 (by decide) ?_
          exact ih4 ((p + 1)) ((acc + 1)) (by omega) (by omega) (by rw [sm_step (by omega)]; omega)  ls (lv_sub hl [0, 1, 2] rfl)
        · skip
          refine wi_iconst hx hb dX5_transfers_25 ?_
          refine lv_goto (tgt := 30) hx hb dX5_transfers_26 (by decide) ?_
          refine wi_iadd hx hb dX5_transfers_30 ?_
          refine lv_istore_n (lv' := [(1, .int (iI ((acc + 0)))), (2, .int (iI (p))), (0, .ref (b 0))]) hx hb dX5_transfers_31 rfl hl (by decide) rfl (fun ls hl => ?_)
          refine wi_iinc (lv' := [(2, .int (iI ((p + 1)))), (1, .int (iI ((acc + 0)))), (0, .ref (b 0))]) hx hb dX5_transfers_32 hl (k := 1) rfl (by decide) rfl (fun ls hl => ?_)
          refine lv_goto (tgt := 4) hx hb dX5_transfers_35 (by decide) ?_
          exact ih4 ((p + 1)) ((acc + 0)) (by omega) (by omega) (by rw [sm_step (by omega)]; omega)  ls (lv_sub hl [0, 1, 2] rfl)
  exact L4 _ (0) (0) (Nat.lt_succ_self _) (by omega) (rfl)  ls (lv_sub hl [0, 1, 2] rfl)
set_option maxHeartbeats 4000000 in
set_option maxRecDepth 100000 in
theorem c_X5_firstLapse (l : Launch) (D : va_G) (cI cO cC cL : ClassId) (b : Nat → Nat) (μ σ : Nat → Int → Int) (hR : RelN σ (μ 1)) (hI : Inv σ) : Met l yX5_firstLapse wsX5_firstLapse ({ frames := 1, cells := 0, slots := 0, locals := 22 } : Room) (pcR D [(cI, FieldType.int)] [.ref (b 0)] (fl [mdW cI b μ])) (wr_Si (fun r => r = frS σ)) 0 0 (fun _ => False) := by
  refine Met.ofW (cc := cX5_firstLapse) (maxL := 3) (ret := (some .int)) (by decide) rfl ?_
  intro p9 e9 s m args9 below9 meth9 c9 s₁ B hml hv
  obtain ⟨rfl, hP, hK⟩ := hv
  have hx := B.exec
  have hb := B.bytes
  have hr := B.returns
  have hts := atoms_spec (ws := wsX5_firstLapse) B.pre
  have hown : s.vm.findClass RX5 = some m.cls := findClass_of_methodNamed B.named
  have hlocks := B.notSynchronized
  have hl := lv_entry ([.ref (b 0)]) (n := 3) (Nat.le_of_ble_eq_true rfl)
  rw [lg_entry_eq]
  generalize (lg_sl ([.ref (b 0)]) ++ List.replicate (3 - (lg_sl ([.ref (b 0)])).length) Slot.unset).toArray = ls at hl ⊢
  have hl : lv_has ls 3 [(0, .ref (b 0))] := hl
  have hw_0 := hts (.fieldLink RX5 7 "PromisedCountersModel" "now" "[I") (by decide +kernel)
  have hin_X5 : ∀ w ∈ u_ws RX5 TX5 12, w ∈ wsX5_firstLapse := by decide +kernel
  have hn := hI.n
  have hti := hI.t
  obtain ⟨hm0, hm1, hm2, hm3, hm4⟩ := hR.1
  refine wi_iconst hx hb dX5_firstLapse_0 ?_
  refine lv_istore_n (lv' := [(1, .int (iI (-1))), (0, .ref (b 0))]) hx hb dX5_firstLapse_1 rfl hl (by decide) rfl (fun ls hl => ?_)
  refine wi_iconst hx hb dX5_firstLapse_2 ?_
  refine lv_istore_n (lv' := [(2, .int (iI (0))), (1, .int (iI (-1))), (0, .ref (b 0))]) hx hb dX5_firstLapse_3 rfl hl (by decide) rfl (fun ls hl => ?_)
  have L4 : ∀ (k4 : Nat), ∀ (p : Int) (acc : Int), (σ 0 1 - p).toNat < k4 → (0 ≤ p ∧ p ≤ σ 0 1) → (acc = fL (σ 9) p.toNat) → (-1 ≤ acc ∧ acc ≤ 20000) → ∀ (ls : Array Slot), lv_has ls 3 [(2, .int (iI (p))), (1, .int (iI (acc))), (0, .ref (b 0))] → W p9 l e9 ({ frames := 1, cells := 0, slots := 0, locals := 22 } : Room) s m ([.ref (b 0)] : List Value).toArray below9 meth9 c9 s.heap [] 0 0 (MQ below9 (wr_Si (fun r => r = frS σ)) ([.ref (b 0)] : List Value).toArray s 0 0 (fun _ => False)) (F0 m 4 ls []) := by
    intro k4
    induction k4 with
    | zero =>
      intro p acc hm
      exact absurd hm (Nat.not_lt_zero _)
    | succ k4 ih4 =>
      intro p acc hm4 hp hacc hra ls hl
      refine lv_iload_n hx hb dX5_firstLapse_4 rfl (lv_at hl 0 rfl) ?_
      refine lv_aload_n hx hb dX5_firstLapse_5 rfl (lv_at hl 2 rfl) ?_
      refine va_get (D := D) (ci := 5) (v := .ref (b 1)) (C := RX5) (T := TX5) (N := 12) hx hb hts hin_X5 hown hK hP 0 rfl rfl 0 (by decide) hw_0 (fun _ h9 => h9) rfl dX5_firstLapse_6 ?_
      refine wi_iconst hx hb dX5_firstLapse_9 ?_
      refine wi_iald hx hb hK hP 1 0 (n := 115) (f := μ 1) rfl rfl (i := 3) (by omega) (by decide) dX5_firstLapse_10 ?_
      refine wi_icmp_ge (tgt := 46) hx hb dX5_firstLapse_11 (by decide) (by omega) (fun c_11 => ?_) (fun c_11 => ?_)
      · skip
        refine lv_iload_n hx hb dX5_firstLapse_46 rfl (lv_at hl 1 rfl) ?_
        exact W.iret (v := iI (acc)) hx hb hr (fun t9 ht9 hW9 => ⟨(acc), rfl, (by rw [hacc, show p = σ 0 1 by omega]; rfl), ht9⟩) (fun _ h => nomatch h) dX5_firstLapse_47 hlocks
      · skip
        have hpr := hI.pr (p := p) (by omega) (by omega)
        obtain ⟨hp1, hp2, hp3, hp4, hp5⟩ := id hpr
        obtain ⟨hq0, hq1, hq2, hq3, hq4⟩ := hR.2.2.2 p (by omega) (by omega)
        refine lv_iload_n hx hb dX5_firstLapse_14 rfl (lv_at hl 1 rfl) ?_
        refine wi_iconst hx hb dX5_firstLapse_15 ?_
        refine wi_icmp_eq (tgt := 29) hx hb dX5_firstLapse_16 (by decide) (by omega) (fun c_16 => ?_) (fun c_16 => ?_)
        · skip
          refine lv_aload_n hx hb dX5_firstLapse_29 rfl (lv_at hl 2 rfl) ?_
          refine lv_iload_n hx hb dX5_firstLapse_30 rfl (lv_at hl 0 rfl) ?_
          refine wi_iconst hx hb dX5_firstLapse_31 ?_
          refine wr_calli (va_runV (As := [.int (iI (p)), .int (iI (4))]) (rest := []) ⟨hx, hb, hml, hown, hts⟩ (c_X5_of l D cI cO cC cL b μ (p) (4) (by omega) (by omega)) (cwV 2 hts gX5_firstLapse_X5_of rfl rfl rfl (by decide +kernel) ⟨Nat.le_of_ble_eq_true rfl, Nat.le_of_ble_eq_true rfl⟩) ⟨pcR_blind, va_recv hK hP (ci := 5) (q0 := 0) rfl rfl, pcR_of hP hK⟩ rfl rfl hl.1 rfl (lv_room (Nat.le_of_ble_eq_true rfl)) dX5_firstLapse_32 ⟨(Nat.zero_le _), (Nat.zero_le _)⟩) (fun r1 hr1 => ?_)
          subst hr1
          refine lv_goto (tgt := 39) hx hb dX5_firstLapse_35 (by decide) ?_
          refine lv_istore_n (lv' := [(1, .int (iI ((μ 1 (35 + 5 * (p) + (4)))))), (2, .int (iI (p))), (0, .ref (b 0))]) hx hb dX5_firstLapse_39 rfl hl (by decide) rfl (fun ls hl => ?_)
          refine wi_iinc (lv' := [(2, .int (iI ((p + 1)))), (1, .int (iI ((μ 1 (35 + 5 * (p) + (4)))))), (0, .ref (b 0))]) hx hb dX5_firstLapse_40 hl (k := 1) rfl (by decide) rfl (fun ls hl => ?_)
          refine lv_goto (tgt := 4) hx hb dX5_firstLapse_43 (by decide) ?_
          exact ih4 ((p + 1)) ((μ 1 (35 + 5 * (p) + (4)))) (by omega) (by omega) (by rw [fL_step (by omega), ← hacc]; first | (rw [if_pos (by omega)] <;> omega) | (rw [if_neg (by omega)] <;> omega)) (by omega)  ls (lv_sub hl [0, 1, 2] rfl)
        · skip
          refine lv_aload_n hx hb dX5_firstLapse_19 rfl (lv_at hl 2 rfl) ?_
          refine lv_iload_n hx hb dX5_firstLapse_20 rfl (lv_at hl 0 rfl) ?_
          refine wi_iconst hx hb dX5_firstLapse_21 ?_
          refine wr_calli (va_runV (As := [.int (iI (p)), .int (iI (4))]) (rest := []) ⟨hx, hb, hml, hown, hts⟩ (c_X5_of l D cI cO cC cL b μ (p) (4) (by omega) (by omega)) (cwV 2 hts gX5_firstLapse_X5_of rfl rfl rfl (by decide +kernel) ⟨Nat.le_of_ble_eq_true rfl, Nat.le_of_ble_eq_true rfl⟩) ⟨pcR_blind, va_recv hK hP (ci := 5) (q0 := 0) rfl rfl, pcR_of hP hK⟩ rfl rfl hl.1 rfl (lv_room (Nat.le_of_ble_eq_true rfl)) dX5_firstLapse_22 ⟨(Nat.zero_le _), (Nat.zero_le _)⟩) (fun r2 hr2 => ?_)
          subst hr2
          refine lv_iload_n hx hb dX5_firstLapse_25 rfl (lv_at hl 1 rfl) ?_
          refine wi_icmp_ge (tgt := 38) hx hb dX5_firstLapse_26 (by decide) (by omega) (fun c_26 => ?_) (fun c_26 => ?_)
          · skip
            refine lv_iload_n hx hb dX5_firstLapse_38 rfl (lv_at hl 1 rfl) ?_
            refine lv_istore_n (lv' := [(1, .int (iI (acc))), (2, .int (iI (p))), (0, .ref (b 0))]) hx hb dX5_firstLapse_39 rfl hl (by decide) rfl (fun ls hl => ?_)
            refine wi_iinc (lv' := [(2, .int (iI ((p + 1)))), (1, .int (iI (acc))), (0, .ref (b 0))]) hx hb dX5_firstLapse_40 hl (k := 1) rfl (by decide) rfl (fun ls hl => ?_)
            refine lv_goto (tgt := 4) hx hb dX5_firstLapse_43 (by decide) ?_
            exact ih4 ((p + 1)) (acc) (by omega) (by omega) (by rw [fL_step (by omega), ← hacc]; first | (rw [if_pos (by omega)] <;> omega) | (rw [if_neg (by omega)] <;> omega)) (by omega)  ls (lv_sub hl [0, 1, 2] rfl)
          · skip
            refine lv_aload_n hx hb dX5_firstLapse_29 rfl (lv_at hl 2 rfl) ?_
            refine lv_iload_n hx hb dX5_firstLapse_30 rfl (lv_at hl 0 rfl) ?_
            refine wi_iconst hx hb dX5_firstLapse_31 ?_
            refine wr_calli (va_runV (As := [.int (iI (p)), .int (iI (4))]) (rest := []) ⟨hx, hb, hml, hown, hts⟩ (c_X5_of l D cI cO cC cL b μ (p) (4) (by omega) (by omega)) (cwV 2 hts gX5_firstLapse_X5_of rfl rfl rfl (by decide +kernel) ⟨Nat.le_of_ble_eq_true rfl, Nat.le_of_ble_eq_true rfl⟩) ⟨pcR_blind, va_recv hK hP (ci := 5) (q0 := 0) rfl rfl, pcR_of hP hK⟩ rfl rfl hl.1 rfl (lv_room (Nat.le_of_ble_eq_true rfl)) dX5_firstLapse_32 ⟨(Nat.zero_le _), (Nat.zero_le _)⟩) (fun r3 hr3 => ?_)
            subst hr3
            refine lv_goto (tgt := 39) hx hb dX5_firstLapse_35 (by decide) ?_
            refine lv_istore_n (lv' := [(1, .int (iI ((μ 1 (35 + 5 * (p) + (4)))))), (2, .int (iI (p))), (0, .ref (b 0))]) hx hb dX5_firstLapse_39 rfl hl (by decide) rfl (fun ls hl => ?_)
            refine wi_iinc (lv' := [(2, .int (iI ((p + 1)))), (1, .int (iI ((μ 1 (35 + 5 * (p) + (4)))))), (0, .ref (b 0))]) hx hb dX5_firstLapse_40 hl (k := 1) rfl (by decide) rfl (fun ls hl => ?_)
            refine lv_goto (tgt := 4) hx hb dX5_firstLapse_43 (by decide) ?_
            exact ih4 ((p + 1)) ((μ 1 (35 + 5 * (p) + (4)))) (by omega) (by omega) (by rw [fL_step (by omega), ← hacc]; first | (rw [if_pos (by omega)] <;> omega) | (rw [if_neg (by omega)] <;> omega)) (by omega)  ls (lv_sub hl [0, 1, 2] rfl)
  exact L4 _ (0) (-1) (Nat.lt_succ_self _) (by omega) (rfl) (by omega)  ls (lv_sub hl [0, 1, 2] rfl)
set_option maxHeartbeats 4000000 in
set_option maxRecDepth 100000 in
theorem c_X5_ended (l : Launch) (D : va_G) (cI cO cC cL : ClassId) (b : Nat → Nat) (μ σ : Nat → Int → Int) (k : Int) (hk : k = 17 ∨ k = 23 ∨ k = 29) : Met l yX5_ended wsX5_ended ({ frames := 0, cells := 0, slots := 0, locals := 0 } : Room) (pcR D [(cI, FieldType.int)] [.ref (b 0), .int (iI (k))] (fl [mdW cI b μ])) (wr_Si (fun r => r = sm (fun o => μ 1 (k + o)) 6)) 0 0 (fun _ => False) := by
  refine Met.ofW (cc := cX5_ended) (maxL := 4) (ret := (some .int)) (by decide) rfl ?_
  intro p9 e9 s m args9 below9 meth9 c9 s₁ B hml hv
  obtain ⟨rfl, hP, hK⟩ := hv
  have hx := B.exec
  have hb := B.bytes
  have hr := B.returns
  have hts := atoms_spec (ws := wsX5_ended) B.pre
  have hown : s.vm.findClass RX5 = some m.cls := findClass_of_methodNamed B.named
  have hlocks := B.notSynchronized
  have hl := lv_entry ([.ref (b 0), .int (iI (k))]) (n := 4) (Nat.le_of_ble_eq_true rfl)
  rw [lg_entry_eq]
  generalize (lg_sl ([.ref (b 0), .int (iI (k))]) ++ List.replicate (4 - (lg_sl ([.ref (b 0), .int (iI (k))])).length) Slot.unset).toArray = ls at hl ⊢
  have hl : lv_has ls 4 [(0, .ref (b 0)), (1, .int (iI (k)))] := hl
  have hw_0 := hts (.fieldLink RX5 7 "PromisedCountersModel" "now" "[I") (by decide +kernel)
  have hin_X5 : ∀ w ∈ u_ws RX5 TX5 12, w ∈ wsX5_ended := by decide +kernel
  refine wi_iconst hx hb dX5_ended_0 ?_
  refine lv_istore_n (lv' := [(2, .int (iI (0))), (0, .ref (b 0)), (1, .int (iI (k)))]) hx hb dX5_ended_1 rfl hl (by decide) rfl (fun ls hl => ?_)
  refine wi_iconst hx hb dX5_ended_2 ?_
  refine lv_istore_n (lv' := [(3, .int (iI (0))), (2, .int (iI (0))), (0, .ref (b 0)), (1, .int (iI (k)))]) hx hb dX5_ended_3 rfl hl (by decide) rfl (fun ls hl => ?_)
  have L4 : ∀ (k4 : Nat), ∀ (p : Int) (acc : Int), (6 - p).toNat < k4 → (0 ≤ p ∧ p ≤ 6) → (acc = sm (fun o => μ 1 (k + o)) p.toNat) → ∀ (ls : Array Slot), lv_has ls 4 [(3, .int (iI (p))), (2, .int (iI (acc))), (0, .ref (b 0)), (1, .int (iI (k)))] → W p9 l e9 ({ frames := 0, cells := 0, slots := 0, locals := 0 } : Room) s m ([.ref (b 0), .int (iI (k))] : List Value).toArray below9 meth9 c9 s.heap [] 0 0 (MQ below9 (wr_Si (fun r => r = sm (fun o => μ 1 (k + o)) 6)) ([.ref (b 0), .int (iI (k))] : List Value).toArray s 0 0 (fun _ => False)) (F0 m 4 ls []) := by
    intro k4
    induction k4 with
    | zero =>
      intro p acc hm
      exact absurd hm (Nat.not_lt_zero _)
    | succ k4 ih4 =>
      intro p acc hm4 hp hacc ls hl
      refine lv_iload_n hx hb dX5_ended_4 rfl (lv_at hl 0 rfl) ?_
      refine wi_bipush hx hb dX5_ended_5 (by decide) ?_
      refine wi_icmp_ge (tgt := 27) hx hb dX5_ended_7 (by decide) (by omega) (fun c_7 => ?_) (fun c_7 => ?_)
      · skip
        refine lv_iload_n hx hb dX5_ended_27 rfl (lv_at hl 1 rfl) ?_
        exact W.iret (v := iI (acc)) hx hb hr (fun t9 ht9 hW9 => ⟨(acc), rfl, (by rw [hacc, show p = 6 by omega]; rfl), ht9⟩) (fun _ h => nomatch h) dX5_ended_28 hlocks
      · skip
        refine lv_iload_n hx hb dX5_ended_10 rfl (lv_at hl 1 rfl) ?_
        refine lv_aload_n hx hb dX5_ended_11 rfl (lv_at hl 2 rfl) ?_
        refine va_get (D := D) (ci := 5) (v := .ref (b 1)) (C := RX5) (T := TX5) (N := 12) hx hb hts hin_X5 hown hK hP 0 rfl rfl 0 (by decide) hw_0 (fun _ h9 => h9) rfl dX5_ended_12 ?_
        refine lv_iload_n hx hb dX5_ended_15 rfl (lv_at hl 3 rfl) ?_
        refine lv_iload_n hx hb dX5_ended_16 rfl (lv_at hl 0 rfl) ?_
        refine wi_iadd hx hb dX5_ended_17 ?_
        refine wi_iald hx hb hK hP 1 0 (n := 115) (f := μ 1) rfl rfl (i := (k + p)) (by omega) (by decide) dX5_ended_18 ?_
        refine wi_iadd hx hb dX5_ended_19 ?_
        refine lv_istore_n (lv' := [(2, .int (iI ((acc + (μ 1 ((k + p))))))), (3, .int (iI (p))), (0, .ref (b 0)), (1, .int (iI (k)))]) hx hb dX5_ended_20 rfl hl (by decide) rfl (fun ls hl => ?_)
        refine wi_iinc (lv' := [(3, .int (iI ((p + 1)))), (2, .int (iI ((acc + (μ 1 ((k + p))))))), (0, .ref (b 0)), (1, .int (iI (k)))]) hx hb dX5_ended_21 hl (k := 1) rfl (by decide) rfl (fun ls hl => ?_)
        refine lv_goto (tgt := 4) hx hb dX5_ended_24 (by decide) ?_
        exact ih4 ((p + 1)) ((acc + (μ 1 ((k + p))))) (by omega) (by omega) (by rw [sm_step (by omega)]; omega)  ls (lv_sub hl [0, 1, 2, 3] rfl)
  exact L4 _ (0) (0) (Nat.lt_succ_self _) (by omega) (rfl)  ls (lv_sub hl [0, 1, 2, 3] rfl)
set_option maxHeartbeats 4000000 in
set_option maxRecDepth 100000 in
theorem c_X5_reason (l : Launch) (D : va_G) (cI cO cC cL : ClassId) (b : Nat → Nat) (μ σ : Nat → Int → Int) (o c y to : Int) (ho : R32 o) (hc : 0 ≤ c ∧ c < 4) (hy : -99 ≤ y ∧ y ≤ 99 ∧ y ≠ 0) (hto : to = -1 ∨ (0 ≤ to ∧ to < 4 ∧ y < 0)) (hR : RelN σ (μ 1)) (hI : Inv σ) : Met l yX5_reason wsX5_reason ({ frames := 4, cells := 0, slots := 0, locals := 91 } : Room) (pcR D [(cI, FieldType.int)] [.ref (b 0), .int (iI (o)), .int (iI (c)), .int (iI (y)), .int (iI (to))] (fl [mdW cI b μ])) (wr_Si (fun r => r = reasonS σ o c y to)) 0 0 (fun _ => False) := by
  refine Met.ofW (cc := cX5_reason) (maxL := 8) (ret := (some .int)) (by decide) rfl ?_
  intro p9 e9 s m args9 below9 meth9 c9 s₁ B hml hv
  obtain ⟨rfl, hP, hK⟩ := hv
  have hx := B.exec
  have hb := B.bytes
  have hr := B.returns
  have hts := atoms_spec (ws := wsX5_reason) B.pre
  have hown : s.vm.findClass RX5 = some m.cls := findClass_of_methodNamed B.named
  have hlocks := B.notSynchronized
  have hl := lv_entry ([.ref (b 0), .int (iI (o)), .int (iI (c)), .int (iI (y)), .int (iI (to))]) (n := 8) (Nat.le_of_ble_eq_true rfl)
  rw [lg_entry_eq]
  generalize (lg_sl ([.ref (b 0), .int (iI (o)), .int (iI (c)), .int (iI (y)), .int (iI (to))]) ++ List.replicate (8 - (lg_sl ([.ref (b 0), .int (iI (o)), .int (iI (c)), .int (iI (y)), .int (iI (to))])).length) Slot.unset).toArray = ls at hl ⊢
  have hl : lv_has ls 8 [(0, .ref (b 0)), (1, .int (iI (o))), (2, .int (iI (c))), (3, .int (iI (y))), (4, .int (iI (to)))] := hl
  have hw_0 := hts (.fieldLink RX5 7 "PromisedCountersModel" "now" "[I") (by decide +kernel)
  have hin_X5 : ∀ w ∈ u_ws RX5 TX5 12, w ∈ wsX5_reason := by decide +kernel
  have hn := hI.n
  have hti := hI.t
  obtain ⟨hm0, hm1, hm2, hm3, hm4⟩ := hR.1
  obtain ⟨hk1, hk2, hk3⟩ := hR.2.1 c hc.1 hc.2
  have hcc := hI.c hc.1 hc.2
  have hof := ofN_r hI o
  have hst := hI.2.2.1
  have hrn : reasonN σ o = if 16 ≤ σ 0 1 then 1 else if σ 1 0 ≤ ofN σ o then 2 else 0 := rfl
  refine lv_aload_n hx hb dX5_reason_0 rfl (lv_at hl 0 rfl) ?_
  refine va_get (D := D) (ci := 5) (v := .ref (b 1)) (C := RX5) (T := TX5) (N := 12) hx hb hts hin_X5 hown hK hP 0 rfl rfl 0 (by decide) hw_0 (fun _ h9 => h9) rfl dX5_reason_1 ?_
  refine wi_iconst hx hb dX5_reason_4 ?_
  refine wi_iald hx hb hK hP 1 0 (n := 115) (f := μ 1) rfl rfl (i := 3) (by omega) (by decide) dX5_reason_5 ?_
  refine wi_bipush hx hb dX5_reason_6 (by decide) ?_
  refine wi_icmp_ne (tgt := 13) hx hb dX5_reason_8 (by decide) (by omega) (fun c_8 => ?_) (fun c_8 => ?_)
  · skip
    refine lv_aload_n hx hb dX5_reason_13 rfl (lv_at hl 0 rfl) ?_
    refine lv_iload_n hx hb dX5_reason_14 rfl (lv_at hl 1 rfl) ?_
    refine wr_calli (va_runV (As := [.int (iI (o))]) (rest := []) ⟨hx, hb, hml, hown, hts⟩ (c_X5_promisesOf l D cI cO cC cL b μ σ (o) (ho) (hR) (hI)) (cwV 1 hts gX5_reason_X5_promisesOf rfl rfl rfl (by decide +kernel) ⟨Nat.le_of_ble_eq_true rfl, Nat.le_of_ble_eq_true rfl⟩) ⟨pcR_blind, va_recv hK hP (ci := 5) (q0 := 0) rfl rfl, pcR_of hP hK⟩ rfl rfl hl.1 rfl (lv_room (Nat.le_of_ble_eq_true rfl)) dX5_reason_15 ⟨(Nat.zero_le _), (Nat.zero_le _)⟩) (fun r1 hr1 => ?_)
    subst hr1
    refine lv_aload_n hx hb dX5_reason_18 rfl (lv_at hl 0 rfl) ?_
    refine va_get (D := D) (ci := 5) (v := .ref (b 1)) (C := RX5) (T := TX5) (N := 12) hx hb hts hin_X5 hown hK hP 0 rfl rfl 0 (by decide) hw_0 (fun _ h9 => h9) rfl dX5_reason_19 ?_
    refine wi_iconst hx hb dX5_reason_22 ?_
    refine wi_iald hx hb hK hP 1 0 (n := 115) (f := μ 1) rfl rfl (i := 1) (by omega) (by decide) dX5_reason_23 ?_
    refine wi_icmp_lt (tgt := 29) hx hb dX5_reason_24 (by decide) (by omega) (fun c_24 => ?_) (fun c_24 => ?_)
    · skip
      refine lv_iload_n hx hb dX5_reason_29 rfl (lv_at hl 3 rfl) ?_
      refine wi_if_ge (tgt := 37) hx hb dX5_reason_30 (by decide) (by omega) (fun c_30 => ?_) (fun c_30 => ?_)
      · skip
        refine lv_iload hx hb dX5_reason_37 (lv_at hl 4 rfl) ?_
        refine lv_istore (lv' := [(5, .int (iI (to))), (0, .ref (b 0)), (1, .int (iI (o))), (2, .int (iI (c))), (3, .int (iI (y))), (4, .int (iI (to)))]) hx hb dX5_reason_39 hl (by decide) rfl (fun ls hl => ?_)
        refine lv_iload_n hx hb dX5_reason_41 rfl (lv_at hl 4 rfl) ?_
        refine wi_if_ge (tgt := 50) hx hb dX5_reason_42 (by decide) (by omega) (fun c_42 => ?_) (fun c_42 => ?_)
        · skip
          refine lv_iload_n hx hb dX5_reason_50 rfl (lv_at hl 3 rfl) ?_
          refine lv_istore (lv' := [(6, .int (iI (c))), (5, .int (iI (to))), (0, .ref (b 0)), (1, .int (iI (o))), (2, .int (iI (c))), (3, .int (iI (y))), (4, .int (iI (to)))]) hx hb dX5_reason_51 hl (by decide) rfl (fun ls hl => ?_)
          refine lv_iload_n hx hb dX5_reason_53 rfl (lv_at hl 5 rfl) ?_
          refine wi_if_ge (tgt := 62) hx hb dX5_reason_54 (by decide) (by omega) (fun c_54 => ?_) (fun c_54 => ?_)
          · skip
            refine lv_iload_n hx hb dX5_reason_62 rfl (lv_at hl 5 rfl) ?_
            refine lv_istore (lv' := [(7, .int (iI (y))), (6, .int (iI (c))), (5, .int (iI (to))), (0, .ref (b 0)), (1, .int (iI (o))), (2, .int (iI (c))), (3, .int (iI (y))), (4, .int (iI (to)))]) hx hb dX5_reason_63 hl (by decide) rfl (fun ls hl => ?_)
            refine lv_iload hx hb dX5_reason_65 (lv_at hl 2 rfl) ?_
            refine wi_iconst hx hb dX5_reason_67 ?_
            refine wi_icmp_eq (tgt := 95) hx hb dX5_reason_68 (by decide) (by omega) (fun c_68 => ?_) (fun c_68 => ?_)
            · skip
              refine lv_iload hx hb dX5_reason_95 (lv_at hl 1 rfl) ?_
              refine wi_iconst hx hb dX5_reason_97 ?_
              refine wi_icmp_eq (tgt := 127) hx hb dX5_reason_98 (by decide) (by omega) (fun c_98 => ?_) (fun c_98 => ?_)
              · skip
                refine wi_iconst hx hb dX5_reason_127 ?_
                exact W.iret (v := iI (0)) hx hb hr (fun t9 ht9 hW9 => ⟨(0), rfl, (by (try have z1 := hcc2 to (by omega) (by omega)); (try have z2 := hkk to (by omega) (by omega)); unfold reasonS; first | (rw [if_pos (by omega)] <;> omega) | (rw [if_neg (by omega), if_pos (by omega)] <;> omega) | (rw [if_neg (by omega), if_neg (by omega), if_pos (by omega)] <;> omega) | (rw [if_neg (by omega), if_neg (by omega), if_neg (by omega), if_pos (by omega)] <;> omega) | (rw [if_neg (by omega), if_neg (by omega), if_neg (by omega), if_neg (by omega)] <;> omega)), ht9⟩) (fun _ h => nomatch h) dX5_reason_128 hlocks
              · skip
                have hcz : to = -1 ∨ (0 ≤ to ∧ to < 4) := by omega
                have hkk : ∀ z : Int, 0 ≤ z → z < 4 → μ 1 (13 + z) = σ 4 z := fun z h0 h1 => (hR.2.1 z h0 h1).2.2
                have hcc2 : ∀ z : Int, 0 ≤ z → z < 4 → -999 ≤ highS σ z ∧ highS σ z ≤ 999 ∧ -999 ≤ σ 4 z ∧ σ 4 z ≤ 999 := fun z h0 h1 => by have := hI.c h0 h1; omega
                refine lv_aload_n hx hb dX5_reason_101 rfl (lv_at hl 3 rfl) ?_
                refine lv_iload hx hb dX5_reason_102 (lv_at hl 1 rfl) ?_
                refine wr_calli (va_runV (As := [.int (iI (c))]) (rest := []) ⟨hx, hb, hml, hown, hts⟩ (c_X5_high l D cI cO cC cL b μ σ (c) (by omega) (hR) (hI)) (cwV 1 hts gX5_reason_X5_high rfl rfl rfl (by decide +kernel) ⟨Nat.le_of_ble_eq_true rfl, Nat.le_of_ble_eq_true rfl⟩) ⟨pcR_blind, va_recv hK hP (ci := 5) (q0 := 0) rfl rfl, pcR_of hP hK⟩ rfl rfl hl.1 rfl (lv_room (Nat.le_of_ble_eq_true rfl)) dX5_reason_104 ⟨(Nat.zero_le _), (Nat.zero_le _)⟩) (fun r2 hr2 => ?_)
                subst hr2
                refine lv_iload hx hb dX5_reason_107 (lv_at hl 0 rfl) ?_
                refine wi_iadd hx hb dX5_reason_109 ?_
                refine lv_aload_n hx hb dX5_reason_110 rfl (lv_at hl 3 rfl) ?_
                refine va_get (D := D) (ci := 5) (v := .ref (b 1)) (C := RX5) (T := TX5) (N := 12) hx hb hts hin_X5 hown hK hP 0 rfl rfl 0 (by decide) hw_0 (fun _ h9 => h9) rfl dX5_reason_111 ?_
                refine wi_bipush hx hb dX5_reason_114 (by decide) ?_
                refine lv_iload hx hb dX5_reason_116 (lv_at hl 1 rfl) ?_
                refine wi_iadd hx hb dX5_reason_118 ?_
                refine wi_iald hx hb hK hP 1 0 (n := 115) (f := μ 1) rfl rfl (i := (13 + c)) (by omega) (by decide) dX5_reason_119 ?_
                refine wi_icmp_le (tgt := 127) hx hb dX5_reason_120 (by decide) (by first | (have z1 := hcc2 to (by omega) (by omega); have z2 := hkk to (by omega) (by omega); omega) | (have z1 := hcc2 c (by omega) (by omega); have z2 := hkk c (by omega) (by omega); omega)) (fun c_120 => ?_) (fun c_120 => ?_)
                · skip
                  refine wi_iconst hx hb dX5_reason_127 ?_
                  exact W.iret (v := iI (0)) hx hb hr (fun t9 ht9 hW9 => ⟨(0), rfl, (by (try have z1 := hcc2 to (by omega) (by omega)); (try have z2 := hkk to (by omega) (by omega)); unfold reasonS; first | (rw [if_pos (by omega)] <;> omega) | (rw [if_neg (by omega), if_pos (by omega)] <;> omega) | (rw [if_neg (by omega), if_neg (by omega), if_pos (by omega)] <;> omega) | (rw [if_neg (by omega), if_neg (by omega), if_neg (by omega), if_pos (by omega)] <;> omega) | (rw [if_neg (by omega), if_neg (by omega), if_neg (by omega), if_neg (by omega)] <;> omega)), ht9⟩) (fun _ h => nomatch h) dX5_reason_128 hlocks
                · skip
                  refine wi_iconst hx hb dX5_reason_123 ?_
                  refine lv_goto (tgt := 128) hx hb dX5_reason_124 (by decide) ?_
                  exact W.iret (v := iI (4)) hx hb hr (fun t9 ht9 hW9 => ⟨(4), rfl, (by (try have z1 := hcc2 to (by omega) (by omega)); (try have z2 := hkk to (by omega) (by omega)); unfold reasonS; first | (rw [if_pos (by omega)] <;> omega) | (rw [if_neg (by omega), if_pos (by omega)] <;> omega) | (rw [if_neg (by omega), if_neg (by omega), if_pos (by omega)] <;> omega) | (rw [if_neg (by omega), if_neg (by omega), if_neg (by omega), if_pos (by omega)] <;> omega) | (rw [if_neg (by omega), if_neg (by omega), if_neg (by omega), if_neg (by omega)] <;> omega)), ht9⟩) (fun _ h => nomatch h) dX5_reason_128 hlocks
            · skip
              refine lv_aload_n hx hb dX5_reason_71 rfl (lv_at hl 3 rfl) ?_
              refine lv_iload hx hb dX5_reason_72 (lv_at hl 2 rfl) ?_
              refine wr_calli (va_runV (As := [.int (iI (to))]) (rest := []) ⟨hx, hb, hml, hown, hts⟩ (c_X5_low l D cI cO cC cL b μ σ (to) (by omega) (hR) (hI)) (cwV 1 hts gX5_reason_X5_low rfl rfl rfl (by decide +kernel) ⟨Nat.le_of_ble_eq_true rfl, Nat.le_of_ble_eq_true rfl⟩) ⟨pcR_blind, va_recv hK hP (ci := 5) (q0 := 0) rfl rfl, pcR_of hP hK⟩ rfl rfl hl.1 rfl (lv_room (Nat.le_of_ble_eq_true rfl)) dX5_reason_74 ⟨(Nat.zero_le _), (Nat.zero_le _)⟩) (fun r3 hr3 => ?_)
              subst hr3
              refine lv_iload hx hb dX5_reason_77 (lv_at hl 0 rfl) ?_
              refine wi_isub hx hb dX5_reason_79 ?_
              refine lv_aload_n hx hb dX5_reason_80 rfl (lv_at hl 3 rfl) ?_
              refine va_get (D := D) (ci := 5) (v := .ref (b 1)) (C := RX5) (T := TX5) (N := 12) hx hb hts hin_X5 hown hK hP 0 rfl rfl 0 (by decide) hw_0 (fun _ h9 => h9) rfl dX5_reason_81 ?_
              refine wi_bipush hx hb dX5_reason_84 (by decide) ?_
              refine lv_iload hx hb dX5_reason_86 (lv_at hl 2 rfl) ?_
              refine wi_iadd hx hb dX5_reason_88 ?_
              refine wi_iald hx hb hK hP 1 0 (n := 115) (f := μ 1) rfl rfl (i := (9 + to)) (by omega) (by decide) dX5_reason_89 ?_
              refine wi_icmp_ge (tgt := 95) hx hb dX5_reason_90 (by decide) (by omega) (fun c_90 => ?_) (fun c_90 => ?_)
              · skip
                refine lv_iload hx hb dX5_reason_95 (lv_at hl 1 rfl) ?_
                refine wi_iconst hx hb dX5_reason_97 ?_
                refine wi_icmp_eq (tgt := 127) hx hb dX5_reason_98 (by decide) (by omega) (fun c_98 => ?_) (fun c_98 => ?_)
                · skip
                  refine wi_iconst hx hb dX5_reason_127 ?_
                  exact W.iret (v := iI (0)) hx hb hr (fun t9 ht9 hW9 => ⟨(0), rfl, (by (try have z1 := hcc2 to (by omega) (by omega)); (try have z2 := hkk to (by omega) (by omega)); unfold reasonS; first | (rw [if_pos (by omega)] <;> omega) | (rw [if_neg (by omega), if_pos (by omega)] <;> omega) | (rw [if_neg (by omega), if_neg (by omega), if_pos (by omega)] <;> omega) | (rw [if_neg (by omega), if_neg (by omega), if_neg (by omega), if_pos (by omega)] <;> omega) | (rw [if_neg (by omega), if_neg (by omega), if_neg (by omega), if_neg (by omega)] <;> omega)), ht9⟩) (fun _ h => nomatch h) dX5_reason_128 hlocks
                · skip
                  have hcz : to = -1 ∨ (0 ≤ to ∧ to < 4) := by omega
                  have hkk : ∀ z : Int, 0 ≤ z → z < 4 → μ 1 (13 + z) = σ 4 z := fun z h0 h1 => (hR.2.1 z h0 h1).2.2
                  have hcc2 : ∀ z : Int, 0 ≤ z → z < 4 → -999 ≤ highS σ z ∧ highS σ z ≤ 999 ∧ -999 ≤ σ 4 z ∧ σ 4 z ≤ 999 := fun z h0 h1 => by have := hI.c h0 h1; omega
                  refine lv_aload_n hx hb dX5_reason_101 rfl (lv_at hl 3 rfl) ?_
                  refine lv_iload hx hb dX5_reason_102 (lv_at hl 1 rfl) ?_
                  refine wr_calli (va_runV (As := [.int (iI (c))]) (rest := []) ⟨hx, hb, hml, hown, hts⟩ (c_X5_high l D cI cO cC cL b μ σ (c) (by omega) (hR) (hI)) (cwV 1 hts gX5_reason_X5_high rfl rfl rfl (by decide +kernel) ⟨Nat.le_of_ble_eq_true rfl, Nat.le_of_ble_eq_true rfl⟩) ⟨pcR_blind, va_recv hK hP (ci := 5) (q0 := 0) rfl rfl, pcR_of hP hK⟩ rfl rfl hl.1 rfl (lv_room (Nat.le_of_ble_eq_true rfl)) dX5_reason_104 ⟨(Nat.zero_le _), (Nat.zero_le _)⟩) (fun r4 hr4 => ?_)
                  subst hr4
                  refine lv_iload hx hb dX5_reason_107 (lv_at hl 0 rfl) ?_
                  refine wi_iadd hx hb dX5_reason_109 ?_
                  refine lv_aload_n hx hb dX5_reason_110 rfl (lv_at hl 3 rfl) ?_
                  refine va_get (D := D) (ci := 5) (v := .ref (b 1)) (C := RX5) (T := TX5) (N := 12) hx hb hts hin_X5 hown hK hP 0 rfl rfl 0 (by decide) hw_0 (fun _ h9 => h9) rfl dX5_reason_111 ?_
                  refine wi_bipush hx hb dX5_reason_114 (by decide) ?_
                  refine lv_iload hx hb dX5_reason_116 (lv_at hl 1 rfl) ?_
                  refine wi_iadd hx hb dX5_reason_118 ?_
                  refine wi_iald hx hb hK hP 1 0 (n := 115) (f := μ 1) rfl rfl (i := (13 + c)) (by omega) (by decide) dX5_reason_119 ?_
                  refine wi_icmp_le (tgt := 127) hx hb dX5_reason_120 (by decide) (by first | (have z1 := hcc2 to (by omega) (by omega); have z2 := hkk to (by omega) (by omega); omega) | (have z1 := hcc2 c (by omega) (by omega); have z2 := hkk c (by omega) (by omega); omega)) (fun c_120 => ?_) (fun c_120 => ?_)
                  · skip
                    refine wi_iconst hx hb dX5_reason_127 ?_
                    exact W.iret (v := iI (0)) hx hb hr (fun t9 ht9 hW9 => ⟨(0), rfl, (by (try have z1 := hcc2 to (by omega) (by omega)); (try have z2 := hkk to (by omega) (by omega)); unfold reasonS; first | (rw [if_pos (by omega)] <;> omega) | (rw [if_neg (by omega), if_pos (by omega)] <;> omega) | (rw [if_neg (by omega), if_neg (by omega), if_pos (by omega)] <;> omega) | (rw [if_neg (by omega), if_neg (by omega), if_neg (by omega), if_pos (by omega)] <;> omega) | (rw [if_neg (by omega), if_neg (by omega), if_neg (by omega), if_neg (by omega)] <;> omega)), ht9⟩) (fun _ h => nomatch h) dX5_reason_128 hlocks
                  · skip
                    refine wi_iconst hx hb dX5_reason_123 ?_
                    refine lv_goto (tgt := 128) hx hb dX5_reason_124 (by decide) ?_
                    exact W.iret (v := iI (4)) hx hb hr (fun t9 ht9 hW9 => ⟨(4), rfl, (by (try have z1 := hcc2 to (by omega) (by omega)); (try have z2 := hkk to (by omega) (by omega)); unfold reasonS; first | (rw [if_pos (by omega)] <;> omega) | (rw [if_neg (by omega), if_pos (by omega)] <;> omega) | (rw [if_neg (by omega), if_neg (by omega), if_pos (by omega)] <;> omega) | (rw [if_neg (by omega), if_neg (by omega), if_neg (by omega), if_pos (by omega)] <;> omega) | (rw [if_neg (by omega), if_neg (by omega), if_neg (by omega), if_neg (by omega)] <;> omega)), ht9⟩) (fun _ h => nomatch h) dX5_reason_128 hlocks
              · skip
                refine wi_iconst hx hb dX5_reason_93 ?_
                exact W.iret (v := iI (3)) hx hb hr (fun t9 ht9 hW9 => ⟨(3), rfl, (by (try have z1 := hcc2 to (by omega) (by omega)); (try have z2 := hkk to (by omega) (by omega)); unfold reasonS; first | (rw [if_pos (by omega)] <;> omega) | (rw [if_neg (by omega), if_pos (by omega)] <;> omega) | (rw [if_neg (by omega), if_neg (by omega), if_pos (by omega)] <;> omega) | (rw [if_neg (by omega), if_neg (by omega), if_neg (by omega), if_pos (by omega)] <;> omega) | (rw [if_neg (by omega), if_neg (by omega), if_neg (by omega), if_neg (by omega)] <;> omega)), ht9⟩) (fun _ h => nomatch h) dX5_reason_94 hlocks
          · skip
            exfalso; omega
        · skip
          exfalso; omega
      · skip
        refine lv_iload_n hx hb dX5_reason_33 rfl (lv_at hl 2 rfl) ?_
        refine lv_goto (tgt := 39) hx hb dX5_reason_34 (by decide) ?_
        refine lv_istore (lv' := [(5, .int (iI (c))), (0, .ref (b 0)), (1, .int (iI (o))), (2, .int (iI (c))), (3, .int (iI (y))), (4, .int (iI (to)))]) hx hb dX5_reason_39 hl (by decide) rfl (fun ls hl => ?_)
        refine lv_iload_n hx hb dX5_reason_41 rfl (lv_at hl 4 rfl) ?_
        refine wi_if_ge (tgt := 50) hx hb dX5_reason_42 (by decide) (by omega) (fun c_42 => ?_) (fun c_42 => ?_)
        · skip
          exfalso; omega
        · skip
          refine lv_iload hx hb dX5_reason_45 (lv_at hl 5 rfl) ?_
          refine lv_goto (tgt := 51) hx hb dX5_reason_47 (by decide) ?_
          refine lv_istore (lv' := [(6, .int (iI (to))), (5, .int (iI (c))), (0, .ref (b 0)), (1, .int (iI (o))), (2, .int (iI (c))), (3, .int (iI (y))), (4, .int (iI (to)))]) hx hb dX5_reason_51 hl (by decide) rfl (fun ls hl => ?_)
          refine lv_iload_n hx hb dX5_reason_53 rfl (lv_at hl 5 rfl) ?_
          refine wi_if_ge (tgt := 62) hx hb dX5_reason_54 (by decide) (by omega) (fun c_54 => ?_) (fun c_54 => ?_)
          · skip
            exfalso; omega
          · skip
            refine lv_iload_n hx hb dX5_reason_57 rfl (lv_at hl 5 rfl) ?_
            refine wi_ineg hx hb dX5_reason_58 ?_
            refine lv_goto (tgt := 63) hx hb dX5_reason_59 (by decide) ?_
            refine lv_istore (lv' := [(7, .int (iI ((-y)))), (6, .int (iI (to))), (5, .int (iI (c))), (0, .ref (b 0)), (1, .int (iI (o))), (2, .int (iI (c))), (3, .int (iI (y))), (4, .int (iI (to)))]) hx hb dX5_reason_63 hl (by decide) rfl (fun ls hl => ?_)
            refine lv_iload hx hb dX5_reason_65 (lv_at hl 2 rfl) ?_
            refine wi_iconst hx hb dX5_reason_67 ?_
            refine wi_icmp_eq (tgt := 95) hx hb dX5_reason_68 (by decide) (by omega) (fun c_68 => ?_) (fun c_68 => ?_)
            · skip
              refine lv_iload hx hb dX5_reason_95 (lv_at hl 1 rfl) ?_
              refine wi_iconst hx hb dX5_reason_97 ?_
              refine wi_icmp_eq (tgt := 127) hx hb dX5_reason_98 (by decide) (by omega) (fun c_98 => ?_) (fun c_98 => ?_)
              · skip
                refine wi_iconst hx hb dX5_reason_127 ?_
                exact W.iret (v := iI (0)) hx hb hr (fun t9 ht9 hW9 => ⟨(0), rfl, (by (try have z1 := hcc2 to (by omega) (by omega)); (try have z2 := hkk to (by omega) (by omega)); unfold reasonS; first | (rw [if_pos (by omega)] <;> omega) | (rw [if_neg (by omega), if_pos (by omega)] <;> omega) | (rw [if_neg (by omega), if_neg (by omega), if_pos (by omega)] <;> omega) | (rw [if_neg (by omega), if_neg (by omega), if_neg (by omega), if_pos (by omega)] <;> omega) | (rw [if_neg (by omega), if_neg (by omega), if_neg (by omega), if_neg (by omega)] <;> omega)), ht9⟩) (fun _ h => nomatch h) dX5_reason_128 hlocks
              · skip
                have hcz : to = -1 ∨ (0 ≤ to ∧ to < 4) := by omega
                have hkk : ∀ z : Int, 0 ≤ z → z < 4 → μ 1 (13 + z) = σ 4 z := fun z h0 h1 => (hR.2.1 z h0 h1).2.2
                have hcc2 : ∀ z : Int, 0 ≤ z → z < 4 → -999 ≤ highS σ z ∧ highS σ z ≤ 999 ∧ -999 ≤ σ 4 z ∧ σ 4 z ≤ 999 := fun z h0 h1 => by have := hI.c h0 h1; omega
                refine lv_aload_n hx hb dX5_reason_101 rfl (lv_at hl 3 rfl) ?_
                refine lv_iload hx hb dX5_reason_102 (lv_at hl 1 rfl) ?_
                refine wr_calli (va_runV (As := [.int (iI (to))]) (rest := []) ⟨hx, hb, hml, hown, hts⟩ (c_X5_high l D cI cO cC cL b μ σ (to) (by omega) (hR) (hI)) (cwV 1 hts gX5_reason_X5_high rfl rfl rfl (by decide +kernel) ⟨Nat.le_of_ble_eq_true rfl, Nat.le_of_ble_eq_true rfl⟩) ⟨pcR_blind, va_recv hK hP (ci := 5) (q0 := 0) rfl rfl, pcR_of hP hK⟩ rfl rfl hl.1 rfl (lv_room (Nat.le_of_ble_eq_true rfl)) dX5_reason_104 ⟨(Nat.zero_le _), (Nat.zero_le _)⟩) (fun r5 hr5 => ?_)
                subst hr5
                refine lv_iload hx hb dX5_reason_107 (lv_at hl 0 rfl) ?_
                refine wi_iadd hx hb dX5_reason_109 ?_
                refine lv_aload_n hx hb dX5_reason_110 rfl (lv_at hl 3 rfl) ?_
                refine va_get (D := D) (ci := 5) (v := .ref (b 1)) (C := RX5) (T := TX5) (N := 12) hx hb hts hin_X5 hown hK hP 0 rfl rfl 0 (by decide) hw_0 (fun _ h9 => h9) rfl dX5_reason_111 ?_
                refine wi_bipush hx hb dX5_reason_114 (by decide) ?_
                refine lv_iload hx hb dX5_reason_116 (lv_at hl 1 rfl) ?_
                refine wi_iadd hx hb dX5_reason_118 ?_
                refine wi_iald hx hb hK hP 1 0 (n := 115) (f := μ 1) rfl rfl (i := (13 + to)) (by omega) (by decide) dX5_reason_119 ?_
                refine wi_icmp_le (tgt := 127) hx hb dX5_reason_120 (by decide) (by first | (have z1 := hcc2 to (by omega) (by omega); have z2 := hkk to (by omega) (by omega); omega) | (have z1 := hcc2 c (by omega) (by omega); have z2 := hkk c (by omega) (by omega); omega)) (fun c_120 => ?_) (fun c_120 => ?_)
                · skip
                  refine wi_iconst hx hb dX5_reason_127 ?_
                  exact W.iret (v := iI (0)) hx hb hr (fun t9 ht9 hW9 => ⟨(0), rfl, (by (try have z1 := hcc2 to (by omega) (by omega)); (try have z2 := hkk to (by omega) (by omega)); unfold reasonS; first | (rw [if_pos (by omega)] <;> omega) | (rw [if_neg (by omega), if_pos (by omega)] <;> omega) | (rw [if_neg (by omega), if_neg (by omega), if_pos (by omega)] <;> omega) | (rw [if_neg (by omega), if_neg (by omega), if_neg (by omega), if_pos (by omega)] <;> omega) | (rw [if_neg (by omega), if_neg (by omega), if_neg (by omega), if_neg (by omega)] <;> omega)), ht9⟩) (fun _ h => nomatch h) dX5_reason_128 hlocks
                · skip
                  refine wi_iconst hx hb dX5_reason_123 ?_
                  refine lv_goto (tgt := 128) hx hb dX5_reason_124 (by decide) ?_
                  exact W.iret (v := iI (4)) hx hb hr (fun t9 ht9 hW9 => ⟨(4), rfl, (by (try have z1 := hcc2 to (by omega) (by omega)); (try have z2 := hkk to (by omega) (by omega)); unfold reasonS; first | (rw [if_pos (by omega)] <;> omega) | (rw [if_neg (by omega), if_pos (by omega)] <;> omega) | (rw [if_neg (by omega), if_neg (by omega), if_pos (by omega)] <;> omega) | (rw [if_neg (by omega), if_neg (by omega), if_neg (by omega), if_pos (by omega)] <;> omega) | (rw [if_neg (by omega), if_neg (by omega), if_neg (by omega), if_neg (by omega)] <;> omega)), ht9⟩) (fun _ h => nomatch h) dX5_reason_128 hlocks
            · skip
              refine lv_aload_n hx hb dX5_reason_71 rfl (lv_at hl 3 rfl) ?_
              refine lv_iload hx hb dX5_reason_72 (lv_at hl 2 rfl) ?_
              refine wr_calli (va_runV (As := [.int (iI (c))]) (rest := []) ⟨hx, hb, hml, hown, hts⟩ (c_X5_low l D cI cO cC cL b μ σ (c) (by omega) (hR) (hI)) (cwV 1 hts gX5_reason_X5_low rfl rfl rfl (by decide +kernel) ⟨Nat.le_of_ble_eq_true rfl, Nat.le_of_ble_eq_true rfl⟩) ⟨pcR_blind, va_recv hK hP (ci := 5) (q0 := 0) rfl rfl, pcR_of hP hK⟩ rfl rfl hl.1 rfl (lv_room (Nat.le_of_ble_eq_true rfl)) dX5_reason_74 ⟨(Nat.zero_le _), (Nat.zero_le _)⟩) (fun r6 hr6 => ?_)
              subst hr6
              refine lv_iload hx hb dX5_reason_77 (lv_at hl 0 rfl) ?_
              refine wi_isub hx hb dX5_reason_79 ?_
              refine lv_aload_n hx hb dX5_reason_80 rfl (lv_at hl 3 rfl) ?_
              refine va_get (D := D) (ci := 5) (v := .ref (b 1)) (C := RX5) (T := TX5) (N := 12) hx hb hts hin_X5 hown hK hP 0 rfl rfl 0 (by decide) hw_0 (fun _ h9 => h9) rfl dX5_reason_81 ?_
              refine wi_bipush hx hb dX5_reason_84 (by decide) ?_
              refine lv_iload hx hb dX5_reason_86 (lv_at hl 2 rfl) ?_
              refine wi_iadd hx hb dX5_reason_88 ?_
              refine wi_iald hx hb hK hP 1 0 (n := 115) (f := μ 1) rfl rfl (i := (9 + c)) (by omega) (by decide) dX5_reason_89 ?_
              refine wi_icmp_ge (tgt := 95) hx hb dX5_reason_90 (by decide) (by omega) (fun c_90 => ?_) (fun c_90 => ?_)
              · skip
                refine lv_iload hx hb dX5_reason_95 (lv_at hl 1 rfl) ?_
                refine wi_iconst hx hb dX5_reason_97 ?_
                refine wi_icmp_eq (tgt := 127) hx hb dX5_reason_98 (by decide) (by omega) (fun c_98 => ?_) (fun c_98 => ?_)
                · skip
                  refine wi_iconst hx hb dX5_reason_127 ?_
                  exact W.iret (v := iI (0)) hx hb hr (fun t9 ht9 hW9 => ⟨(0), rfl, (by (try have z1 := hcc2 to (by omega) (by omega)); (try have z2 := hkk to (by omega) (by omega)); unfold reasonS; first | (rw [if_pos (by omega)] <;> omega) | (rw [if_neg (by omega), if_pos (by omega)] <;> omega) | (rw [if_neg (by omega), if_neg (by omega), if_pos (by omega)] <;> omega) | (rw [if_neg (by omega), if_neg (by omega), if_neg (by omega), if_pos (by omega)] <;> omega) | (rw [if_neg (by omega), if_neg (by omega), if_neg (by omega), if_neg (by omega)] <;> omega)), ht9⟩) (fun _ h => nomatch h) dX5_reason_128 hlocks
                · skip
                  have hcz : to = -1 ∨ (0 ≤ to ∧ to < 4) := by omega
                  have hkk : ∀ z : Int, 0 ≤ z → z < 4 → μ 1 (13 + z) = σ 4 z := fun z h0 h1 => (hR.2.1 z h0 h1).2.2
                  have hcc2 : ∀ z : Int, 0 ≤ z → z < 4 → -999 ≤ highS σ z ∧ highS σ z ≤ 999 ∧ -999 ≤ σ 4 z ∧ σ 4 z ≤ 999 := fun z h0 h1 => by have := hI.c h0 h1; omega
                  refine lv_aload_n hx hb dX5_reason_101 rfl (lv_at hl 3 rfl) ?_
                  refine lv_iload hx hb dX5_reason_102 (lv_at hl 1 rfl) ?_
                  refine wr_calli (va_runV (As := [.int (iI (to))]) (rest := []) ⟨hx, hb, hml, hown, hts⟩ (c_X5_high l D cI cO cC cL b μ σ (to) (by omega) (hR) (hI)) (cwV 1 hts gX5_reason_X5_high rfl rfl rfl (by decide +kernel) ⟨Nat.le_of_ble_eq_true rfl, Nat.le_of_ble_eq_true rfl⟩) ⟨pcR_blind, va_recv hK hP (ci := 5) (q0 := 0) rfl rfl, pcR_of hP hK⟩ rfl rfl hl.1 rfl (lv_room (Nat.le_of_ble_eq_true rfl)) dX5_reason_104 ⟨(Nat.zero_le _), (Nat.zero_le _)⟩) (fun r7 hr7 => ?_)
                  subst hr7
                  refine lv_iload hx hb dX5_reason_107 (lv_at hl 0 rfl) ?_
                  refine wi_iadd hx hb dX5_reason_109 ?_
                  refine lv_aload_n hx hb dX5_reason_110 rfl (lv_at hl 3 rfl) ?_
                  refine va_get (D := D) (ci := 5) (v := .ref (b 1)) (C := RX5) (T := TX5) (N := 12) hx hb hts hin_X5 hown hK hP 0 rfl rfl 0 (by decide) hw_0 (fun _ h9 => h9) rfl dX5_reason_111 ?_
                  refine wi_bipush hx hb dX5_reason_114 (by decide) ?_
                  refine lv_iload hx hb dX5_reason_116 (lv_at hl 1 rfl) ?_
                  refine wi_iadd hx hb dX5_reason_118 ?_
                  refine wi_iald hx hb hK hP 1 0 (n := 115) (f := μ 1) rfl rfl (i := (13 + to)) (by omega) (by decide) dX5_reason_119 ?_
                  refine wi_icmp_le (tgt := 127) hx hb dX5_reason_120 (by decide) (by first | (have z1 := hcc2 to (by omega) (by omega); have z2 := hkk to (by omega) (by omega); omega) | (have z1 := hcc2 c (by omega) (by omega); have z2 := hkk c (by omega) (by omega); omega)) (fun c_120 => ?_) (fun c_120 => ?_)
                  · skip
                    refine wi_iconst hx hb dX5_reason_127 ?_
                    exact W.iret (v := iI (0)) hx hb hr (fun t9 ht9 hW9 => ⟨(0), rfl, (by (try have z1 := hcc2 to (by omega) (by omega)); (try have z2 := hkk to (by omega) (by omega)); unfold reasonS; first | (rw [if_pos (by omega)] <;> omega) | (rw [if_neg (by omega), if_pos (by omega)] <;> omega) | (rw [if_neg (by omega), if_neg (by omega), if_pos (by omega)] <;> omega) | (rw [if_neg (by omega), if_neg (by omega), if_neg (by omega), if_pos (by omega)] <;> omega) | (rw [if_neg (by omega), if_neg (by omega), if_neg (by omega), if_neg (by omega)] <;> omega)), ht9⟩) (fun _ h => nomatch h) dX5_reason_128 hlocks
                  · skip
                    refine wi_iconst hx hb dX5_reason_123 ?_
                    refine lv_goto (tgt := 128) hx hb dX5_reason_124 (by decide) ?_
                    exact W.iret (v := iI (4)) hx hb hr (fun t9 ht9 hW9 => ⟨(4), rfl, (by (try have z1 := hcc2 to (by omega) (by omega)); (try have z2 := hkk to (by omega) (by omega)); unfold reasonS; first | (rw [if_pos (by omega)] <;> omega) | (rw [if_neg (by omega), if_pos (by omega)] <;> omega) | (rw [if_neg (by omega), if_neg (by omega), if_pos (by omega)] <;> omega) | (rw [if_neg (by omega), if_neg (by omega), if_neg (by omega), if_pos (by omega)] <;> omega) | (rw [if_neg (by omega), if_neg (by omega), if_neg (by omega), if_neg (by omega)] <;> omega)), ht9⟩) (fun _ h => nomatch h) dX5_reason_128 hlocks
              · skip
                refine wi_iconst hx hb dX5_reason_93 ?_
                exact W.iret (v := iI (3)) hx hb hr (fun t9 ht9 hW9 => ⟨(3), rfl, (by (try have z1 := hcc2 to (by omega) (by omega)); (try have z2 := hkk to (by omega) (by omega)); unfold reasonS; first | (rw [if_pos (by omega)] <;> omega) | (rw [if_neg (by omega), if_pos (by omega)] <;> omega) | (rw [if_neg (by omega), if_neg (by omega), if_pos (by omega)] <;> omega) | (rw [if_neg (by omega), if_neg (by omega), if_neg (by omega), if_pos (by omega)] <;> omega) | (rw [if_neg (by omega), if_neg (by omega), if_neg (by omega), if_neg (by omega)] <;> omega)), ht9⟩) (fun _ h => nomatch h) dX5_reason_94 hlocks
    · skip
      refine wi_iconst hx hb dX5_reason_27 ?_
      exact W.iret (v := iI (2)) hx hb hr (fun t9 ht9 hW9 => ⟨(2), rfl, (by (try have z1 := hcc2 to (by omega) (by omega)); (try have z2 := hkk to (by omega) (by omega)); unfold reasonS; first | (rw [if_pos (by omega)] <;> omega) | (rw [if_neg (by omega), if_pos (by omega)] <;> omega) | (rw [if_neg (by omega), if_neg (by omega), if_pos (by omega)] <;> omega) | (rw [if_neg (by omega), if_neg (by omega), if_neg (by omega), if_pos (by omega)] <;> omega) | (rw [if_neg (by omega), if_neg (by omega), if_neg (by omega), if_neg (by omega)] <;> omega)), ht9⟩) (fun _ h => nomatch h) dX5_reason_28 hlocks
  · skip
    refine wi_iconst hx hb dX5_reason_11 ?_
    exact W.iret (v := iI (1)) hx hb hr (fun t9 ht9 hW9 => ⟨(1), rfl, (by (try have z1 := hcc2 to (by omega) (by omega)); (try have z2 := hkk to (by omega) (by omega)); unfold reasonS; first | (rw [if_pos (by omega)] <;> omega) | (rw [if_neg (by omega), if_pos (by omega)] <;> omega) | (rw [if_neg (by omega), if_neg (by omega), if_pos (by omega)] <;> omega) | (rw [if_neg (by omega), if_neg (by omega), if_neg (by omega), if_pos (by omega)] <;> omega) | (rw [if_neg (by omega), if_neg (by omega), if_neg (by omega), if_neg (by omega)] <;> omega)), ht9⟩) (fun _ h => nomatch h) dX5_reason_12 hlocks
