set_option maxHeartbeats 4000000 in
set_option maxRecDepth 100000 in
theorem x_X4_checkIndex (l : Launch) (hl9 : l.stackTraces = false) (D : va_G) (cI cO cC cL : ClassId) (i n : Int) (hi : R32 i) (hn : 0 ≤ n ∧ n ≤ 100000) (hz : ¬ (0 ≤ i ∧ i < n)) : vx_Met l yX4_checkIndex wsX4_checkIndex ({ frames := 6, cells := 1, slots := 6, locals := 120 } : Room) (pcX0 [.int (iI (i)), .int (iI (n))]) QX (XN "java/lang/IndexOutOfBoundsException") 1 6 noA := by
  refine vx_ofW (cc := cX4_checkIndex) (maxL := 2) (ret := none) (by decide) rfl ?_
  intro p9 e9 s m args9 below9 meth9 c9 s₁ B hml hexc hv
  obtain ⟨rfl, hZ⟩ := hv
  have hx := B.exec
  have hb := B.bytes
  have hr := B.returns
  have hts := atoms_spec (ws := wsX4_checkIndex) B.pre
  have hown : s.vm.findClass RX4 = some m.cls := findClass_of_methodNamed B.named
  have hlocks := B.notSynchronized
  have hl := lv_entry ([.int (iI (i)), .int (iI (n))]) (n := 2) (Nat.le_of_ble_eq_true rfl)
  rw [lg_entry_eq]
  generalize (lg_sl ([.int (iI (i)), .int (iI (n))]) ++ List.replicate (2 - (lg_sl ([.int (iI (i)), .int (iI (n))])).length) Slot.unset).toArray = ls at hl ⊢
  have hl : lv_has ls 2 [(0, .int (iI (i))), (1, .int (iI (n)))] := hl
  have hw_0 := hts (Cond.classLink RX4 305 "java/lang/IndexOutOfBoundsException") (by decide +kernel)
  have hw_1 := hts (Cond.initialized "java/lang/IndexOutOfBoundsException") (by decide +kernel)
  have hat_IX : ∀ w ∈ (vx_atS RX4 309 "java/lang/IndexOutOfBoundsException" thN).filter goodWord, w ∈ wsX4_checkIndex := by decide +kernel
  refine lv_iload_n hx hb dX4_checkIndex_0 rfl (lv_at hl 0 rfl) ?_
  refine wi_if_lt (tgt := 9) hx hb dX4_checkIndex_1 (by decide) (by omega) (fun c_1 => ?_) (fun c_1 => ?_)
  · skip
    exact thrXW hx hb hl9 (E := "java/lang/IndexOutOfBoundsException") (text := "there is none with this number") (ik := 305) (is := 307) (ic := 309) hown (by decide +kernel) hw_0 hw_1 (fun w9 h9 => hts w9 (hat_IX w9 h9)) hbIX hgIX hZ (by decide) (hl.1.trans hml.symm) dX4_checkIndex_9 dX4_checkIndex_12 dX4_checkIndex_13 dX4_checkIndex_16 dX4_checkIndex_19 hexc (Nat.le_of_ble_eq_true rfl) (Nat.le_of_ble_eq_true rfl) (Nat.le_of_ble_eq_true rfl) (Nat.le_of_ble_eq_true rfl) hlocks (rfl)
  · skip
    refine lv_iload_n hx hb dX4_checkIndex_4 rfl (lv_at hl 0 rfl) ?_
    refine lv_iload_n hx hb dX4_checkIndex_5 rfl (lv_at hl 1 rfl) ?_
    refine wi_icmp_lt (tgt := 20) hx hb dX4_checkIndex_6 (by decide) (by omega) (fun c_6 => ?_) (fun c_6 => ?_)
    · skip
      exfalso; omega
    · skip
      exact thrXW hx hb hl9 (E := "java/lang/IndexOutOfBoundsException") (text := "there is none with this number") (ik := 305) (is := 307) (ic := 309) hown (by decide +kernel) hw_0 hw_1 (fun w9 h9 => hts w9 (hat_IX w9 h9)) hbIX hgIX hZ (by decide) (hl.1.trans hml.symm) dX4_checkIndex_9 dX4_checkIndex_12 dX4_checkIndex_13 dX4_checkIndex_16 dX4_checkIndex_19 hexc (Nat.le_of_ble_eq_true rfl) (Nat.le_of_ble_eq_true rfl) (Nat.le_of_ble_eq_true rfl) (Nat.le_of_ble_eq_true rfl) hlocks (rfl)
set_option maxHeartbeats 4000000 in
set_option maxRecDepth 100000 in
theorem x_X4_checkArgument (l : Launch) (hl9 : l.stackTraces = false) (D : va_G) (cI cO cC cL : ClassId) (v lo hi : Int) (hv : R32 v) (hr1 : R32 lo) (hr2 : R32 hi) (hz : ¬ (lo ≤ v ∧ v ≤ hi)) : vx_Met l yX4_checkArgument wsX4_checkArgument ({ frames := 6, cells := 1, slots := 6, locals := 120 } : Room) (pcX0 [.int (iI (v)), .int (iI (lo)), .int (iI (hi))]) QX (XN "java/lang/IllegalArgumentException") 1 6 noA := by
  refine vx_ofW (cc := cX4_checkArgument) (maxL := 3) (ret := none) (by decide) rfl ?_
  intro p9 e9 s m args9 below9 meth9 c9 s₁ B hml hexc hv
  obtain ⟨rfl, hZ⟩ := hv
  have hx := B.exec
  have hb := B.bytes
  have hr := B.returns
  have hts := atoms_spec (ws := wsX4_checkArgument) B.pre
  have hown : s.vm.findClass RX4 = some m.cls := findClass_of_methodNamed B.named
  have hlocks := B.notSynchronized
  have hl := lv_entry ([.int (iI (v)), .int (iI (lo)), .int (iI (hi))]) (n := 3) (Nat.le_of_ble_eq_true rfl)
  rw [lg_entry_eq]
  generalize (lg_sl ([.int (iI (v)), .int (iI (lo)), .int (iI (hi))]) ++ List.replicate (3 - (lg_sl ([.int (iI (v)), .int (iI (lo)), .int (iI (hi))])).length) Slot.unset).toArray = ls at hl ⊢
  have hl : lv_has ls 3 [(0, .int (iI (v))), (1, .int (iI (lo))), (2, .int (iI (hi)))] := hl
  have hw_0 := hts (Cond.classLink RX4 93 "java/lang/IllegalArgumentException") (by decide +kernel)
  have hw_1 := hts (Cond.initialized "java/lang/IllegalArgumentException") (by decide +kernel)
  have hat_IA : ∀ w ∈ (vx_atS RX4 97 "java/lang/IllegalArgumentException" thN).filter goodWord, w ∈ wsX4_checkArgument := by decide +kernel
  refine lv_iload_n hx hb dX4_checkArgument_0 rfl (lv_at hl 0 rfl) ?_
  refine lv_iload_n hx hb dX4_checkArgument_1 rfl (lv_at hl 1 rfl) ?_
  refine wi_icmp_lt (tgt := 10) hx hb dX4_checkArgument_2 (by decide) (by omega) (fun c_2 => ?_) (fun c_2 => ?_)
  · skip
    exact thrXW hx hb hl9 (E := "java/lang/IllegalArgumentException") (text := "the value is out of range") (ik := 93) (is := 310) (ic := 97) hown (by decide +kernel) hw_0 hw_1 (fun w9 h9 => hts w9 (hat_IA w9 h9)) hbIA hgIA hZ (by decide) (hl.1.trans hml.symm) dX4_checkArgument_10 dX4_checkArgument_13 dX4_checkArgument_14 dX4_checkArgument_17 dX4_checkArgument_20 hexc (Nat.le_of_ble_eq_true rfl) (Nat.le_of_ble_eq_true rfl) (Nat.le_of_ble_eq_true rfl) (Nat.le_of_ble_eq_true rfl) hlocks (rfl)
  · skip
    refine lv_iload_n hx hb dX4_checkArgument_5 rfl (lv_at hl 0 rfl) ?_
    refine lv_iload_n hx hb dX4_checkArgument_6 rfl (lv_at hl 2 rfl) ?_
    refine wi_icmp_le (tgt := 21) hx hb dX4_checkArgument_7 (by decide) (by omega) (fun c_7 => ?_) (fun c_7 => ?_)
    · skip
      exfalso; omega
    · skip
      exact thrXW hx hb hl9 (E := "java/lang/IllegalArgumentException") (text := "the value is out of range") (ik := 93) (is := 310) (ic := 97) hown (by decide +kernel) hw_0 hw_1 (fun w9 h9 => hts w9 (hat_IA w9 h9)) hbIA hgIA hZ (by decide) (hl.1.trans hml.symm) dX4_checkArgument_10 dX4_checkArgument_13 dX4_checkArgument_14 dX4_checkArgument_17 dX4_checkArgument_20 hexc (Nat.le_of_ble_eq_true rfl) (Nat.le_of_ble_eq_true rfl) (Nat.le_of_ble_eq_true rfl) (Nat.le_of_ble_eq_true rfl) hlocks (rfl)
set_option maxHeartbeats 4000000 in
set_option maxRecDepth 100000 in
theorem x_X4_checkChange (l : Launch) (hl9 : l.stackTraces = false) (D : va_G) (cI cO cC cL : ClassId) (y : Int) (hy : R32 y) (hz : ¬ (y ≠ 0 ∧ -99 ≤ y ∧ y ≤ 99)) : vx_Met l yX4_checkChange wsX4_checkChange ({ frames := 7, cells := 1, slots := 6, locals := 142 } : Room) (pcX0 [.int (iI (y))]) QX (XN "java/lang/IllegalArgumentException") 1 6 noA := by
  refine vx_ofW (cc := cX4_checkChange) (maxL := 1) (ret := none) (by decide) rfl ?_
  intro p9 e9 s m args9 below9 meth9 c9 s₁ B hml hexc hv
  obtain ⟨rfl, hZ⟩ := hv
  have hx := B.exec
  have hb := B.bytes
  have hr := B.returns
  have hts := atoms_spec (ws := wsX4_checkChange) B.pre
  have hown : s.vm.findClass RX4 = some m.cls := findClass_of_methodNamed B.named
  have hlocks := B.notSynchronized
  have hl := lv_entry ([.int (iI (y))]) (n := 1) (Nat.le_of_ble_eq_true rfl)
  rw [lg_entry_eq]
  generalize (lg_sl ([.int (iI (y))]) ++ List.replicate (1 - (lg_sl ([.int (iI (y))])).length) Slot.unset).toArray = ls at hl ⊢
  have hl : lv_has ls 1 [(0, .int (iI (y)))] := hl
  have hw_0 := hts (Cond.classLink RX4 93 "java/lang/IllegalArgumentException") (by decide +kernel)
  have hw_1 := hts (Cond.initialized "java/lang/IllegalArgumentException") (by decide +kernel)
  have hat_IA : ∀ w ∈ (vx_atS RX4 97 "java/lang/IllegalArgumentException" thN).filter goodWord, w ∈ wsX4_checkChange := by decide +kernel
  refine lv_iload_n hx hb dX4_checkChange_0 rfl (lv_at hl 0 rfl) ?_
  refine wi_bipush hx hb dX4_checkChange_1 (by decide) ?_
  refine wi_bipush hx hb dX4_checkChange_3 (by decide) ?_
  refine Or.elim (Decidable.em (-99 ≤ y ∧ y ≤ 99)) (fun ok5 => ?_) (fun ok5 => ?_)
  rotate_left
  · skip
    exact passX (vx_runS (As := [.int (iI (y)), .int (iI (-99)), .int (iI (99))]) (rest := []) ⟨hx, hb, hml, hown, hts⟩ (x_X4_checkArgument l hl9 D cI cO cC cL (y) (-99) (99) (by omega) (by omega) (by omega) (ok5)) (cwS 3 hts gX4_checkChange_X4_checkArgument rfl rfl rfl (by decide +kernel) ⟨Nat.le_of_ble_eq_true rfl, Nat.le_of_ble_eq_true rfl⟩) ⟨pcX0_blind, pcX0_of hZ⟩ rfl rfl hl.1 rfl (lv_room (Nat.le_of_ble_eq_true rfl)) dX4_checkChange_5 ⟨Nat.le_of_ble_eq_true rfl, Nat.le_of_ble_eq_true rfl⟩) hexc hlocks (rfl)
  refine wr_callv (va_runS (As := [.int (iI (y)), .int (iI (-99)), .int (iI (99))]) (rest := []) ⟨hx, hb, hml, hown, hts⟩ (c_X4_checkArgument l D cI cO cC cL (y) (-99) (99) (by omega) (by omega) (by omega)) (cwS 3 hts gX4_checkChange_X4_checkArgument rfl rfl rfl (by decide +kernel) ⟨Nat.le_of_ble_eq_true rfl, Nat.le_of_ble_eq_true rfl⟩) ⟨fun _ _ _ _ h => h, fun U hU hW => ⟨rfl, trivial⟩⟩ rfl rfl hl.1 rfl (lv_room (Nat.le_of_ble_eq_true rfl)) dX4_checkChange_5 ⟨(Nat.zero_le _), (Nat.zero_le _)⟩) (fun hv1 => ?_)
  refine lv_iload_n hx hb dX4_checkChange_8 rfl (lv_at hl 0 rfl) ?_
  refine wi_if_ne (tgt := 23) hx hb dX4_checkChange_9 (by decide) (by omega) (fun c_9 => ?_) (fun c_9 => ?_)
  · skip
    exfalso; omega
  · skip
    exact thrXW hx hb hl9 (E := "java/lang/IllegalArgumentException") (text := "a change is not 0") (ik := 93) (is := 312) (ic := 97) hown (by decide +kernel) hw_0 hw_1 (fun w9 h9 => hts w9 (hat_IA w9 h9)) hbIA hgIA hZ (by decide) (hl.1.trans hml.symm) dX4_checkChange_12 dX4_checkChange_15 dX4_checkChange_16 dX4_checkChange_19 dX4_checkChange_22 hexc (Nat.le_of_ble_eq_true rfl) (Nat.le_of_ble_eq_true rfl) (Nat.le_of_ble_eq_true rfl) (Nat.le_of_ble_eq_true rfl) hlocks (rfl)
set_option maxHeartbeats 4000000 in
set_option maxRecDepth 100000 in
theorem x_X4_checkNoReason (l : Launch) (hl9 : l.stackTraces = false) (D : va_G) (cI cO cC cL : ClassId) (x a sv o rd bu : Nat → Nat) (ln σ : Nat → Int → Int) (w c y to : Int) (hw : R32 w) (hc : 0 ≤ c ∧ c < 4) (hy : -99 ≤ y ∧ y ≤ 99) (hto : to = -1 ∨ (0 ≤ to ∧ to < 4)) (hI : Inv σ) (hz : ¬ (reasonS σ w c y to ≤ 0)) : vx_Met l yX4_checkNoReason wsX4_checkNoReason ({ frames := 6, cells := 1, slots := 6, locals := 120 } : Room) (pcX D [(cI, FieldType.int), (cO, FieldType.object "PromisedCounters$State"), (cC, FieldType.char)] [.ref (x 0), .int (iI (w)), .int (iI (c)), .int (iI (y)), .int (iI (to))] (fl [mnW x a sv o rd bu ln, stW cI a σ])) QX (XN "java/lang/IllegalStateException") 1 6 noA := by
  refine vx_ofW (cc := cX4_checkNoReason) (maxL := 5) (ret := none) (by decide) rfl ?_
  intro p9 e9 s m args9 below9 meth9 c9 s₁ B hml hexc hv
  obtain ⟨rfl, hP, hK, hZ⟩ := hv
  have hx := B.exec
  have hb := B.bytes
  have hr := B.returns
  have hts := atoms_spec (ws := wsX4_checkNoReason) B.pre
  have hown : s.vm.findClass RX4 = some m.cls := findClass_of_methodNamed B.named
  have hlocks := B.notSynchronized
  have hl := lv_entry ([.ref (x 0), .int (iI (w)), .int (iI (c)), .int (iI (y)), .int (iI (to))]) (n := 5) (Nat.le_of_ble_eq_true rfl)
  rw [lg_entry_eq]
  generalize (lg_sl ([.ref (x 0), .int (iI (w)), .int (iI (c)), .int (iI (y)), .int (iI (to))]) ++ List.replicate (5 - (lg_sl ([.ref (x 0), .int (iI (w)), .int (iI (c)), .int (iI (y)), .int (iI (to))])).length) Slot.unset).toArray = ls at hl ⊢
  have hl : lv_has ls 5 [(0, .ref (x 0)), (1, .int (iI (w))), (2, .int (iI (c))), (3, .int (iI (y))), (4, .int (iI (to)))] := hl
  have hw_0 := hts (.fieldLink RX4 10 "PromisedCounters" "state" "LPromisedCounters$State;") (by decide +kernel)
  have hin_X4 : ∀ w ∈ u_ws RX4 TX4 6, w ∈ wsX4_checkNoReason := by decide +kernel
  have hw_1 := hts (Cond.classLink RX4 60 "java/lang/IllegalStateException") (by decide +kernel)
  have hw_2 := hts (Cond.initialized "java/lang/IllegalStateException") (by decide +kernel)
  have hat_IS : ∀ w ∈ (vx_atS RX4 64 "java/lang/IllegalStateException" thN).filter goodWord, w ∈ wsX4_checkNoReason := by decide +kernel
  have hrr := reason_r σ w c y to
  refine lv_aload_n hx hb dX4_checkNoReason_0 rfl (lv_at hl 0 rfl) ?_
  refine va_get (D := D) (ci := 4) (v := .ref (a 0)) (C := RX4) (T := TX4) (N := 6) hx hb hts hin_X4 hown hK hP 0 rfl rfl 0 (by decide) hw_0 (fun _ h9 => h9) rfl dX4_checkNoReason_1 ?_
  refine lv_iload_n hx hb dX4_checkNoReason_4 rfl (lv_at hl 1 rfl) ?_
  refine lv_iload_n hx hb dX4_checkNoReason_5 rfl (lv_at hl 2 rfl) ?_
  refine lv_iload_n hx hb dX4_checkNoReason_6 rfl (lv_at hl 3 rfl) ?_
  refine lv_iload hx hb dX4_checkNoReason_7 (lv_at hl 4 rfl) ?_
  have hPc := fl_P (S' := [stW cI a σ]) hP [1] rfl
  have hKc := hK.sub (tys' := [(cI, FieldType.int)]) [0] rfl
  refine wr_calli (va_runV (As := [.int (iI (w)), .int (iI (c)), .int (iI (y)), .int (iI (to))]) (rest := []) ⟨hx, hb, hml, hown, hts⟩ (c_X3_reasonAgainst l D cI cO cC cL a σ (w) (c) (y) (to) (hw) (hc) (hy) (hto) (hI)) (cwV 4 hts gX4_checkNoReason_X3_reasonAgainst rfl rfl rfl (by decide +kernel) ⟨Nat.le_of_ble_eq_true rfl, Nat.le_of_ble_eq_true rfl⟩) ⟨pcR_blind, va_recv hKc hPc (ci := 3) (q0 := 0) rfl rfl, pcR_of hPc hKc⟩ rfl rfl hl.1 rfl (lv_room (Nat.le_of_ble_eq_true rfl)) dX4_checkNoReason_9 ⟨(Nat.zero_le _), (Nat.zero_le _)⟩) (fun r1 hr1 => ?_)
  subst hr1
  refine wi_if_eq (tgt := 26) hx hb dX4_checkNoReason_12 (by decide) (by omega) (fun c_12 => ?_) (fun c_12 => ?_)
  · skip
    exfalso; omega
  · skip
    exact thrXW hx hb hl9 (E := "java/lang/IllegalStateException") (text := "there is a reason against the promise") (ik := 60) (is := 303) (ic := 64) hown (by decide +kernel) hw_1 hw_2 (fun w9 h9 => hts w9 (hat_IS w9 h9)) hbIS hgIS hZ (by decide) (hl.1.trans hml.symm) dX4_checkNoReason_15 dX4_checkNoReason_18 dX4_checkNoReason_19 dX4_checkNoReason_22 dX4_checkNoReason_25 hexc (Nat.le_of_ble_eq_true rfl) (Nat.le_of_ble_eq_true rfl) (Nat.le_of_ble_eq_true rfl) (Nat.le_of_ble_eq_true rfl) hlocks (rfl)
set_option maxHeartbeats 4000000 in
set_option maxRecDepth 100000 in
theorem x_X4_bounds (l : Launch) (hl9 : l.stackTraces = false) (D : va_G) (cI cO cC cL : ClassId) (x a sv o rd bu : Nat → Nat) (ln σ : Nat → Int → Int) (c lo hi : Int) (hc : R32 c) (hlo : R32 lo) (hhi : R32 hi) (hI : Inv σ) (hbad : cd3 (0 ≤ c ∧ c ≤ 3) ((-999 ≤ lo ∧ lo ≤ 999) ∧ lo ≤ hi ∧ hi ≤ 999) (lo ≤ lowS σ c (σ 0 0) ∧ highS σ c ≤ hi) ≠ 0) : vx_Met l yX4_bounds wsX4_bounds ({ frames := 7, cells := 1, slots := 6, locals := 142 } : Room) (pcX D [(cI, FieldType.int), (cO, FieldType.object "PromisedCounters$State"), (cC, FieldType.char)] [.ref (x 0), .int (iI (c)), .int (iI (lo)), .int (iI (hi))] (fl [mnW x a sv o rd bu ln, stW cI a σ])) QX (XN (xnA (cd3 (0 ≤ c ∧ c ≤ 3) ((-999 ≤ lo ∧ lo ≤ 999) ∧ lo ≤ hi ∧ hi ≤ 999) (lo ≤ lowS σ c (σ 0 0) ∧ highS σ c ≤ hi)))) 1 6 noA := by
  refine vx_ofW (cc := cX4_bounds) (maxL := 5) (ret := (some .int)) (by decide) rfl ?_
  intro p9 e9 s m args9 below9 meth9 c9 s₁ B hml hexc hv
  obtain ⟨rfl, hP, hK, hZ⟩ := hv
  have hx := B.exec
  have hb := B.bytes
  have hr := B.returns
  have hts := atoms_spec (ws := wsX4_bounds) B.pre
  have hown : s.vm.findClass RX4 = some m.cls := findClass_of_methodNamed B.named
  have hlocks := B.notSynchronized
  have hl := lv_entry ([.ref (x 0), .int (iI (c)), .int (iI (lo)), .int (iI (hi))]) (n := 5) (Nat.le_of_ble_eq_true rfl)
  rw [lg_entry_eq]
  generalize (lg_sl ([.ref (x 0), .int (iI (c)), .int (iI (lo)), .int (iI (hi))]) ++ List.replicate (5 - (lg_sl ([.ref (x 0), .int (iI (c)), .int (iI (lo)), .int (iI (hi))])).length) Slot.unset).toArray = ls at hl ⊢
  have hl : lv_has ls 5 [(0, .ref (x 0)), (1, .int (iI (c))), (2, .int (iI (lo))), (3, .int (iI (hi)))] := hl
  have hw_0 := hts (.fieldLink RX4 10 "PromisedCounters" "state" "LPromisedCounters$State;") (by decide +kernel)
  have hin_X4 : ∀ w ∈ u_ws RX4 TX4 6, w ∈ wsX4_bounds := by decide +kernel
  have hw_1 := hts (Cond.classLink RX4 60 "java/lang/IllegalStateException") (by decide +kernel)
  have hw_2 := hts (Cond.initialized "java/lang/IllegalStateException") (by decide +kernel)
  have hat_IS : ∀ w ∈ (vx_atS RX4 64 "java/lang/IllegalStateException" thN).filter goodWord, w ∈ wsX4_bounds := by decide +kernel
  have hn := hI.n
  have hti := hI.t
  refine lv_iload_n hx hb dX4_bounds_0 rfl (lv_at hl 1 rfl) ?_
  refine wi_iconst hx hb dX4_bounds_1 ?_
  refine Or.elim (Decidable.em (0 ≤ c ∧ c < 4)) (fun ok2 => ?_) (fun ok2 => ?_)
  rotate_left
  · skip
    exact passX (vx_runS (As := [.int (iI (c)), .int (iI (4))]) (rest := []) ⟨hx, hb, hml, hown, hts⟩ (x_X4_checkIndex l hl9 D cI cO cC cL (c) (4) (by omega) (by omega) (ok2)) (cwS 2 hts gX4_bounds_X4_checkIndex rfl rfl rfl (by decide +kernel) ⟨Nat.le_of_ble_eq_true rfl, Nat.le_of_ble_eq_true rfl⟩) ⟨pcX0_blind, pcX0_of hZ⟩ rfl rfl hl.1 rfl (lv_room (Nat.le_of_ble_eq_true rfl)) dX4_bounds_2 ⟨Nat.le_of_ble_eq_true rfl, Nat.le_of_ble_eq_true rfl⟩) hexc hlocks (by rw [show cd3 (0 ≤ c ∧ c ≤ 3) ((-999 ≤ lo ∧ lo ≤ 999) ∧ lo ≤ hi ∧ hi ≤ 999) (lo ≤ lowS σ c (σ 0 0) ∧ highS σ c ≤ hi) = 1 from (by unfold cd3; first | (rw [if_pos (by omega)] <;> rfl) | (rw [if_neg (by omega), if_pos (by omega)] <;> rfl) | (rw [if_neg (by omega), if_neg (by omega), if_pos (by omega)] <;> rfl) | (rw [if_neg (by omega), if_neg (by omega), if_neg (by omega)] <;> rfl))]; rfl)
  refine wr_callv (va_runS (As := [.int (iI (c)), .int (iI (4))]) (rest := []) ⟨hx, hb, hml, hown, hts⟩ (c_X4_checkIndex l D cI cO cC cL (c) (4) (by omega) (by omega)) (cwS 2 hts gX4_bounds_X4_checkIndex rfl rfl rfl (by decide +kernel) ⟨Nat.le_of_ble_eq_true rfl, Nat.le_of_ble_eq_true rfl⟩) ⟨fun _ _ _ _ h => h, fun U hU hW => ⟨rfl, trivial⟩⟩ rfl rfl hl.1 rfl (lv_room (Nat.le_of_ble_eq_true rfl)) dX4_bounds_2 ⟨(Nat.zero_le _), (Nat.zero_le _)⟩) (fun hv1 => ?_)
  refine lv_iload_n hx hb dX4_bounds_5 rfl (lv_at hl 2 rfl) ?_
  refine wi_sipush hx hb dX4_bounds_6 (by decide) ?_
  refine wi_sipush hx hb dX4_bounds_9 (by decide) ?_
  refine Or.elim (Decidable.em (-999 ≤ lo ∧ lo ≤ 999)) (fun ok12 => ?_) (fun ok12 => ?_)
  rotate_left
  · skip
    exact passX (vx_runS (As := [.int (iI (lo)), .int (iI (-999)), .int (iI (999))]) (rest := []) ⟨hx, hb, hml, hown, hts⟩ (x_X4_checkArgument l hl9 D cI cO cC cL (lo) (-999) (999) (by omega) (by omega) (by omega) (ok12)) (cwS 3 hts gX4_bounds_X4_checkArgument rfl rfl rfl (by decide +kernel) ⟨Nat.le_of_ble_eq_true rfl, Nat.le_of_ble_eq_true rfl⟩) ⟨pcX0_blind, pcX0_of hZ⟩ rfl rfl hl.1 rfl (lv_room (Nat.le_of_ble_eq_true rfl)) dX4_bounds_12 ⟨Nat.le_of_ble_eq_true rfl, Nat.le_of_ble_eq_true rfl⟩) hexc hlocks (by rw [show cd3 (0 ≤ c ∧ c ≤ 3) ((-999 ≤ lo ∧ lo ≤ 999) ∧ lo ≤ hi ∧ hi ≤ 999) (lo ≤ lowS σ c (σ 0 0) ∧ highS σ c ≤ hi) = 2 from (by unfold cd3; first | (rw [if_pos (by omega)] <;> rfl) | (rw [if_neg (by omega), if_pos (by omega)] <;> rfl) | (rw [if_neg (by omega), if_neg (by omega), if_pos (by omega)] <;> rfl) | (rw [if_neg (by omega), if_neg (by omega), if_neg (by omega)] <;> rfl))]; rfl)
  refine wr_callv (va_runS (As := [.int (iI (lo)), .int (iI (-999)), .int (iI (999))]) (rest := []) ⟨hx, hb, hml, hown, hts⟩ (c_X4_checkArgument l D cI cO cC cL (lo) (-999) (999) (by omega) (by omega) (by omega)) (cwS 3 hts gX4_bounds_X4_checkArgument rfl rfl rfl (by decide +kernel) ⟨Nat.le_of_ble_eq_true rfl, Nat.le_of_ble_eq_true rfl⟩) ⟨fun _ _ _ _ h => h, fun U hU hW => ⟨rfl, trivial⟩⟩ rfl rfl hl.1 rfl (lv_room (Nat.le_of_ble_eq_true rfl)) dX4_bounds_12 ⟨(Nat.zero_le _), (Nat.zero_le _)⟩) (fun hv2 => ?_)
  refine lv_iload_n hx hb dX4_bounds_15 rfl (lv_at hl 3 rfl) ?_
  refine lv_iload_n hx hb dX4_bounds_16 rfl (lv_at hl 2 rfl) ?_
  refine wi_sipush hx hb dX4_bounds_17 (by decide) ?_
  refine Or.elim (Decidable.em (lo ≤ hi ∧ hi ≤ 999)) (fun ok20 => ?_) (fun ok20 => ?_)
  rotate_left
  · skip
    exact passX (vx_runS (As := [.int (iI (hi)), .int (iI (lo)), .int (iI (999))]) (rest := []) ⟨hx, hb, hml, hown, hts⟩ (x_X4_checkArgument l hl9 D cI cO cC cL (hi) (lo) (999) (by omega) (by omega) (by omega) (ok20)) (cwS 3 hts gX4_bounds_X4_checkArgument rfl rfl rfl (by decide +kernel) ⟨Nat.le_of_ble_eq_true rfl, Nat.le_of_ble_eq_true rfl⟩) ⟨pcX0_blind, pcX0_of hZ⟩ rfl rfl hl.1 rfl (lv_room (Nat.le_of_ble_eq_true rfl)) dX4_bounds_20 ⟨Nat.le_of_ble_eq_true rfl, Nat.le_of_ble_eq_true rfl⟩) hexc hlocks (by rw [show cd3 (0 ≤ c ∧ c ≤ 3) ((-999 ≤ lo ∧ lo ≤ 999) ∧ lo ≤ hi ∧ hi ≤ 999) (lo ≤ lowS σ c (σ 0 0) ∧ highS σ c ≤ hi) = 2 from (by unfold cd3; first | (rw [if_pos (by omega)] <;> rfl) | (rw [if_neg (by omega), if_pos (by omega)] <;> rfl) | (rw [if_neg (by omega), if_neg (by omega), if_pos (by omega)] <;> rfl) | (rw [if_neg (by omega), if_neg (by omega), if_neg (by omega)] <;> rfl))]; rfl)
  refine wr_callv (va_runS (As := [.int (iI (hi)), .int (iI (lo)), .int (iI (999))]) (rest := []) ⟨hx, hb, hml, hown, hts⟩ (c_X4_checkArgument l D cI cO cC cL (hi) (lo) (999) (by omega) (by omega) (by omega)) (cwS 3 hts gX4_bounds_X4_checkArgument rfl rfl rfl (by decide +kernel) ⟨Nat.le_of_ble_eq_true rfl, Nat.le_of_ble_eq_true rfl⟩) ⟨fun _ _ _ _ h => h, fun U hU hW => ⟨rfl, trivial⟩⟩ rfl rfl hl.1 rfl (lv_room (Nat.le_of_ble_eq_true rfl)) dX4_bounds_20 ⟨(Nat.zero_le _), (Nat.zero_le _)⟩) (fun hv3 => ?_)
  have hcc := hI.c (c := c) (by omega) (by omega)
  refine lv_aload_n hx hb dX4_bounds_23 rfl (lv_at hl 0 rfl) ?_
  refine va_get (D := D) (ci := 4) (v := .ref (a 0)) (C := RX4) (T := TX4) (N := 6) hx hb hts hin_X4 hown hK hP 0 rfl rfl 0 (by decide) hw_0 (fun _ h9 => h9) rfl dX4_bounds_24 ?_
  refine lv_iload_n hx hb dX4_bounds_27 rfl (lv_at hl 1 rfl) ?_
  have hPc := fl_P (S' := [stW cI a σ]) hP [1] rfl
  have hKc := hK.sub (tys' := [(cI, FieldType.int)]) [0] rfl
  refine wr_calli (va_runV (As := [.int (iI (c))]) (rest := []) ⟨hx, hb, hml, hown, hts⟩ (c_X3_lowOf l D cI cO cC cL a σ (c) (by omega) (hI)) (cwV 1 hts gX4_bounds_X3_lowOf rfl rfl rfl (by decide +kernel) ⟨Nat.le_of_ble_eq_true rfl, Nat.le_of_ble_eq_true rfl⟩) ⟨pcR_blind, va_recv hKc hPc (ci := 3) (q0 := 0) rfl rfl, pcR_of hPc hKc⟩ rfl rfl hl.1 rfl (lv_room (Nat.le_of_ble_eq_true rfl)) dX4_bounds_28 ⟨(Nat.zero_le _), (Nat.zero_le _)⟩) (fun r4 hr4 => ?_)
  subst hr4
  refine lv_iload_n hx hb dX4_bounds_31 rfl (lv_at hl 2 rfl) ?_
  refine wi_icmp_lt (tgt := 47) hx hb dX4_bounds_32 (by decide) (by omega) (fun c_32 => ?_) (fun c_32 => ?_)
  · skip
    exact thrX hx hb hl9 (E := "java/lang/IllegalStateException") (text := "the counter could leave these bounds") (ik := 60) (is := 62) (ic := 64) hown (by decide +kernel) hw_1 hw_2 (fun w9 h9 => hts w9 (hat_IS w9 h9)) hbIS hgIS hZ (by decide) (hl.1.trans hml.symm) dX4_bounds_47 dX4_bounds_50 dX4_bounds_51 dX4_bounds_53 dX4_bounds_56 hexc (Nat.le_of_ble_eq_true rfl) (Nat.le_of_ble_eq_true rfl) (Nat.le_of_ble_eq_true rfl) (Nat.le_of_ble_eq_true rfl) hlocks (by rw [show cd3 (0 ≤ c ∧ c ≤ 3) ((-999 ≤ lo ∧ lo ≤ 999) ∧ lo ≤ hi ∧ hi ≤ 999) (lo ≤ lowS σ c (σ 0 0) ∧ highS σ c ≤ hi) = 3 from (by unfold cd3; first | (rw [if_pos (by omega)] <;> rfl) | (rw [if_neg (by omega), if_pos (by omega)] <;> rfl) | (rw [if_neg (by omega), if_neg (by omega), if_pos (by omega)] <;> rfl) | (rw [if_neg (by omega), if_neg (by omega), if_neg (by omega)] <;> rfl))]; rfl)
  · skip
    refine lv_aload_n hx hb dX4_bounds_35 rfl (lv_at hl 0 rfl) ?_
    refine va_get (D := D) (ci := 4) (v := .ref (a 0)) (C := RX4) (T := TX4) (N := 6) hx hb hts hin_X4 hown hK hP 0 rfl rfl 0 (by decide) hw_0 (fun _ h9 => h9) rfl dX4_bounds_36 ?_
    refine lv_iload_n hx hb dX4_bounds_39 rfl (lv_at hl 1 rfl) ?_
    have hPc := fl_P (S' := [stW cI a σ]) hP [1] rfl
    have hKc := hK.sub (tys' := [(cI, FieldType.int)]) [0] rfl
    refine wr_calli (va_runV (As := [.int (iI (c))]) (rest := []) ⟨hx, hb, hml, hown, hts⟩ (c_X3_highOf l D cI cO cC cL a σ (c) (by omega) (hI)) (cwV 1 hts gX4_bounds_X3_highOf rfl rfl rfl (by decide +kernel) ⟨Nat.le_of_ble_eq_true rfl, Nat.le_of_ble_eq_true rfl⟩) ⟨pcR_blind, va_recv hKc hPc (ci := 3) (q0 := 0) rfl rfl, pcR_of hPc hKc⟩ rfl rfl hl.1 rfl (lv_room (Nat.le_of_ble_eq_true rfl)) dX4_bounds_40 ⟨(Nat.zero_le _), (Nat.zero_le _)⟩) (fun r5 hr5 => ?_)
    subst hr5
    refine lv_iload_n hx hb dX4_bounds_43 rfl (lv_at hl 3 rfl) ?_
    refine wi_icmp_le (tgt := 57) hx hb dX4_bounds_44 (by decide) (by omega) (fun c_44 => ?_) (fun c_44 => ?_)
    · skip
      exact absurd (show cd3 (0 ≤ c ∧ c ≤ 3) ((-999 ≤ lo ∧ lo ≤ 999) ∧ lo ≤ hi ∧ hi ≤ 999) (lo ≤ lowS σ c (σ 0 0) ∧ highS σ c ≤ hi) = 0 from (by unfold cd3; first | (rw [if_pos (by omega)] <;> rfl) | (rw [if_neg (by omega), if_pos (by omega)] <;> rfl) | (rw [if_neg (by omega), if_neg (by omega), if_pos (by omega)] <;> rfl) | (rw [if_neg (by omega), if_neg (by omega), if_neg (by omega)] <;> rfl))) hbad
    · skip
      exact thrX hx hb hl9 (E := "java/lang/IllegalStateException") (text := "the counter could leave these bounds") (ik := 60) (is := 62) (ic := 64) hown (by decide +kernel) hw_1 hw_2 (fun w9 h9 => hts w9 (hat_IS w9 h9)) hbIS hgIS hZ (by decide) (hl.1.trans hml.symm) dX4_bounds_47 dX4_bounds_50 dX4_bounds_51 dX4_bounds_53 dX4_bounds_56 hexc (Nat.le_of_ble_eq_true rfl) (Nat.le_of_ble_eq_true rfl) (Nat.le_of_ble_eq_true rfl) (Nat.le_of_ble_eq_true rfl) hlocks (by rw [show cd3 (0 ≤ c ∧ c ≤ 3) ((-999 ≤ lo ∧ lo ≤ 999) ∧ lo ≤ hi ∧ hi ≤ 999) (lo ≤ lowS σ c (σ 0 0) ∧ highS σ c ≤ hi) = 3 from (by unfold cd3; first | (rw [if_pos (by omega)] <;> rfl) | (rw [if_neg (by omega), if_pos (by omega)] <;> rfl) | (rw [if_neg (by omega), if_neg (by omega), if_pos (by omega)] <;> rfl) | (rw [if_neg (by omega), if_neg (by omega), if_neg (by omega)] <;> rfl))]; rfl)
set_option maxHeartbeats 4000000 in
set_option maxRecDepth 100000 in
theorem x_X4_promise (l : Launch) (hl9 : l.stackTraces = false) (D : va_G) (cI cO cC cL : ClassId) (x a sv o rd bu : Nat → Nat) (ln σ : Nat → Int → Int) (q c y : Int) (hq : R32 q) (hc : R32 c) (hy : R32 y) (hI : Inv σ) (hbad : cd3 ((0 ≤ q ∧ q ≤ 5) ∧ (0 ≤ c ∧ c ≤ 3)) (y ≠ 0 ∧ -99 ≤ y ∧ y ≤ 99) (reasonS σ q c y (-1) ≤ 0) ≠ 0) : vx_Met l yX4_promise wsX4_promise ({ frames := 8, cells := 1, slots := 6, locals := 162 } : Room) (pcX D [(cI, FieldType.int), (cO, FieldType.object "PromisedCounters$State"), (cC, FieldType.char)] [.ref (x 0), .int (iI (q)), .int (iI (c)), .int (iI (y))] (fl [mnW x a sv o rd bu ln, stW cI a σ])) QX (XN (xnA (cd3 ((0 ≤ q ∧ q ≤ 5) ∧ (0 ≤ c ∧ c ≤ 3)) (y ≠ 0 ∧ -99 ≤ y ∧ y ≤ 99) (reasonS σ q c y (-1) ≤ 0)))) 1 6 noA := by
  refine vx_ofW (cc := cX4_promise) (maxL := 4) (ret := (some .int)) (by decide) rfl ?_
  intro p9 e9 s m args9 below9 meth9 c9 s₁ B hml hexc hv
  obtain ⟨rfl, hP, hK, hZ⟩ := hv
  have hx := B.exec
  have hb := B.bytes
  have hr := B.returns
  have hts := atoms_spec (ws := wsX4_promise) B.pre
  have hown : s.vm.findClass RX4 = some m.cls := findClass_of_methodNamed B.named
  have hlocks := B.notSynchronized
  have hl := lv_entry ([.ref (x 0), .int (iI (q)), .int (iI (c)), .int (iI (y))]) (n := 4) (Nat.le_of_ble_eq_true rfl)
  rw [lg_entry_eq]
  generalize (lg_sl ([.ref (x 0), .int (iI (q)), .int (iI (c)), .int (iI (y))]) ++ List.replicate (4 - (lg_sl ([.ref (x 0), .int (iI (q)), .int (iI (c)), .int (iI (y))])).length) Slot.unset).toArray = ls at hl ⊢
  have hl : lv_has ls 4 [(0, .ref (x 0)), (1, .int (iI (q))), (2, .int (iI (c))), (3, .int (iI (y)))] := hl
  have hn := hI.n
  have hti := hI.t
  refine lv_iload_n hx hb dX4_promise_0 rfl (lv_at hl 1 rfl) ?_
  refine wi_bipush hx hb dX4_promise_1 (by decide) ?_
  refine Or.elim (Decidable.em (0 ≤ q ∧ q < 6)) (fun ok3 => ?_) (fun ok3 => ?_)
  rotate_left
  · skip
    exact passX (vx_runS (As := [.int (iI (q)), .int (iI (6))]) (rest := []) ⟨hx, hb, hml, hown, hts⟩ (x_X4_checkIndex l hl9 D cI cO cC cL (q) (6) (by omega) (by omega) (ok3)) (cwS 2 hts gX4_promise_X4_checkIndex rfl rfl rfl (by decide +kernel) ⟨Nat.le_of_ble_eq_true rfl, Nat.le_of_ble_eq_true rfl⟩) ⟨pcX0_blind, pcX0_of hZ⟩ rfl rfl hl.1 rfl (lv_room (Nat.le_of_ble_eq_true rfl)) dX4_promise_3 ⟨Nat.le_of_ble_eq_true rfl, Nat.le_of_ble_eq_true rfl⟩) hexc hlocks (by rw [show cd3 ((0 ≤ q ∧ q ≤ 5) ∧ (0 ≤ c ∧ c ≤ 3)) (y ≠ 0 ∧ -99 ≤ y ∧ y ≤ 99) (reasonS σ q c y (-1) ≤ 0) = 1 from (by unfold cd3; first | (rw [if_pos (by omega)] <;> rfl) | (rw [if_neg (by omega), if_pos (by omega)] <;> rfl) | (rw [if_neg (by omega), if_neg (by omega), if_pos (by omega)] <;> rfl) | (rw [if_neg (by omega), if_neg (by omega), if_neg (by omega)] <;> rfl))]; rfl)
  refine wr_callv (va_runS (As := [.int (iI (q)), .int (iI (6))]) (rest := []) ⟨hx, hb, hml, hown, hts⟩ (c_X4_checkIndex l D cI cO cC cL (q) (6) (by omega) (by omega)) (cwS 2 hts gX4_promise_X4_checkIndex rfl rfl rfl (by decide +kernel) ⟨Nat.le_of_ble_eq_true rfl, Nat.le_of_ble_eq_true rfl⟩) ⟨fun _ _ _ _ h => h, fun U hU hW => ⟨rfl, trivial⟩⟩ rfl rfl hl.1 rfl (lv_room (Nat.le_of_ble_eq_true rfl)) dX4_promise_3 ⟨(Nat.zero_le _), (Nat.zero_le _)⟩) (fun hv1 => ?_)
  refine lv_iload_n hx hb dX4_promise_6 rfl (lv_at hl 2 rfl) ?_
  refine wi_iconst hx hb dX4_promise_7 ?_
  refine Or.elim (Decidable.em (0 ≤ c ∧ c < 4)) (fun ok8 => ?_) (fun ok8 => ?_)
  rotate_left
  · skip
    exact passX (vx_runS (As := [.int (iI (c)), .int (iI (4))]) (rest := []) ⟨hx, hb, hml, hown, hts⟩ (x_X4_checkIndex l hl9 D cI cO cC cL (c) (4) (by omega) (by omega) (ok8)) (cwS 2 hts gX4_promise_X4_checkIndex rfl rfl rfl (by decide +kernel) ⟨Nat.le_of_ble_eq_true rfl, Nat.le_of_ble_eq_true rfl⟩) ⟨pcX0_blind, pcX0_of hZ⟩ rfl rfl hl.1 rfl (lv_room (Nat.le_of_ble_eq_true rfl)) dX4_promise_8 ⟨Nat.le_of_ble_eq_true rfl, Nat.le_of_ble_eq_true rfl⟩) hexc hlocks (by rw [show cd3 ((0 ≤ q ∧ q ≤ 5) ∧ (0 ≤ c ∧ c ≤ 3)) (y ≠ 0 ∧ -99 ≤ y ∧ y ≤ 99) (reasonS σ q c y (-1) ≤ 0) = 1 from (by unfold cd3; first | (rw [if_pos (by omega)] <;> rfl) | (rw [if_neg (by omega), if_pos (by omega)] <;> rfl) | (rw [if_neg (by omega), if_neg (by omega), if_pos (by omega)] <;> rfl) | (rw [if_neg (by omega), if_neg (by omega), if_neg (by omega)] <;> rfl))]; rfl)
  refine wr_callv (va_runS (As := [.int (iI (c)), .int (iI (4))]) (rest := []) ⟨hx, hb, hml, hown, hts⟩ (c_X4_checkIndex l D cI cO cC cL (c) (4) (by omega) (by omega)) (cwS 2 hts gX4_promise_X4_checkIndex rfl rfl rfl (by decide +kernel) ⟨Nat.le_of_ble_eq_true rfl, Nat.le_of_ble_eq_true rfl⟩) ⟨fun _ _ _ _ h => h, fun U hU hW => ⟨rfl, trivial⟩⟩ rfl rfl hl.1 rfl (lv_room (Nat.le_of_ble_eq_true rfl)) dX4_promise_8 ⟨(Nat.zero_le _), (Nat.zero_le _)⟩) (fun hv2 => ?_)
  refine lv_iload_n hx hb dX4_promise_11 rfl (lv_at hl 3 rfl) ?_
  refine Or.elim (Decidable.em (y ≠ 0 ∧ -99 ≤ y ∧ y ≤ 99)) (fun ok12 => ?_) (fun ok12 => ?_)
  rotate_left
  · skip
    exact passX (vx_runS (As := [.int (iI (y))]) (rest := []) ⟨hx, hb, hml, hown, hts⟩ (x_X4_checkChange l hl9 D cI cO cC cL (y) (by omega) (ok12)) (cwS 1 hts gX4_promise_X4_checkChange rfl rfl rfl (by decide +kernel) ⟨Nat.le_of_ble_eq_true rfl, Nat.le_of_ble_eq_true rfl⟩) ⟨pcX0_blind, pcX0_of hZ⟩ rfl rfl hl.1 rfl (lv_room (Nat.le_of_ble_eq_true rfl)) dX4_promise_12 ⟨Nat.le_of_ble_eq_true rfl, Nat.le_of_ble_eq_true rfl⟩) hexc hlocks (by rw [show cd3 ((0 ≤ q ∧ q ≤ 5) ∧ (0 ≤ c ∧ c ≤ 3)) (y ≠ 0 ∧ -99 ≤ y ∧ y ≤ 99) (reasonS σ q c y (-1) ≤ 0) = 2 from (by unfold cd3; first | (rw [if_pos (by omega)] <;> rfl) | (rw [if_neg (by omega), if_pos (by omega)] <;> rfl) | (rw [if_neg (by omega), if_neg (by omega), if_pos (by omega)] <;> rfl) | (rw [if_neg (by omega), if_neg (by omega), if_neg (by omega)] <;> rfl))]; rfl)
  refine wr_callv (va_runS (As := [.int (iI (y))]) (rest := []) ⟨hx, hb, hml, hown, hts⟩ (c_X4_checkChange l D cI cO cC cL (y) (by omega)) (cwS 1 hts gX4_promise_X4_checkChange rfl rfl rfl (by decide +kernel) ⟨Nat.le_of_ble_eq_true rfl, Nat.le_of_ble_eq_true rfl⟩) ⟨fun _ _ _ _ h => h, fun U hU hW => ⟨rfl, trivial⟩⟩ rfl rfl hl.1 rfl (lv_room (Nat.le_of_ble_eq_true rfl)) dX4_promise_12 ⟨(Nat.zero_le _), (Nat.zero_le _)⟩) (fun hv3 => ?_)
  refine lv_aload_n hx hb dX4_promise_15 rfl (lv_at hl 0 rfl) ?_
  refine lv_iload_n hx hb dX4_promise_16 rfl (lv_at hl 1 rfl) ?_
  refine lv_iload_n hx hb dX4_promise_17 rfl (lv_at hl 2 rfl) ?_
  refine lv_iload_n hx hb dX4_promise_18 rfl (lv_at hl 3 rfl) ?_
  refine wi_iconst hx hb dX4_promise_19 ?_
  refine Or.elim (Decidable.em (reasonS σ (q) (c) (y) (-1) ≤ 0)) (fun ok20 => ?_) (fun ok20 => ?_)
  rotate_left
  · skip
    exact passX (vx_runV (As := [.int (iI (q)), .int (iI (c)), .int (iI (y)), .int (iI (-1))]) (rest := []) ⟨hx, hb, hml, hown, hts⟩ (x_X4_checkNoReason l hl9 D cI cO cC cL x a sv o rd bu ln σ (q) (c) (y) (-1) (by omega) (by omega) (by omega) (by omega) (hI) (ok20)) (cwV 4 hts gX4_promise_X4_checkNoReason rfl rfl rfl (by decide +kernel) ⟨Nat.le_of_ble_eq_true rfl, Nat.le_of_ble_eq_true rfl⟩) ⟨pcX_blind, va_recv hK hP (ci := 4) (q0 := 0) rfl rfl, pcX_of hP hK hZ⟩ rfl rfl hl.1 rfl (lv_room (Nat.le_of_ble_eq_true rfl)) dX4_promise_20 ⟨Nat.le_of_ble_eq_true rfl, Nat.le_of_ble_eq_true rfl⟩) hexc hlocks (by rw [show cd3 ((0 ≤ q ∧ q ≤ 5) ∧ (0 ≤ c ∧ c ≤ 3)) (y ≠ 0 ∧ -99 ≤ y ∧ y ≤ 99) (reasonS σ q c y (-1) ≤ 0) = 3 from (by unfold cd3; first | (rw [if_pos (by omega)] <;> rfl) | (rw [if_neg (by omega), if_pos (by omega)] <;> rfl) | (rw [if_neg (by omega), if_neg (by omega), if_pos (by omega)] <;> rfl) | (rw [if_neg (by omega), if_neg (by omega), if_neg (by omega)] <;> rfl))]; rfl)
  refine wr_callv (va_runV (As := [.int (iI (q)), .int (iI (c)), .int (iI (y)), .int (iI (-1))]) (rest := []) ⟨hx, hb, hml, hown, hts⟩ (c_X4_checkNoReason l D cI cO cC cL x a sv o rd bu ln σ (q) (c) (y) (-1) (by omega) (by omega) (by omega) (by omega) (by omega) (hI)) (cwV 4 hts gX4_promise_X4_checkNoReason rfl rfl rfl (by decide +kernel) ⟨Nat.le_of_ble_eq_true rfl, Nat.le_of_ble_eq_true rfl⟩) ⟨pcR_blind, va_recv hK hP (ci := 4) (q0 := 0) rfl rfl, pcR_of hP hK⟩ rfl rfl hl.1 rfl (lv_room (Nat.le_of_ble_eq_true rfl)) dX4_promise_20 ⟨(Nat.zero_le _), (Nat.zero_le _)⟩) (fun hv4 => ?_)
  exact absurd (show cd3 ((0 ≤ q ∧ q ≤ 5) ∧ (0 ≤ c ∧ c ≤ 3)) (y ≠ 0 ∧ -99 ≤ y ∧ y ≤ 99) (reasonS σ q c y (-1) ≤ 0) = 0 from (by unfold cd3; first | (rw [if_pos (by omega)] <;> rfl) | (rw [if_neg (by omega), if_pos (by omega)] <;> rfl) | (rw [if_neg (by omega), if_neg (by omega), if_pos (by omega)] <;> rfl) | (rw [if_neg (by omega), if_neg (by omega), if_neg (by omega)] <;> rfl))) hbad
set_option maxHeartbeats 4000000 in
set_option maxRecDepth 100000 in
theorem x_X4_transfer (l : Launch) (hl9 : l.stackTraces = false) (D : va_G) (cI cO cC cL : ClassId) (x a sv o rd bu : Nat → Nat) (ln σ : Nat → Int → Int) (q f t k : Int) (hq : R32 q) (hf : R32 f) (ht : R32 t) (hk : R32 k) (hI : Inv σ) (hbad : cd3 ((0 ≤ q ∧ q ≤ 5) ∧ (0 ≤ f ∧ f ≤ 3) ∧ (0 ≤ t ∧ t ≤ 3)) (f ≠ t ∧ 1 ≤ k ∧ k ≤ 99) (reasonS σ q f (-k) t ≤ 0) ≠ 0) : vx_Met l yX4_transfer wsX4_transfer ({ frames := 7, cells := 1, slots := 6, locals := 144 } : Room) (pcX D [(cI, FieldType.int), (cO, FieldType.object "PromisedCounters$State"), (cC, FieldType.char)] [.ref (x 0), .int (iI (q)), .int (iI (f)), .int (iI (t)), .int (iI (k))] (fl [mnW x a sv o rd bu ln, stW cI a σ])) QX (XN (xnA (cd3 ((0 ≤ q ∧ q ≤ 5) ∧ (0 ≤ f ∧ f ≤ 3) ∧ (0 ≤ t ∧ t ≤ 3)) (f ≠ t ∧ 1 ≤ k ∧ k ≤ 99) (reasonS σ q f (-k) t ≤ 0)))) 1 6 noA := by
  refine vx_ofW (cc := cX4_transfer) (maxL := 5) (ret := (some .int)) (by decide) rfl ?_
  intro p9 e9 s m args9 below9 meth9 c9 s₁ B hml hexc hv
  obtain ⟨rfl, hP, hK, hZ⟩ := hv
  have hx := B.exec
  have hb := B.bytes
  have hr := B.returns
  have hts := atoms_spec (ws := wsX4_transfer) B.pre
  have hown : s.vm.findClass RX4 = some m.cls := findClass_of_methodNamed B.named
  have hlocks := B.notSynchronized
  have hl := lv_entry ([.ref (x 0), .int (iI (q)), .int (iI (f)), .int (iI (t)), .int (iI (k))]) (n := 5) (Nat.le_of_ble_eq_true rfl)
  rw [lg_entry_eq]
  generalize (lg_sl ([.ref (x 0), .int (iI (q)), .int (iI (f)), .int (iI (t)), .int (iI (k))]) ++ List.replicate (5 - (lg_sl ([.ref (x 0), .int (iI (q)), .int (iI (f)), .int (iI (t)), .int (iI (k))])).length) Slot.unset).toArray = ls at hl ⊢
  have hl : lv_has ls 5 [(0, .ref (x 0)), (1, .int (iI (q))), (2, .int (iI (f))), (3, .int (iI (t))), (4, .int (iI (k)))] := hl
  have hw_0 := hts (Cond.classLink RX4 93 "java/lang/IllegalArgumentException") (by decide +kernel)
  have hw_1 := hts (Cond.initialized "java/lang/IllegalArgumentException") (by decide +kernel)
  have hat_IA : ∀ w ∈ (vx_atS RX4 97 "java/lang/IllegalArgumentException" thN).filter goodWord, w ∈ wsX4_transfer := by decide +kernel
  have hn := hI.n
  have hti := hI.t
  refine lv_iload_n hx hb dX4_transfer_0 rfl (lv_at hl 1 rfl) ?_
  refine wi_bipush hx hb dX4_transfer_1 (by decide) ?_
  refine Or.elim (Decidable.em (0 ≤ q ∧ q < 6)) (fun ok3 => ?_) (fun ok3 => ?_)
  rotate_left
  · skip
    exact passX (vx_runS (As := [.int (iI (q)), .int (iI (6))]) (rest := []) ⟨hx, hb, hml, hown, hts⟩ (x_X4_checkIndex l hl9 D cI cO cC cL (q) (6) (by omega) (by omega) (ok3)) (cwS 2 hts gX4_transfer_X4_checkIndex rfl rfl rfl (by decide +kernel) ⟨Nat.le_of_ble_eq_true rfl, Nat.le_of_ble_eq_true rfl⟩) ⟨pcX0_blind, pcX0_of hZ⟩ rfl rfl hl.1 rfl (lv_room (Nat.le_of_ble_eq_true rfl)) dX4_transfer_3 ⟨Nat.le_of_ble_eq_true rfl, Nat.le_of_ble_eq_true rfl⟩) hexc hlocks (by rw [show cd3 ((0 ≤ q ∧ q ≤ 5) ∧ (0 ≤ f ∧ f ≤ 3) ∧ (0 ≤ t ∧ t ≤ 3)) (f ≠ t ∧ 1 ≤ k ∧ k ≤ 99) (reasonS σ q f (-k) t ≤ 0) = 1 from (by unfold cd3; first | (rw [if_pos (by omega)] <;> rfl) | (rw [if_neg (by omega), if_pos (by omega)] <;> rfl) | (rw [if_neg (by omega), if_neg (by omega), if_pos (by omega)] <;> rfl) | (rw [if_neg (by omega), if_neg (by omega), if_neg (by omega)] <;> rfl))]; rfl)
  refine wr_callv (va_runS (As := [.int (iI (q)), .int (iI (6))]) (rest := []) ⟨hx, hb, hml, hown, hts⟩ (c_X4_checkIndex l D cI cO cC cL (q) (6) (by omega) (by omega)) (cwS 2 hts gX4_transfer_X4_checkIndex rfl rfl rfl (by decide +kernel) ⟨Nat.le_of_ble_eq_true rfl, Nat.le_of_ble_eq_true rfl⟩) ⟨fun _ _ _ _ h => h, fun U hU hW => ⟨rfl, trivial⟩⟩ rfl rfl hl.1 rfl (lv_room (Nat.le_of_ble_eq_true rfl)) dX4_transfer_3 ⟨(Nat.zero_le _), (Nat.zero_le _)⟩) (fun hv1 => ?_)
  refine lv_iload_n hx hb dX4_transfer_6 rfl (lv_at hl 2 rfl) ?_
  refine wi_iconst hx hb dX4_transfer_7 ?_
  refine Or.elim (Decidable.em (0 ≤ f ∧ f < 4)) (fun ok8 => ?_) (fun ok8 => ?_)
  rotate_left
  · skip
    exact passX (vx_runS (As := [.int (iI (f)), .int (iI (4))]) (rest := []) ⟨hx, hb, hml, hown, hts⟩ (x_X4_checkIndex l hl9 D cI cO cC cL (f) (4) (by omega) (by omega) (ok8)) (cwS 2 hts gX4_transfer_X4_checkIndex rfl rfl rfl (by decide +kernel) ⟨Nat.le_of_ble_eq_true rfl, Nat.le_of_ble_eq_true rfl⟩) ⟨pcX0_blind, pcX0_of hZ⟩ rfl rfl hl.1 rfl (lv_room (Nat.le_of_ble_eq_true rfl)) dX4_transfer_8 ⟨Nat.le_of_ble_eq_true rfl, Nat.le_of_ble_eq_true rfl⟩) hexc hlocks (by rw [show cd3 ((0 ≤ q ∧ q ≤ 5) ∧ (0 ≤ f ∧ f ≤ 3) ∧ (0 ≤ t ∧ t ≤ 3)) (f ≠ t ∧ 1 ≤ k ∧ k ≤ 99) (reasonS σ q f (-k) t ≤ 0) = 1 from (by unfold cd3; first | (rw [if_pos (by omega)] <;> rfl) | (rw [if_neg (by omega), if_pos (by omega)] <;> rfl) | (rw [if_neg (by omega), if_neg (by omega), if_pos (by omega)] <;> rfl) | (rw [if_neg (by omega), if_neg (by omega), if_neg (by omega)] <;> rfl))]; rfl)
  refine wr_callv (va_runS (As := [.int (iI (f)), .int (iI (4))]) (rest := []) ⟨hx, hb, hml, hown, hts⟩ (c_X4_checkIndex l D cI cO cC cL (f) (4) (by omega) (by omega)) (cwS 2 hts gX4_transfer_X4_checkIndex rfl rfl rfl (by decide +kernel) ⟨Nat.le_of_ble_eq_true rfl, Nat.le_of_ble_eq_true rfl⟩) ⟨fun _ _ _ _ h => h, fun U hU hW => ⟨rfl, trivial⟩⟩ rfl rfl hl.1 rfl (lv_room (Nat.le_of_ble_eq_true rfl)) dX4_transfer_8 ⟨(Nat.zero_le _), (Nat.zero_le _)⟩) (fun hv2 => ?_)
  refine lv_iload_n hx hb dX4_transfer_11 rfl (lv_at hl 3 rfl) ?_
  refine wi_iconst hx hb dX4_transfer_12 ?_
  refine Or.elim (Decidable.em (0 ≤ t ∧ t < 4)) (fun ok13 => ?_) (fun ok13 => ?_)
  rotate_left
  · skip
    exact passX (vx_runS (As := [.int (iI (t)), .int (iI (4))]) (rest := []) ⟨hx, hb, hml, hown, hts⟩ (x_X4_checkIndex l hl9 D cI cO cC cL (t) (4) (by omega) (by omega) (ok13)) (cwS 2 hts gX4_transfer_X4_checkIndex rfl rfl rfl (by decide +kernel) ⟨Nat.le_of_ble_eq_true rfl, Nat.le_of_ble_eq_true rfl⟩) ⟨pcX0_blind, pcX0_of hZ⟩ rfl rfl hl.1 rfl (lv_room (Nat.le_of_ble_eq_true rfl)) dX4_transfer_13 ⟨Nat.le_of_ble_eq_true rfl, Nat.le_of_ble_eq_true rfl⟩) hexc hlocks (by rw [show cd3 ((0 ≤ q ∧ q ≤ 5) ∧ (0 ≤ f ∧ f ≤ 3) ∧ (0 ≤ t ∧ t ≤ 3)) (f ≠ t ∧ 1 ≤ k ∧ k ≤ 99) (reasonS σ q f (-k) t ≤ 0) = 1 from (by unfold cd3; first | (rw [if_pos (by omega)] <;> rfl) | (rw [if_neg (by omega), if_pos (by omega)] <;> rfl) | (rw [if_neg (by omega), if_neg (by omega), if_pos (by omega)] <;> rfl) | (rw [if_neg (by omega), if_neg (by omega), if_neg (by omega)] <;> rfl))]; rfl)
  refine wr_callv (va_runS (As := [.int (iI (t)), .int (iI (4))]) (rest := []) ⟨hx, hb, hml, hown, hts⟩ (c_X4_checkIndex l D cI cO cC cL (t) (4) (by omega) (by omega)) (cwS 2 hts gX4_transfer_X4_checkIndex rfl rfl rfl (by decide +kernel) ⟨Nat.le_of_ble_eq_true rfl, Nat.le_of_ble_eq_true rfl⟩) ⟨fun _ _ _ _ h => h, fun U hU hW => ⟨rfl, trivial⟩⟩ rfl rfl hl.1 rfl (lv_room (Nat.le_of_ble_eq_true rfl)) dX4_transfer_13 ⟨(Nat.zero_le _), (Nat.zero_le _)⟩) (fun hv3 => ?_)
  refine lv_iload_n hx hb dX4_transfer_16 rfl (lv_at hl 2 rfl) ?_
  refine lv_iload_n hx hb dX4_transfer_17 rfl (lv_at hl 3 rfl) ?_
  refine wi_icmp_ne (tgt := 31) hx hb dX4_transfer_18 (by decide) (by omega) (fun c_18 => ?_) (fun c_18 => ?_)
  · skip
    refine lv_iload hx hb dX4_transfer_31 (lv_at hl 4 rfl) ?_
    refine wi_iconst hx hb dX4_transfer_33 ?_
    refine wi_bipush hx hb dX4_transfer_34 (by decide) ?_
    refine Or.elim (Decidable.em (1 ≤ k ∧ k ≤ 99)) (fun ok36 => ?_) (fun ok36 => ?_)
    rotate_left
    · skip
      exact passX (vx_runS (As := [.int (iI (k)), .int (iI (1)), .int (iI (99))]) (rest := []) ⟨hx, hb, hml, hown, hts⟩ (x_X4_checkArgument l hl9 D cI cO cC cL (k) (1) (99) (by omega) (by omega) (by omega) (ok36)) (cwS 3 hts gX4_transfer_X4_checkArgument rfl rfl rfl (by decide +kernel) ⟨Nat.le_of_ble_eq_true rfl, Nat.le_of_ble_eq_true rfl⟩) ⟨pcX0_blind, pcX0_of hZ⟩ rfl rfl hl.1 rfl (lv_room (Nat.le_of_ble_eq_true rfl)) dX4_transfer_36 ⟨Nat.le_of_ble_eq_true rfl, Nat.le_of_ble_eq_true rfl⟩) hexc hlocks (by rw [show cd3 ((0 ≤ q ∧ q ≤ 5) ∧ (0 ≤ f ∧ f ≤ 3) ∧ (0 ≤ t ∧ t ≤ 3)) (f ≠ t ∧ 1 ≤ k ∧ k ≤ 99) (reasonS σ q f (-k) t ≤ 0) = 2 from (by unfold cd3; first | (rw [if_pos (by omega)] <;> rfl) | (rw [if_neg (by omega), if_pos (by omega)] <;> rfl) | (rw [if_neg (by omega), if_neg (by omega), if_pos (by omega)] <;> rfl) | (rw [if_neg (by omega), if_neg (by omega), if_neg (by omega)] <;> rfl))]; rfl)
    refine wr_callv (va_runS (As := [.int (iI (k)), .int (iI (1)), .int (iI (99))]) (rest := []) ⟨hx, hb, hml, hown, hts⟩ (c_X4_checkArgument l D cI cO cC cL (k) (1) (99) (by omega) (by omega) (by omega)) (cwS 3 hts gX4_transfer_X4_checkArgument rfl rfl rfl (by decide +kernel) ⟨Nat.le_of_ble_eq_true rfl, Nat.le_of_ble_eq_true rfl⟩) ⟨fun _ _ _ _ h => h, fun U hU hW => ⟨rfl, trivial⟩⟩ rfl rfl hl.1 rfl (lv_room (Nat.le_of_ble_eq_true rfl)) dX4_transfer_36 ⟨(Nat.zero_le _), (Nat.zero_le _)⟩) (fun hv4 => ?_)
    refine lv_aload_n hx hb dX4_transfer_39 rfl (lv_at hl 0 rfl) ?_
    refine lv_iload_n hx hb dX4_transfer_40 rfl (lv_at hl 1 rfl) ?_
    refine lv_iload_n hx hb dX4_transfer_41 rfl (lv_at hl 2 rfl) ?_
    refine lv_iload hx hb dX4_transfer_42 (lv_at hl 4 rfl) ?_
    refine wi_ineg hx hb dX4_transfer_44 ?_
    refine lv_iload_n hx hb dX4_transfer_45 rfl (lv_at hl 3 rfl) ?_
    refine Or.elim (Decidable.em (reasonS σ (q) (f) ((-k)) (t) ≤ 0)) (fun ok46 => ?_) (fun ok46 => ?_)
    rotate_left
    · skip
      exact passX (vx_runV (As := [.int (iI (q)), .int (iI (f)), .int (iI ((-k))), .int (iI (t))]) (rest := []) ⟨hx, hb, hml, hown, hts⟩ (x_X4_checkNoReason l hl9 D cI cO cC cL x a sv o rd bu ln σ (q) (f) ((-k)) (t) (by omega) (by omega) (by omega) (by omega) (hI) (ok46)) (cwV 4 hts gX4_transfer_X4_checkNoReason rfl rfl rfl (by decide +kernel) ⟨Nat.le_of_ble_eq_true rfl, Nat.le_of_ble_eq_true rfl⟩) ⟨pcX_blind, va_recv hK hP (ci := 4) (q0 := 0) rfl rfl, pcX_of hP hK hZ⟩ rfl rfl hl.1 rfl (lv_room (Nat.le_of_ble_eq_true rfl)) dX4_transfer_46 ⟨Nat.le_of_ble_eq_true rfl, Nat.le_of_ble_eq_true rfl⟩) hexc hlocks (by rw [show cd3 ((0 ≤ q ∧ q ≤ 5) ∧ (0 ≤ f ∧ f ≤ 3) ∧ (0 ≤ t ∧ t ≤ 3)) (f ≠ t ∧ 1 ≤ k ∧ k ≤ 99) (reasonS σ q f (-k) t ≤ 0) = 3 from (by unfold cd3; first | (rw [if_pos (by omega)] <;> rfl) | (rw [if_neg (by omega), if_pos (by omega)] <;> rfl) | (rw [if_neg (by omega), if_neg (by omega), if_pos (by omega)] <;> rfl) | (rw [if_neg (by omega), if_neg (by omega), if_neg (by omega)] <;> rfl))]; rfl)
    refine wr_callv (va_runV (As := [.int (iI (q)), .int (iI (f)), .int (iI ((-k))), .int (iI (t))]) (rest := []) ⟨hx, hb, hml, hown, hts⟩ (c_X4_checkNoReason l D cI cO cC cL x a sv o rd bu ln σ (q) (f) ((-k)) (t) (by omega) (by omega) (by omega) (by omega) (by omega) (hI)) (cwV 4 hts gX4_transfer_X4_checkNoReason rfl rfl rfl (by decide +kernel) ⟨Nat.le_of_ble_eq_true rfl, Nat.le_of_ble_eq_true rfl⟩) ⟨pcR_blind, va_recv hK hP (ci := 4) (q0 := 0) rfl rfl, pcR_of hP hK⟩ rfl rfl hl.1 rfl (lv_room (Nat.le_of_ble_eq_true rfl)) dX4_transfer_46 ⟨(Nat.zero_le _), (Nat.zero_le _)⟩) (fun hv5 => ?_)
    exact absurd (show cd3 ((0 ≤ q ∧ q ≤ 5) ∧ (0 ≤ f ∧ f ≤ 3) ∧ (0 ≤ t ∧ t ≤ 3)) (f ≠ t ∧ 1 ≤ k ∧ k ≤ 99) (reasonS σ q f (-k) t ≤ 0) = 0 from (by unfold cd3; first | (rw [if_pos (by omega)] <;> rfl) | (rw [if_neg (by omega), if_pos (by omega)] <;> rfl) | (rw [if_neg (by omega), if_neg (by omega), if_pos (by omega)] <;> rfl) | (rw [if_neg (by omega), if_neg (by omega), if_neg (by omega)] <;> rfl))) hbad
  · skip
    exact thrX hx hb hl9 (E := "java/lang/IllegalArgumentException") (text := "a transfer goes to another counter") (ik := 93) (is := 95) (ic := 97) hown (by decide +kernel) hw_0 hw_1 (fun w9 h9 => hts w9 (hat_IA w9 h9)) hbIA hgIA hZ (by decide) (hl.1.trans hml.symm) dX4_transfer_21 dX4_transfer_24 dX4_transfer_25 dX4_transfer_27 dX4_transfer_30 hexc (Nat.le_of_ble_eq_true rfl) (Nat.le_of_ble_eq_true rfl) (Nat.le_of_ble_eq_true rfl) (Nat.le_of_ble_eq_true rfl) hlocks (by rw [show cd3 ((0 ≤ q ∧ q ≤ 5) ∧ (0 ≤ f ∧ f ≤ 3) ∧ (0 ≤ t ∧ t ≤ 3)) (f ≠ t ∧ 1 ≤ k ∧ k ≤ 99) (reasonS σ q f (-k) t ≤ 0) = 2 from (by unfold cd3; first | (rw [if_pos (by omega)] <;> rfl) | (rw [if_neg (by omega), if_pos (by omega)] <;> rfl) | (rw [if_neg (by omega), if_neg (by omega), if_pos (by omega)] <;> rfl) | (rw [if_neg (by omega), if_neg (by omega), if_neg (by omega)] <;> rfl))]; rfl)
set_option maxHeartbeats 4000000 in
set_option maxRecDepth 100000 in
theorem x_X4_settlePart (l : Launch) (hl9 : l.stackTraces = false) (D : va_G) (cI cO cC cL : ClassId) (x a sv o rd bu : Nat → Nat) (ln σ : Nat → Int → Int) (p q : Int) (hp : R32 p) (hq : R32 q) (hI : Inv σ) (hbad : cd2 (0 ≤ p ∧ p < σ 0 1) (1 ≤ q ∧ q ≤ aI (σ 7 p) - 1) ≠ 0) : vx_Met l yX4_settlePart wsX4_settlePart ({ frames := 7, cells := 1, slots := 6, locals := 142 } : Room) (pcX D [(cI, FieldType.int), (cO, FieldType.object "PromisedCounters$State"), (cC, FieldType.char)] [.ref (x 0), .int (iI (p)), .int (iI (q))] (fl [mnW x a sv o rd bu ln, stW cI a σ])) QX (XN (xnA (cd2 (0 ≤ p ∧ p < σ 0 1) (1 ≤ q ∧ q ≤ aI (σ 7 p) - 1)))) 1 6 noA := by
  refine vx_ofW (cc := cX4_settlePart) (maxL := 4) (ret := (some .int)) (by decide) rfl ?_
  intro p9 e9 s m args9 below9 meth9 c9 s₁ B hml hexc hv
  obtain ⟨rfl, hP, hK, hZ⟩ := hv
  have hx := B.exec
  have hb := B.bytes
  have hr := B.returns
  have hts := atoms_spec (ws := wsX4_settlePart) B.pre
  have hown : s.vm.findClass RX4 = some m.cls := findClass_of_methodNamed B.named
  have hlocks := B.notSynchronized
  have hl := lv_entry ([.ref (x 0), .int (iI (p)), .int (iI (q))]) (n := 4) (Nat.le_of_ble_eq_true rfl)
  rw [lg_entry_eq]
  generalize (lg_sl ([.ref (x 0), .int (iI (p)), .int (iI (q))]) ++ List.replicate (4 - (lg_sl ([.ref (x 0), .int (iI (p)), .int (iI (q))])).length) Slot.unset).toArray = ls at hl ⊢
  have hl : lv_has ls 4 [(0, .ref (x 0)), (1, .int (iI (p))), (2, .int (iI (q)))] := hl
  have hw_0 := hts (.fieldLink RX4 10 "PromisedCounters" "state" "LPromisedCounters$State;") (by decide +kernel)
  have hin_X4 : ∀ w ∈ u_ws RX4 TX4 6, w ∈ wsX4_settlePart := by decide +kernel
  have hw_1 := hts (.fieldLink RX4 98 "PromisedCounters$State" "promises" "I") (by decide +kernel)
  have hin_X3 : ∀ w ∈ u_ws RX3 TX3 15, w ∈ wsX4_settlePart := by decide +kernel
  have hw_2 := hts (.fieldLink RX4 110 "PromisedCounters$State" "change" "[I") (by decide +kernel)
  have hw_3 := hts (Cond.methodLink RX4 113 Lib.Math.abs.name) (by decide +kernel)
  have hw_4 := hts (Cond.static Lib.Math.abs.name) (by decide +kernel)
  have hw_5 := hts (Cond.initialized "java/lang/Math") (by decide +kernel)
  have hw_6 := hts (Cond.code Lib.Math.abs.name Lib.Math.abs.code 1 (some .int)) (by decide +kernel)
  have hn := hI.n
  have hti := hI.t
  refine lv_iload_n hx hb dX4_settlePart_0 rfl (lv_at hl 1 rfl) ?_
  refine lv_aload_n hx hb dX4_settlePart_1 rfl (lv_at hl 0 rfl) ?_
  refine va_get (D := D) (ci := 4) (v := .ref (a 0)) (C := RX4) (T := TX4) (N := 6) hx hb hts hin_X4 hown hK hP 0 rfl rfl 0 (by decide) hw_0 (fun _ h9 => h9) rfl dX4_settlePart_2 ?_
  refine va_get (D := D) (ci := 3) (v := .int (iI ((σ 0 1)))) (C := RX3) (T := TX3) (N := 15) hx hb hts hin_X3 hown hK hP 1 rfl rfl 1 (by decide) hw_1 (fun _ h9 => h9) rfl dX4_settlePart_5 ?_
  refine Or.elim (Decidable.em (0 ≤ p ∧ p < (σ 0 1))) (fun ok8 => ?_) (fun ok8 => ?_)
  rotate_left
  · skip
    exact passX (vx_runS (As := [.int (iI (p)), .int (iI ((σ 0 1)))]) (rest := []) ⟨hx, hb, hml, hown, hts⟩ (x_X4_checkIndex l hl9 D cI cO cC cL (p) ((σ 0 1)) (by omega) (by omega) (ok8)) (cwS 2 hts gX4_settlePart_X4_checkIndex rfl rfl rfl (by decide +kernel) ⟨Nat.le_of_ble_eq_true rfl, Nat.le_of_ble_eq_true rfl⟩) ⟨pcX0_blind, pcX0_of hZ⟩ rfl rfl hl.1 rfl (lv_room (Nat.le_of_ble_eq_true rfl)) dX4_settlePart_8 ⟨Nat.le_of_ble_eq_true rfl, Nat.le_of_ble_eq_true rfl⟩) hexc hlocks (by rw [show cd2 (0 ≤ p ∧ p < σ 0 1) (1 ≤ q ∧ q ≤ aI (σ 7 p) - 1) = 1 from (by unfold cd2; first | (rw [if_pos (by omega)] <;> rfl) | (rw [if_neg (by omega), if_pos (by omega)] <;> rfl) | (rw [if_neg (by omega), if_neg (by omega)] <;> rfl))]; rfl)
  refine wr_callv (va_runS (As := [.int (iI (p)), .int (iI ((σ 0 1)))]) (rest := []) ⟨hx, hb, hml, hown, hts⟩ (c_X4_checkIndex l D cI cO cC cL (p) ((σ 0 1)) (by omega) (by omega)) (cwS 2 hts gX4_settlePart_X4_checkIndex rfl rfl rfl (by decide +kernel) ⟨Nat.le_of_ble_eq_true rfl, Nat.le_of_ble_eq_true rfl⟩) ⟨fun _ _ _ _ h => h, fun U hU hW => ⟨rfl, trivial⟩⟩ rfl rfl hl.1 rfl (lv_room (Nat.le_of_ble_eq_true rfl)) dX4_settlePart_8 ⟨(Nat.zero_le _), (Nat.zero_le _)⟩) (fun hv1 => ?_)
  have hpr := (hI.pr (p := p) (by omega) (by omega)).p0
  obtain ⟨hp1, hp2, hp3, hp4⟩ := id hpr
  have ha9 : aI (σ 7 p) = if σ 7 p < 0 then -σ 7 p else σ 7 p := rfl
  refine lv_iload_n hx hb dX4_settlePart_11 rfl (lv_at hl 2 rfl) ?_
  refine wi_iconst hx hb dX4_settlePart_12 ?_
  refine lv_aload_n hx hb dX4_settlePart_13 rfl (lv_at hl 0 rfl) ?_
  refine va_get (D := D) (ci := 4) (v := .ref (a 0)) (C := RX4) (T := TX4) (N := 6) hx hb hts hin_X4 hown hK hP 0 rfl rfl 0 (by decide) hw_0 (fun _ h9 => h9) rfl dX4_settlePart_14 ?_
  refine va_get (D := D) (ci := 3) (v := .ref (a 7)) (C := RX3) (T := TX3) (N := 15) hx hb hts hin_X3 hown hK hP 1 rfl rfl 9 (by decide) hw_2 (fun _ h9 => h9) rfl dX4_settlePart_17 ?_
  refine lv_iload_n hx hb dX4_settlePart_20 rfl (lv_at hl 1 rfl) ?_
  refine wi_iald hx hb hK hP 8 0 (n := 16) (f := σ 7) rfl rfl (i := p) (by omega) (by decide) dX4_settlePart_21 ?_
  refine va_mabs hx hb (hml.trans hl.1.symm) hown hw_3 hw_4 hw_5 hw_6 (Nat.le_of_ble_eq_true rfl) (Nat.le_of_ble_eq_true rfl) (Nat.zero_le _) (Nat.zero_le _) dX4_settlePart_22 ?_
  rw [abs_ii (by omega)]
  refine wi_iconst hx hb dX4_settlePart_25 ?_
  refine wi_isub hx hb dX4_settlePart_26 ?_
  refine Or.elim (Decidable.em (1 ≤ q ∧ q ≤ ((aI ((σ 7 (p)))) - 1))) (fun ok27 => ?_) (fun ok27 => ?_)
  rotate_left
  · skip
    exact passX (vx_runS (As := [.int (iI (q)), .int (iI (1)), .int (iI (((aI ((σ 7 (p)))) - 1)))]) (rest := []) ⟨hx, hb, hml, hown, hts⟩ (x_X4_checkArgument l hl9 D cI cO cC cL (q) (1) (((aI ((σ 7 (p)))) - 1)) (by omega) (by omega) (by omega) (ok27)) (cwS 3 hts gX4_settlePart_X4_checkArgument rfl rfl rfl (by decide +kernel) ⟨Nat.le_of_ble_eq_true rfl, Nat.le_of_ble_eq_true rfl⟩) ⟨pcX0_blind, pcX0_of hZ⟩ rfl rfl hl.1 rfl (lv_room (Nat.le_of_ble_eq_true rfl)) dX4_settlePart_27 ⟨Nat.le_of_ble_eq_true rfl, Nat.le_of_ble_eq_true rfl⟩) hexc hlocks (by rw [show cd2 (0 ≤ p ∧ p < σ 0 1) (1 ≤ q ∧ q ≤ aI (σ 7 p) - 1) = 2 from (by unfold cd2; first | (rw [if_pos (by omega)] <;> rfl) | (rw [if_neg (by omega), if_pos (by omega)] <;> rfl) | (rw [if_neg (by omega), if_neg (by omega)] <;> rfl))]; rfl)
  refine wr_callv (va_runS (As := [.int (iI (q)), .int (iI (1)), .int (iI (((aI ((σ 7 (p)))) - 1)))]) (rest := []) ⟨hx, hb, hml, hown, hts⟩ (c_X4_checkArgument l D cI cO cC cL (q) (1) (((aI ((σ 7 (p)))) - 1)) (by omega) (by omega) (by omega)) (cwS 3 hts gX4_settlePart_X4_checkArgument rfl rfl rfl (by decide +kernel) ⟨Nat.le_of_ble_eq_true rfl, Nat.le_of_ble_eq_true rfl⟩) ⟨fun _ _ _ _ h => h, fun U hU hW => ⟨rfl, trivial⟩⟩ rfl rfl hl.1 rfl (lv_room (Nat.le_of_ble_eq_true rfl)) dX4_settlePart_27 ⟨(Nat.zero_le _), (Nat.zero_le _)⟩) (fun hv2 => ?_)
  exact absurd (show cd2 (0 ≤ p ∧ p < σ 0 1) (1 ≤ q ∧ q ≤ aI (σ 7 p) - 1) = 0 from (by unfold cd2; first | (rw [if_pos (by omega)] <;> rfl) | (rw [if_neg (by omega), if_pos (by omega)] <;> rfl) | (rw [if_neg (by omega), if_neg (by omega)] <;> rfl))) hbad
set_option maxHeartbeats 4000000 in
set_option maxRecDepth 100000 in
theorem x_X4_undo (l : Launch) (hl9 : l.stackTraces = false) (D : va_G) (cI cO cC cL : ClassId) (x a sv o rd bu : Nat → Nat) (ln κ : Nat → Int → Int) (sa : Nat → Nat → Nat) (hk : 0 ≤ κ 0 0 ∧ κ 0 0 ≤ 6) (hbad : cd1 (κ 0 0 ≠ 0) ≠ 0) : vx_Met l yX4_undo wsX4_undo ({ frames := 6, cells := 1, slots := 6, locals := 120 } : Room) (pcX D [(cI, FieldType.int), (cO, FieldType.object "PromisedCounters$State"), (cC, FieldType.char)] [.ref (x 0)] (fl [mnW x a sv o rd bu ln, svO cO sv (saF sa) κ])) QX (XN (xnC (cd1 (κ 0 0 ≠ 0)))) 1 6 noA := by
  refine vx_ofW (cc := cX4_undo) (maxL := 1) (ret := (some .int)) (by decide) rfl ?_
  intro p9 e9 s m args9 below9 meth9 c9 s₁ B hml hexc hv
  obtain ⟨rfl, hP, hK, hZ⟩ := hv
  have hx := B.exec
  have hb := B.bytes
  have hr := B.returns
  have hts := atoms_spec (ws := wsX4_undo) B.pre
  have hown : s.vm.findClass RX4 = some m.cls := findClass_of_methodNamed B.named
  have hlocks := B.notSynchronized
  have hl := lv_entry ([.ref (x 0)]) (n := 1) (Nat.le_of_ble_eq_true rfl)
  rw [lg_entry_eq]
  generalize (lg_sl ([.ref (x 0)]) ++ List.replicate (1 - (lg_sl ([.ref (x 0)])).length) Slot.unset).toArray = ls at hl ⊢
  have hl : lv_has ls 1 [(0, .ref (x 0))] := hl
  have hw_0 := hts (.fieldLink RX4 19 "PromisedCounters" "saved" "LPromisedCounters$SavedStates;") (by decide +kernel)
  have hin_X4 : ∀ w ∈ u_ws RX4 TX4 6, w ∈ wsX4_undo := by decide +kernel
  have hw_1 := hts (.fieldLink RX4 160 "PromisedCounters$SavedStates" "many" "I") (by decide +kernel)
  have hin_X2 : ∀ w ∈ u_ws RX2 TX2 2, w ∈ wsX4_undo := by decide +kernel
  have hw_2 := hts (Cond.classLink RX4 60 "java/lang/IllegalStateException") (by decide +kernel)
  have hw_3 := hts (Cond.initialized "java/lang/IllegalStateException") (by decide +kernel)
  have hat_IS : ∀ w ∈ (vx_atS RX4 64 "java/lang/IllegalStateException" thN).filter goodWord, w ∈ wsX4_undo := by decide +kernel
  refine lv_aload_n hx hb dX4_undo_0 rfl (lv_at hl 0 rfl) ?_
  refine va_get (D := D) (ci := 4) (v := .ref (sv 0)) (C := RX4) (T := TX4) (N := 6) hx hb hts hin_X4 hown hK hP 0 rfl rfl 1 (by decide) hw_0 (fun _ h9 => h9) rfl dX4_undo_1 ?_
  refine va_get (D := D) (ci := 2) (v := .int (iI ((κ 0 0)))) (C := RX2) (T := TX2) (N := 2) hx hb hts hin_X2 hown hK hP 1 rfl rfl 1 (by decide) hw_1 (fun _ h9 => h9) rfl dX4_undo_4 ?_
  refine wi_if_ne (tgt := 20) hx hb dX4_undo_7 (by decide) (by omega) (fun c_7 => ?_) (fun c_7 => ?_)
  · skip
    exact absurd (show cd1 (κ 0 0 ≠ 0) = 0 from (by unfold cd1; first | (rw [if_pos (by omega)] <;> rfl) | (rw [if_neg (by omega)] <;> rfl))) hbad
  · skip
    exact thrX hx hb hl9 (E := "java/lang/IllegalStateException") (text := "there is no saved state") (ik := 60) (is := 163) (ic := 64) hown (by decide +kernel) hw_2 hw_3 (fun w9 h9 => hts w9 (hat_IS w9 h9)) hbIS hgIS hZ (by decide) (hl.1.trans hml.symm) dX4_undo_10 dX4_undo_13 dX4_undo_14 dX4_undo_16 dX4_undo_19 hexc (Nat.le_of_ble_eq_true rfl) (Nat.le_of_ble_eq_true rfl) (Nat.le_of_ble_eq_true rfl) (Nat.le_of_ble_eq_true rfl) hlocks (by rw [show cd1 (κ 0 0 ≠ 0) = 1 from (by unfold cd1; first | (rw [if_pos (by omega)] <;> rfl) | (rw [if_neg (by omega)] <;> rfl))]; rfl)
