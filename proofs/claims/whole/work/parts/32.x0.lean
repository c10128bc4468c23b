set_option maxHeartbeats 4000000 in
set_option maxRecDepth 100000 in
theorem c_X0_isDigit (l : Launch) (D : va_G) (cI cO cC cL : ClassId) (c lo hi : Int) (hc : 0 ≤ c ∧ c ≤ 65535) (hlo : 0 ≤ lo ∧ lo ≤ 9) (hhi : 0 ≤ hi ∧ hi ≤ 9) : Met l yX0_isDigit wsX0_isDigit ({ frames := 0, cells := 0, slots := 0, locals := 0 } : Room) (va_Pc [.int (iI (c)), .int (iI (lo)), .int (iI (hi))] (fun _ => True)) (wr_Si (fun r => r = (if 48 + lo ≤ c ∧ c ≤ 48 + hi then 1 else 0))) 0 0 (fun _ => False) := by
  refine Met.ofW (cc := cX0_isDigit) (maxL := 3) (ret := (some .boolean)) (by decide) rfl ?_
  intro p9 e9 s m args9 below9 meth9 c9 s₁ B hml hv
  obtain ⟨rfl, -⟩ := hv
  have hx := B.exec
  have hb := B.bytes
  have hr := B.returns
  have hts := atoms_spec (ws := wsX0_isDigit) B.pre
  have hown : s.vm.findClass RX0 = some m.cls := findClass_of_methodNamed B.named
  have hlocks := B.notSynchronized
  have hl := lv_entry ([.int (iI (c)), .int (iI (lo)), .int (iI (hi))]) (n := 3) (Nat.le_of_ble_eq_true rfl)
  rw [lg_entry_eq]
  generalize (lg_sl ([.int (iI (c)), .int (iI (lo)), .int (iI (hi))]) ++ List.replicate (3 - (lg_sl ([.int (iI (c)), .int (iI (lo)), .int (iI (hi))])).length) Slot.unset).toArray = ls at hl ⊢
  have hl : lv_has ls 3 [(0, .int (iI (c))), (1, .int (iI (lo))), (2, .int (iI (hi)))] := hl
  refine lv_iload_n hx hb dX0_isDigit_0 rfl (lv_at hl 0 rfl) ?_
  refine wi_bipush hx hb dX0_isDigit_1 (by decide) ?_
  refine lv_iload_n hx hb dX0_isDigit_3 rfl (lv_at hl 1 rfl) ?_
  refine wi_iadd hx hb dX0_isDigit_4 ?_
  refine wi_icmp_lt (tgt := 20) hx hb dX0_isDigit_5 (by decide) (by omega) (fun c_5 => ?_) (fun c_5 => ?_)
  · skip
    refine wi_iconst hx hb dX0_isDigit_20 ?_
    exact W.zret (v := iI (0)) hx hb hr (nar_z (by omega)) (fun t9 ht9 hW9 => ⟨(0), rfl, (by omega), ht9⟩) (fun _ h => nomatch h) dX0_isDigit_21 hlocks
  · skip
    refine lv_iload_n hx hb dX0_isDigit_8 rfl (lv_at hl 0 rfl) ?_
    refine wi_bipush hx hb dX0_isDigit_9 (by decide) ?_
    refine lv_iload_n hx hb dX0_isDigit_11 rfl (lv_at hl 2 rfl) ?_
    refine wi_iadd hx hb dX0_isDigit_12 ?_
    refine wi_icmp_gt (tgt := 20) hx hb dX0_isDigit_13 (by decide) (by omega) (fun c_13 => ?_) (fun c_13 => ?_)
    · skip
      refine wi_iconst hx hb dX0_isDigit_20 ?_
      exact W.zret (v := iI (0)) hx hb hr (nar_z (by omega)) (fun t9 ht9 hW9 => ⟨(0), rfl, (by omega), ht9⟩) (fun _ h => nomatch h) dX0_isDigit_21 hlocks
    · skip
      refine wi_iconst hx hb dX0_isDigit_16 ?_
      refine lv_goto (tgt := 21) hx hb dX0_isDigit_17 (by decide) ?_
      exact W.zret (v := iI (1)) hx hb hr (nar_z (by omega)) (fun t9 ht9 hW9 => ⟨(1), rfl, (by omega), ht9⟩) (fun _ h => nomatch h) dX0_isDigit_21 hlocks
set_option maxHeartbeats 4000000 in
set_option maxRecDepth 100000 in
theorem c_X0_goesTo (l : Launch) (D : va_G) (cI cO cC cL : ClassId) (sz : Nat) (rd : Nat → Nat) (ρ : Nat → Int → Int) (k : Int)  : Met l yX0_goesTo wsX0_goesTo ({ frames := 0, cells := 0, slots := 0, locals := 0 } : Room) (pcW D [(cI, FieldType.int)] [.ref (rd 0), .int (iI (k))] (fl [rdW rd ρ]) sz) (wq_i (fun (r : Int) (_ : Unit) => r = 1) (fun (_ : Unit) => (bW D [(cI, FieldType.int)] (fl [rdW rd (sU ρ 0 0 k)]) (va_A (fl [rdW rd ρ]) sz))) (va_A (fl [rdW rd ρ]) sz)) 0 0 (va_A (fl [rdW rd ρ]) sz) := by
  refine Met.ofW (cc := cX0_goesTo) (maxL := 2) (ret := (some .boolean)) (by decide) rfl ?_
  intro p9 e9 s m args9 below9 meth9 c9 s₁ B hml hv
  obtain ⟨rfl, hsz, hP, hK, hD0⟩ := hv
  have hx := B.exec
  have hb := B.bytes
  have hr := B.returns
  have hts := atoms_spec (ws := wsX0_goesTo) B.pre
  have hown : s.vm.findClass RX0 = some m.cls := findClass_of_methodNamed B.named
  have hlocks := B.notSynchronized
  subst hsz
  have hD := hD0.self (sz := s.heap.size)
  generalize hAe : va_A (fl [rdW rd ρ]) s.heap.size = A at hD ⊢
  have hA : ∀ q : Nat, s.heap.size ≤ q → A q := fun q h => by rw [← hAe]; exact Or.inr h
  have hS : va_S A s.heap s.heap [] := va_S.rf
  have hP : va_P D vwCl (fl [rdW rd ρ]) s.heap := hP
  have hl := lv_entry ([.ref (rd 0), .int (iI (k))]) (n := 2) (Nat.le_of_ble_eq_true rfl)
  rw [lg_entry_eq]
  generalize (lg_sl ([.ref (rd 0), .int (iI (k))]) ++ List.replicate (2 - (lg_sl ([.ref (rd 0), .int (iI (k))])).length) Slot.unset).toArray = ls at hl ⊢
  have hl : lv_has ls 2 [(0, .ref (rd 0)), (1, .int (iI (k)))] := hl
  have hw_0 := hts (.fieldLink RX0 11 "PromisedCounters$ChangeReader" "place" "I") (by decide +kernel)
  have hin_X0 : ∀ w ∈ u_ws RX0 TX0 6, w ∈ wsX0_goesTo := by decide +kernel
  refine lv_aload_n hx hb dX0_goesTo_0 rfl (lv_at hl 0 rfl) ?_
  refine lv_iload_n hx hb dX0_goesTo_1 rfl (lv_at hl 1 rfl) ?_
  refine va_put (D := D) (ci := 0) (v := .int (iI (k))) (ty := .int) (C := RX0) (T := TX0) (N := 6) hx hb hts hin_X0 tyX0 tyX0_ok nmX0 hown hK hP hD hS 0 rfl rfl 0 (by decide) hw_0 (fun _ h9 => h9) rfl (by decide +kernel) rfl rfl (Nat.le_of_ble_eq_true rfl) dX0_goesTo_2 (fun H locs hP hD hS => ?_)
  have hP : va_P D vwCl (fl [rdW rd (sU ρ 0 (0) (k))]) H := hP
  have hD : va_D A (fl [rdW rd (sU ρ 0 (0) (k))]) := hD
  refine wi_iconst hx hb dX0_goesTo_5 ?_
  have hP : va_P D vwCl (fl [rdW rd (sU ρ 0 0 k)]) H := hP
  have hD : va_D A (fl [rdW rd (sU ρ 0 0 k)]) := hD
  exact W.zret (v := iI (1)) hx hb hr (nar_z (by omega)) (fun t9 ht9 hW9 => ⟨⟨(1), (), rfl, (rfl), ⟨by rw [ht9]; exact hP, va_K.moved hW9.alike hK, hD⟩⟩, hS.F ht9⟩) hS.2.2 dX0_goesTo_6 hlocks
set_option maxHeartbeats 4000000 in
set_option maxRecDepth 100000 in
theorem c_X0_begin (l : Launch) (D : va_G) (cI cO cC cL : ClassId) (sz : Nat) (rd : Nat → Nat) (ρ : Nat → Int → Int)  : Met l yX0_begin wsX0_begin ({ frames := 0, cells := 0, slots := 0, locals := 0 } : Room) (pcW D [(cI, FieldType.int)] [.ref (rd 0)] (fl [rdW rd ρ]) sz) (va_Qv (fun (_ : Unit) => True) (fun (_ : Unit) => (bW D [(cI, FieldType.int)] (fl [rdW rd (sU ρ 0 0 0)]) (va_A (fl [rdW rd ρ]) sz))) (va_A (fl [rdW rd ρ]) sz)) 0 0 (va_A (fl [rdW rd ρ]) sz) := by
  refine Met.ofW (cc := cX0_begin) (maxL := 1) (ret := none) (by decide) rfl ?_
  intro p9 e9 s m args9 below9 meth9 c9 s₁ B hml hv
  obtain ⟨rfl, hsz, hP, hK, hD0⟩ := hv
  have hx := B.exec
  have hb := B.bytes
  have hr := B.returns
  have hts := atoms_spec (ws := wsX0_begin) B.pre
  have hown : s.vm.findClass RX0 = some m.cls := findClass_of_methodNamed B.named
  have hlocks := B.notSynchronized
  subst hsz
  have hD := hD0.self (sz := s.heap.size)
  generalize hAe : va_A (fl [rdW rd ρ]) s.heap.size = A at hD ⊢
  have hA : ∀ q : Nat, s.heap.size ≤ q → A q := fun q h => by rw [← hAe]; exact Or.inr h
  have hS : va_S A s.heap s.heap [] := va_S.rf
  have hP : va_P D vwCl (fl [rdW rd ρ]) s.heap := hP
  have hl := lv_entry ([.ref (rd 0)]) (n := 1) (Nat.le_of_ble_eq_true rfl)
  rw [lg_entry_eq]
  generalize (lg_sl ([.ref (rd 0)]) ++ List.replicate (1 - (lg_sl ([.ref (rd 0)])).length) Slot.unset).toArray = ls at hl ⊢
  have hl : lv_has ls 1 [(0, .ref (rd 0))] := hl
  have hw_0 := hts (.fieldLink RX0 11 "PromisedCounters$ChangeReader" "place" "I") (by decide +kernel)
  have hin_X0 : ∀ w ∈ u_ws RX0 TX0 6, w ∈ wsX0_begin := by decide +kernel
  refine lv_aload_n hx hb dX0_begin_0 rfl (lv_at hl 0 rfl) ?_
  refine wi_iconst hx hb dX0_begin_1 ?_
  refine va_put (D := D) (ci := 0) (v := .int (iI (0))) (ty := .int) (C := RX0) (T := TX0) (N := 6) hx hb hts hin_X0 tyX0 tyX0_ok nmX0 hown hK hP hD hS 0 rfl rfl 0 (by decide) hw_0 (fun _ h9 => h9) rfl (by decide +kernel) rfl rfl (Nat.le_of_ble_eq_true rfl) dX0_begin_2 (fun H locs hP hD hS => ?_)
  have hP : va_P D vwCl (fl [rdW rd (sU ρ 0 (0) (0))]) H := hP
  have hD : va_D A (fl [rdW rd (sU ρ 0 (0) (0))]) := hD
  have hP : va_P D vwCl (fl [rdW rd (sU ρ 0 0 0)]) H := hP
  have hD : va_D A (fl [rdW rd (sU ρ 0 0 0)]) := hD
  exact W.vret hx hb hr (fun t9 ht9 hW9 => ⟨⟨(), rfl, (trivial), ⟨by rw [ht9]; exact hP, va_K.moved hW9.alike hK, hD⟩⟩, hS.F ht9⟩) hS.2.2 dX0_begin_5 hlocks
set_option maxHeartbeats 4000000 in
set_option maxRecDepth 100000 in
theorem c_X0_isComplete (l : Launch) (D : va_G) (cI cO cC cL : ClassId) (rd : Nat → Nat) (ρ : Nat → Int → Int) (hpl : 0 ≤ ρ 0 0 ∧ ρ 0 0 ≤ 8) : Met l yX0_isComplete wsX0_isComplete ({ frames := 0, cells := 0, slots := 0, locals := 0 } : Room) (pcR D [(cI, FieldType.int)] [.ref (rd 0)] (fl [rdW rd ρ])) (wr_Si (fun r => r = (if dFin (ρ 0) then 1 else 0))) 0 0 (fun _ => False) := by
  refine Met.ofW (cc := cX0_isComplete) (maxL := 1) (ret := (some .boolean)) (by decide) rfl ?_
  intro p9 e9 s m args9 below9 meth9 c9 s₁ B hml hv
  obtain ⟨rfl, hP, hK⟩ := hv
  have hx := B.exec
  have hb := B.bytes
  have hr := B.returns
  have hts := atoms_spec (ws := wsX0_isComplete) B.pre
  have hown : s.vm.findClass RX0 = some m.cls := findClass_of_methodNamed B.named
  have hlocks := B.notSynchronized
  have hl := lv_entry ([.ref (rd 0)]) (n := 1) (Nat.le_of_ble_eq_true rfl)
  rw [lg_entry_eq]
  generalize (lg_sl ([.ref (rd 0)]) ++ List.replicate (1 - (lg_sl ([.ref (rd 0)])).length) Slot.unset).toArray = ls at hl ⊢
  have hl : lv_has ls 1 [(0, .ref (rd 0))] := hl
  have hw_0 := hts (.fieldLink RX0 11 "PromisedCounters$ChangeReader" "place" "I") (by decide +kernel)
  have hin_X0 : ∀ w ∈ u_ws RX0 TX0 6, w ∈ wsX0_isComplete := by decide +kernel
  refine lv_aload_n hx hb dX0_isComplete_0 rfl (lv_at hl 0 rfl) ?_
  refine va_get (D := D) (ci := 0) (v := .int (iI ((ρ 0 0)))) (C := RX0) (T := TX0) (N := 6) hx hb hts hin_X0 hown hK hP 0 rfl rfl 0 (by decide) hw_0 (fun _ h9 => h9) rfl dX0_isComplete_1 ?_
  refine wi_iconst hx hb dX0_isComplete_4 ?_
  refine wi_icmp_eq (tgt := 26) hx hb dX0_isComplete_5 (by decide) (by omega) (fun c_5 => ?_) (fun c_5 => ?_)
  · skip
    refine wi_iconst hx hb dX0_isComplete_26 ?_
    refine lv_goto (tgt := 31) hx hb dX0_isComplete_27 (by decide) ?_
    exact W.zret (v := iI (1)) hx hb hr (nar_z (by omega)) (fun t9 ht9 hW9 => ⟨(1), rfl, (by omega), ht9⟩) (fun _ h => nomatch h) dX0_isComplete_31 hlocks
  · skip
    refine lv_aload_n hx hb dX0_isComplete_8 rfl (lv_at hl 0 rfl) ?_
    refine va_get (D := D) (ci := 0) (v := .int (iI ((ρ 0 0)))) (C := RX0) (T := TX0) (N := 6) hx hb hts hin_X0 hown hK hP 0 rfl rfl 0 (by decide) hw_0 (fun _ h9 => h9) rfl dX0_isComplete_9 ?_
    refine wi_bipush hx hb dX0_isComplete_12 (by decide) ?_
    refine wi_icmp_eq (tgt := 26) hx hb dX0_isComplete_14 (by decide) (by omega) (fun c_14 => ?_) (fun c_14 => ?_)
    · skip
      refine wi_iconst hx hb dX0_isComplete_26 ?_
      refine lv_goto (tgt := 31) hx hb dX0_isComplete_27 (by decide) ?_
      exact W.zret (v := iI (1)) hx hb hr (nar_z (by omega)) (fun t9 ht9 hW9 => ⟨(1), rfl, (by omega), ht9⟩) (fun _ h => nomatch h) dX0_isComplete_31 hlocks
    · skip
      refine lv_aload_n hx hb dX0_isComplete_17 rfl (lv_at hl 0 rfl) ?_
      refine va_get (D := D) (ci := 0) (v := .int (iI ((ρ 0 0)))) (C := RX0) (T := TX0) (N := 6) hx hb hts hin_X0 hown hK hP 0 rfl rfl 0 (by decide) hw_0 (fun _ h9 => h9) rfl dX0_isComplete_18 ?_
      refine wi_bipush hx hb dX0_isComplete_21 (by decide) ?_
      refine wi_icmp_ne (tgt := 30) hx hb dX0_isComplete_23 (by decide) (by omega) (fun c_23 => ?_) (fun c_23 => ?_)
      · skip
        refine wi_iconst hx hb dX0_isComplete_30 ?_
        exact W.zret (v := iI (0)) hx hb hr (nar_z (by omega)) (fun t9 ht9 hW9 => ⟨(0), rfl, (by omega), ht9⟩) (fun _ h => nomatch h) dX0_isComplete_31 hlocks
      · skip
        refine wi_iconst hx hb dX0_isComplete_26 ?_
        refine lv_goto (tgt := 31) hx hb dX0_isComplete_27 (by decide) ?_
        exact W.zret (v := iI (1)) hx hb hr (nar_z (by omega)) (fun t9 ht9 hW9 => ⟨(1), rfl, (by omega), ht9⟩) (fun _ h => nomatch h) dX0_isComplete_31 hlocks
set_option maxHeartbeats 4000000 in
set_option maxRecDepth 100000 in
theorem c_X0_by (l : Launch) (D : va_G) (cI cO cC cL : ClassId) (rd : Nat → Nat) (ρ : Nat → Int → Int) (hb9 : R32 (ρ 0 1)) : Met l yX0_by wsX0_by ({ frames := 0, cells := 0, slots := 0, locals := 0 } : Room) (pcR D [(cI, FieldType.int)] [.ref (rd 0)] (fl [rdW rd ρ])) (wr_Si (fun r => r = byD (ρ 0))) 0 0 (fun _ => False) := by
  refine Met.ofW (cc := cX0_by) (maxL := 1) (ret := (some .int)) (by decide) rfl ?_
  intro p9 e9 s m args9 below9 meth9 c9 s₁ B hml hv
  obtain ⟨rfl, hP, hK⟩ := hv
  have hx := B.exec
  have hb := B.bytes
  have hr := B.returns
  have hts := atoms_spec (ws := wsX0_by) B.pre
  have hown : s.vm.findClass RX0 = some m.cls := findClass_of_methodNamed B.named
  have hlocks := B.notSynchronized
  have hl := lv_entry ([.ref (rd 0)]) (n := 1) (Nat.le_of_ble_eq_true rfl)
  rw [lg_entry_eq]
  generalize (lg_sl ([.ref (rd 0)]) ++ List.replicate (1 - (lg_sl ([.ref (rd 0)])).length) Slot.unset).toArray = ls at hl ⊢
  have hl : lv_has ls 1 [(0, .ref (rd 0))] := hl
  have hw_0 := hts (.fieldLink RX0 15 "PromisedCounters$ChangeReader" "isBelow" "Z") (by decide +kernel)
  have hin_X0 : ∀ w ∈ u_ws RX0 TX0 6, w ∈ wsX0_by := by decide +kernel
  have hw_1 := hts (.fieldLink RX0 19 "PromisedCounters$ChangeReader" "size" "I") (by decide +kernel)
  refine lv_aload_n hx hb dX0_by_0 rfl (lv_at hl 0 rfl) ?_
  refine va_get (D := D) (ci := 0) (v := .int (iI ((ρ 0 1)))) (C := RX0) (T := TX0) (N := 6) hx hb hts hin_X0 hown hK hP 0 rfl rfl 1 (by decide) hw_0 (fun _ h9 => h9) rfl dX0_by_1 ?_
  refine wi_if_eq (tgt := 15) hx hb dX0_by_4 (by decide) (by omega) (fun c_4 => ?_) (fun c_4 => ?_)
  · skip
    refine lv_aload_n hx hb dX0_by_15 rfl (lv_at hl 0 rfl) ?_
    refine va_get (D := D) (ci := 0) (v := .int (iI ((ρ 0 2)))) (C := RX0) (T := TX0) (N := 6) hx hb hts hin_X0 hown hK hP 0 rfl rfl 2 (by decide) hw_1 (fun _ h9 => h9) rfl dX0_by_16 ?_
    exact W.iret (v := iI ((ρ 0 2))) hx hb hr (fun t9 ht9 hW9 => ⟨((ρ 0 2)), rfl, (by unfold byD; first | rw [if_pos (by omega)] | rw [if_neg (by omega)]), ht9⟩) (fun _ h => nomatch h) dX0_by_19 hlocks
  · skip
    refine lv_aload_n hx hb dX0_by_7 rfl (lv_at hl 0 rfl) ?_
    refine va_get (D := D) (ci := 0) (v := .int (iI ((ρ 0 2)))) (C := RX0) (T := TX0) (N := 6) hx hb hts hin_X0 hown hK hP 0 rfl rfl 2 (by decide) hw_1 (fun _ h9 => h9) rfl dX0_by_8 ?_
    refine wi_ineg hx hb dX0_by_11 ?_
    refine lv_goto (tgt := 19) hx hb dX0_by_12 (by decide) ?_
    exact W.iret (v := iI ((-(ρ 0 2)))) hx hb hr (fun t9 ht9 hW9 => ⟨((-(ρ 0 2))), rfl, (by unfold byD; first | rw [if_pos (by omega)] | rw [if_neg (by omega)]), ht9⟩) (fun _ h => nomatch h) dX0_by_19 hlocks
set_option maxHeartbeats 4000000 in
set_option maxRecDepth 100000 in
theorem c_X0_readsCounter (l : Launch) (D : va_G) (cI cO cC cL : ClassId) (sz : Nat) (rd : Nat → Nat) (ρ : Nat → Int → Int) (c : Int) (hc : 0 ≤ c ∧ c ≤ 65535) : Met l yX0_readsCounter wsX0_readsCounter ({ frames := 1, cells := 0, slots := 0, locals := 22 } : Room) (pcW D [(cI, FieldType.int)] [.ref (rd 0), .int (iI (c))] (fl [rdW rd ρ]) sz) (wq_i (fun (r : Int) (η : Int → Int) => ((48 ≤ c ∧ c ≤ 51) → r = 1 ∧ η = uI (uI (uI (uI (ρ 0) 3 (c - 48)) 4 (-1)) 5 0) 0 1) ∧ (¬ (48 ≤ c ∧ c ≤ 51) → r = 0 ∧ η = ρ 0)) (fun (η : Int → Int) => (bW D [(cI, FieldType.int)] (fl [rdW rd (sR ρ 0 η)]) (va_A (fl [rdW rd ρ]) sz))) (va_A (fl [rdW rd ρ]) sz)) 0 0 (va_A (fl [rdW rd ρ]) sz) := by
  refine Met.ofW (cc := cX0_readsCounter) (maxL := 2) (ret := (some .boolean)) (by decide) rfl ?_
  intro p9 e9 s m args9 below9 meth9 c9 s₁ B hml hv
  obtain ⟨rfl, hsz, hP, hK, hD0⟩ := hv
  have hx := B.exec
  have hb := B.bytes
  have hr := B.returns
  have hts := atoms_spec (ws := wsX0_readsCounter) B.pre
  have hown : s.vm.findClass RX0 = some m.cls := findClass_of_methodNamed B.named
  have hlocks := B.notSynchronized
  subst hsz
  have hD := hD0.self (sz := s.heap.size)
  generalize hAe : va_A (fl [rdW rd ρ]) s.heap.size = A at hD ⊢
  have hA : ∀ q : Nat, s.heap.size ≤ q → A q := fun q h => by rw [← hAe]; exact Or.inr h
  have hS : va_S A s.heap s.heap [] := va_S.rf
  have hP : va_P D vwCl (fl [rdW rd ρ]) s.heap := hP
  have hl := lv_entry ([.ref (rd 0), .int (iI (c))]) (n := 2) (Nat.le_of_ble_eq_true rfl)
  rw [lg_entry_eq]
  generalize (lg_sl ([.ref (rd 0), .int (iI (c))]) ++ List.replicate (2 - (lg_sl ([.ref (rd 0), .int (iI (c))])).length) Slot.unset).toArray = ls at hl ⊢
  have hl : lv_has ls 2 [(0, .ref (rd 0)), (1, .int (iI (c)))] := hl
  have hw_0 := hts (.fieldLink RX0 22 "PromisedCounters$ChangeReader" "from" "I") (by decide +kernel)
  have hin_X0 : ∀ w ∈ u_ws RX0 TX0 6, w ∈ wsX0_readsCounter := by decide +kernel
  have hw_1 := hts (.fieldLink RX0 25 "PromisedCounters$ChangeReader" "to" "I") (by decide +kernel)
  have hw_2 := hts (.fieldLink RX0 28 "PromisedCounters$ChangeReader" "who" "I") (by decide +kernel)
  refine lv_iload_n hx hb dX0_readsCounter_0 rfl (lv_at hl 1 rfl) ?_
  refine wi_iconst hx hb dX0_readsCounter_1 ?_
  refine wi_iconst hx hb dX0_readsCounter_2 ?_
  refine wr_calli (va_runS (As := [.int (iI (c)), .int (iI (0)), .int (iI (3))]) (rest := []) ⟨hx, hb, hml, hown, hts⟩ (c_X0_isDigit l D cI cO cC cL (c) (0) (3) (by omega) (by omega) (by omega)) (cwS 3 hts gX0_readsCounter_X0_isDigit rfl rfl rfl (by decide +kernel) ⟨Nat.le_of_ble_eq_true rfl, Nat.le_of_ble_eq_true rfl⟩) ⟨fun _ _ _ _ h => h, fun U hU hW => ⟨rfl, trivial⟩⟩ rfl rfl hl.1 rfl (lv_room (Nat.le_of_ble_eq_true rfl)) dX0_readsCounter_3 ⟨(Nat.zero_le _), (Nat.zero_le _)⟩) (fun r1 hr1 => ?_)
  subst hr1
  refine wi_if_ne (tgt := 11) hx hb dX0_readsCounter_6 (by decide) (by omega) (fun c_6 => ?_) (fun c_6 => ?_)
  · skip
    refine lv_aload_n hx hb dX0_readsCounter_11 rfl (lv_at hl 0 rfl) ?_
    refine lv_iload_n hx hb dX0_readsCounter_12 rfl (lv_at hl 1 rfl) ?_
    refine wi_bipush hx hb dX0_readsCounter_13 (by decide) ?_
    refine wi_isub hx hb dX0_readsCounter_15 ?_
    refine va_put (D := D) (ci := 0) (v := .int (iI ((c - 48)))) (ty := .int) (C := RX0) (T := TX0) (N := 6) hx hb hts hin_X0 tyX0 tyX0_ok nmX0 hown hK hP hD hS 0 rfl rfl 3 (by decide) hw_0 (fun _ h9 => h9) rfl (by decide +kernel) rfl rfl (Nat.le_of_ble_eq_true rfl) dX0_readsCounter_16 (fun H locs hP hD hS => ?_)
    have hP : va_P D vwCl (fl [rdW rd (sU ρ 0 (3) ((c - 48)))]) H := hP
    have hD : va_D A (fl [rdW rd (sU ρ 0 (3) ((c - 48)))]) := hD
    refine lv_aload_n hx hb dX0_readsCounter_19 rfl (lv_at hl 0 rfl) ?_
    refine wi_iconst hx hb dX0_readsCounter_20 ?_
    refine va_put (D := D) (ci := 0) (v := .int (iI (-1))) (ty := .int) (C := RX0) (T := TX0) (N := 6) hx hb hts hin_X0 tyX0 tyX0_ok nmX0 hown hK hP hD hS 0 rfl rfl 4 (by decide) hw_1 (fun _ h9 => h9) rfl (by decide +kernel) rfl rfl (Nat.le_of_ble_eq_true rfl) dX0_readsCounter_21 (fun H locs hP hD hS => ?_)
    have hP : va_P D vwCl (fl [rdW rd (sU (sU ρ 0 (3) ((c - 48))) 0 (4) (-1))]) H := hP
    have hD : va_D A (fl [rdW rd (sU (sU ρ 0 (3) ((c - 48))) 0 (4) (-1))]) := hD
    refine lv_aload_n hx hb dX0_readsCounter_24 rfl (lv_at hl 0 rfl) ?_
    refine wi_iconst hx hb dX0_readsCounter_25 ?_
    refine va_put (D := D) (ci := 0) (v := .int (iI (0))) (ty := .int) (C := RX0) (T := TX0) (N := 6) hx hb hts hin_X0 tyX0 tyX0_ok nmX0 hown hK hP hD hS 0 rfl rfl 5 (by decide) hw_2 (fun _ h9 => h9) rfl (by decide +kernel) rfl rfl (Nat.le_of_ble_eq_true rfl) dX0_readsCounter_26 (fun H locs hP hD hS => ?_)
    have hP : va_P D vwCl (fl [rdW rd (sU (sU (sU ρ 0 (3) ((c - 48))) 0 (4) (-1)) 0 (5) (0))]) H := hP
    have hD : va_D A (fl [rdW rd (sU (sU (sU ρ 0 (3) ((c - 48))) 0 (4) (-1)) 0 (5) (0))]) := hD
    refine lv_aload_n hx hb dX0_readsCounter_29 rfl (lv_at hl 0 rfl) ?_
    refine wi_iconst hx hb dX0_readsCounter_30 ?_
    have hFc := fl_free (SC := [rdW rd (sU (sU (sU ρ 0 (3) ((c - 48))) 0 (4) (-1)) 0 (5) (0))]) hD hS hA [0] rfl
    refine wq_calli (va_runV (As := [.int (iI (1))]) (rest := []) ⟨hx, hb, hml, hown, hts⟩ (c_X0_goesTo l D cI cO cC cL H.size rd (sU (sU (sU ρ 0 (3) ((c - 48))) 0 (4) (-1)) 0 (5) (0)) (1) ) (cwV 1 hts gX0_readsCounter_X0_goesTo rfl rfl rfl (by decide +kernel) ⟨Nat.le_of_ble_eq_true rfl, Nat.le_of_ble_eq_true rfl⟩) ⟨pcW_blind, va_recv hK hP (ci := 0) (q0 := 0) rfl rfl, pcW_of hP hK hD⟩ rfl rfl hl.1 rfl (lv_room (Nat.le_of_ble_eq_true rfl)) dX0_readsCounter_31 ⟨(Nat.zero_le _), (Nat.zero_le _)⟩) hS (fun q _ h => hFc q h) hFc (fun r2 u4 t9 H1 locs ht9 hvm hcl3 hB hz1 hk1 hS => ?_)
    obtain ⟨hP1, hK1, hD1⟩ := hB
    rw [ht9] at hP1
    obtain ⟨hP, hD⟩ := fl_join (SR := []) (S1 := [rdW rd (sU (sU (sU (sU ρ 0 (3) ((c - 48))) 0 (4) (-1)) 0 (5) (0)) 0 0 (1))]) hP hD [0] [] rfl rfl (by decide) (by decide) hk1 hFc hP1 hD1
    generalize H1 = H at hP hS ⊢
    have hP : va_P D vwCl (fl [rdW rd (sU (sU (sU (sU ρ 0 (3) ((c - 48))) 0 (4) (-1)) 0 (5) (0)) 0 0 (1))]) H := hP
    have hD : va_D A (fl [rdW rd (sU (sU (sU (sU ρ 0 (3) ((c - 48))) 0 (4) (-1)) 0 (5) (0)) 0 0 (1))]) := hD
    have hP : va_P D vwCl (fl [rdW rd (sR ρ 0 ((uI (((uI ((uI ((uI (ρ 0) (3) ((c - 48)))) (4) (-1))) (5) (0)))) 0 (1))))]) H := hP
    have hD : va_D A (fl [rdW rd (sR ρ 0 ((uI (((uI ((uI ((uI (ρ 0) (3) ((c - 48)))) (4) (-1))) (5) (0)))) 0 (1))))]) := hD
    exact W.zret (v := iI (r2)) hx hb hr (nar_z (by omega)) (fun t9 ht9 hW9 => ⟨⟨(r2), ((uI (((uI ((uI ((uI (ρ 0) (3) ((c - 48)))) (4) (-1))) (5) (0)))) 0 (1))), rfl, (⟨fun h9 => by first | (exfalso; omega) | exact ⟨by omega, rfl⟩, fun h9 => by first | (exfalso; omega) | exact ⟨by omega, rfl⟩⟩), ⟨by rw [ht9]; exact hP, va_K.moved hW9.alike hK, hD⟩⟩, hS.F ht9⟩) hS.2.2 dX0_readsCounter_34 hlocks
  · skip
    refine wi_iconst hx hb dX0_readsCounter_9 ?_
    have hP : va_P D vwCl (fl [rdW rd (sR ρ 0 (ρ 0))]) s.heap := hP
    have hD : va_D A (fl [rdW rd (sR ρ 0 (ρ 0))]) := hD
    exact W.zret (v := iI (0)) hx hb hr (nar_z (by omega)) (fun t9 ht9 hW9 => ⟨⟨(0), (ρ 0), rfl, (⟨fun h9 => by first | (exfalso; omega) | exact ⟨by omega, rfl⟩, fun h9 => by first | (exfalso; omega) | exact ⟨by omega, rfl⟩⟩), ⟨by rw [ht9]; exact hP, va_K.moved hW9.alike hK, hD⟩⟩, hS.F ht9⟩) hS.2.2 dX0_readsCounter_10 hlocks
set_option maxHeartbeats 4000000 in
set_option maxRecDepth 100000 in
theorem c_X0_readsKind (l : Launch) (D : va_G) (cI cO cC cL : ClassId) (sz : Nat) (rd : Nat → Nat) (ρ : Nat → Int → Int) (c : Int) (hc : 0 ≤ c ∧ c ≤ 65535) : Met l yX0_readsKind wsX0_readsKind ({ frames := 1, cells := 0, slots := 0, locals := 21 } : Room) (pcW D [(cI, FieldType.int)] [.ref (rd 0), .int (iI (c))] (fl [rdW rd ρ]) sz) (wq_i (fun (r : Int) (η : Int → Int) => ((c = 43 ∨ c = 45 ∨ c = 62) → r = 1 ∧ η = uI (uI (ρ 0) 1 (if c = 43 then 0 else 1)) 0 (if c = 62 then 2 else 4)) ∧ (¬ (c = 43 ∨ c = 45 ∨ c = 62) → r = 0)) (fun (η : Int → Int) => (bW D [(cI, FieldType.int)] (fl [rdW rd (sR ρ 0 η)]) (va_A (fl [rdW rd ρ]) sz))) (va_A (fl [rdW rd ρ]) sz)) 0 0 (va_A (fl [rdW rd ρ]) sz) := by
  refine Met.ofW (cc := cX0_readsKind) (maxL := 2) (ret := (some .boolean)) (by decide) rfl ?_
  intro p9 e9 s m args9 below9 meth9 c9 s₁ B hml hv
  obtain ⟨rfl, hsz, hP, hK, hD0⟩ := hv
  have hx := B.exec
  have hb := B.bytes
  have hr := B.returns
  have hts := atoms_spec (ws := wsX0_readsKind) B.pre
  have hown : s.vm.findClass RX0 = some m.cls := findClass_of_methodNamed B.named
  have hlocks := B.notSynchronized
  subst hsz
  have hD := hD0.self (sz := s.heap.size)
  generalize hAe : va_A (fl [rdW rd ρ]) s.heap.size = A at hD ⊢
  have hA : ∀ q : Nat, s.heap.size ≤ q → A q := fun q h => by rw [← hAe]; exact Or.inr h
  have hS : va_S A s.heap s.heap [] := va_S.rf
  have hP : va_P D vwCl (fl [rdW rd ρ]) s.heap := hP
  have hl := lv_entry ([.ref (rd 0), .int (iI (c))]) (n := 2) (Nat.le_of_ble_eq_true rfl)
  rw [lg_entry_eq]
  generalize (lg_sl ([.ref (rd 0), .int (iI (c))]) ++ List.replicate (2 - (lg_sl ([.ref (rd 0), .int (iI (c))])).length) Slot.unset).toArray = ls at hl ⊢
  have hl : lv_has ls 2 [(0, .ref (rd 0)), (1, .int (iI (c)))] := hl
  have hw_0 := hts (.fieldLink RX0 15 "PromisedCounters$ChangeReader" "isBelow" "Z") (by decide +kernel)
  have hin_X0 : ∀ w ∈ u_ws RX0 TX0 6, w ∈ wsX0_readsKind := by decide +kernel
  refine lv_aload_n hx hb dX0_readsKind_0 rfl (lv_at hl 0 rfl) ?_
  refine lv_iload_n hx hb dX0_readsKind_1 rfl (lv_at hl 1 rfl) ?_
  refine wi_bipush hx hb dX0_readsKind_2 (by decide) ?_
  refine wi_icmp_eq (tgt := 11) hx hb dX0_readsKind_4 (by decide) (by omega) (fun c_4 => ?_) (fun c_4 => ?_)
  · skip
    refine wi_iconst hx hb dX0_readsKind_11 ?_
    refine va_put (D := D) (ci := 0) (v := .int (iI (0))) (ty := .boolean) (C := RX0) (T := TX0) (N := 6) hx hb hts hin_X0 tyX0 tyX0_ok nmX0 hown hK hP hD hS 0 rfl rfl 1 (by decide) hw_0 (fun _ h9 => h9) rfl (by decide +kernel) (nar_z (by omega)) rfl (Nat.le_of_ble_eq_true rfl) dX0_readsKind_12 (fun H locs hP hD hS => ?_)
    have hP : va_P D vwCl (fl [rdW rd (sU ρ 0 (1) (0))]) H := hP
    have hD : va_D A (fl [rdW rd (sU ρ 0 (1) (0))]) := hD
    refine lv_iload_n hx hb dX0_readsKind_15 rfl (lv_at hl 1 rfl) ?_
    refine wi_bipush hx hb dX0_readsKind_16 (by decide) ?_
    refine wi_icmp_eq (tgt := 27) hx hb dX0_readsKind_18 (by decide) (by omega) (fun c_18 => ?_) (fun c_18 => ?_)
    · skip
      refine lv_aload_n hx hb dX0_readsKind_27 rfl (lv_at hl 0 rfl) ?_
      refine wi_iconst hx hb dX0_readsKind_28 ?_
      have hFc := fl_free (SC := [rdW rd (sU ρ 0 (1) (0))]) hD hS hA [0] rfl
      refine wq_calli (va_runV (As := [.int (iI (4))]) (rest := []) ⟨hx, hb, hml, hown, hts⟩ (c_X0_goesTo l D cI cO cC cL H.size rd (sU ρ 0 (1) (0)) (4) ) (cwV 1 hts gX0_readsKind_X0_goesTo rfl rfl rfl (by decide +kernel) ⟨Nat.le_of_ble_eq_true rfl, Nat.le_of_ble_eq_true rfl⟩) ⟨pcW_blind, va_recv hK hP (ci := 0) (q0 := 0) rfl rfl, pcW_of hP hK hD⟩ rfl rfl hl.1 rfl (lv_room (Nat.le_of_ble_eq_true rfl)) dX0_readsKind_29 ⟨(Nat.zero_le _), (Nat.zero_le _)⟩) hS (fun q _ h => hFc q h) hFc (fun r1 u3 t9 H1 locs ht9 hvm hcl2 hB hz1 hk1 hS => ?_)
      obtain ⟨hP1, hK1, hD1⟩ := hB
      rw [ht9] at hP1
      obtain ⟨hP, hD⟩ := fl_join (SR := []) (S1 := [rdW rd (sU (sU ρ 0 (1) (0)) 0 0 (4))]) hP hD [0] [] rfl rfl (by decide) (by decide) hk1 hFc hP1 hD1
      generalize H1 = H at hP hS ⊢
      have hP : va_P D vwCl (fl [rdW rd (sU (sU ρ 0 (1) (0)) 0 0 (4))]) H := hP
      have hD : va_D A (fl [rdW rd (sU (sU ρ 0 (1) (0)) 0 0 (4))]) := hD
      have hP : va_P D vwCl (fl [rdW rd (sR ρ 0 ((uI (((uI (ρ 0) (1) (0)))) 0 (4))))]) H := hP
      have hD : va_D A (fl [rdW rd (sR ρ 0 ((uI (((uI (ρ 0) (1) (0)))) 0 (4))))]) := hD
      exact W.zret (v := iI (r1)) hx hb hr (nar_z (by omega)) (fun t9 ht9 hW9 => ⟨⟨(r1), ((uI (((uI (ρ 0) (1) (0)))) 0 (4))), rfl, (⟨fun h9 => by first | (exfalso; omega) | (refine ⟨by omega, ?_⟩; (first | rw [if_pos (show c = 43 by omega)] | rw [if_neg (show ¬ c = 43 by omega)]); (first | rw [if_pos (show c = 62 by omega)] | rw [if_neg (show ¬ c = 62 by omega)])), fun h9 => by first | (exfalso; omega) | omega⟩), ⟨by rw [ht9]; exact hP, va_K.moved hW9.alike hK, hD⟩⟩, hS.F ht9⟩) hS.2.2 dX0_readsKind_32 hlocks
    · skip
      exfalso; omega
  · skip
    refine wi_iconst hx hb dX0_readsKind_7 ?_
    refine lv_goto (tgt := 12) hx hb dX0_readsKind_8 (by decide) ?_
    refine va_put (D := D) (ci := 0) (v := .int (iI (1))) (ty := .boolean) (C := RX0) (T := TX0) (N := 6) hx hb hts hin_X0 tyX0 tyX0_ok nmX0 hown hK hP hD hS 0 rfl rfl 1 (by decide) hw_0 (fun _ h9 => h9) rfl (by decide +kernel) (nar_z (by omega)) rfl (Nat.le_of_ble_eq_true rfl) dX0_readsKind_12 (fun H locs hP hD hS => ?_)
    have hP : va_P D vwCl (fl [rdW rd (sU ρ 0 (1) (1))]) H := hP
    have hD : va_D A (fl [rdW rd (sU ρ 0 (1) (1))]) := hD
    refine lv_iload_n hx hb dX0_readsKind_15 rfl (lv_at hl 1 rfl) ?_
    refine wi_bipush hx hb dX0_readsKind_16 (by decide) ?_
    refine wi_icmp_eq (tgt := 27) hx hb dX0_readsKind_18 (by decide) (by omega) (fun c_18 => ?_) (fun c_18 => ?_)
    · skip
      exfalso; omega
    · skip
      refine lv_iload_n hx hb dX0_readsKind_21 rfl (lv_at hl 1 rfl) ?_
      refine wi_bipush hx hb dX0_readsKind_22 (by decide) ?_
      refine wi_icmp_ne (tgt := 33) hx hb dX0_readsKind_24 (by decide) (by omega) (fun c_24 => ?_) (fun c_24 => ?_)
      · skip
        refine lv_iload_n hx hb dX0_readsKind_33 rfl (lv_at hl 1 rfl) ?_
        refine wi_bipush hx hb dX0_readsKind_34 (by decide) ?_
        refine wi_icmp_ne (tgt := 51) hx hb dX0_readsKind_36 (by decide) (by omega) (fun c_36 => ?_) (fun c_36 => ?_)
        · skip
          refine wi_iconst hx hb dX0_readsKind_51 ?_
          have hP : va_P D vwCl (fl [rdW rd (sR ρ 0 ((uI (ρ 0) (1) (1))))]) H := hP
          have hD : va_D A (fl [rdW rd (sR ρ 0 ((uI (ρ 0) (1) (1))))]) := hD
          exact W.zret (v := iI (0)) hx hb hr (nar_z (by omega)) (fun t9 ht9 hW9 => ⟨⟨(0), ((uI (ρ 0) (1) (1))), rfl, (⟨fun h9 => by first | (exfalso; omega) | (refine ⟨by omega, ?_⟩; (first | rw [if_pos (show c = 43 by omega)] | rw [if_neg (show ¬ c = 43 by omega)]); (first | rw [if_pos (show c = 62 by omega)] | rw [if_neg (show ¬ c = 62 by omega)])), fun h9 => by first | (exfalso; omega) | omega⟩), ⟨by rw [ht9]; exact hP, va_K.moved hW9.alike hK, hD⟩⟩, hS.F ht9⟩) hS.2.2 dX0_readsKind_52 hlocks
        · skip
          refine lv_aload_n hx hb dX0_readsKind_39 rfl (lv_at hl 0 rfl) ?_
          refine wi_iconst hx hb dX0_readsKind_40 ?_
          have hFc := fl_free (SC := [rdW rd (sU ρ 0 (1) (1))]) hD hS hA [0] rfl
          refine wq_calli (va_runV (As := [.int (iI (2))]) (rest := []) ⟨hx, hb, hml, hown, hts⟩ (c_X0_goesTo l D cI cO cC cL H.size rd (sU ρ 0 (1) (1)) (2) ) (cwV 1 hts gX0_readsKind_X0_goesTo rfl rfl rfl (by decide +kernel) ⟨Nat.le_of_ble_eq_true rfl, Nat.le_of_ble_eq_true rfl⟩) ⟨pcW_blind, va_recv hK hP (ci := 0) (q0 := 0) rfl rfl, pcW_of hP hK hD⟩ rfl rfl hl.1 rfl (lv_room (Nat.le_of_ble_eq_true rfl)) dX0_readsKind_41 ⟨(Nat.zero_le _), (Nat.zero_le _)⟩) hS (fun q _ h => hFc q h) hFc (fun r4 u6 t9 H1 locs ht9 hvm hcl5 hB hz1 hk1 hS => ?_)
          obtain ⟨hP1, hK1, hD1⟩ := hB
          rw [ht9] at hP1
          obtain ⟨hP, hD⟩ := fl_join (SR := []) (S1 := [rdW rd (sU (sU ρ 0 (1) (1)) 0 0 (2))]) hP hD [0] [] rfl rfl (by decide) (by decide) hk1 hFc hP1 hD1
          generalize H1 = H at hP hS ⊢
          have hP : va_P D vwCl (fl [rdW rd (sU (sU ρ 0 (1) (1)) 0 0 (2))]) H := hP
          have hD : va_D A (fl [rdW rd (sU (sU ρ 0 (1) (1)) 0 0 (2))]) := hD
          refine wi_if_eq (tgt := 51) hx hb dX0_readsKind_44 (by decide) (by omega) (fun c_44 => ?_) (fun c_44 => ?_)
          · skip
            refine wi_iconst hx hb dX0_readsKind_51 ?_
            have hP : va_P D vwCl (fl [rdW rd (sR ρ 0 ((uI (((uI (ρ 0) (1) (1)))) 0 (2))))]) H := hP
            have hD : va_D A (fl [rdW rd (sR ρ 0 ((uI (((uI (ρ 0) (1) (1)))) 0 (2))))]) := hD
            exact W.zret (v := iI (0)) hx hb hr (nar_z (by omega)) (fun t9 ht9 hW9 => ⟨⟨(0), ((uI (((uI (ρ 0) (1) (1)))) 0 (2))), rfl, (⟨fun h9 => by first | (exfalso; omega) | (refine ⟨by omega, ?_⟩; (first | rw [if_pos (show c = 43 by omega)] | rw [if_neg (show ¬ c = 43 by omega)]); (first | rw [if_pos (show c = 62 by omega)] | rw [if_neg (show ¬ c = 62 by omega)])), fun h9 => by first | (exfalso; omega) | omega⟩), ⟨by rw [ht9]; exact hP, va_K.moved hW9.alike hK, hD⟩⟩, hS.F ht9⟩) hS.2.2 dX0_readsKind_52 hlocks
          · skip
            refine wi_iconst hx hb dX0_readsKind_47 ?_
            refine lv_goto (tgt := 52) hx hb dX0_readsKind_48 (by decide) ?_
            have hP : va_P D vwCl (fl [rdW rd (sR ρ 0 ((uI (((uI (ρ 0) (1) (1)))) 0 (2))))]) H := hP
            have hD : va_D A (fl [rdW rd (sR ρ 0 ((uI (((uI (ρ 0) (1) (1)))) 0 (2))))]) := hD
            exact W.zret (v := iI (1)) hx hb hr (nar_z (by omega)) (fun t9 ht9 hW9 => ⟨⟨(1), ((uI (((uI (ρ 0) (1) (1)))) 0 (2))), rfl, (⟨fun h9 => by first | (exfalso; omega) | (refine ⟨by omega, ?_⟩; (first | rw [if_pos (show c = 43 by omega)] | rw [if_neg (show ¬ c = 43 by omega)]); (first | rw [if_pos (show c = 62 by omega)] | rw [if_neg (show ¬ c = 62 by omega)])), fun h9 => by first | (exfalso; omega) | omega⟩), ⟨by rw [ht9]; exact hP, va_K.moved hW9.alike hK, hD⟩⟩, hS.F ht9⟩) hS.2.2 dX0_readsKind_52 hlocks
      · skip
        refine lv_aload_n hx hb dX0_readsKind_27 rfl (lv_at hl 0 rfl) ?_
        refine wi_iconst hx hb dX0_readsKind_28 ?_
        have hFc := fl_free (SC := [rdW rd (sU ρ 0 (1) (1))]) hD hS hA [0] rfl
        refine wq_calli (va_runV (As := [.int (iI (4))]) (rest := []) ⟨hx, hb, hml, hown, hts⟩ (c_X0_goesTo l D cI cO cC cL H.size rd (sU ρ 0 (1) (1)) (4) ) (cwV 1 hts gX0_readsKind_X0_goesTo rfl rfl rfl (by decide +kernel) ⟨Nat.le_of_ble_eq_true rfl, Nat.le_of_ble_eq_true rfl⟩) ⟨pcW_blind, va_recv hK hP (ci := 0) (q0 := 0) rfl rfl, pcW_of hP hK hD⟩ rfl rfl hl.1 rfl (lv_room (Nat.le_of_ble_eq_true rfl)) dX0_readsKind_29 ⟨(Nat.zero_le _), (Nat.zero_le _)⟩) hS (fun q _ h => hFc q h) hFc (fun r7 u9 t9 H1 locs ht9 hvm hcl8 hB hz1 hk1 hS => ?_)
        obtain ⟨hP1, hK1, hD1⟩ := hB
        rw [ht9] at hP1
        obtain ⟨hP, hD⟩ := fl_join (SR := []) (S1 := [rdW rd (sU (sU ρ 0 (1) (1)) 0 0 (4))]) hP hD [0] [] rfl rfl (by decide) (by decide) hk1 hFc hP1 hD1
        generalize H1 = H at hP hS ⊢
        have hP : va_P D vwCl (fl [rdW rd (sU (sU ρ 0 (1) (1)) 0 0 (4))]) H := hP
        have hD : va_D A (fl [rdW rd (sU (sU ρ 0 (1) (1)) 0 0 (4))]) := hD
        have hP : va_P D vwCl (fl [rdW rd (sR ρ 0 ((uI (((uI (ρ 0) (1) (1)))) 0 (4))))]) H := hP
        have hD : va_D A (fl [rdW rd (sR ρ 0 ((uI (((uI (ρ 0) (1) (1)))) 0 (4))))]) := hD
        exact W.zret (v := iI (r7)) hx hb hr (nar_z (by omega)) (fun t9 ht9 hW9 => ⟨⟨(r7), ((uI (((uI (ρ 0) (1) (1)))) 0 (4))), rfl, (⟨fun h9 => by first | (exfalso; omega) | (refine ⟨by omega, ?_⟩; (first | rw [if_pos (show c = 43 by omega)] | rw [if_neg (show ¬ c = 43 by omega)]); (first | rw [if_pos (show c = 62 by omega)] | rw [if_neg (show ¬ c = 62 by omega)])), fun h9 => by first | (exfalso; omega) | omega⟩), ⟨by rw [ht9]; exact hP, va_K.moved hW9.alike hK, hD⟩⟩, hS.F ht9⟩) hS.2.2 dX0_readsKind_32 hlocks
set_option maxHeartbeats 4000000 in
set_option maxRecDepth 100000 in
theorem c_X0_readsOther (l : Launch) (D : va_G) (cI cO cC cL : ClassId) (sz : Nat) (rd : Nat → Nat) (ρ : Nat → Int → Int) (c : Int) (hc : 0 ≤ c ∧ c ≤ 65535) (hf9 : R32 (ρ 0 3)) : Met l yX0_readsOther wsX0_readsOther ({ frames := 1, cells := 0, slots := 0, locals := 22 } : Room) (pcW D [(cI, FieldType.int)] [.ref (rd 0), .int (iI (c))] (fl [rdW rd ρ]) sz) (wq_i (fun (r : Int) (η : Int → Int) => ((48 ≤ c ∧ c ≤ 51 ∧ c - 48 ≠ ρ 0 3) → r = 1 ∧ η = uI (uI (ρ 0) 4 (c - 48)) 0 3) ∧ (¬ (48 ≤ c ∧ c ≤ 51 ∧ c - 48 ≠ ρ 0 3) → r = 0 ∧ η = ρ 0)) (fun (η : Int → Int) => (bW D [(cI, FieldType.int)] (fl [rdW rd (sR ρ 0 η)]) (va_A (fl [rdW rd ρ]) sz))) (va_A (fl [rdW rd ρ]) sz)) 0 0 (va_A (fl [rdW rd ρ]) sz) := by
  refine Met.ofW (cc := cX0_readsOther) (maxL := 2) (ret := (some .boolean)) (by decide) rfl ?_
  intro p9 e9 s m args9 below9 meth9 c9 s₁ B hml hv
  obtain ⟨rfl, hsz, hP, hK, hD0⟩ := hv
  have hx := B.exec
  have hb := B.bytes
  have hr := B.returns
  have hts := atoms_spec (ws := wsX0_readsOther) B.pre
  have hown : s.vm.findClass RX0 = some m.cls := findClass_of_methodNamed B.named
  have hlocks := B.notSynchronized
  subst hsz
  have hD := hD0.self (sz := s.heap.size)
  generalize hAe : va_A (fl [rdW rd ρ]) s.heap.size = A at hD ⊢
  have hA : ∀ q : Nat, s.heap.size ≤ q → A q := fun q h => by rw [← hAe]; exact Or.inr h
  have hS : va_S A s.heap s.heap [] := va_S.rf
  have hP : va_P D vwCl (fl [rdW rd ρ]) s.heap := hP
  have hl := lv_entry ([.ref (rd 0), .int (iI (c))]) (n := 2) (Nat.le_of_ble_eq_true rfl)
  rw [lg_entry_eq]
  generalize (lg_sl ([.ref (rd 0), .int (iI (c))]) ++ List.replicate (2 - (lg_sl ([.ref (rd 0), .int (iI (c))])).length) Slot.unset).toArray = ls at hl ⊢
  have hl : lv_has ls 2 [(0, .ref (rd 0)), (1, .int (iI (c)))] := hl
  have hw_0 := hts (.fieldLink RX0 22 "PromisedCounters$ChangeReader" "from" "I") (by decide +kernel)
  have hin_X0 : ∀ w ∈ u_ws RX0 TX0 6, w ∈ wsX0_readsOther := by decide +kernel
  have hw_1 := hts (.fieldLink RX0 25 "PromisedCounters$ChangeReader" "to" "I") (by decide +kernel)
  refine lv_iload_n hx hb dX0_readsOther_0 rfl (lv_at hl 1 rfl) ?_
  refine wi_iconst hx hb dX0_readsOther_1 ?_
  refine wi_iconst hx hb dX0_readsOther_2 ?_
  refine wr_calli (va_runS (As := [.int (iI (c)), .int (iI (0)), .int (iI (3))]) (rest := []) ⟨hx, hb, hml, hown, hts⟩ (c_X0_isDigit l D cI cO cC cL (c) (0) (3) (by omega) (by omega) (by omega)) (cwS 3 hts gX0_readsOther_X0_isDigit rfl rfl rfl (by decide +kernel) ⟨Nat.le_of_ble_eq_true rfl, Nat.le_of_ble_eq_true rfl⟩) ⟨fun _ _ _ _ h => h, fun U hU hW => ⟨rfl, trivial⟩⟩ rfl rfl hl.1 rfl (lv_room (Nat.le_of_ble_eq_true rfl)) dX0_readsOther_3 ⟨(Nat.zero_le _), (Nat.zero_le _)⟩) (fun r1 hr1 => ?_)
  subst hr1
  refine wi_if_eq (tgt := 20) hx hb dX0_readsOther_6 (by decide) (by omega) (fun c_6 => ?_) (fun c_6 => ?_)
  · skip
    refine wi_iconst hx hb dX0_readsOther_20 ?_
    have hP : va_P D vwCl (fl [rdW rd (sR ρ 0 (ρ 0))]) s.heap := hP
    have hD : va_D A (fl [rdW rd (sR ρ 0 (ρ 0))]) := hD
    exact W.zret (v := iI (0)) hx hb hr (nar_z (by omega)) (fun t9 ht9 hW9 => ⟨⟨(0), (ρ 0), rfl, (⟨fun h9 => by first | (exfalso; omega) | exact ⟨by omega, rfl⟩, fun h9 => by first | (exfalso; omega) | exact ⟨by omega, rfl⟩⟩), ⟨by rw [ht9]; exact hP, va_K.moved hW9.alike hK, hD⟩⟩, hS.F ht9⟩) hS.2.2 dX0_readsOther_21 hlocks
  · skip
    refine lv_iload_n hx hb dX0_readsOther_9 rfl (lv_at hl 1 rfl) ?_
    refine wi_bipush hx hb dX0_readsOther_10 (by decide) ?_
    refine wi_isub hx hb dX0_readsOther_12 ?_
    refine lv_aload_n hx hb dX0_readsOther_13 rfl (lv_at hl 0 rfl) ?_
    refine va_get (D := D) (ci := 0) (v := .int (iI ((ρ 0 3)))) (C := RX0) (T := TX0) (N := 6) hx hb hts hin_X0 hown hK hP 0 rfl rfl 3 (by decide) hw_0 (fun _ h9 => h9) rfl dX0_readsOther_14 ?_
    refine wi_icmp_ne (tgt := 22) hx hb dX0_readsOther_17 (by decide) (by omega) (fun c_17 => ?_) (fun c_17 => ?_)
    · skip
      refine lv_aload_n hx hb dX0_readsOther_22 rfl (lv_at hl 0 rfl) ?_
      refine lv_iload_n hx hb dX0_readsOther_23 rfl (lv_at hl 1 rfl) ?_
      refine wi_bipush hx hb dX0_readsOther_24 (by decide) ?_
      refine wi_isub hx hb dX0_readsOther_26 ?_
      refine va_put (D := D) (ci := 0) (v := .int (iI ((c - 48)))) (ty := .int) (C := RX0) (T := TX0) (N := 6) hx hb hts hin_X0 tyX0 tyX0_ok nmX0 hown hK hP hD hS 0 rfl rfl 4 (by decide) hw_1 (fun _ h9 => h9) rfl (by decide +kernel) rfl rfl (Nat.le_of_ble_eq_true rfl) dX0_readsOther_27 (fun H locs hP hD hS => ?_)
      have hP : va_P D vwCl (fl [rdW rd (sU ρ 0 (4) ((c - 48)))]) H := hP
      have hD : va_D A (fl [rdW rd (sU ρ 0 (4) ((c - 48)))]) := hD
      refine lv_aload_n hx hb dX0_readsOther_30 rfl (lv_at hl 0 rfl) ?_
      refine wi_iconst hx hb dX0_readsOther_31 ?_
      have hFc := fl_free (SC := [rdW rd (sU ρ 0 (4) ((c - 48)))]) hD hS hA [0] rfl
      refine wq_calli (va_runV (As := [.int (iI (3))]) (rest := []) ⟨hx, hb, hml, hown, hts⟩ (c_X0_goesTo l D cI cO cC cL H.size rd (sU ρ 0 (4) ((c - 48))) (3) ) (cwV 1 hts gX0_readsOther_X0_goesTo rfl rfl rfl (by decide +kernel) ⟨Nat.le_of_ble_eq_true rfl, Nat.le_of_ble_eq_true rfl⟩) ⟨pcW_blind, va_recv hK hP (ci := 0) (q0 := 0) rfl rfl, pcW_of hP hK hD⟩ rfl rfl hl.1 rfl (lv_room (Nat.le_of_ble_eq_true rfl)) dX0_readsOther_32 ⟨(Nat.zero_le _), (Nat.zero_le _)⟩) hS (fun q _ h => hFc q h) hFc (fun r2 u4 t9 H1 locs ht9 hvm hcl3 hB hz1 hk1 hS => ?_)
      obtain ⟨hP1, hK1, hD1⟩ := hB
      rw [ht9] at hP1
      obtain ⟨hP, hD⟩ := fl_join (SR := []) (S1 := [rdW rd (sU (sU ρ 0 (4) ((c - 48))) 0 0 (3))]) hP hD [0] [] rfl rfl (by decide) (by decide) hk1 hFc hP1 hD1
      generalize H1 = H at hP hS ⊢
      have hP : va_P D vwCl (fl [rdW rd (sU (sU ρ 0 (4) ((c - 48))) 0 0 (3))]) H := hP
      have hD : va_D A (fl [rdW rd (sU (sU ρ 0 (4) ((c - 48))) 0 0 (3))]) := hD
      have hP : va_P D vwCl (fl [rdW rd (sR ρ 0 ((uI (((uI (ρ 0) (4) ((c - 48))))) 0 (3))))]) H := hP
      have hD : va_D A (fl [rdW rd (sR ρ 0 ((uI (((uI (ρ 0) (4) ((c - 48))))) 0 (3))))]) := hD
      exact W.zret (v := iI (r2)) hx hb hr (nar_z (by omega)) (fun t9 ht9 hW9 => ⟨⟨(r2), ((uI (((uI (ρ 0) (4) ((c - 48))))) 0 (3))), rfl, (⟨fun h9 => by first | (exfalso; omega) | exact ⟨by omega, rfl⟩, fun h9 => by first | (exfalso; omega) | exact ⟨by omega, rfl⟩⟩), ⟨by rw [ht9]; exact hP, va_K.moved hW9.alike hK, hD⟩⟩, hS.F ht9⟩) hS.2.2 dX0_readsOther_35 hlocks
    · skip
      refine wi_iconst hx hb dX0_readsOther_20 ?_
      have hP : va_P D vwCl (fl [rdW rd (sR ρ 0 (ρ 0))]) s.heap := hP
      have hD : va_D A (fl [rdW rd (sR ρ 0 (ρ 0))]) := hD
      exact W.zret (v := iI (0)) hx hb hr (nar_z (by omega)) (fun t9 ht9 hW9 => ⟨⟨(0), (ρ 0), rfl, (⟨fun h9 => by first | (exfalso; omega) | exact ⟨by omega, rfl⟩, fun h9 => by first | (exfalso; omega) | exact ⟨by omega, rfl⟩⟩), ⟨by rw [ht9]; exact hP, va_K.moved hW9.alike hK, hD⟩⟩, hS.F ht9⟩) hS.2.2 dX0_readsOther_21 hlocks
set_option maxHeartbeats 4000000 in
set_option maxRecDepth 100000 in
theorem c_X0_readsFirstDigit (l : Launch) (D : va_G) (cI cO cC cL : ClassId) (sz : Nat) (rd : Nat → Nat) (ρ : Nat → Int → Int) (c : Int) (hc : 0 ≤ c ∧ c ≤ 65535) : Met l yX0_readsFirstDigit wsX0_readsFirstDigit ({ frames := 1, cells := 0, slots := 0, locals := 22 } : Room) (pcW D [(cI, FieldType.int)] [.ref (rd 0), .int (iI (c))] (fl [rdW rd ρ]) sz) (wq_i (fun (r : Int) (η : Int → Int) => ((49 ≤ c ∧ c ≤ 57) → r = 1 ∧ η = uI (uI (ρ 0) 2 (c - 48)) 0 5) ∧ (¬ (49 ≤ c ∧ c ≤ 57) → r = 0 ∧ η = ρ 0)) (fun (η : Int → Int) => (bW D [(cI, FieldType.int)] (fl [rdW rd (sR ρ 0 η)]) (va_A (fl [rdW rd ρ]) sz))) (va_A (fl [rdW rd ρ]) sz)) 0 0 (va_A (fl [rdW rd ρ]) sz) := by
  refine Met.ofW (cc := cX0_readsFirstDigit) (maxL := 2) (ret := (some .boolean)) (by decide) rfl ?_
  intro p9 e9 s m args9 below9 meth9 c9 s₁ B hml hv
  obtain ⟨rfl, hsz, hP, hK, hD0⟩ := hv
  have hx := B.exec
  have hb := B.bytes
  have hr := B.returns
  have hts := atoms_spec (ws := wsX0_readsFirstDigit) B.pre
  have hown : s.vm.findClass RX0 = some m.cls := findClass_of_methodNamed B.named
  have hlocks := B.notSynchronized
  subst hsz
  have hD := hD0.self (sz := s.heap.size)
  generalize hAe : va_A (fl [rdW rd ρ]) s.heap.size = A at hD ⊢
  have hA : ∀ q : Nat, s.heap.size ≤ q → A q := fun q h => by rw [← hAe]; exact Or.inr h
  have hS : va_S A s.heap s.heap [] := va_S.rf
  have hP : va_P D vwCl (fl [rdW rd ρ]) s.heap := hP
  have hl := lv_entry ([.ref (rd 0), .int (iI (c))]) (n := 2) (Nat.le_of_ble_eq_true rfl)
  rw [lg_entry_eq]
  generalize (lg_sl ([.ref (rd 0), .int (iI (c))]) ++ List.replicate (2 - (lg_sl ([.ref (rd 0), .int (iI (c))])).length) Slot.unset).toArray = ls at hl ⊢
  have hl : lv_has ls 2 [(0, .ref (rd 0)), (1, .int (iI (c)))] := hl
  have hw_0 := hts (.fieldLink RX0 19 "PromisedCounters$ChangeReader" "size" "I") (by decide +kernel)
  have hin_X0 : ∀ w ∈ u_ws RX0 TX0 6, w ∈ wsX0_readsFirstDigit := by decide +kernel
  refine lv_iload_n hx hb dX0_readsFirstDigit_0 rfl (lv_at hl 1 rfl) ?_
  refine wi_iconst hx hb dX0_readsFirstDigit_1 ?_
  refine wi_bipush hx hb dX0_readsFirstDigit_2 (by decide) ?_
  refine wr_calli (va_runS (As := [.int (iI (c)), .int (iI (1)), .int (iI (9))]) (rest := []) ⟨hx, hb, hml, hown, hts⟩ (c_X0_isDigit l D cI cO cC cL (c) (1) (9) (by omega) (by omega) (by omega)) (cwS 3 hts gX0_readsFirstDigit_X0_isDigit rfl rfl rfl (by decide +kernel) ⟨Nat.le_of_ble_eq_true rfl, Nat.le_of_ble_eq_true rfl⟩) ⟨fun _ _ _ _ h => h, fun U hU hW => ⟨rfl, trivial⟩⟩ rfl rfl hl.1 rfl (lv_room (Nat.le_of_ble_eq_true rfl)) dX0_readsFirstDigit_4 ⟨(Nat.zero_le _), (Nat.zero_le _)⟩) (fun r1 hr1 => ?_)
  subst hr1
  refine wi_if_ne (tgt := 12) hx hb dX0_readsFirstDigit_7 (by decide) (by omega) (fun c_7 => ?_) (fun c_7 => ?_)
  · skip
    refine lv_aload_n hx hb dX0_readsFirstDigit_12 rfl (lv_at hl 0 rfl) ?_
    refine lv_iload_n hx hb dX0_readsFirstDigit_13 rfl (lv_at hl 1 rfl) ?_
    refine wi_bipush hx hb dX0_readsFirstDigit_14 (by decide) ?_
    refine wi_isub hx hb dX0_readsFirstDigit_16 ?_
    refine va_put (D := D) (ci := 0) (v := .int (iI ((c - 48)))) (ty := .int) (C := RX0) (T := TX0) (N := 6) hx hb hts hin_X0 tyX0 tyX0_ok nmX0 hown hK hP hD hS 0 rfl rfl 2 (by decide) hw_0 (fun _ h9 => h9) rfl (by decide +kernel) rfl rfl (Nat.le_of_ble_eq_true rfl) dX0_readsFirstDigit_17 (fun H locs hP hD hS => ?_)
    have hP : va_P D vwCl (fl [rdW rd (sU ρ 0 (2) ((c - 48)))]) H := hP
    have hD : va_D A (fl [rdW rd (sU ρ 0 (2) ((c - 48)))]) := hD
    refine lv_aload_n hx hb dX0_readsFirstDigit_20 rfl (lv_at hl 0 rfl) ?_
    refine wi_iconst hx hb dX0_readsFirstDigit_21 ?_
    have hFc := fl_free (SC := [rdW rd (sU ρ 0 (2) ((c - 48)))]) hD hS hA [0] rfl
    refine wq_calli (va_runV (As := [.int (iI (5))]) (rest := []) ⟨hx, hb, hml, hown, hts⟩ (c_X0_goesTo l D cI cO cC cL H.size rd (sU ρ 0 (2) ((c - 48))) (5) ) (cwV 1 hts gX0_readsFirstDigit_X0_goesTo rfl rfl rfl (by decide +kernel) ⟨Nat.le_of_ble_eq_true rfl, Nat.le_of_ble_eq_true rfl⟩) ⟨pcW_blind, va_recv hK hP (ci := 0) (q0 := 0) rfl rfl, pcW_of hP hK hD⟩ rfl rfl hl.1 rfl (lv_room (Nat.le_of_ble_eq_true rfl)) dX0_readsFirstDigit_22 ⟨(Nat.zero_le _), (Nat.zero_le _)⟩) hS (fun q _ h => hFc q h) hFc (fun r2 u4 t9 H1 locs ht9 hvm hcl3 hB hz1 hk1 hS => ?_)
    obtain ⟨hP1, hK1, hD1⟩ := hB
    rw [ht9] at hP1
    obtain ⟨hP, hD⟩ := fl_join (SR := []) (S1 := [rdW rd (sU (sU ρ 0 (2) ((c - 48))) 0 0 (5))]) hP hD [0] [] rfl rfl (by decide) (by decide) hk1 hFc hP1 hD1
    generalize H1 = H at hP hS ⊢
    have hP : va_P D vwCl (fl [rdW rd (sU (sU ρ 0 (2) ((c - 48))) 0 0 (5))]) H := hP
    have hD : va_D A (fl [rdW rd (sU (sU ρ 0 (2) ((c - 48))) 0 0 (5))]) := hD
    have hP : va_P D vwCl (fl [rdW rd (sR ρ 0 ((uI (((uI (ρ 0) (2) ((c - 48))))) 0 (5))))]) H := hP
    have hD : va_D A (fl [rdW rd (sR ρ 0 ((uI (((uI (ρ 0) (2) ((c - 48))))) 0 (5))))]) := hD
    exact W.zret (v := iI (r2)) hx hb hr (nar_z (by omega)) (fun t9 ht9 hW9 => ⟨⟨(r2), ((uI (((uI (ρ 0) (2) ((c - 48))))) 0 (5))), rfl, (⟨fun h9 => by first | (exfalso; omega) | exact ⟨by omega, rfl⟩, fun h9 => by first | (exfalso; omega) | exact ⟨by omega, rfl⟩⟩), ⟨by rw [ht9]; exact hP, va_K.moved hW9.alike hK, hD⟩⟩, hS.F ht9⟩) hS.2.2 dX0_readsFirstDigit_25 hlocks
  · skip
    refine wi_iconst hx hb dX0_readsFirstDigit_10 ?_
    have hP : va_P D vwCl (fl [rdW rd (sR ρ 0 (ρ 0))]) s.heap := hP
    have hD : va_D A (fl [rdW rd (sR ρ 0 (ρ 0))]) := hD
    exact W.zret (v := iI (0)) hx hb hr (nar_z (by omega)) (fun t9 ht9 hW9 => ⟨⟨(0), (ρ 0), rfl, (⟨fun h9 => by first | (exfalso; omega) | exact ⟨by omega, rfl⟩, fun h9 => by first | (exfalso; omega) | exact ⟨by omega, rfl⟩⟩), ⟨by rw [ht9]; exact hP, va_K.moved hW9.alike hK, hD⟩⟩, hS.F ht9⟩) hS.2.2 dX0_readsFirstDigit_11 hlocks
set_option maxHeartbeats 4000000 in
set_option maxRecDepth 100000 in
theorem c_X0_readsSecondDigit (l : Launch) (D : va_G) (cI cO cC cL : ClassId) (sz : Nat) (rd : Nat → Nat) (ρ : Nat → Int → Int) (c : Int) (hc : 0 ≤ c ∧ c ≤ 65535) : Met l yX0_readsSecondDigit wsX0_readsSecondDigit ({ frames := 1, cells := 0, slots := 0, locals := 22 } : Room) (pcW D [(cI, FieldType.int)] [.ref (rd 0), .int (iI (c))] (fl [rdW rd ρ]) sz) (wq_i (fun (r : Int) (η : Int → Int) => ((48 ≤ c ∧ c ≤ 57) → r = 1 ∧ η = uI (uI (ρ 0) 2 (10 * ρ 0 2 + (c - 48))) 0 6) ∧ (¬ (48 ≤ c ∧ c ≤ 57) → r = 0 ∧ η = ρ 0)) (fun (η : Int → Int) => (bW D [(cI, FieldType.int)] (fl [rdW rd (sR ρ 0 η)]) (va_A (fl [rdW rd ρ]) sz))) (va_A (fl [rdW rd ρ]) sz)) 0 0 (va_A (fl [rdW rd ρ]) sz) := by
  refine Met.ofW (cc := cX0_readsSecondDigit) (maxL := 2) (ret := (some .boolean)) (by decide) rfl ?_
  intro p9 e9 s m args9 below9 meth9 c9 s₁ B hml hv
  obtain ⟨rfl, hsz, hP, hK, hD0⟩ := hv
  have hx := B.exec
  have hb := B.bytes
  have hr := B.returns
  have hts := atoms_spec (ws := wsX0_readsSecondDigit) B.pre
  have hown : s.vm.findClass RX0 = some m.cls := findClass_of_methodNamed B.named
  have hlocks := B.notSynchronized
  subst hsz
  have hD := hD0.self (sz := s.heap.size)
  generalize hAe : va_A (fl [rdW rd ρ]) s.heap.size = A at hD ⊢
  have hA : ∀ q : Nat, s.heap.size ≤ q → A q := fun q h => by rw [← hAe]; exact Or.inr h
  have hS : va_S A s.heap s.heap [] := va_S.rf
  have hP : va_P D vwCl (fl [rdW rd ρ]) s.heap := hP
  have hl := lv_entry ([.ref (rd 0), .int (iI (c))]) (n := 2) (Nat.le_of_ble_eq_true rfl)
  rw [lg_entry_eq]
  generalize (lg_sl ([.ref (rd 0), .int (iI (c))]) ++ List.replicate (2 - (lg_sl ([.ref (rd 0), .int (iI (c))])).length) Slot.unset).toArray = ls at hl ⊢
  have hl : lv_has ls 2 [(0, .ref (rd 0)), (1, .int (iI (c)))] := hl
  have hw_0 := hts (.fieldLink RX0 19 "PromisedCounters$ChangeReader" "size" "I") (by decide +kernel)
  have hin_X0 : ∀ w ∈ u_ws RX0 TX0 6, w ∈ wsX0_readsSecondDigit := by decide +kernel
  refine lv_iload_n hx hb dX0_readsSecondDigit_0 rfl (lv_at hl 1 rfl) ?_
  refine wi_iconst hx hb dX0_readsSecondDigit_1 ?_
  refine wi_bipush hx hb dX0_readsSecondDigit_2 (by decide) ?_
  refine wr_calli (va_runS (As := [.int (iI (c)), .int (iI (0)), .int (iI (9))]) (rest := []) ⟨hx, hb, hml, hown, hts⟩ (c_X0_isDigit l D cI cO cC cL (c) (0) (9) (by omega) (by omega) (by omega)) (cwS 3 hts gX0_readsSecondDigit_X0_isDigit rfl rfl rfl (by decide +kernel) ⟨Nat.le_of_ble_eq_true rfl, Nat.le_of_ble_eq_true rfl⟩) ⟨fun _ _ _ _ h => h, fun U hU hW => ⟨rfl, trivial⟩⟩ rfl rfl hl.1 rfl (lv_room (Nat.le_of_ble_eq_true rfl)) dX0_readsSecondDigit_4 ⟨(Nat.zero_le _), (Nat.zero_le _)⟩) (fun r1 hr1 => ?_)
  subst hr1
  refine wi_if_ne (tgt := 12) hx hb dX0_readsSecondDigit_7 (by decide) (by omega) (fun c_7 => ?_) (fun c_7 => ?_)
  · skip
    refine lv_aload_n hx hb dX0_readsSecondDigit_12 rfl (lv_at hl 0 rfl) ?_
    refine wi_bipush hx hb dX0_readsSecondDigit_13 (by decide) ?_
    refine lv_aload_n hx hb dX0_readsSecondDigit_15 rfl (lv_at hl 0 rfl) ?_
    refine va_get (D := D) (ci := 0) (v := .int (iI ((ρ 0 2)))) (C := RX0) (T := TX0) (N := 6) hx hb hts hin_X0 hown hK hP 0 rfl rfl 2 (by decide) hw_0 (fun _ h9 => h9) rfl dX0_readsSecondDigit_16 ?_
    refine wi_imul hx hb dX0_readsSecondDigit_19 ?_
    refine lv_iload_n hx hb dX0_readsSecondDigit_20 rfl (lv_at hl 1 rfl) ?_
    refine wi_bipush hx hb dX0_readsSecondDigit_21 (by decide) ?_
    refine wi_isub hx hb dX0_readsSecondDigit_23 ?_
    refine wi_iadd hx hb dX0_readsSecondDigit_24 ?_
    refine va_put (D := D) (ci := 0) (v := .int (iI (((10 * (ρ 0 2)) + (c - 48))))) (ty := .int) (C := RX0) (T := TX0) (N := 6) hx hb hts hin_X0 tyX0 tyX0_ok nmX0 hown hK hP hD hS 0 rfl rfl 2 (by decide) hw_0 (fun _ h9 => h9) rfl (by decide +kernel) rfl rfl (Nat.le_of_ble_eq_true rfl) dX0_readsSecondDigit_25 (fun H locs hP hD hS => ?_)
    have hP : va_P D vwCl (fl [rdW rd (sU ρ 0 (2) (((10 * (ρ 0 2)) + (c - 48))))]) H := hP
    have hD : va_D A (fl [rdW rd (sU ρ 0 (2) (((10 * (ρ 0 2)) + (c - 48))))]) := hD
    refine lv_aload_n hx hb dX0_readsSecondDigit_28 rfl (lv_at hl 0 rfl) ?_
    refine wi_bipush hx hb dX0_readsSecondDigit_29 (by decide) ?_
    have hFc := fl_free (SC := [rdW rd (sU ρ 0 (2) (((10 * (ρ 0 2)) + (c - 48))))]) hD hS hA [0] rfl
    refine wq_calli (va_runV (As := [.int (iI (6))]) (rest := []) ⟨hx, hb, hml, hown, hts⟩ (c_X0_goesTo l D cI cO cC cL H.size rd (sU ρ 0 (2) (((10 * (ρ 0 2)) + (c - 48)))) (6) ) (cwV 1 hts gX0_readsSecondDigit_X0_goesTo rfl rfl rfl (by decide +kernel) ⟨Nat.le_of_ble_eq_true rfl, Nat.le_of_ble_eq_true rfl⟩) ⟨pcW_blind, va_recv hK hP (ci := 0) (q0 := 0) rfl rfl, pcW_of hP hK hD⟩ rfl rfl hl.1 rfl (lv_room (Nat.le_of_ble_eq_true rfl)) dX0_readsSecondDigit_31 ⟨(Nat.zero_le _), (Nat.zero_le _)⟩) hS (fun q _ h => hFc q h) hFc (fun r2 u4 t9 H1 locs ht9 hvm hcl3 hB hz1 hk1 hS => ?_)
    obtain ⟨hP1, hK1, hD1⟩ := hB
    rw [ht9] at hP1
    obtain ⟨hP, hD⟩ := fl_join (SR := []) (S1 := [rdW rd (sU (sU ρ 0 (2) (((10 * (ρ 0 2)) + (c - 48)))) 0 0 (6))]) hP hD [0] [] rfl rfl (by decide) (by decide) hk1 hFc hP1 hD1
    generalize H1 = H at hP hS ⊢
    have hP : va_P D vwCl (fl [rdW rd (sU (sU ρ 0 (2) (((10 * (ρ 0 2)) + (c - 48)))) 0 0 (6))]) H := hP
    have hD : va_D A (fl [rdW rd (sU (sU ρ 0 (2) (((10 * (ρ 0 2)) + (c - 48)))) 0 0 (6))]) := hD
    have hP : va_P D vwCl (fl [rdW rd (sR ρ 0 ((uI (((uI (ρ 0) (2) (((10 * (ρ 0 2)) + (c - 48)))))) 0 (6))))]) H := hP
    have hD : va_D A (fl [rdW rd (sR ρ 0 ((uI (((uI (ρ 0) (2) (((10 * (ρ 0 2)) + (c - 48)))))) 0 (6))))]) := hD
    exact W.zret (v := iI (r2)) hx hb hr (nar_z (by omega)) (fun t9 ht9 hW9 => ⟨⟨(r2), ((uI (((uI (ρ 0) (2) (((10 * (ρ 0 2)) + (c - 48)))))) 0 (6))), rfl, (⟨fun h9 => by first | (exfalso; omega) | exact ⟨by omega, rfl⟩, fun h9 => by first | (exfalso; omega) | exact ⟨by omega, rfl⟩⟩), ⟨by rw [ht9]; exact hP, va_K.moved hW9.alike hK, hD⟩⟩, hS.F ht9⟩) hS.2.2 dX0_readsSecondDigit_34 hlocks
  · skip
    refine wi_iconst hx hb dX0_readsSecondDigit_10 ?_
    have hP : va_P D vwCl (fl [rdW rd (sR ρ 0 (ρ 0))]) s.heap := hP
    have hD : va_D A (fl [rdW rd (sR ρ 0 (ρ 0))]) := hD
    exact W.zret (v := iI (0)) hx hb hr (nar_z (by omega)) (fun t9 ht9 hW9 => ⟨⟨(0), (ρ 0), rfl, (⟨fun h9 => by first | (exfalso; omega) | exact ⟨by omega, rfl⟩, fun h9 => by first | (exfalso; omega) | exact ⟨by omega, rfl⟩⟩), ⟨by rw [ht9]; exact hP, va_K.moved hW9.alike hK, hD⟩⟩, hS.F ht9⟩) hS.2.2 dX0_readsSecondDigit_11 hlocks
set_option maxHeartbeats 4000000 in
set_option maxRecDepth 100000 in
theorem c_X0_readsBehindNumber (l : Launch) (D : va_G) (cI cO cC cL : ClassId) (sz : Nat) (rd : Nat → Nat) (ρ : Nat → Int → Int) (c : Int) (hc : 0 ≤ c ∧ c ≤ 65535) : Met l yX0_readsBehindNumber wsX0_readsBehindNumber ({ frames := 1, cells := 0, slots := 0, locals := 21 } : Room) (pcW D [(cI, FieldType.int)] [.ref (rd 0), .int (iI (c))] (fl [rdW rd ρ]) sz) (wq_i (fun (r : Int) (η : Int → Int) => ((c = 111 ∨ c = 59) → r = 1 ∧ η = (if c = 111 then uI (ρ 0) 0 7 else uI (ρ 0) 0 0)) ∧ (¬ (c = 111 ∨ c = 59) → r = 0)) (fun (η : Int → Int) => (bW D [(cI, FieldType.int)] (fl [rdW rd (sR ρ 0 η)]) (va_A (fl [rdW rd ρ]) sz))) (va_A (fl [rdW rd ρ]) sz)) 0 0 (va_A (fl [rdW rd ρ]) sz) := by
  refine Met.ofW (cc := cX0_readsBehindNumber) (maxL := 2) (ret := (some .boolean)) (by decide) rfl ?_
  intro p9 e9 s m args9 below9 meth9 c9 s₁ B hml hv
  obtain ⟨rfl, hsz, hP, hK, hD0⟩ := hv
  have hx := B.exec
  have hb := B.bytes
  have hr := B.returns
  have hts := atoms_spec (ws := wsX0_readsBehindNumber) B.pre
  have hown : s.vm.findClass RX0 = some m.cls := findClass_of_methodNamed B.named
  have hlocks := B.notSynchronized
  subst hsz
  have hD := hD0.self (sz := s.heap.size)
  generalize hAe : va_A (fl [rdW rd ρ]) s.heap.size = A at hD ⊢
  have hA : ∀ q : Nat, s.heap.size ≤ q → A q := fun q h => by rw [← hAe]; exact Or.inr h
  have hS : va_S A s.heap s.heap [] := va_S.rf
  have hP : va_P D vwCl (fl [rdW rd ρ]) s.heap := hP
  have hl := lv_entry ([.ref (rd 0), .int (iI (c))]) (n := 2) (Nat.le_of_ble_eq_true rfl)
  rw [lg_entry_eq]
  generalize (lg_sl ([.ref (rd 0), .int (iI (c))]) ++ List.replicate (2 - (lg_sl ([.ref (rd 0), .int (iI (c))])).length) Slot.unset).toArray = ls at hl ⊢
  have hl : lv_has ls 2 [(0, .ref (rd 0)), (1, .int (iI (c)))] := hl
  refine lv_iload_n hx hb dX0_readsBehindNumber_0 rfl (lv_at hl 1 rfl) ?_
  refine wi_bipush hx hb dX0_readsBehindNumber_1 (by decide) ?_
  refine wi_icmp_ne (tgt := 13) hx hb dX0_readsBehindNumber_3 (by decide) (by omega) (fun c_3 => ?_) (fun c_3 => ?_)
  · skip
    refine lv_iload_n hx hb dX0_readsBehindNumber_13 rfl (lv_at hl 1 rfl) ?_
    refine wi_bipush hx hb dX0_readsBehindNumber_14 (by decide) ?_
    refine wi_icmp_ne (tgt := 31) hx hb dX0_readsBehindNumber_16 (by decide) (by omega) (fun c_16 => ?_) (fun c_16 => ?_)
    · skip
      refine wi_iconst hx hb dX0_readsBehindNumber_31 ?_
      have hP : va_P D vwCl (fl [rdW rd (sR ρ 0 (ρ 0))]) s.heap := hP
      have hD : va_D A (fl [rdW rd (sR ρ 0 (ρ 0))]) := hD
      exact W.zret (v := iI (0)) hx hb hr (nar_z (by omega)) (fun t9 ht9 hW9 => ⟨⟨(0), (ρ 0), rfl, (⟨fun h9 => by first | (exfalso; omega) | (refine ⟨by omega, ?_⟩; first | rw [if_pos (by omega)] | rw [if_neg (by omega)]), fun h9 => by first | (exfalso; omega) | omega⟩), ⟨by rw [ht9]; exact hP, va_K.moved hW9.alike hK, hD⟩⟩, hS.F ht9⟩) hS.2.2 dX0_readsBehindNumber_32 hlocks
    · skip
      refine lv_aload_n hx hb dX0_readsBehindNumber_19 rfl (lv_at hl 0 rfl) ?_
      refine wi_iconst hx hb dX0_readsBehindNumber_20 ?_
      have hFc := fl_free (SC := [rdW rd ρ]) hD hS hA [0] rfl
      refine wq_calli (va_runV (As := [.int (iI (0))]) (rest := []) ⟨hx, hb, hml, hown, hts⟩ (c_X0_goesTo l D cI cO cC cL s.heap.size rd ρ (0) ) (cwV 1 hts gX0_readsBehindNumber_X0_goesTo rfl rfl rfl (by decide +kernel) ⟨Nat.le_of_ble_eq_true rfl, Nat.le_of_ble_eq_true rfl⟩) ⟨pcW_blind, va_recv hK hP (ci := 0) (q0 := 0) rfl rfl, pcW_of hP hK hD⟩ rfl rfl hl.1 rfl (lv_room (Nat.le_of_ble_eq_true rfl)) dX0_readsBehindNumber_21 ⟨(Nat.zero_le _), (Nat.zero_le _)⟩) hS (fun q _ h => hFc q h) hFc (fun r1 u3 t9 H1 locs ht9 hvm hcl2 hB hz1 hk1 hS => ?_)
      obtain ⟨hP1, hK1, hD1⟩ := hB
      rw [ht9] at hP1
      obtain ⟨hP, hD⟩ := fl_join (SR := []) (S1 := [rdW rd (sU ρ 0 0 (0))]) hP hD [0] [] rfl rfl (by decide) (by decide) hk1 hFc hP1 hD1
      generalize H1 = H at hP hS ⊢
      have hP : va_P D vwCl (fl [rdW rd (sU ρ 0 0 (0))]) H := hP
      have hD : va_D A (fl [rdW rd (sU ρ 0 0 (0))]) := hD
      refine wi_if_eq (tgt := 31) hx hb dX0_readsBehindNumber_24 (by decide) (by omega) (fun c_24 => ?_) (fun c_24 => ?_)
      · skip
        refine wi_iconst hx hb dX0_readsBehindNumber_31 ?_
        have hP : va_P D vwCl (fl [rdW rd (sR ρ 0 ((uI ((ρ 0)) 0 (0))))]) H := hP
        have hD : va_D A (fl [rdW rd (sR ρ 0 ((uI ((ρ 0)) 0 (0))))]) := hD
        exact W.zret (v := iI (0)) hx hb hr (nar_z (by omega)) (fun t9 ht9 hW9 => ⟨⟨(0), ((uI ((ρ 0)) 0 (0))), rfl, (⟨fun h9 => by first | (exfalso; omega) | (refine ⟨by omega, ?_⟩; first | rw [if_pos (by omega)] | rw [if_neg (by omega)]), fun h9 => by first | (exfalso; omega) | omega⟩), ⟨by rw [ht9]; exact hP, va_K.moved hW9.alike hK, hD⟩⟩, hS.F ht9⟩) hS.2.2 dX0_readsBehindNumber_32 hlocks
      · skip
        refine wi_iconst hx hb dX0_readsBehindNumber_27 ?_
        refine lv_goto (tgt := 32) hx hb dX0_readsBehindNumber_28 (by decide) ?_
        have hP : va_P D vwCl (fl [rdW rd (sR ρ 0 ((uI ((ρ 0)) 0 (0))))]) H := hP
        have hD : va_D A (fl [rdW rd (sR ρ 0 ((uI ((ρ 0)) 0 (0))))]) := hD
        exact W.zret (v := iI (1)) hx hb hr (nar_z (by omega)) (fun t9 ht9 hW9 => ⟨⟨(1), ((uI ((ρ 0)) 0 (0))), rfl, (⟨fun h9 => by first | (exfalso; omega) | (refine ⟨by omega, ?_⟩; first | rw [if_pos (by omega)] | rw [if_neg (by omega)]), fun h9 => by first | (exfalso; omega) | omega⟩), ⟨by rw [ht9]; exact hP, va_K.moved hW9.alike hK, hD⟩⟩, hS.F ht9⟩) hS.2.2 dX0_readsBehindNumber_32 hlocks
  · skip
    refine lv_aload_n hx hb dX0_readsBehindNumber_6 rfl (lv_at hl 0 rfl) ?_
    refine wi_bipush hx hb dX0_readsBehindNumber_7 (by decide) ?_
    have hFc := fl_free (SC := [rdW rd ρ]) hD hS hA [0] rfl
    refine wq_calli (va_runV (As := [.int (iI (7))]) (rest := []) ⟨hx, hb, hml, hown, hts⟩ (c_X0_goesTo l D cI cO cC cL s.heap.size rd ρ (7) ) (cwV 1 hts gX0_readsBehindNumber_X0_goesTo rfl rfl rfl (by decide +kernel) ⟨Nat.le_of_ble_eq_true rfl, Nat.le_of_ble_eq_true rfl⟩) ⟨pcW_blind, va_recv hK hP (ci := 0) (q0 := 0) rfl rfl, pcW_of hP hK hD⟩ rfl rfl hl.1 rfl (lv_room (Nat.le_of_ble_eq_true rfl)) dX0_readsBehindNumber_9 ⟨(Nat.zero_le _), (Nat.zero_le _)⟩) hS (fun q _ h => hFc q h) hFc (fun r4 u6 t9 H1 locs ht9 hvm hcl5 hB hz1 hk1 hS => ?_)
    obtain ⟨hP1, hK1, hD1⟩ := hB
    rw [ht9] at hP1
    obtain ⟨hP, hD⟩ := fl_join (SR := []) (S1 := [rdW rd (sU ρ 0 0 (7))]) hP hD [0] [] rfl rfl (by decide) (by decide) hk1 hFc hP1 hD1
    generalize H1 = H at hP hS ⊢
    have hP : va_P D vwCl (fl [rdW rd (sU ρ 0 0 (7))]) H := hP
    have hD : va_D A (fl [rdW rd (sU ρ 0 0 (7))]) := hD
    have hP : va_P D vwCl (fl [rdW rd (sR ρ 0 ((uI ((ρ 0)) 0 (7))))]) H := hP
    have hD : va_D A (fl [rdW rd (sR ρ 0 ((uI ((ρ 0)) 0 (7))))]) := hD
    exact W.zret (v := iI (r4)) hx hb hr (nar_z (by omega)) (fun t9 ht9 hW9 => ⟨⟨(r4), ((uI ((ρ 0)) 0 (7))), rfl, (⟨fun h9 => by first | (exfalso; omega) | (refine ⟨by omega, ?_⟩; first | rw [if_pos (by omega)] | rw [if_neg (by omega)]), fun h9 => by first | (exfalso; omega) | omega⟩), ⟨by rw [ht9]; exact hP, va_K.moved hW9.alike hK, hD⟩⟩, hS.F ht9⟩) hS.2.2 dX0_readsBehindNumber_12 hlocks
set_option maxHeartbeats 4000000 in
set_option maxRecDepth 100000 in
theorem c_X0_readsOwner (l : Launch) (D : va_G) (cI cO cC cL : ClassId) (sz : Nat) (rd : Nat → Nat) (ρ : Nat → Int → Int) (c : Int) (hc : 0 ≤ c ∧ c ≤ 65535) : Met l yX0_readsOwner wsX0_readsOwner ({ frames := 1, cells := 0, slots := 0, locals := 22 } : Room) (pcW D [(cI, FieldType.int)] [.ref (rd 0), .int (iI (c))] (fl [rdW rd ρ]) sz) (wq_i (fun (r : Int) (η : Int → Int) => ((48 ≤ c ∧ c ≤ 53) → r = 1 ∧ η = uI (uI (ρ 0) 5 (c - 48)) 0 8) ∧ (¬ (48 ≤ c ∧ c ≤ 53) → r = 0 ∧ η = ρ 0)) (fun (η : Int → Int) => (bW D [(cI, FieldType.int)] (fl [rdW rd (sR ρ 0 η)]) (va_A (fl [rdW rd ρ]) sz))) (va_A (fl [rdW rd ρ]) sz)) 0 0 (va_A (fl [rdW rd ρ]) sz) := by
  refine Met.ofW (cc := cX0_readsOwner) (maxL := 2) (ret := (some .boolean)) (by decide) rfl ?_
  intro p9 e9 s m args9 below9 meth9 c9 s₁ B hml hv
  obtain ⟨rfl, hsz, hP, hK, hD0⟩ := hv
  have hx := B.exec
  have hb := B.bytes
  have hr := B.returns
  have hts := atoms_spec (ws := wsX0_readsOwner) B.pre
  have hown : s.vm.findClass RX0 = some m.cls := findClass_of_methodNamed B.named
  have hlocks := B.notSynchronized
  subst hsz
  have hD := hD0.self (sz := s.heap.size)
  generalize hAe : va_A (fl [rdW rd ρ]) s.heap.size = A at hD ⊢
  have hA : ∀ q : Nat, s.heap.size ≤ q → A q := fun q h => by rw [← hAe]; exact Or.inr h
  have hS : va_S A s.heap s.heap [] := va_S.rf
  have hP : va_P D vwCl (fl [rdW rd ρ]) s.heap := hP
  have hl := lv_entry ([.ref (rd 0), .int (iI (c))]) (n := 2) (Nat.le_of_ble_eq_true rfl)
  rw [lg_entry_eq]
  generalize (lg_sl ([.ref (rd 0), .int (iI (c))]) ++ List.replicate (2 - (lg_sl ([.ref (rd 0), .int (iI (c))])).length) Slot.unset).toArray = ls at hl ⊢
  have hl : lv_has ls 2 [(0, .ref (rd 0)), (1, .int (iI (c)))] := hl
  have hw_0 := hts (.fieldLink RX0 28 "PromisedCounters$ChangeReader" "who" "I") (by decide +kernel)
  have hin_X0 : ∀ w ∈ u_ws RX0 TX0 6, w ∈ wsX0_readsOwner := by decide +kernel
  refine lv_iload_n hx hb dX0_readsOwner_0 rfl (lv_at hl 1 rfl) ?_
  refine wi_iconst hx hb dX0_readsOwner_1 ?_
  refine wi_iconst hx hb dX0_readsOwner_2 ?_
  refine wr_calli (va_runS (As := [.int (iI (c)), .int (iI (0)), .int (iI (5))]) (rest := []) ⟨hx, hb, hml, hown, hts⟩ (c_X0_isDigit l D cI cO cC cL (c) (0) (5) (by omega) (by omega) (by omega)) (cwS 3 hts gX0_readsOwner_X0_isDigit rfl rfl rfl (by decide +kernel) ⟨Nat.le_of_ble_eq_true rfl, Nat.le_of_ble_eq_true rfl⟩) ⟨fun _ _ _ _ h => h, fun U hU hW => ⟨rfl, trivial⟩⟩ rfl rfl hl.1 rfl (lv_room (Nat.le_of_ble_eq_true rfl)) dX0_readsOwner_3 ⟨(Nat.zero_le _), (Nat.zero_le _)⟩) (fun r1 hr1 => ?_)
  subst hr1
  refine wi_if_ne (tgt := 11) hx hb dX0_readsOwner_6 (by decide) (by omega) (fun c_6 => ?_) (fun c_6 => ?_)
  · skip
    refine lv_aload_n hx hb dX0_readsOwner_11 rfl (lv_at hl 0 rfl) ?_
    refine lv_iload_n hx hb dX0_readsOwner_12 rfl (lv_at hl 1 rfl) ?_
    refine wi_bipush hx hb dX0_readsOwner_13 (by decide) ?_
    refine wi_isub hx hb dX0_readsOwner_15 ?_
    refine va_put (D := D) (ci := 0) (v := .int (iI ((c - 48)))) (ty := .int) (C := RX0) (T := TX0) (N := 6) hx hb hts hin_X0 tyX0 tyX0_ok nmX0 hown hK hP hD hS 0 rfl rfl 5 (by decide) hw_0 (fun _ h9 => h9) rfl (by decide +kernel) rfl rfl (Nat.le_of_ble_eq_true rfl) dX0_readsOwner_16 (fun H locs hP hD hS => ?_)
    have hP : va_P D vwCl (fl [rdW rd (sU ρ 0 (5) ((c - 48)))]) H := hP
    have hD : va_D A (fl [rdW rd (sU ρ 0 (5) ((c - 48)))]) := hD
    refine lv_aload_n hx hb dX0_readsOwner_19 rfl (lv_at hl 0 rfl) ?_
    refine wi_bipush hx hb dX0_readsOwner_20 (by decide) ?_
    have hFc := fl_free (SC := [rdW rd (sU ρ 0 (5) ((c - 48)))]) hD hS hA [0] rfl
    refine wq_calli (va_runV (As := [.int (iI (8))]) (rest := []) ⟨hx, hb, hml, hown, hts⟩ (c_X0_goesTo l D cI cO cC cL H.size rd (sU ρ 0 (5) ((c - 48))) (8) ) (cwV 1 hts gX0_readsOwner_X0_goesTo rfl rfl rfl (by decide +kernel) ⟨Nat.le_of_ble_eq_true rfl, Nat.le_of_ble_eq_true rfl⟩) ⟨pcW_blind, va_recv hK hP (ci := 0) (q0 := 0) rfl rfl, pcW_of hP hK hD⟩ rfl rfl hl.1 rfl (lv_room (Nat.le_of_ble_eq_true rfl)) dX0_readsOwner_22 ⟨(Nat.zero_le _), (Nat.zero_le _)⟩) hS (fun q _ h => hFc q h) hFc (fun r2 u4 t9 H1 locs ht9 hvm hcl3 hB hz1 hk1 hS => ?_)
    obtain ⟨hP1, hK1, hD1⟩ := hB
    rw [ht9] at hP1
    obtain ⟨hP, hD⟩ := fl_join (SR := []) (S1 := [rdW rd (sU (sU ρ 0 (5) ((c - 48))) 0 0 (8))]) hP hD [0] [] rfl rfl (by decide) (by decide) hk1 hFc hP1 hD1
    generalize H1 = H at hP hS ⊢
    have hP : va_P D vwCl (fl [rdW rd (sU (sU ρ 0 (5) ((c - 48))) 0 0 (8))]) H := hP
    have hD : va_D A (fl [rdW rd (sU (sU ρ 0 (5) ((c - 48))) 0 0 (8))]) := hD
    have hP : va_P D vwCl (fl [rdW rd (sR ρ 0 ((uI (((uI (ρ 0) (5) ((c - 48))))) 0 (8))))]) H := hP
    have hD : va_D A (fl [rdW rd (sR ρ 0 ((uI (((uI (ρ 0) (5) ((c - 48))))) 0 (8))))]) := hD
    exact W.zret (v := iI (r2)) hx hb hr (nar_z (by omega)) (fun t9 ht9 hW9 => ⟨⟨(r2), ((uI (((uI (ρ 0) (5) ((c - 48))))) 0 (8))), rfl, (⟨fun h9 => by first | (exfalso; omega) | exact ⟨by omega, rfl⟩, fun h9 => by first | (exfalso; omega) | exact ⟨by omega, rfl⟩⟩), ⟨by rw [ht9]; exact hP, va_K.moved hW9.alike hK, hD⟩⟩, hS.F ht9⟩) hS.2.2 dX0_readsOwner_25 hlocks
  · skip
    refine wi_iconst hx hb dX0_readsOwner_9 ?_
    have hP : va_P D vwCl (fl [rdW rd (sR ρ 0 (ρ 0))]) s.heap := hP
    have hD : va_D A (fl [rdW rd (sR ρ 0 (ρ 0))]) := hD
    exact W.zret (v := iI (0)) hx hb hr (nar_z (by omega)) (fun t9 ht9 hW9 => ⟨⟨(0), (ρ 0), rfl, (⟨fun h9 => by first | (exfalso; omega) | exact ⟨by omega, rfl⟩, fun h9 => by first | (exfalso; omega) | exact ⟨by omega, rfl⟩⟩), ⟨by rw [ht9]; exact hP, va_K.moved hW9.alike hK, hD⟩⟩, hS.F ht9⟩) hS.2.2 dX0_readsOwner_10 hlocks
set_option maxHeartbeats 4000000 in
set_option maxRecDepth 100000 in
theorem c_X0_reads (l : Launch) (D : va_G) (cI cO cC cL : ClassId) (sz : Nat) (rd : Nat → Nat) (ρ : Nat → Int → Int) (c : Int) (hc : 0 ≤ c ∧ c ≤ 65535) (hpl : 0 ≤ ρ 0 0 ∧ ρ 0 0 ≤ 8) (hf9 : R32 (ρ 0 3)) : Met l yX0_reads wsX0_reads ({ frames := 2, cells := 0, slots := 0, locals := 43 } : Room) (pcW D [(cI, FieldType.int)] [.ref (rd 0), .int (iI (c))] (fl [rdW rd ρ]) sz) (wq_i (fun (r : Int) (η : Int → Int) => (dOk (ρ 0) c → r = 1 ∧ η = dNx (ρ 0) c) ∧ (¬ dOk (ρ 0) c → r = 0)) (fun (η : Int → Int) => (bW D [(cI, FieldType.int)] (fl [rdW rd (sR ρ 0 η)]) (va_A (fl [rdW rd ρ]) sz))) (va_A (fl [rdW rd ρ]) sz)) 0 0 (va_A (fl [rdW rd ρ]) sz) := by
  refine Met.ofW (cc := cX0_reads) (maxL := 2) (ret := (some .boolean)) (by decide) rfl ?_
  intro p9 e9 s m args9 below9 meth9 c9 s₁ B hml hv
  obtain ⟨rfl, hsz, hP, hK, hD0⟩ := hv
  have hx := B.exec
  have hb := B.bytes
  have hr := B.returns
  have hts := atoms_spec (ws := wsX0_reads) B.pre
  have hown : s.vm.findClass RX0 = some m.cls := findClass_of_methodNamed B.named
  have hlocks := B.notSynchronized
  subst hsz
  have hD := hD0.self (sz := s.heap.size)
  generalize hAe : va_A (fl [rdW rd ρ]) s.heap.size = A at hD ⊢
  have hA : ∀ q : Nat, s.heap.size ≤ q → A q := fun q h => by rw [← hAe]; exact Or.inr h
  have hS : va_S A s.heap s.heap [] := va_S.rf
  have hP : va_P D vwCl (fl [rdW rd ρ]) s.heap := hP
  have hl := lv_entry ([.ref (rd 0), .int (iI (c))]) (n := 2) (Nat.le_of_ble_eq_true rfl)
  rw [lg_entry_eq]
  generalize (lg_sl ([.ref (rd 0), .int (iI (c))]) ++ List.replicate (2 - (lg_sl ([.ref (rd 0), .int (iI (c))])).length) Slot.unset).toArray = ls at hl ⊢
  have hl : lv_has ls 2 [(0, .ref (rd 0)), (1, .int (iI (c)))] := hl
  have hw_0 := hts (.fieldLink RX0 11 "PromisedCounters$ChangeReader" "place" "I") (by decide +kernel)
  have hin_X0 : ∀ w ∈ u_ws RX0 TX0 6, w ∈ wsX0_reads := by decide +kernel
  refine lv_aload_n hx hb dX0_reads_0 rfl (lv_at hl 0 rfl) ?_
  refine va_get (D := D) (ci := 0) (v := .int (iI ((ρ 0 0)))) (C := RX0) (T := TX0) (N := 6) hx hb hts hin_X0 hown hK hP 0 rfl rfl 0 (by decide) hw_0 (fun _ h9 => h9) rfl dX0_reads_1 ?_
  have hsx : (iI ((ρ 0 0))).toInt = (ρ 0 0) := iI_toInt (by omega)
  by_cases hc4_0 : (ρ 0 0) = 0
  · skip
    refine lv_tableIn (tgt := 52) hx hb dX0_reads_4 (by rw [hsx]; omega) (by rw [hsx]; omega) (off := 48) (by rw [hsx, hc4_0]; rfl) (by decide) ?_
    refine lv_aload_n hx hb dX0_reads_52 rfl (lv_at hl 0 rfl) ?_
    refine lv_iload_n hx hb dX0_reads_53 rfl (lv_at hl 1 rfl) ?_
    have hFc := fl_free (SC := [rdW rd ρ]) hD hS hA [0] rfl
    refine wq_calli (va_runV (As := [.int (iI (c))]) (rest := []) ⟨hx, hb, hml, hown, hts⟩ (c_X0_readsCounter l D cI cO cC cL s.heap.size rd ρ (c) (hc)) (cwV 1 hts gX0_reads_X0_readsCounter rfl rfl rfl (by decide +kernel) ⟨Nat.le_of_ble_eq_true rfl, Nat.le_of_ble_eq_true rfl⟩) ⟨pcW_blind, va_recv hK hP (ci := 0) (q0 := 0) rfl rfl, pcW_of hP hK hD⟩ rfl rfl hl.1 rfl (lv_room (Nat.le_of_ble_eq_true rfl)) dX0_reads_54 ⟨(Nat.zero_le _), (Nat.zero_le _)⟩) hS (fun q _ h => hFc q h) hFc (fun r1 u3 t9 H1 locs ht9 hvm hcl2 hB hz1 hk1 hS => ?_)
    obtain ⟨hP1, hK1, hD1⟩ := hB
    rw [ht9] at hP1
    obtain ⟨hP, hD⟩ := fl_join (SR := []) (S1 := [rdW rd (sR ρ 0 u3)]) hP hD [0] [] rfl rfl (by decide) (by decide) hk1 hFc hP1 hD1
    generalize H1 = H at hP hS ⊢
    have hP : va_P D vwCl (fl [rdW rd (sR ρ 0 u3)]) H := hP
    have hD : va_D A (fl [rdW rd (sR ρ 0 u3)]) := hD
    have hP : va_P D vwCl (fl [rdW rd (sR ρ 0 (u3))]) H := hP
    have hD : va_D A (fl [rdW rd (sR ρ 0 (u3))]) := hD
    exact W.zret (v := iI (r1)) hx hb hr (nar_z ((Decidable.em (48 ≤ c ∧ c ≤ 51)).elim (fun q => Or.inr (hcl2.1 q).1) (fun q => Or.inl (by first | exact (hcl2.2 q).1 | exact hcl2.2 q)))) (fun t9 ht9 hW9 => ⟨⟨(r1), (u3), rfl, (⟨fun h9 => by obtain ⟨y1, y2⟩ := hcl2.1 (by omega); exact ⟨y1, by rw [dNx_0 (by omega)]; exact y2⟩, fun h9 => by first | exact (hcl2.2 (by omega)).1 | exact hcl2.2 (by omega)⟩), ⟨by rw [ht9]; exact hP, va_K.moved hW9.alike hK, hD⟩⟩, hS.F ht9⟩) hS.2.2 dX0_reads_57 hlocks
  by_cases hc4_1 : (ρ 0 0) = 1
  · skip
    refine lv_tableIn (tgt := 58) hx hb dX0_reads_4 (by rw [hsx]; omega) (by rw [hsx]; omega) (off := 54) (by rw [hsx, hc4_1]; rfl) (by decide) ?_
    refine lv_aload_n hx hb dX0_reads_58 rfl (lv_at hl 0 rfl) ?_
    refine lv_iload_n hx hb dX0_reads_59 rfl (lv_at hl 1 rfl) ?_
    have hFc := fl_free (SC := [rdW rd ρ]) hD hS hA [0] rfl
    refine wq_calli (va_runV (As := [.int (iI (c))]) (rest := []) ⟨hx, hb, hml, hown, hts⟩ (c_X0_readsKind l D cI cO cC cL s.heap.size rd ρ (c) (hc)) (cwV 1 hts gX0_reads_X0_readsKind rfl rfl rfl (by decide +kernel) ⟨Nat.le_of_ble_eq_true rfl, Nat.le_of_ble_eq_true rfl⟩) ⟨pcW_blind, va_recv hK hP (ci := 0) (q0 := 0) rfl rfl, pcW_of hP hK hD⟩ rfl rfl hl.1 rfl (lv_room (Nat.le_of_ble_eq_true rfl)) dX0_reads_60 ⟨(Nat.zero_le _), (Nat.zero_le _)⟩) hS (fun q _ h => hFc q h) hFc (fun r4 u6 t9 H1 locs ht9 hvm hcl5 hB hz1 hk1 hS => ?_)
    obtain ⟨hP1, hK1, hD1⟩ := hB
    rw [ht9] at hP1
    obtain ⟨hP, hD⟩ := fl_join (SR := []) (S1 := [rdW rd (sR ρ 0 u6)]) hP hD [0] [] rfl rfl (by decide) (by decide) hk1 hFc hP1 hD1
    generalize H1 = H at hP hS ⊢
    have hP : va_P D vwCl (fl [rdW rd (sR ρ 0 u6)]) H := hP
    have hD : va_D A (fl [rdW rd (sR ρ 0 u6)]) := hD
    have hP : va_P D vwCl (fl [rdW rd (sR ρ 0 (u6))]) H := hP
    have hD : va_D A (fl [rdW rd (sR ρ 0 (u6))]) := hD
    exact W.zret (v := iI (r4)) hx hb hr (nar_z ((Decidable.em (c = 43 ∨ c = 45 ∨ c = 62)).elim (fun q => Or.inr (hcl5.1 q).1) (fun q => Or.inl (by first | exact (hcl5.2 q).1 | exact hcl5.2 q)))) (fun t9 ht9 hW9 => ⟨⟨(r4), (u6), rfl, (⟨fun h9 => by obtain ⟨y1, y2⟩ := hcl5.1 (by omega); exact ⟨y1, by rw [dNx_1 (by omega)]; exact y2⟩, fun h9 => by first | exact (hcl5.2 (by omega)).1 | exact hcl5.2 (by omega)⟩), ⟨by rw [ht9]; exact hP, va_K.moved hW9.alike hK, hD⟩⟩, hS.F ht9⟩) hS.2.2 dX0_reads_63 hlocks
  by_cases hc4_2 : (ρ 0 0) = 2
  · skip
    refine lv_tableIn (tgt := 64) hx hb dX0_reads_4 (by rw [hsx]; omega) (by rw [hsx]; omega) (off := 60) (by rw [hsx, hc4_2]; rfl) (by decide) ?_
    refine lv_aload_n hx hb dX0_reads_64 rfl (lv_at hl 0 rfl) ?_
    refine lv_iload_n hx hb dX0_reads_65 rfl (lv_at hl 1 rfl) ?_
    have hFc := fl_free (SC := [rdW rd ρ]) hD hS hA [0] rfl
    refine wq_calli (va_runV (As := [.int (iI (c))]) (rest := []) ⟨hx, hb, hml, hown, hts⟩ (c_X0_readsOther l D cI cO cC cL s.heap.size rd ρ (c) (hc) (hf9)) (cwV 1 hts gX0_reads_X0_readsOther rfl rfl rfl (by decide +kernel) ⟨Nat.le_of_ble_eq_true rfl, Nat.le_of_ble_eq_true rfl⟩) ⟨pcW_blind, va_recv hK hP (ci := 0) (q0 := 0) rfl rfl, pcW_of hP hK hD⟩ rfl rfl hl.1 rfl (lv_room (Nat.le_of_ble_eq_true rfl)) dX0_reads_66 ⟨(Nat.zero_le _), (Nat.zero_le _)⟩) hS (fun q _ h => hFc q h) hFc (fun r7 u9 t9 H1 locs ht9 hvm hcl8 hB hz1 hk1 hS => ?_)
    obtain ⟨hP1, hK1, hD1⟩ := hB
    rw [ht9] at hP1
    obtain ⟨hP, hD⟩ := fl_join (SR := []) (S1 := [rdW rd (sR ρ 0 u9)]) hP hD [0] [] rfl rfl (by decide) (by decide) hk1 hFc hP1 hD1
    generalize H1 = H at hP hS ⊢
    have hP : va_P D vwCl (fl [rdW rd (sR ρ 0 u9)]) H := hP
    have hD : va_D A (fl [rdW rd (sR ρ 0 u9)]) := hD
    have hP : va_P D vwCl (fl [rdW rd (sR ρ 0 (u9))]) H := hP
    have hD : va_D A (fl [rdW rd (sR ρ 0 (u9))]) := hD
    exact W.zret (v := iI (r7)) hx hb hr (nar_z ((Decidable.em (48 ≤ c ∧ c ≤ 51 ∧ c - 48 ≠ ρ 0 3)).elim (fun q => Or.inr (hcl8.1 q).1) (fun q => Or.inl (by first | exact (hcl8.2 q).1 | exact hcl8.2 q)))) (fun t9 ht9 hW9 => ⟨⟨(r7), (u9), rfl, (⟨fun h9 => by obtain ⟨y1, y2⟩ := hcl8.1 (by omega); exact ⟨y1, by rw [dNx_2 (by omega)]; exact y2⟩, fun h9 => by first | exact (hcl8.2 (by omega)).1 | exact hcl8.2 (by omega)⟩), ⟨by rw [ht9]; exact hP, va_K.moved hW9.alike hK, hD⟩⟩, hS.F ht9⟩) hS.2.2 dX0_reads_69 hlocks
  by_cases hc4_3 : (ρ 0 0) = 3
  · skip
    refine lv_tableIn (tgt := 70) hx hb dX0_reads_4 (by rw [hsx]; omega) (by rw [hsx]; omega) (off := 66) (by rw [hsx, hc4_3]; rfl) (by decide) ?_
    refine lv_iload_n hx hb dX0_reads_70 rfl (lv_at hl 1 rfl) ?_
    refine wi_bipush hx hb dX0_reads_71 (by decide) ?_
    refine wi_icmp_ne (tgt := 88) hx hb dX0_reads_73 (by decide) (by omega) (fun c_73 => ?_) (fun c_73 => ?_)
    · skip
      refine wi_iconst hx hb dX0_reads_88 ?_
      have hP : va_P D vwCl (fl [rdW rd (sR ρ 0 (ρ 0))]) s.heap := hP
      have hD : va_D A (fl [rdW rd (sR ρ 0 (ρ 0))]) := hD
      exact W.zret (v := iI (0)) hx hb hr (nar_z (by omega)) (fun t9 ht9 hW9 => ⟨⟨(0), (ρ 0), rfl, (⟨fun h9 => by exfalso; omega, fun h9 => rfl⟩), ⟨by rw [ht9]; exact hP, va_K.moved hW9.alike hK, hD⟩⟩, hS.F ht9⟩) hS.2.2 dX0_reads_89 hlocks
    · skip
      refine lv_aload_n hx hb dX0_reads_76 rfl (lv_at hl 0 rfl) ?_
      refine wi_iconst hx hb dX0_reads_77 ?_
      have hFc := fl_free (SC := [rdW rd ρ]) hD hS hA [0] rfl
      refine wq_calli (va_runV (As := [.int (iI (4))]) (rest := []) ⟨hx, hb, hml, hown, hts⟩ (c_X0_goesTo l D cI cO cC cL s.heap.size rd ρ (4) ) (cwV 1 hts gX0_reads_X0_goesTo rfl rfl rfl (by decide +kernel) ⟨Nat.le_of_ble_eq_true rfl, Nat.le_of_ble_eq_true rfl⟩) ⟨pcW_blind, va_recv hK hP (ci := 0) (q0 := 0) rfl rfl, pcW_of hP hK hD⟩ rfl rfl hl.1 rfl (lv_room (Nat.le_of_ble_eq_true rfl)) dX0_reads_78 ⟨(Nat.zero_le _), (Nat.zero_le _)⟩) hS (fun q _ h => hFc q h) hFc (fun r10 u12 t9 H1 locs ht9 hvm hcl11 hB hz1 hk1 hS => ?_)
      obtain ⟨hP1, hK1, hD1⟩ := hB
      rw [ht9] at hP1
      obtain ⟨hP, hD⟩ := fl_join (SR := []) (S1 := [rdW rd (sU ρ 0 0 (4))]) hP hD [0] [] rfl rfl (by decide) (by decide) hk1 hFc hP1 hD1
      generalize H1 = H at hP hS ⊢
      have hP : va_P D vwCl (fl [rdW rd (sU ρ 0 0 (4))]) H := hP
      have hD : va_D A (fl [rdW rd (sU ρ 0 0 (4))]) := hD
      refine wi_if_eq (tgt := 88) hx hb dX0_reads_81 (by decide) (by omega) (fun c_81 => ?_) (fun c_81 => ?_)
      · skip
        exfalso; omega
      · skip
        refine wi_iconst hx hb dX0_reads_84 ?_
        refine lv_goto (tgt := 89) hx hb dX0_reads_85 (by decide) ?_
        have hP : va_P D vwCl (fl [rdW rd (sR ρ 0 ((uI ((ρ 0)) 0 (4))))]) H := hP
        have hD : va_D A (fl [rdW rd (sR ρ 0 ((uI ((ρ 0)) 0 (4))))]) := hD
        exact W.zret (v := iI (1)) hx hb hr (nar_z (by omega)) (fun t9 ht9 hW9 => ⟨⟨(1), ((uI ((ρ 0)) 0 (4))), rfl, (⟨fun h9 => ⟨by omega, by rw [dNx_3 (by omega)]⟩, fun h9 => by exfalso; omega⟩), ⟨by rw [ht9]; exact hP, va_K.moved hW9.alike hK, hD⟩⟩, hS.F ht9⟩) hS.2.2 dX0_reads_89 hlocks
  by_cases hc4_4 : (ρ 0 0) = 4
  · skip
    refine lv_tableIn (tgt := 90) hx hb dX0_reads_4 (by rw [hsx]; omega) (by rw [hsx]; omega) (off := 86) (by rw [hsx, hc4_4]; rfl) (by decide) ?_
    refine lv_aload_n hx hb dX0_reads_90 rfl (lv_at hl 0 rfl) ?_
    refine lv_iload_n hx hb dX0_reads_91 rfl (lv_at hl 1 rfl) ?_
    have hFc := fl_free (SC := [rdW rd ρ]) hD hS hA [0] rfl
    refine wq_calli (va_runV (As := [.int (iI (c))]) (rest := []) ⟨hx, hb, hml, hown, hts⟩ (c_X0_readsFirstDigit l D cI cO cC cL s.heap.size rd ρ (c) (hc)) (cwV 1 hts gX0_reads_X0_readsFirstDigit rfl rfl rfl (by decide +kernel) ⟨Nat.le_of_ble_eq_true rfl, Nat.le_of_ble_eq_true rfl⟩) ⟨pcW_blind, va_recv hK hP (ci := 0) (q0 := 0) rfl rfl, pcW_of hP hK hD⟩ rfl rfl hl.1 rfl (lv_room (Nat.le_of_ble_eq_true rfl)) dX0_reads_92 ⟨(Nat.zero_le _), (Nat.zero_le _)⟩) hS (fun q _ h => hFc q h) hFc (fun r13 u15 t9 H1 locs ht9 hvm hcl14 hB hz1 hk1 hS => ?_)
    obtain ⟨hP1, hK1, hD1⟩ := hB
    rw [ht9] at hP1
    obtain ⟨hP, hD⟩ := fl_join (SR := []) (S1 := [rdW rd (sR ρ 0 u15)]) hP hD [0] [] rfl rfl (by decide) (by decide) hk1 hFc hP1 hD1
    generalize H1 = H at hP hS ⊢
    have hP : va_P D vwCl (fl [rdW rd (sR ρ 0 u15)]) H := hP
    have hD : va_D A (fl [rdW rd (sR ρ 0 u15)]) := hD
    have hP : va_P D vwCl (fl [rdW rd (sR ρ 0 (u15))]) H := hP
    have hD : va_D A (fl [rdW rd (sR ρ 0 (u15))]) := hD
    exact W.zret (v := iI (r13)) hx hb hr (nar_z ((Decidable.em (49 ≤ c ∧ c ≤ 57)).elim (fun q => Or.inr (hcl14.1 q).1) (fun q => Or.inl (by first | exact (hcl14.2 q).1 | exact hcl14.2 q)))) (fun t9 ht9 hW9 => ⟨⟨(r13), (u15), rfl, (⟨fun h9 => by obtain ⟨y1, y2⟩ := hcl14.1 (by omega); exact ⟨y1, by rw [dNx_4 (by omega)]; exact y2⟩, fun h9 => by first | exact (hcl14.2 (by omega)).1 | exact hcl14.2 (by omega)⟩), ⟨by rw [ht9]; exact hP, va_K.moved hW9.alike hK, hD⟩⟩, hS.F ht9⟩) hS.2.2 dX0_reads_95 hlocks
  by_cases hc4_5 : (ρ 0 0) = 5
  · skip
    refine lv_tableIn (tgt := 96) hx hb dX0_reads_4 (by rw [hsx]; omega) (by rw [hsx]; omega) (off := 92) (by rw [hsx, hc4_5]; rfl) (by decide) ?_
    refine lv_aload_n hx hb dX0_reads_96 rfl (lv_at hl 0 rfl) ?_
    refine lv_iload_n hx hb dX0_reads_97 rfl (lv_at hl 1 rfl) ?_
    have hFc := fl_free (SC := [rdW rd ρ]) hD hS hA [0] rfl
    refine wq_calli (va_runV (As := [.int (iI (c))]) (rest := []) ⟨hx, hb, hml, hown, hts⟩ (c_X0_readsSecondDigit l D cI cO cC cL s.heap.size rd ρ (c) (hc)) (cwV 1 hts gX0_reads_X0_readsSecondDigit rfl rfl rfl (by decide +kernel) ⟨Nat.le_of_ble_eq_true rfl, Nat.le_of_ble_eq_true rfl⟩) ⟨pcW_blind, va_recv hK hP (ci := 0) (q0 := 0) rfl rfl, pcW_of hP hK hD⟩ rfl rfl hl.1 rfl (lv_room (Nat.le_of_ble_eq_true rfl)) dX0_reads_98 ⟨(Nat.zero_le _), (Nat.zero_le _)⟩) hS (fun q _ h => hFc q h) hFc (fun r16 u18 t9 H1 locs ht9 hvm hcl17 hB hz1 hk1 hS => ?_)
    obtain ⟨hP1, hK1, hD1⟩ := hB
    rw [ht9] at hP1
    obtain ⟨hP, hD⟩ := fl_join (SR := []) (S1 := [rdW rd (sR ρ 0 u18)]) hP hD [0] [] rfl rfl (by decide) (by decide) hk1 hFc hP1 hD1
    generalize H1 = H at hP hS ⊢
    have hP : va_P D vwCl (fl [rdW rd (sR ρ 0 u18)]) H := hP
    have hD : va_D A (fl [rdW rd (sR ρ 0 u18)]) := hD
    refine wi_if_ne (tgt := 112) hx hb dX0_reads_101 (by decide) (by omega) (fun c_101 => ?_) (fun c_101 => ?_)
    · skip
      refine wi_iconst hx hb dX0_reads_112 ?_
      refine lv_goto (tgt := 117) hx hb dX0_reads_113 (by decide) ?_
      have hP : va_P D vwCl (fl [rdW rd (sR ρ 0 (u18))]) H := hP
      have hD : va_D A (fl [rdW rd (sR ρ 0 (u18))]) := hD
      exact W.zret (v := iI (1)) hx hb hr (nar_z (by omega)) (fun t9 ht9 hW9 => ⟨⟨(1), (u18), rfl, (⟨fun h9 => (Decidable.em (48 ≤ c ∧ c ≤ 57)).elim (fun q => ⟨rfl, by rw [dNx_5 (by omega), if_pos q]; exact (hcl17.1 q).2⟩) (fun q => by have := (hcl17.2 q).1; omega), fun h9 => by have := (hcl17.2 (by omega)).1; omega⟩), ⟨by rw [ht9]; exact hP, va_K.moved hW9.alike hK, hD⟩⟩, hS.F ht9⟩) hS.2.2 dX0_reads_117 hlocks
    · skip
      refine lv_aload_n hx hb dX0_reads_104 rfl (lv_at hl 0 rfl) ?_
      refine lv_iload_n hx hb dX0_reads_105 rfl (lv_at hl 1 rfl) ?_
      have hFc := fl_free (SC := [rdW rd (sR ρ 0 u18)]) hD hS hA [0] rfl
      refine wq_calli (va_runV (As := [.int (iI (c))]) (rest := []) ⟨hx, hb, hml, hown, hts⟩ (c_X0_readsBehindNumber l D cI cO cC cL H.size rd (sR ρ 0 u18) (c) (hc)) (cwV 1 hts gX0_reads_X0_readsBehindNumber rfl rfl rfl (by decide +kernel) ⟨Nat.le_of_ble_eq_true rfl, Nat.le_of_ble_eq_true rfl⟩) ⟨pcW_blind, va_recv hK hP (ci := 0) (q0 := 0) rfl rfl, pcW_of hP hK hD⟩ rfl rfl hl.1 rfl (lv_room (Nat.le_of_ble_eq_true rfl)) dX0_reads_106 ⟨(Nat.zero_le _), (Nat.zero_le _)⟩) hS (fun q _ h => hFc q h) hFc (fun r19 u21 t9 H1 locs ht9 hvm hcl20 hB hz1 hk1 hS => ?_)
      obtain ⟨hP1, hK1, hD1⟩ := hB
      rw [ht9] at hP1
      obtain ⟨hP, hD⟩ := fl_join (SR := []) (S1 := [rdW rd (sR (sR ρ 0 u18) 0 u21)]) hP hD [0] [] rfl rfl (by decide) (by decide) hk1 hFc hP1 hD1
      generalize H1 = H at hP hS ⊢
      have hP : va_P D vwCl (fl [rdW rd (sR (sR ρ 0 u18) 0 u21)]) H := hP
      have hD : va_D A (fl [rdW rd (sR (sR ρ 0 u18) 0 u21)]) := hD
      refine wi_if_eq (tgt := 116) hx hb dX0_reads_109 (by decide) (by omega) (fun c_109 => ?_) (fun c_109 => ?_)
      · skip
        refine wi_iconst hx hb dX0_reads_116 ?_
        have hP : va_P D vwCl (fl [rdW rd (sR ρ 0 (u21))]) H := hP
        have hD : va_D A (fl [rdW rd (sR ρ 0 (u21))]) := hD
        exact W.zret (v := iI (0)) hx hb hr (nar_z (by omega)) (fun t9 ht9 hW9 => ⟨⟨(0), (u21), rfl, (⟨fun h9 => by have q : ¬ (48 ≤ c ∧ c ≤ 57) := fun q => (by have := (hcl17.1 q).1; omega); obtain ⟨y1, y2⟩ := hcl20.1 (by omega); exact ⟨by omega, by rw [dNx_5 (by omega), if_neg q, y2]; show (if c = 111 then uI u18 0 7 else uI u18 0 0) = _; rw [(hcl17.2 q).2]⟩, fun h9 => by have q : ¬ (48 ≤ c ∧ c ≤ 57) := fun q => (by have := (hcl17.1 q).1; omega); have := hcl20.2 (by omega); omega⟩), ⟨by rw [ht9]; exact hP, va_K.moved hW9.alike hK, hD⟩⟩, hS.F ht9⟩) hS.2.2 dX0_reads_117 hlocks
      · skip
        refine wi_iconst hx hb dX0_reads_112 ?_
        refine lv_goto (tgt := 117) hx hb dX0_reads_113 (by decide) ?_
        have hP : va_P D vwCl (fl [rdW rd (sR ρ 0 (u21))]) H := hP
        have hD : va_D A (fl [rdW rd (sR ρ 0 (u21))]) := hD
        exact W.zret (v := iI (1)) hx hb hr (nar_z (by omega)) (fun t9 ht9 hW9 => ⟨⟨(1), (u21), rfl, (⟨fun h9 => by have q : ¬ (48 ≤ c ∧ c ≤ 57) := fun q => (by have := (hcl17.1 q).1; omega); obtain ⟨y1, y2⟩ := hcl20.1 (by omega); exact ⟨by omega, by rw [dNx_5 (by omega), if_neg q, y2]; show (if c = 111 then uI u18 0 7 else uI u18 0 0) = _; rw [(hcl17.2 q).2]⟩, fun h9 => by have q : ¬ (48 ≤ c ∧ c ≤ 57) := fun q => (by have := (hcl17.1 q).1; omega); have := hcl20.2 (by omega); omega⟩), ⟨by rw [ht9]; exact hP, va_K.moved hW9.alike hK, hD⟩⟩, hS.F ht9⟩) hS.2.2 dX0_reads_117 hlocks
  by_cases hc4_6 : (ρ 0 0) = 6
  · skip
    refine lv_tableIn (tgt := 118) hx hb dX0_reads_4 (by rw [hsx]; omega) (by rw [hsx]; omega) (off := 114) (by rw [hsx, hc4_6]; rfl) (by decide) ?_
    refine lv_aload_n hx hb dX0_reads_118 rfl (lv_at hl 0 rfl) ?_
    refine lv_iload_n hx hb dX0_reads_119 rfl (lv_at hl 1 rfl) ?_
    have hFc := fl_free (SC := [rdW rd ρ]) hD hS hA [0] rfl
    refine wq_calli (va_runV (As := [.int (iI (c))]) (rest := []) ⟨hx, hb, hml, hown, hts⟩ (c_X0_readsBehindNumber l D cI cO cC cL s.heap.size rd ρ (c) (hc)) (cwV 1 hts gX0_reads_X0_readsBehindNumber rfl rfl rfl (by decide +kernel) ⟨Nat.le_of_ble_eq_true rfl, Nat.le_of_ble_eq_true rfl⟩) ⟨pcW_blind, va_recv hK hP (ci := 0) (q0 := 0) rfl rfl, pcW_of hP hK hD⟩ rfl rfl hl.1 rfl (lv_room (Nat.le_of_ble_eq_true rfl)) dX0_reads_120 ⟨(Nat.zero_le _), (Nat.zero_le _)⟩) hS (fun q _ h => hFc q h) hFc (fun r22 u24 t9 H1 locs ht9 hvm hcl23 hB hz1 hk1 hS => ?_)
    obtain ⟨hP1, hK1, hD1⟩ := hB
    rw [ht9] at hP1
    obtain ⟨hP, hD⟩ := fl_join (SR := []) (S1 := [rdW rd (sR ρ 0 u24)]) hP hD [0] [] rfl rfl (by decide) (by decide) hk1 hFc hP1 hD1
    generalize H1 = H at hP hS ⊢
    have hP : va_P D vwCl (fl [rdW rd (sR ρ 0 u24)]) H := hP
    have hD : va_D A (fl [rdW rd (sR ρ 0 u24)]) := hD
    have hP : va_P D vwCl (fl [rdW rd (sR ρ 0 (u24))]) H := hP
    have hD : va_D A (fl [rdW rd (sR ρ 0 (u24))]) := hD
    exact W.zret (v := iI (r22)) hx hb hr (nar_z ((Decidable.em (c = 111 ∨ c = 59)).elim (fun q => Or.inr (hcl23.1 q).1) (fun q => Or.inl (by first | exact (hcl23.2 q).1 | exact hcl23.2 q)))) (fun t9 ht9 hW9 => ⟨⟨(r22), (u24), rfl, (⟨fun h9 => by obtain ⟨y1, y2⟩ := hcl23.1 (by omega); exact ⟨y1, by rw [dNx_6 (by omega)]; exact y2⟩, fun h9 => hcl23.2 (by omega)⟩), ⟨by rw [ht9]; exact hP, va_K.moved hW9.alike hK, hD⟩⟩, hS.F ht9⟩) hS.2.2 dX0_reads_123 hlocks
  by_cases hc4_7 : (ρ 0 0) = 7
  · skip
    refine lv_tableIn (tgt := 124) hx hb dX0_reads_4 (by rw [hsx]; omega) (by rw [hsx]; omega) (off := 120) (by rw [hsx, hc4_7]; rfl) (by decide) ?_
    refine lv_aload_n hx hb dX0_reads_124 rfl (lv_at hl 0 rfl) ?_
    refine lv_iload_n hx hb dX0_reads_125 rfl (lv_at hl 1 rfl) ?_
    have hFc := fl_free (SC := [rdW rd ρ]) hD hS hA [0] rfl
    refine wq_calli (va_runV (As := [.int (iI (c))]) (rest := []) ⟨hx, hb, hml, hown, hts⟩ (c_X0_readsOwner l D cI cO cC cL s.heap.size rd ρ (c) (hc)) (cwV 1 hts gX0_reads_X0_readsOwner rfl rfl rfl (by decide +kernel) ⟨Nat.le_of_ble_eq_true rfl, Nat.le_of_ble_eq_true rfl⟩) ⟨pcW_blind, va_recv hK hP (ci := 0) (q0 := 0) rfl rfl, pcW_of hP hK hD⟩ rfl rfl hl.1 rfl (lv_room (Nat.le_of_ble_eq_true rfl)) dX0_reads_126 ⟨(Nat.zero_le _), (Nat.zero_le _)⟩) hS (fun q _ h => hFc q h) hFc (fun r25 u27 t9 H1 locs ht9 hvm hcl26 hB hz1 hk1 hS => ?_)
    obtain ⟨hP1, hK1, hD1⟩ := hB
    rw [ht9] at hP1
    obtain ⟨hP, hD⟩ := fl_join (SR := []) (S1 := [rdW rd (sR ρ 0 u27)]) hP hD [0] [] rfl rfl (by decide) (by decide) hk1 hFc hP1 hD1
    generalize H1 = H at hP hS ⊢
    have hP : va_P D vwCl (fl [rdW rd (sR ρ 0 u27)]) H := hP
    have hD : va_D A (fl [rdW rd (sR ρ 0 u27)]) := hD
    have hP : va_P D vwCl (fl [rdW rd (sR ρ 0 (u27))]) H := hP
    have hD : va_D A (fl [rdW rd (sR ρ 0 (u27))]) := hD
    exact W.zret (v := iI (r25)) hx hb hr (nar_z ((Decidable.em (48 ≤ c ∧ c ≤ 53)).elim (fun q => Or.inr (hcl26.1 q).1) (fun q => Or.inl (by first | exact (hcl26.2 q).1 | exact hcl26.2 q)))) (fun t9 ht9 hW9 => ⟨⟨(r25), (u27), rfl, (⟨fun h9 => by obtain ⟨y1, y2⟩ := hcl26.1 (by omega); exact ⟨y1, by rw [dNx_7 (by omega)]; exact y2⟩, fun h9 => by first | exact (hcl26.2 (by omega)).1 | exact hcl26.2 (by omega)⟩), ⟨by rw [ht9]; exact hP, va_K.moved hW9.alike hK, hD⟩⟩, hS.F ht9⟩) hS.2.2 dX0_reads_129 hlocks
  refine lv_tableOut (tgt := 130) hx hb dX0_reads_4 (by rw [hsx]; omega) (by decide) ?_
  refine lv_iload_n hx hb dX0_reads_130 rfl (lv_at hl 1 rfl) ?_
  refine wi_bipush hx hb dX0_reads_131 (by decide) ?_
  refine wi_icmp_ne (tgt := 148) hx hb dX0_reads_133 (by decide) (by omega) (fun c_133 => ?_) (fun c_133 => ?_)
  · skip
    refine wi_iconst hx hb dX0_reads_148 ?_
    have hP : va_P D vwCl (fl [rdW rd (sR ρ 0 (ρ 0))]) s.heap := hP
    have hD : va_D A (fl [rdW rd (sR ρ 0 (ρ 0))]) := hD
    exact W.zret (v := iI (0)) hx hb hr (nar_z (by omega)) (fun t9 ht9 hW9 => ⟨⟨(0), (ρ 0), rfl, (⟨fun h9 => by exfalso; omega, fun h9 => rfl⟩), ⟨by rw [ht9]; exact hP, va_K.moved hW9.alike hK, hD⟩⟩, hS.F ht9⟩) hS.2.2 dX0_reads_149 hlocks
  · skip
    refine lv_aload_n hx hb dX0_reads_136 rfl (lv_at hl 0 rfl) ?_
    refine wi_iconst hx hb dX0_reads_137 ?_
    have hFc := fl_free (SC := [rdW rd ρ]) hD hS hA [0] rfl
    refine wq_calli (va_runV (As := [.int (iI (0))]) (rest := []) ⟨hx, hb, hml, hown, hts⟩ (c_X0_goesTo l D cI cO cC cL s.heap.size rd ρ (0) ) (cwV 1 hts gX0_reads_X0_goesTo rfl rfl rfl (by decide +kernel) ⟨Nat.le_of_ble_eq_true rfl, Nat.le_of_ble_eq_true rfl⟩) ⟨pcW_blind, va_recv hK hP (ci := 0) (q0 := 0) rfl rfl, pcW_of hP hK hD⟩ rfl rfl hl.1 rfl (lv_room (Nat.le_of_ble_eq_true rfl)) dX0_reads_138 ⟨(Nat.zero_le _), (Nat.zero_le _)⟩) hS (fun q _ h => hFc q h) hFc (fun r28 u30 t9 H1 locs ht9 hvm hcl29 hB hz1 hk1 hS => ?_)
    obtain ⟨hP1, hK1, hD1⟩ := hB
    rw [ht9] at hP1
    obtain ⟨hP, hD⟩ := fl_join (SR := []) (S1 := [rdW rd (sU ρ 0 0 (0))]) hP hD [0] [] rfl rfl (by decide) (by decide) hk1 hFc hP1 hD1
    generalize H1 = H at hP hS ⊢
    have hP : va_P D vwCl (fl [rdW rd (sU ρ 0 0 (0))]) H := hP
    have hD : va_D A (fl [rdW rd (sU ρ 0 0 (0))]) := hD
    refine wi_if_eq (tgt := 148) hx hb dX0_reads_141 (by decide) (by omega) (fun c_141 => ?_) (fun c_141 => ?_)
    · skip
      exfalso; omega
    · skip
      refine wi_iconst hx hb dX0_reads_144 ?_
      refine lv_goto (tgt := 149) hx hb dX0_reads_145 (by decide) ?_
      have hP : va_P D vwCl (fl [rdW rd (sR ρ 0 ((uI ((ρ 0)) 0 (0))))]) H := hP
      have hD : va_D A (fl [rdW rd (sR ρ 0 ((uI ((ρ 0)) 0 (0))))]) := hD
      exact W.zret (v := iI (1)) hx hb hr (nar_z (by omega)) (fun t9 ht9 hW9 => ⟨⟨(1), ((uI ((ρ 0)) 0 (0))), rfl, (⟨fun h9 => ⟨by omega, by rw [dNx_8 (by omega)]⟩, fun h9 => by exfalso; omega⟩), ⟨by rw [ht9]; exact hP, va_K.moved hW9.alike hK, hD⟩⟩, hS.F ht9⟩) hS.2.2 dX0_reads_149 hlocks
