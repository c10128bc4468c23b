set_option maxHeartbeats 4000000 in
set_option maxRecDepth 100000 in
theorem c_X4_checkIndex (l : Launch) (D : va_G) (cI cO cC cL : ClassId) (i n : Int) (hi : 0 ≤ i ∧ i < n) (hn : n ≤ 100000) : Met l yX4_checkIndex wsX4_checkIndex ({ frames := 6, cells := 0, slots := 0, locals := 120 } : Room) (va_Pc [.int (iI (i)), .int (iI (n))] (fun _ => True)) (va_Sv (fun _ => True)) 0 0 (fun _ => False) := by
  refine Met.ofW (cc := cX4_checkIndex) (maxL := 2) (ret := none) (by decide) rfl ?_
  intro p9 e9 s m args9 below9 meth9 c9 s₁ B hml hv
  obtain ⟨rfl, -⟩ := hv
  have hx := B.exec
  have hb := B.bytes
  have hr := B.returns
  have hts := atoms_spec (ws := wsX4_checkIndex) B.pre
  have hown : s.vm.findClass RX4 = some m.cls := findClass_of_methodNamed B.named
  have hlocks := B.notSynchronized
  have hl := lv_entry ([.int (iI (i)), .int (iI (n))]) (n := 2) (Nat.le_of_ble_eq_true rfl)
  rw [lg_entry_eq]
  generalize (lg_sl ([.int (iI (i)), .int (iI (n))]) ++ List.replicate (2 - (lg_sl ([.int (iI (i)), .int (iI (n))])).length) Slot.unset).toArray = ls at hl ⊢
  have hl : lv_has ls 2 [(0, .int (iI (i))), (1, .int (iI (n)))] := hl
  refine lv_iload_n hx hb dX4_checkIndex_0 rfl (lv_at hl 0 rfl) ?_
  refine wi_if_lt (tgt := 9) hx hb dX4_checkIndex_1 (by decide) (by omega) (fun c_1 => ?_) (fun c_1 => ?_)
  · skip
    exfalso; omega
  · skip
    refine lv_iload_n hx hb dX4_checkIndex_4 rfl (lv_at hl 0 rfl) ?_
    refine lv_iload_n hx hb dX4_checkIndex_5 rfl (lv_at hl 1 rfl) ?_
    refine wi_icmp_lt (tgt := 20) hx hb dX4_checkIndex_6 (by decide) (by omega) (fun c_6 => ?_) (fun c_6 => ?_)
    · skip
      exact W.vret hx hb hr (fun t9 ht9 hW9 => ⟨rfl, (trivial), ht9⟩) (fun _ h => nomatch h) dX4_checkIndex_20 hlocks
    · skip
      exfalso; omega
set_option maxHeartbeats 4000000 in
set_option maxRecDepth 100000 in
theorem c_X4_checkArgument (l : Launch) (D : va_G) (cI cO cC cL : ClassId) (v lo hi : Int) (hv : lo ≤ v ∧ v ≤ hi) (hr1 : R32 lo) (hr2 : R32 hi) : Met l yX4_checkArgument wsX4_checkArgument ({ frames := 6, cells := 0, slots := 0, locals := 120 } : Room) (va_Pc [.int (iI (v)), .int (iI (lo)), .int (iI (hi))] (fun _ => True)) (va_Sv (fun _ => True)) 0 0 (fun _ => False) := by
  refine Met.ofW (cc := cX4_checkArgument) (maxL := 3) (ret := none) (by decide) rfl ?_
  intro p9 e9 s m args9 below9 meth9 c9 s₁ B hml hv
  obtain ⟨rfl, -⟩ := hv
  have hx := B.exec
  have hb := B.bytes
  have hr := B.returns
  have hts := atoms_spec (ws := wsX4_checkArgument) B.pre
  have hown : s.vm.findClass RX4 = some m.cls := findClass_of_methodNamed B.named
  have hlocks := B.notSynchronized
  have hl := lv_entry ([.int (iI (v)), .int (iI (lo)), .int (iI (hi))]) (n := 3) (Nat.le_of_ble_eq_true rfl)
  rw [lg_entry_eq]
  generalize (lg_sl ([.int (iI (v)), .int (iI (lo)), .int (iI (hi))]) ++ List.replicate (3 - (lg_sl ([.int (iI (v)), .int (iI (lo)), .int (iI (hi))])).length) Slot.unset).toArray = ls at hl ⊢
  have hl : lv_has ls 3 [(0, .int (iI (v))), (1, .int (iI (lo))), (2, .int (iI (hi)))] := hl
  refine lv_iload_n hx hb dX4_checkArgument_0 rfl (lv_at hl 0 rfl) ?_
  refine lv_iload_n hx hb dX4_checkArgument_1 rfl (lv_at hl 1 rfl) ?_
  refine wi_icmp_lt (tgt := 10) hx hb dX4_checkArgument_2 (by decide) (by omega) (fun c_2 => ?_) (fun c_2 => ?_)
  · skip
    exfalso; omega
  · skip
    refine lv_iload_n hx hb dX4_checkArgument_5 rfl (lv_at hl 0 rfl) ?_
    refine lv_iload_n hx hb dX4_checkArgument_6 rfl (lv_at hl 2 rfl) ?_
    refine wi_icmp_le (tgt := 21) hx hb dX4_checkArgument_7 (by decide) (by omega) (fun c_7 => ?_) (fun c_7 => ?_)
    · skip
      exact W.vret hx hb hr (fun t9 ht9 hW9 => ⟨rfl, (trivial), ht9⟩) (fun _ h => nomatch h) dX4_checkArgument_21 hlocks
    · skip
      exfalso; omega
set_option maxHeartbeats 4000000 in
set_option maxRecDepth 100000 in
theorem c_X4_checkChange (l : Launch) (D : va_G) (cI cO cC cL : ClassId) (y : Int) (hy : y ≠ 0 ∧ -99 ≤ y ∧ y ≤ 99) : Met l yX4_checkChange wsX4_checkChange ({ frames := 7, cells := 0, slots := 0, locals := 142 } : Room) (va_Pc [.int (iI (y))] (fun _ => True)) (va_Sv (fun _ => True)) 0 0 (fun _ => False) := by
  refine Met.ofW (cc := cX4_checkChange) (maxL := 1) (ret := none) (by decide) rfl ?_
  intro p9 e9 s m args9 below9 meth9 c9 s₁ B hml hv
  obtain ⟨rfl, -⟩ := hv
  have hx := B.exec
  have hb := B.bytes
  have hr := B.returns
  have hts := atoms_spec (ws := wsX4_checkChange) B.pre
  have hown : s.vm.findClass RX4 = some m.cls := findClass_of_methodNamed B.named
  have hlocks := B.notSynchronized
  have hl := lv_entry ([.int (iI (y))]) (n := 1) (Nat.le_of_ble_eq_true rfl)
  rw [lg_entry_eq]
  generalize (lg_sl ([.int (iI (y))]) ++ List.replicate (1 - (lg_sl ([.int (iI (y))])).length) Slot.unset).toArray = ls at hl ⊢
  have hl : lv_has ls 1 [(0, .int (iI (y)))] := hl
  refine lv_iload_n hx hb dX4_checkChange_0 rfl (lv_at hl 0 rfl) ?_
  refine wi_bipush hx hb dX4_checkChange_1 (by decide) ?_
  refine wi_bipush hx hb dX4_checkChange_3 (by decide) ?_
  refine wr_callv (va_runS (As := [.int (iI (y)), .int (iI (-99)), .int (iI (99))]) (rest := []) ⟨hx, hb, hml, hown, hts⟩ (c_X4_checkArgument l D cI cO cC cL (y) (-99) (99) (by omega) (by omega) (by omega)) (cwS 3 hts gX4_checkChange_X4_checkArgument rfl rfl rfl (by decide +kernel) ⟨Nat.le_of_ble_eq_true rfl, Nat.le_of_ble_eq_true rfl⟩) ⟨fun _ _ _ _ h => h, fun U hU hW => ⟨rfl, trivial⟩⟩ rfl rfl hl.1 rfl (lv_room (Nat.le_of_ble_eq_true rfl)) dX4_checkChange_5 ⟨(Nat.zero_le _), (Nat.zero_le _)⟩) (fun hv1 => ?_)
  refine lv_iload_n hx hb dX4_checkChange_8 rfl (lv_at hl 0 rfl) ?_
  refine wi_if_ne (tgt := 23) hx hb dX4_checkChange_9 (by decide) (by omega) (fun c_9 => ?_) (fun c_9 => ?_)
  · skip
    exact W.vret hx hb hr (fun t9 ht9 hW9 => ⟨rfl, (trivial), ht9⟩) (fun _ h => nomatch h) dX4_checkChange_23 hlocks
  · skip
    exfalso; omega
set_option maxHeartbeats 4000000 in
set_option maxRecDepth 100000 in
theorem c_X4_checkNoReason (l : Launch) (D : va_G) (cI cO cC cL : ClassId) (x a sv o rd bu : Nat → Nat) (ln σ : Nat → Int → Int) (w c y to : Int) (hw : R32 w) (hc : 0 ≤ c ∧ c < 4) (hy : -99 ≤ y ∧ y ≤ 99) (hto : to = -1 ∨ (0 ≤ to ∧ to < 4)) (hz : reasonS σ w c y to ≤ 0) (hI : Inv σ) : Met l yX4_checkNoReason wsX4_checkNoReason ({ frames := 6, cells := 0, slots := 0, locals := 120 } : Room) (pcR D [(cI, FieldType.int), (cO, FieldType.object "PromisedCounters$State"), (cC, FieldType.char)] [.ref (x 0), .int (iI (w)), .int (iI (c)), .int (iI (y)), .int (iI (to))] (fl [mnW x a sv o rd bu ln, stW cI a σ])) (va_Sv (fun _ => True)) 0 0 (fun _ => False) := by
  refine Met.ofW (cc := cX4_checkNoReason) (maxL := 5) (ret := none) (by decide) rfl ?_
  intro p9 e9 s m args9 below9 meth9 c9 s₁ B hml hv
  obtain ⟨rfl, hP, hK⟩ := hv
  have hx := B.exec
  have hb := B.bytes
  have hr := B.returns
  have hts := atoms_spec (ws := wsX4_checkNoReason) B.pre
  have hown : s.vm.findClass RX4 = some m.cls := findClass_of_methodNamed B.named
  have hlocks := B.notSynchronized
  have hl := lv_entry ([.ref (x 0), .int (iI (w)), .int (iI (c)), .int (iI (y)), .int (iI (to))]) (n := 5) (Nat.le_of_ble_eq_true rfl)
  rw [lg_entry_eq]
  generalize (lg_sl ([.ref (x 0), .int (iI (w)), .int (iI (c)), .int (iI (y)), .int (iI (to))]) ++ List.replicate (5 - (lg_sl ([.ref (x 0), .int (iI (w)), .int (iI (c)), .int (iI (y)), .int (iI (to))])).length) Slot.unset).toArray = ls at hl ⊢
  have hl : lv_has ls 5 [(0, .ref (x 0)), (1, .int (iI (w))), (2, .int (iI (c))), (3, .int (iI (y))), (4, .int (iI (to)))] := hl
  have hw_0 := hts (.fieldLink RX4 10 "PromisedCounters" "state" "LPromisedCounters$State;") (by decide +kernel)
  have hin_X4 : ∀ w ∈ u_ws RX4 TX4 6, w ∈ wsX4_checkNoReason := by decide +kernel
  have hrr := reason_r σ w c y to
  refine lv_aload_n hx hb dX4_checkNoReason_0 rfl (lv_at hl 0 rfl) ?_
  refine va_get (D := D) (ci := 4) (v := .ref (a 0)) (C := RX4) (T := TX4) (N := 6) hx hb hts hin_X4 hown hK hP 0 rfl rfl 0 (by decide) hw_0 (fun _ h9 => h9) rfl dX4_checkNoReason_1 ?_
  refine lv_iload_n hx hb dX4_checkNoReason_4 rfl (lv_at hl 1 rfl) ?_
  refine lv_iload_n hx hb dX4_checkNoReason_5 rfl (lv_at hl 2 rfl) ?_
  refine lv_iload_n hx hb dX4_checkNoReason_6 rfl (lv_at hl 3 rfl) ?_
  refine lv_iload hx hb dX4_checkNoReason_7 (lv_at hl 4 rfl) ?_
  have hPc := fl_P (S' := [stW cI a σ]) hP [1] rfl
  have hKc := hK.sub (tys' := [(cI, FieldType.int)]) [0] rfl
  refine wr_calli (va_runV (As := [.int (iI (w)), .int (iI (c)), .int (iI (y)), .int (iI (to))]) (rest := []) ⟨hx, hb, hml, hown, hts⟩ (c_X3_reasonAgainst l D cI cO cC cL a σ (w) (c) (y) (to) (hw) (hc) (hy) (hto) (hI)) (cwV 4 hts gX4_checkNoReason_X3_reasonAgainst rfl rfl rfl (by decide +kernel) ⟨Nat.le_of_ble_eq_true rfl, Nat.le_of_ble_eq_true rfl⟩) ⟨pcR_blind, va_recv hKc hPc (ci := 3) (q0 := 0) rfl rfl, pcR_of hPc hKc⟩ rfl rfl hl.1 rfl (lv_room (Nat.le_of_ble_eq_true rfl)) dX4_checkNoReason_9 ⟨(Nat.zero_le _), (Nat.zero_le _)⟩) (fun r1 hr1 => ?_)
  subst hr1
  refine wi_if_eq (tgt := 26) hx hb dX4_checkNoReason_12 (by decide) (by omega) (fun c_12 => ?_) (fun c_12 => ?_)
  · skip
    exact W.vret hx hb hr (fun t9 ht9 hW9 => ⟨rfl, (trivial), ht9⟩) (fun _ h => nomatch h) dX4_checkNoReason_26 hlocks
  · skip
    exfalso; omega
set_option maxHeartbeats 4000000 in
set_option maxRecDepth 100000 in
theorem c_X4_sumOf4 (l : Launch) (D : va_G) (cI cO cC cL : ClassId) (r : Nat) (f : Int → Int)  : Met l yX4_sumOf wsX4_sumOf ({ frames := 0, cells := 0, slots := 0, locals := 0 } : Room) (pcR D [(cI, FieldType.int)] [.ref (r)] (fl [rwW cI r 4 f])) (wr_Si (fun r => r = sm f 4)) 0 0 (fun _ => False) := by
  refine Met.ofW (cc := cX4_sumOf) (maxL := 6) (ret := (some .int)) (by decide) rfl ?_
  intro p9 e9 s m args9 below9 meth9 c9 s₁ B hml hv
  obtain ⟨rfl, hP, hK⟩ := hv
  have hx := B.exec
  have hb := B.bytes
  have hr := B.returns
  have hts := atoms_spec (ws := wsX4_sumOf) B.pre
  have hown : s.vm.findClass RX4 = some m.cls := findClass_of_methodNamed B.named
  have hlocks := B.notSynchronized
  have hl := lv_entry ([.ref (r)]) (n := 6) (Nat.le_of_ble_eq_true rfl)
  rw [lg_entry_eq]
  generalize (lg_sl ([.ref (r)]) ++ List.replicate (6 - (lg_sl ([.ref (r)])).length) Slot.unset).toArray = ls at hl ⊢
  have hl : lv_has ls 6 [(0, .ref (r))] := hl
  refine wi_iconst hx hb dX4_sumOf_0 ?_
  refine lv_istore_n (lv' := [(1, .int (iI (0))), (0, .ref (r))]) hx hb dX4_sumOf_1 rfl hl (by decide) rfl (fun ls hl => ?_)
  refine lv_aload_n hx hb dX4_sumOf_2 rfl (lv_at hl 1 rfl) ?_
  refine lv_astore_n (lv' := [(2, .ref (r)), (1, .int (iI (0))), (0, .ref (r))]) hx hb dX4_sumOf_3 rfl hl (by decide) rfl (fun ls hl => ?_)
  refine lv_aload_n hx hb dX4_sumOf_4 rfl (lv_at hl 0 rfl) ?_
  refine va_alen hx hb hK hP 0 0 rfl rfl (v := iI (4)) rfl dX4_sumOf_5 ?_
  refine lv_istore_n (lv' := [(3, .int (iI (4))), (2, .ref (r)), (1, .int (iI (0))), (0, .ref (r))]) hx hb dX4_sumOf_6 rfl hl (by decide) rfl (fun ls hl => ?_)
  refine wi_iconst hx hb dX4_sumOf_7 ?_
  refine lv_istore (lv' := [(4, .int (iI (0))), (3, .int (iI (4))), (2, .ref (r)), (1, .int (iI (0))), (0, .ref (r))]) hx hb dX4_sumOf_8 hl (by decide) rfl (fun ls hl => ?_)
  have L10 : ∀ (k10 : Nat), ∀ (k : Int) (acc : Int), (4 - k).toNat < k10 → (0 ≤ k ∧ k ≤ 4) → (acc = sm f k.toNat) → ∀ (ls : Array Slot), lv_has ls 6 [(4, .int (iI (k))), (3, .int (iI (4))), (2, .ref (r)), (1, .int (iI (acc))), (0, .ref (r))] → W p9 l e9 ({ frames := 0, cells := 0, slots := 0, locals := 0 } : Room) s m ([.ref (r)] : List Value).toArray below9 meth9 c9 s.heap [] 0 0 (MQ below9 (wr_Si (fun r => r = sm f 4)) ([.ref (r)] : List Value).toArray s 0 0 (fun _ => False)) (F0 m 10 ls []) := by
    intro k10
    induction k10 with
    | zero =>
      intro k acc hm
      exact absurd hm (Nat.not_lt_zero _)
    | succ k10 ih10 =>
      intro k acc hm10 hk hacc ls hl
      refine lv_iload hx hb dX4_sumOf_10 (lv_at hl 0 rfl) ?_
      refine lv_iload_n hx hb dX4_sumOf_12 rfl (lv_at hl 1 rfl) ?_
      refine wi_icmp_ge (tgt := 33) hx hb dX4_sumOf_13 (by decide) (by omega) (fun c_13 => ?_) (fun c_13 => ?_)
      · skip
        refine lv_iload_n hx hb dX4_sumOf_33 rfl (lv_at hl 3 rfl) ?_
        exact W.iret (v := iI (acc)) hx hb hr (fun t9 ht9 hW9 => ⟨(acc), rfl, (by rw [hacc, show k = 4 by omega]; rfl), ht9⟩) (fun _ h => nomatch h) dX4_sumOf_34 hlocks
      · skip
        refine lv_aload_n hx hb dX4_sumOf_16 rfl (lv_at hl 2 rfl) ?_
        refine lv_iload hx hb dX4_sumOf_17 (lv_at hl 0 rfl) ?_
        refine wi_iald hx hb hK hP 0 0 (n := 4) (f := f) rfl rfl (i := k) (by omega) (by decide) dX4_sumOf_19 ?_
        refine lv_istore (lv' := [(5, .int (iI ((f (k))))), (4, .int (iI (k))), (3, .int (iI (4))), (2, .ref (r)), (1, .int (iI (acc))), (0, .ref (r))]) hx hb dX4_sumOf_20 hl (by decide) rfl (fun ls hl => ?_)
        refine lv_iload_n hx hb dX4_sumOf_22 rfl (lv_at hl 4 rfl) ?_
        refine lv_iload hx hb dX4_sumOf_23 (lv_at hl 0 rfl) ?_
        refine wi_iadd hx hb dX4_sumOf_25 ?_
        refine lv_istore_n (lv' := [(1, .int (iI ((acc + (f (k)))))), (5, .int (iI ((f (k))))), (4, .int (iI (k))), (3, .int (iI (4))), (2, .ref (r)), (0, .ref (r))]) hx hb dX4_sumOf_26 rfl hl (by decide) rfl (fun ls hl => ?_)
        refine wi_iinc (lv' := [(4, .int (iI ((k + 1)))), (1, .int (iI ((acc + (f (k)))))), (5, .int (iI ((f (k))))), (3, .int (iI (4))), (2, .ref (r)), (0, .ref (r))]) hx hb dX4_sumOf_27 hl (k := 2) rfl (by decide) rfl (fun ls hl => ?_)
        refine lv_goto (tgt := 10) hx hb dX4_sumOf_30 (by decide) ?_
        exact ih10 ((k + 1)) ((acc + (f (k)))) (by omega) (by omega) (by rw [sm_step (by omega)]; omega)  ls (lv_sub hl [0, 3, 4, 1, 5] rfl)
  exact L10 _ (0) (0) (Nat.lt_succ_self _) (by omega) (rfl)  ls (lv_sub hl [0, 1, 2, 3, 4] rfl)
set_option maxHeartbeats 4000000 in
set_option maxRecDepth 100000 in
theorem c_X4_sumOf6 (l : Launch) (D : va_G) (cI cO cC cL : ClassId) (r : Nat) (f : Int → Int)  : Met l yX4_sumOf wsX4_sumOf ({ frames := 0, cells := 0, slots := 0, locals := 0 } : Room) (pcR D [(cI, FieldType.int)] [.ref (r)] (fl [rwW cI r 6 f])) (wr_Si (fun r => r = sm f 6)) 0 0 (fun _ => False) := by
  refine Met.ofW (cc := cX4_sumOf) (maxL := 6) (ret := (some .int)) (by decide) rfl ?_
  intro p9 e9 s m args9 below9 meth9 c9 s₁ B hml hv
  obtain ⟨rfl, hP, hK⟩ := hv
  have hx := B.exec
  have hb := B.bytes
  have hr := B.returns
  have hts := atoms_spec (ws := wsX4_sumOf) B.pre
  have hown : s.vm.findClass RX4 = some m.cls := findClass_of_methodNamed B.named
  have hlocks := B.notSynchronized
  have hl := lv_entry ([.ref (r)]) (n := 6) (Nat.le_of_ble_eq_true rfl)
  rw [lg_entry_eq]
  generalize (lg_sl ([.ref (r)]) ++ List.replicate (6 - (lg_sl ([.ref (r)])).length) Slot.unset).toArray = ls at hl ⊢
  have hl : lv_has ls 6 [(0, .ref (r))] := hl
  refine wi_iconst hx hb dX4_sumOf_0 ?_
  refine lv_istore_n (lv' := [(1, .int (iI (0))), (0, .ref (r))]) hx hb dX4_sumOf_1 rfl hl (by decide) rfl (fun ls hl => ?_)
  refine lv_aload_n hx hb dX4_sumOf_2 rfl (lv_at hl 1 rfl) ?_
  refine lv_astore_n (lv' := [(2, .ref (r)), (1, .int (iI (0))), (0, .ref (r))]) hx hb dX4_sumOf_3 rfl hl (by decide) rfl (fun ls hl => ?_)
  refine lv_aload_n hx hb dX4_sumOf_4 rfl (lv_at hl 0 rfl) ?_
  refine va_alen hx hb hK hP 0 0 rfl rfl (v := iI (6)) rfl dX4_sumOf_5 ?_
  refine lv_istore_n (lv' := [(3, .int (iI (6))), (2, .ref (r)), (1, .int (iI (0))), (0, .ref (r))]) hx hb dX4_sumOf_6 rfl hl (by decide) rfl (fun ls hl => ?_)
  refine wi_iconst hx hb dX4_sumOf_7 ?_
  refine lv_istore (lv' := [(4, .int (iI (0))), (3, .int (iI (6))), (2, .ref (r)), (1, .int (iI (0))), (0, .ref (r))]) hx hb dX4_sumOf_8 hl (by decide) rfl (fun ls hl => ?_)
  have L10 : ∀ (k10 : Nat), ∀ (k : Int) (acc : Int), (6 - k).toNat < k10 → (0 ≤ k ∧ k ≤ 6) → (acc = sm f k.toNat) → ∀ (ls : Array Slot), lv_has ls 6 [(4, .int (iI (k))), (3, .int (iI (6))), (2, .ref (r)), (1, .int (iI (acc))), (0, .ref (r))] → W p9 l e9 ({ frames := 0, cells := 0, slots := 0, locals := 0 } : Room) s m ([.ref (r)] : List Value).toArray below9 meth9 c9 s.heap [] 0 0 (MQ below9 (wr_Si (fun r => r = sm f 6)) ([.ref (r)] : List Value).toArray s 0 0 (fun _ => False)) (F0 m 10 ls []) := by
    intro k10
    induction k10 with
    | zero =>
      intro k acc hm
      exact absurd hm (Nat.not_lt_zero _)
    | succ k10 ih10 =>
      intro k acc hm10 hk hacc ls hl
      refine lv_iload hx hb dX4_sumOf_10 (lv_at hl 0 rfl) ?_
      refine lv_iload_n hx hb dX4_sumOf_12 rfl (lv_at hl 1 rfl) ?_
      refine wi_icmp_ge (tgt := 33) hx hb dX4_sumOf_13 (by decide) (by omega) (fun c_13 => ?_) (fun c_13 => ?_)
      · skip
        refine lv_iload_n hx hb dX4_sumOf_33 rfl (lv_at hl 3 rfl) ?_
        exact W.iret (v := iI (acc)) hx hb hr (fun t9 ht9 hW9 => ⟨(acc), rfl, (by rw [hacc, show k = 6 by omega]; rfl), ht9⟩) (fun _ h => nomatch h) dX4_sumOf_34 hlocks
      · skip
        refine lv_aload_n hx hb dX4_sumOf_16 rfl (lv_at hl 2 rfl) ?_
        refine lv_iload hx hb dX4_sumOf_17 (lv_at hl 0 rfl) ?_
        refine wi_iald hx hb hK hP 0 0 (n := 6) (f := f) rfl rfl (i := k) (by omega) (by decide) dX4_sumOf_19 ?_
        refine lv_istore (lv' := [(5, .int (iI ((f (k))))), (4, .int (iI (k))), (3, .int (iI (6))), (2, .ref (r)), (1, .int (iI (acc))), (0, .ref (r))]) hx hb dX4_sumOf_20 hl (by decide) rfl (fun ls hl => ?_)
        refine lv_iload_n hx hb dX4_sumOf_22 rfl (lv_at hl 4 rfl) ?_
        refine lv_iload hx hb dX4_sumOf_23 (lv_at hl 0 rfl) ?_
        refine wi_iadd hx hb dX4_sumOf_25 ?_
        refine lv_istore_n (lv' := [(1, .int (iI ((acc + (f (k)))))), (5, .int (iI ((f (k))))), (4, .int (iI (k))), (3, .int (iI (6))), (2, .ref (r)), (0, .ref (r))]) hx hb dX4_sumOf_26 rfl hl (by decide) rfl (fun ls hl => ?_)
        refine wi_iinc (lv' := [(4, .int (iI ((k + 1)))), (1, .int (iI ((acc + (f (k)))))), (5, .int (iI ((f (k))))), (3, .int (iI (6))), (2, .ref (r)), (0, .ref (r))]) hx hb dX4_sumOf_27 hl (k := 2) rfl (by decide) rfl (fun ls hl => ?_)
        refine lv_goto (tgt := 10) hx hb dX4_sumOf_30 (by decide) ?_
        exact ih10 ((k + 1)) ((acc + (f (k)))) (by omega) (by omega) (by rw [sm_step (by omega)]; omega)  ls (lv_sub hl [0, 3, 4, 1, 5] rfl)
  exact L10 _ (0) (0) (Nat.lt_succ_self _) (by omega) (rfl)  ls (lv_sub hl [0, 1, 2, 3, 4] rfl)
set_option maxHeartbeats 4000000 in
set_option maxRecDepth 100000 in
theorem c_X4_promiseOf (l : Launch) (D : va_G) (cI cO cC cL : ClassId) (x a sv o rd bu : Nat → Nat) (ln σ : Nat → Int → Int) (p w : Int) (hp : 0 ≤ p ∧ p < σ 0 1) (hw : 0 ≤ w ∧ w ≤ 5) (hI : Inv σ) : Met l yX4_promiseOf wsX4_promiseOf ({ frames := 7, cells := 0, slots := 0, locals := 142 } : Room) (pcR D [(cI, FieldType.int), (cO, FieldType.object "PromisedCounters$State"), (cC, FieldType.char)] [.ref (x 0), .int (iI (p)), .int (iI (w))] (fl [mnW x a sv o rd bu ln, stW cI a σ])) (wr_Si (fun r => r = prmS σ p w)) 0 0 (fun _ => False) := by
  refine Met.ofW (cc := cX4_promiseOf) (maxL := 3) (ret := (some .int)) (by decide) rfl ?_
  intro p9 e9 s m args9 below9 meth9 c9 s₁ B hml hv
  obtain ⟨rfl, hP, hK⟩ := hv
  have hx := B.exec
  have hb := B.bytes
  have hr := B.returns
  have hts := atoms_spec (ws := wsX4_promiseOf) B.pre
  have hown : s.vm.findClass RX4 = some m.cls := findClass_of_methodNamed B.named
  have hlocks := B.notSynchronized
  have hl := lv_entry ([.ref (x 0), .int (iI (p)), .int (iI (w))]) (n := 3) (Nat.le_of_ble_eq_true rfl)
  rw [lg_entry_eq]
  generalize (lg_sl ([.ref (x 0), .int (iI (p)), .int (iI (w))]) ++ List.replicate (3 - (lg_sl ([.ref (x 0), .int (iI (p)), .int (iI (w))])).length) Slot.unset).toArray = ls at hl ⊢
  have hl : lv_has ls 3 [(0, .ref (x 0)), (1, .int (iI (p))), (2, .int (iI (w)))] := hl
  have hw_0 := hts (.fieldLink RX4 10 "PromisedCounters" "state" "LPromisedCounters$State;") (by decide +kernel)
  have hin_X4 : ∀ w ∈ u_ws RX4 TX4 6, w ∈ wsX4_promiseOf := by decide +kernel
  have hw_1 := hts (.fieldLink RX4 98 "PromisedCounters$State" "promises" "I") (by decide +kernel)
  have hin_X3 : ∀ w ∈ u_ws RX3 TX3 15, w ∈ wsX4_promiseOf := by decide +kernel
  have hw_2 := hts (.fieldLink RX4 130 "PromisedCounters$State" "owner" "[I") (by decide +kernel)
  have hw_3 := hts (.fieldLink RX4 101 "PromisedCounters$State" "counter" "[I") (by decide +kernel)
  have hw_4 := hts (.fieldLink RX4 110 "PromisedCounters$State" "change" "[I") (by decide +kernel)
  have hw_5 := hts (.fieldLink RX4 185 "PromisedCounters$State" "other" "[I") (by decide +kernel)
  have hw_6 := hts (.fieldLink RX4 124 "PromisedCounters$State" "until" "[I") (by decide +kernel)
  have hw_7 := hts (.fieldLink RX4 127 "PromisedCounters$State" "time" "I") (by decide +kernel)
  have hn := hI.n
  have hti := hI.t
  refine lv_iload_n hx hb dX4_promiseOf_0 rfl (lv_at hl 1 rfl) ?_
  refine lv_aload_n hx hb dX4_promiseOf_1 rfl (lv_at hl 0 rfl) ?_
  refine va_get (D := D) (ci := 4) (v := .ref (a 0)) (C := RX4) (T := TX4) (N := 6) hx hb hts hin_X4 hown hK hP 0 rfl rfl 0 (by decide) hw_0 (fun _ h9 => h9) rfl dX4_promiseOf_2 ?_
  refine va_get (D := D) (ci := 3) (v := .int (iI ((σ 0 1)))) (C := RX3) (T := TX3) (N := 15) hx hb hts hin_X3 hown hK hP 1 rfl rfl 1 (by decide) hw_1 (fun _ h9 => h9) rfl dX4_promiseOf_5 ?_
  refine wr_callv (va_runS (As := [.int (iI (p)), .int (iI ((σ 0 1)))]) (rest := []) ⟨hx, hb, hml, hown, hts⟩ (c_X4_checkIndex l D cI cO cC cL (p) ((σ 0 1)) (by omega) (by omega)) (cwS 2 hts gX4_promiseOf_X4_checkIndex rfl rfl rfl (by decide +kernel) ⟨Nat.le_of_ble_eq_true rfl, Nat.le_of_ble_eq_true rfl⟩) ⟨fun _ _ _ _ h => h, fun U hU hW => ⟨rfl, trivial⟩⟩ rfl rfl hl.1 rfl (lv_room (Nat.le_of_ble_eq_true rfl)) dX4_promiseOf_8 ⟨(Nat.zero_le _), (Nat.zero_le _)⟩) (fun hv1 => ?_)
  refine lv_iload_n hx hb dX4_promiseOf_11 rfl (lv_at hl 2 rfl) ?_
  refine wi_iconst hx hb dX4_promiseOf_12 ?_
  refine wi_iconst hx hb dX4_promiseOf_13 ?_
  refine wr_callv (va_runS (As := [.int (iI (w)), .int (iI (0)), .int (iI (5))]) (rest := []) ⟨hx, hb, hml, hown, hts⟩ (c_X4_checkArgument l D cI cO cC cL (w) (0) (5) (by omega) (by omega) (by omega)) (cwS 3 hts gX4_promiseOf_X4_checkArgument rfl rfl rfl (by decide +kernel) ⟨Nat.le_of_ble_eq_true rfl, Nat.le_of_ble_eq_true rfl⟩) ⟨fun _ _ _ _ h => h, fun U hU hW => ⟨rfl, trivial⟩⟩ rfl rfl hl.1 rfl (lv_room (Nat.le_of_ble_eq_true rfl)) dX4_promiseOf_14 ⟨(Nat.zero_le _), (Nat.zero_le _)⟩) (fun hv2 => ?_)
  refine lv_iload_n hx hb dX4_promiseOf_17 rfl (lv_at hl 2 rfl) ?_
  have hsx : (iI (w)).toInt = w := iI_toInt (by omega)
  by_cases hc18_0 : w = 0
  · skip
    refine lv_tableIn (tgt := 52) hx hb dX4_promiseOf_18 (by rw [hsx]; omega) (by rw [hsx]; omega) (off := 34) (by rw [hsx, hc18_0]; rfl) (by decide) ?_
    refine lv_aload_n hx hb dX4_promiseOf_52 rfl (lv_at hl 0 rfl) ?_
    refine va_get (D := D) (ci := 4) (v := .ref (a 0)) (C := RX4) (T := TX4) (N := 6) hx hb hts hin_X4 hown hK hP 0 rfl rfl 0 (by decide) hw_0 (fun _ h9 => h9) rfl dX4_promiseOf_53 ?_
    refine va_get (D := D) (ci := 3) (v := .ref (a 5)) (C := RX3) (T := TX3) (N := 15) hx hb hts hin_X3 hown hK hP 1 rfl rfl 7 (by decide) hw_2 (fun _ h9 => h9) rfl dX4_promiseOf_56 ?_
    refine lv_iload_n hx hb dX4_promiseOf_59 rfl (lv_at hl 1 rfl) ?_
    refine wi_iald hx hb hK hP 6 0 (n := 16) (f := σ 5) rfl rfl (i := p) (by omega) (by decide) dX4_promiseOf_60 ?_
    exact W.iret (v := iI ((σ 5 (p)))) hx hb hr (fun t9 ht9 hW9 => ⟨((σ 5 (p))), rfl, (by rw [hc18_0]; rfl), ht9⟩) (fun _ h => nomatch h) dX4_promiseOf_61 hlocks
  by_cases hc18_1 : w = 1
  · skip
    refine lv_tableIn (tgt := 62) hx hb dX4_promiseOf_18 (by rw [hsx]; omega) (by rw [hsx]; omega) (off := 44) (by rw [hsx, hc18_1]; rfl) (by decide) ?_
    refine lv_aload_n hx hb dX4_promiseOf_62 rfl (lv_at hl 0 rfl) ?_
    refine va_get (D := D) (ci := 4) (v := .ref (a 0)) (C := RX4) (T := TX4) (N := 6) hx hb hts hin_X4 hown hK hP 0 rfl rfl 0 (by decide) hw_0 (fun _ h9 => h9) rfl dX4_promiseOf_63 ?_
    refine va_get (D := D) (ci := 3) (v := .ref (a 6)) (C := RX3) (T := TX3) (N := 15) hx hb hts hin_X3 hown hK hP 1 rfl rfl 8 (by decide) hw_3 (fun _ h9 => h9) rfl dX4_promiseOf_66 ?_
    refine lv_iload_n hx hb dX4_promiseOf_69 rfl (lv_at hl 1 rfl) ?_
    refine wi_iald hx hb hK hP 7 0 (n := 16) (f := σ 6) rfl rfl (i := p) (by omega) (by decide) dX4_promiseOf_70 ?_
    exact W.iret (v := iI ((σ 6 (p)))) hx hb hr (fun t9 ht9 hW9 => ⟨((σ 6 (p))), rfl, (by rw [hc18_1]; rfl), ht9⟩) (fun _ h => nomatch h) dX4_promiseOf_71 hlocks
  by_cases hc18_2 : w = 2
  · skip
    refine lv_tableIn (tgt := 72) hx hb dX4_promiseOf_18 (by rw [hsx]; omega) (by rw [hsx]; omega) (off := 54) (by rw [hsx, hc18_2]; rfl) (by decide) ?_
    refine lv_aload_n hx hb dX4_promiseOf_72 rfl (lv_at hl 0 rfl) ?_
    refine va_get (D := D) (ci := 4) (v := .ref (a 0)) (C := RX4) (T := TX4) (N := 6) hx hb hts hin_X4 hown hK hP 0 rfl rfl 0 (by decide) hw_0 (fun _ h9 => h9) rfl dX4_promiseOf_73 ?_
    refine va_get (D := D) (ci := 3) (v := .ref (a 7)) (C := RX3) (T := TX3) (N := 15) hx hb hts hin_X3 hown hK hP 1 rfl rfl 9 (by decide) hw_4 (fun _ h9 => h9) rfl dX4_promiseOf_76 ?_
    refine lv_iload_n hx hb dX4_promiseOf_79 rfl (lv_at hl 1 rfl) ?_
    refine wi_iald hx hb hK hP 8 0 (n := 16) (f := σ 7) rfl rfl (i := p) (by omega) (by decide) dX4_promiseOf_80 ?_
    exact W.iret (v := iI ((σ 7 (p)))) hx hb hr (fun t9 ht9 hW9 => ⟨((σ 7 (p))), rfl, (by rw [hc18_2]; rfl), ht9⟩) (fun _ h => nomatch h) dX4_promiseOf_81 hlocks
  by_cases hc18_3 : w = 3
  · skip
    refine lv_tableIn (tgt := 82) hx hb dX4_promiseOf_18 (by rw [hsx]; omega) (by rw [hsx]; omega) (off := 64) (by rw [hsx, hc18_3]; rfl) (by decide) ?_
    refine lv_aload_n hx hb dX4_promiseOf_82 rfl (lv_at hl 0 rfl) ?_
    refine va_get (D := D) (ci := 4) (v := .ref (a 0)) (C := RX4) (T := TX4) (N := 6) hx hb hts hin_X4 hown hK hP 0 rfl rfl 0 (by decide) hw_0 (fun _ h9 => h9) rfl dX4_promiseOf_83 ?_
    refine va_get (D := D) (ci := 3) (v := .ref (a 8)) (C := RX3) (T := TX3) (N := 15) hx hb hts hin_X3 hown hK hP 1 rfl rfl 10 (by decide) hw_5 (fun _ h9 => h9) rfl dX4_promiseOf_86 ?_
    refine lv_iload_n hx hb dX4_promiseOf_89 rfl (lv_at hl 1 rfl) ?_
    refine wi_iald hx hb hK hP 9 0 (n := 16) (f := σ 8) rfl rfl (i := p) (by omega) (by decide) dX4_promiseOf_90 ?_
    exact W.iret (v := iI ((σ 8 (p)))) hx hb hr (fun t9 ht9 hW9 => ⟨((σ 8 (p))), rfl, (by rw [hc18_3]; rfl), ht9⟩) (fun _ h => nomatch h) dX4_promiseOf_91 hlocks
  by_cases hc18_4 : w = 4
  · skip
    refine lv_tableIn (tgt := 92) hx hb dX4_promiseOf_18 (by rw [hsx]; omega) (by rw [hsx]; omega) (off := 74) (by rw [hsx, hc18_4]; rfl) (by decide) ?_
    refine lv_aload_n hx hb dX4_promiseOf_92 rfl (lv_at hl 0 rfl) ?_
    refine va_get (D := D) (ci := 4) (v := .ref (a 0)) (C := RX4) (T := TX4) (N := 6) hx hb hts hin_X4 hown hK hP 0 rfl rfl 0 (by decide) hw_0 (fun _ h9 => h9) rfl dX4_promiseOf_93 ?_
    refine va_get (D := D) (ci := 3) (v := .ref (a 9)) (C := RX3) (T := TX3) (N := 15) hx hb hts hin_X3 hown hK hP 1 rfl rfl 11 (by decide) hw_6 (fun _ h9 => h9) rfl dX4_promiseOf_96 ?_
    refine lv_iload_n hx hb dX4_promiseOf_99 rfl (lv_at hl 1 rfl) ?_
    refine wi_iald hx hb hK hP 10 0 (n := 16) (f := σ 9) rfl rfl (i := p) (by omega) (by decide) dX4_promiseOf_100 ?_
    exact W.iret (v := iI ((σ 9 (p)))) hx hb hr (fun t9 ht9 hW9 => ⟨((σ 9 (p))), rfl, (by rw [hc18_4]; rfl), ht9⟩) (fun _ h => nomatch h) dX4_promiseOf_101 hlocks
  refine lv_tableOut (tgt := 102) hx hb dX4_promiseOf_18 (by rw [hsx]; omega) (by decide) ?_
  refine lv_aload_n hx hb dX4_promiseOf_102 rfl (lv_at hl 0 rfl) ?_
  refine va_get (D := D) (ci := 4) (v := .ref (a 0)) (C := RX4) (T := TX4) (N := 6) hx hb hts hin_X4 hown hK hP 0 rfl rfl 0 (by decide) hw_0 (fun _ h9 => h9) rfl dX4_promiseOf_103 ?_
  refine va_get (D := D) (ci := 3) (v := .ref (a 9)) (C := RX3) (T := TX3) (N := 15) hx hb hts hin_X3 hown hK hP 1 rfl rfl 11 (by decide) hw_6 (fun _ h9 => h9) rfl dX4_promiseOf_106 ?_
  refine lv_iload_n hx hb dX4_promiseOf_109 rfl (lv_at hl 1 rfl) ?_
  refine wi_iald hx hb hK hP 10 0 (n := 16) (f := σ 9) rfl rfl (i := p) (by omega) (by decide) dX4_promiseOf_110 ?_
  refine lv_aload_n hx hb dX4_promiseOf_111 rfl (lv_at hl 0 rfl) ?_
  refine va_get (D := D) (ci := 4) (v := .ref (a 0)) (C := RX4) (T := TX4) (N := 6) hx hb hts hin_X4 hown hK hP 0 rfl rfl 0 (by decide) hw_0 (fun _ h9 => h9) rfl dX4_promiseOf_112 ?_
  refine va_get (D := D) (ci := 3) (v := .int (iI ((σ 0 0)))) (C := RX3) (T := TX3) (N := 15) hx hb hts hin_X3 hown hK hP 1 rfl rfl 0 (by decide) hw_7 (fun _ h9 => h9) rfl dX4_promiseOf_115 ?_
  refine wi_isub hx hb dX4_promiseOf_118 ?_
  exact W.iret (v := iI (((σ 9 (p)) - (σ 0 0)))) hx hb hr (fun t9 ht9 hW9 => ⟨(((σ 9 (p)) - (σ 0 0))), rfl, (by rw [show w = 5 by omega]; rfl), ht9⟩) (fun _ h => nomatch h) dX4_promiseOf_119 hlocks
set_option maxHeartbeats 4000000 in
set_option maxRecDepth 100000 in
theorem c_X4_owner (l : Launch) (D : va_G) (cI cO cC cL : ClassId) (x a sv o rd bu : Nat → Nat) (ln σ : Nat → Int → Int) (q w : Int) (hq : 0 ≤ q ∧ q ≤ 5) (hw : 0 ≤ w ∧ w ≤ 4) (hI : Inv σ) : Met l yX4_owner wsX4_owner ({ frames := 7, cells := 0, slots := 0, locals := 142 } : Room) (pcR D [(cI, FieldType.int), (cO, FieldType.object "PromisedCounters$State"), (cC, FieldType.char)] [.ref (x 0), .int (iI (q)), .int (iI (w))] (fl [mnW x a sv o rd bu ln, stW cI a σ])) (wr_Si (fun r => r = ownS σ q w)) 0 0 (fun _ => False) := by
  refine Met.ofW (cc := cX4_owner) (maxL := 3) (ret := (some .int)) (by decide) rfl ?_
  intro p9 e9 s m args9 below9 meth9 c9 s₁ B hml hv
  obtain ⟨rfl, hP, hK⟩ := hv
  have hx := B.exec
  have hb := B.bytes
  have hr := B.returns
  have hts := atoms_spec (ws := wsX4_owner) B.pre
  have hown : s.vm.findClass RX4 = some m.cls := findClass_of_methodNamed B.named
  have hlocks := B.notSynchronized
  have hl := lv_entry ([.ref (x 0), .int (iI (q)), .int (iI (w))]) (n := 3) (Nat.le_of_ble_eq_true rfl)
  rw [lg_entry_eq]
  generalize (lg_sl ([.ref (x 0), .int (iI (q)), .int (iI (w))]) ++ List.replicate (3 - (lg_sl ([.ref (x 0), .int (iI (q)), .int (iI (w))])).length) Slot.unset).toArray = ls at hl ⊢
  have hl : lv_has ls 3 [(0, .ref (x 0)), (1, .int (iI (q))), (2, .int (iI (w)))] := hl
  have hw_0 := hts (.fieldLink RX4 10 "PromisedCounters" "state" "LPromisedCounters$State;") (by decide +kernel)
  have hin_X4 : ∀ w ∈ u_ws RX4 TX4 6, w ∈ wsX4_owner := by decide +kernel
  have hw_1 := hts (.fieldLink RX4 191 "PromisedCounters$State" "settled" "[I") (by decide +kernel)
  have hin_X3 : ∀ w ∈ u_ws RX3 TX3 15, w ∈ wsX4_owner := by decide +kernel
  have hw_2 := hts (.fieldLink RX4 194 "PromisedCounters$State" "cancelled" "[I") (by decide +kernel)
  have hw_3 := hts (.fieldLink RX4 197 "PromisedCounters$State" "lapsed" "[I") (by decide +kernel)
  have hn := hI.n
  have hti := hI.t
  refine lv_iload_n hx hb dX4_owner_0 rfl (lv_at hl 1 rfl) ?_
  refine wi_bipush hx hb dX4_owner_1 (by decide) ?_
  refine wr_callv (va_runS (As := [.int (iI (q)), .int (iI (6))]) (rest := []) ⟨hx, hb, hml, hown, hts⟩ (c_X4_checkIndex l D cI cO cC cL (q) (6) (by omega) (by omega)) (cwS 2 hts gX4_owner_X4_checkIndex rfl rfl rfl (by decide +kernel) ⟨Nat.le_of_ble_eq_true rfl, Nat.le_of_ble_eq_true rfl⟩) ⟨fun _ _ _ _ h => h, fun U hU hW => ⟨rfl, trivial⟩⟩ rfl rfl hl.1 rfl (lv_room (Nat.le_of_ble_eq_true rfl)) dX4_owner_3 ⟨(Nat.zero_le _), (Nat.zero_le _)⟩) (fun hv1 => ?_)
  refine lv_iload_n hx hb dX4_owner_6 rfl (lv_at hl 2 rfl) ?_
  refine wi_iconst hx hb dX4_owner_7 ?_
  refine wi_iconst hx hb dX4_owner_8 ?_
  refine wr_callv (va_runS (As := [.int (iI (w)), .int (iI (0)), .int (iI (4))]) (rest := []) ⟨hx, hb, hml, hown, hts⟩ (c_X4_checkArgument l D cI cO cC cL (w) (0) (4) (by omega) (by omega) (by omega)) (cwS 3 hts gX4_owner_X4_checkArgument rfl rfl rfl (by decide +kernel) ⟨Nat.le_of_ble_eq_true rfl, Nat.le_of_ble_eq_true rfl⟩) ⟨fun _ _ _ _ h => h, fun U hU hW => ⟨rfl, trivial⟩⟩ rfl rfl hl.1 rfl (lv_room (Nat.le_of_ble_eq_true rfl)) dX4_owner_9 ⟨(Nat.zero_le _), (Nat.zero_le _)⟩) (fun hv2 => ?_)
  refine lv_iload_n hx hb dX4_owner_12 rfl (lv_at hl 2 rfl) ?_
  have hsx : (iI (w)).toInt = w := iI_toInt (by omega)
  by_cases hc13_0 : w = 0
  · skip
    refine lv_tableIn (tgt := 44) hx hb dX4_owner_13 (by rw [hsx]; omega) (by rw [hsx]; omega) (off := 31) (by rw [hsx, hc13_0]; rfl) (by decide) ?_
    refine lv_aload_n hx hb dX4_owner_44 rfl (lv_at hl 0 rfl) ?_
    refine va_get (D := D) (ci := 4) (v := .ref (a 0)) (C := RX4) (T := TX4) (N := 6) hx hb hts hin_X4 hown hK hP 0 rfl rfl 0 (by decide) hw_0 (fun _ h9 => h9) rfl dX4_owner_45 ?_
    refine lv_iload_n hx hb dX4_owner_48 rfl (lv_at hl 1 rfl) ?_
    have hPc := fl_P (S' := [stW cI a σ]) hP [1] rfl
    have hKc := hK.sub (tys' := [(cI, FieldType.int)]) [0] rfl
    refine wr_calli (va_runV (As := [.int (iI (q))]) (rest := []) ⟨hx, hb, hml, hown, hts⟩ (c_X3_promisesOf l D cI cO cC cL a σ (q) (by omega) (hI)) (cwV 1 hts gX4_owner_X3_promisesOf rfl rfl rfl (by decide +kernel) ⟨Nat.le_of_ble_eq_true rfl, Nat.le_of_ble_eq_true rfl⟩) ⟨pcR_blind, va_recv hKc hPc (ci := 3) (q0 := 0) rfl rfl, pcR_of hPc hKc⟩ rfl rfl hl.1 rfl (lv_room (Nat.le_of_ble_eq_true rfl)) dX4_owner_49 ⟨(Nat.zero_le _), (Nat.zero_le _)⟩) (fun r3 hr3 => ?_)
    subst hr3
    exact W.iret (v := iI ((ofN σ (q)))) hx hb hr (fun t9 ht9 hW9 => ⟨((ofN σ (q))), rfl, (by rw [hc13_0]; rfl), ht9⟩) (fun _ h => nomatch h) dX4_owner_52 hlocks
  by_cases hc13_1 : w = 1
  · skip
    refine lv_tableIn (tgt := 53) hx hb dX4_owner_13 (by rw [hsx]; omega) (by rw [hsx]; omega) (off := 40) (by rw [hsx, hc13_1]; rfl) (by decide) ?_
    refine lv_aload_n hx hb dX4_owner_53 rfl (lv_at hl 0 rfl) ?_
    refine va_get (D := D) (ci := 4) (v := .ref (a 0)) (C := RX4) (T := TX4) (N := 6) hx hb hts hin_X4 hown hK hP 0 rfl rfl 0 (by decide) hw_0 (fun _ h9 => h9) rfl dX4_owner_54 ?_
    refine va_get (D := D) (ci := 3) (v := .ref (a 10)) (C := RX3) (T := TX3) (N := 15) hx hb hts hin_X3 hown hK hP 1 rfl rfl 12 (by decide) hw_1 (fun _ h9 => h9) rfl dX4_owner_57 ?_
    refine lv_iload_n hx hb dX4_owner_60 rfl (lv_at hl 1 rfl) ?_
    refine wi_iald hx hb hK hP 11 0 (n := 6) (f := σ 10) rfl rfl (i := q) (by omega) (by decide) dX4_owner_61 ?_
    exact W.iret (v := iI ((σ 10 (q)))) hx hb hr (fun t9 ht9 hW9 => ⟨((σ 10 (q))), rfl, (by rw [hc13_1]; rfl), ht9⟩) (fun _ h => nomatch h) dX4_owner_62 hlocks
  by_cases hc13_2 : w = 2
  · skip
    refine lv_tableIn (tgt := 63) hx hb dX4_owner_13 (by rw [hsx]; omega) (by rw [hsx]; omega) (off := 50) (by rw [hsx, hc13_2]; rfl) (by decide) ?_
    refine lv_aload_n hx hb dX4_owner_63 rfl (lv_at hl 0 rfl) ?_
    refine va_get (D := D) (ci := 4) (v := .ref (a 0)) (C := RX4) (T := TX4) (N := 6) hx hb hts hin_X4 hown hK hP 0 rfl rfl 0 (by decide) hw_0 (fun _ h9 => h9) rfl dX4_owner_64 ?_
    refine va_get (D := D) (ci := 3) (v := .ref (a 11)) (C := RX3) (T := TX3) (N := 15) hx hb hts hin_X3 hown hK hP 1 rfl rfl 13 (by decide) hw_2 (fun _ h9 => h9) rfl dX4_owner_67 ?_
    refine lv_iload_n hx hb dX4_owner_70 rfl (lv_at hl 1 rfl) ?_
    refine wi_iald hx hb hK hP 12 0 (n := 6) (f := σ 11) rfl rfl (i := q) (by omega) (by decide) dX4_owner_71 ?_
    exact W.iret (v := iI ((σ 11 (q)))) hx hb hr (fun t9 ht9 hW9 => ⟨((σ 11 (q))), rfl, (by rw [hc13_2]; rfl), ht9⟩) (fun _ h => nomatch h) dX4_owner_72 hlocks
  by_cases hc13_3 : w = 3
  · skip
    refine lv_tableIn (tgt := 73) hx hb dX4_owner_13 (by rw [hsx]; omega) (by rw [hsx]; omega) (off := 60) (by rw [hsx, hc13_3]; rfl) (by decide) ?_
    refine lv_aload_n hx hb dX4_owner_73 rfl (lv_at hl 0 rfl) ?_
    refine va_get (D := D) (ci := 4) (v := .ref (a 0)) (C := RX4) (T := TX4) (N := 6) hx hb hts hin_X4 hown hK hP 0 rfl rfl 0 (by decide) hw_0 (fun _ h9 => h9) rfl dX4_owner_74 ?_
    refine va_get (D := D) (ci := 3) (v := .ref (a 12)) (C := RX3) (T := TX3) (N := 15) hx hb hts hin_X3 hown hK hP 1 rfl rfl 14 (by decide) hw_3 (fun _ h9 => h9) rfl dX4_owner_77 ?_
    refine lv_iload_n hx hb dX4_owner_80 rfl (lv_at hl 1 rfl) ?_
    refine wi_iald hx hb hK hP 13 0 (n := 6) (f := σ 12) rfl rfl (i := q) (by omega) (by decide) dX4_owner_81 ?_
    exact W.iret (v := iI ((σ 12 (q)))) hx hb hr (fun t9 ht9 hW9 => ⟨((σ 12 (q))), rfl, (by rw [hc13_3]; rfl), ht9⟩) (fun _ h => nomatch h) dX4_owner_82 hlocks
  refine lv_tableOut (tgt := 83) hx hb dX4_owner_13 (by rw [hsx]; omega) (by decide) ?_
  refine lv_aload_n hx hb dX4_owner_83 rfl (lv_at hl 0 rfl) ?_
  refine va_get (D := D) (ci := 4) (v := .ref (a 0)) (C := RX4) (T := TX4) (N := 6) hx hb hts hin_X4 hown hK hP 0 rfl rfl 0 (by decide) hw_0 (fun _ h9 => h9) rfl dX4_owner_84 ?_
  refine lv_iload_n hx hb dX4_owner_87 rfl (lv_at hl 1 rfl) ?_
  have hPc := fl_P (S' := [stW cI a σ]) hP [1] rfl
  have hKc := hK.sub (tys' := [(cI, FieldType.int)]) [0] rfl
  refine wr_calli (va_runV (As := [.int (iI (q))]) (rest := []) ⟨hx, hb, hml, hown, hts⟩ (c_X3_sizesOf l D cI cO cC cL a σ (q) (by omega) (hI)) (cwV 1 hts gX4_owner_X3_sizesOf rfl rfl rfl (by decide +kernel) ⟨Nat.le_of_ble_eq_true rfl, Nat.le_of_ble_eq_true rfl⟩) ⟨pcR_blind, va_recv hKc hPc (ci := 3) (q0 := 0) rfl rfl, pcR_of hPc hKc⟩ rfl rfl hl.1 rfl (lv_room (Nat.le_of_ble_eq_true rfl)) dX4_owner_88 ⟨(Nat.zero_le _), (Nat.zero_le _)⟩) (fun r4 hr4 => ?_)
  subst hr4
  exact W.iret (v := iI ((ofSz σ (q)))) hx hb hr (fun t9 ht9 hW9 => ⟨((ofSz σ (q))), rfl, (by rw [show w = 4 by omega]; rfl), ht9⟩) (fun _ h => nomatch h) dX4_owner_91 hlocks
set_option maxHeartbeats 4000000 in
set_option maxRecDepth 100000 in
theorem c_X4_count (l : Launch) (D : va_G) (cI cO cC cL : ClassId) (x a sv o rd bu : Nat → Nat) (ln σ : Nat → Int → Int) (κ : Nat → Int → Int) (fs : Nat → Option Nat) (w : Int) (hw : 0 ≤ w ∧ w ≤ 9) (hI : Inv σ) : Met l yX4_count wsX4_count ({ frames := 7, cells := 0, slots := 0, locals := 142 } : Room) (pcR D [(cI, FieldType.int), (cO, FieldType.object "PromisedCounters$State"), (cC, FieldType.char)] [.ref (x 0), .int (iI (w))] (fl [mnW x a sv o rd bu ln, stW cI a σ, svO cO sv fs κ])) (wr_Si (fun r => r = cntS σ (κ 0 0) w)) 0 0 (fun _ => False) := by
  refine Met.ofW (cc := cX4_count) (maxL := 2) (ret := (some .int)) (by decide) rfl ?_
  intro p9 e9 s m args9 below9 meth9 c9 s₁ B hml hv
  obtain ⟨rfl, hP, hK⟩ := hv
  have hx := B.exec
  have hb := B.bytes
  have hr := B.returns
  have hts := atoms_spec (ws := wsX4_count) B.pre
  have hown : s.vm.findClass RX4 = some m.cls := findClass_of_methodNamed B.named
  have hlocks := B.notSynchronized
  have hl := lv_entry ([.ref (x 0), .int (iI (w))]) (n := 2) (Nat.le_of_ble_eq_true rfl)
  rw [lg_entry_eq]
  generalize (lg_sl ([.ref (x 0), .int (iI (w))]) ++ List.replicate (2 - (lg_sl ([.ref (x 0), .int (iI (w))])).length) Slot.unset).toArray = ls at hl ⊢
  have hl : lv_has ls 2 [(0, .ref (x 0)), (1, .int (iI (w)))] := hl
  have hw_0 := hts (.fieldLink RX4 10 "PromisedCounters" "state" "LPromisedCounters$State;") (by decide +kernel)
  have hin_X4 : ∀ w ∈ u_ws RX4 TX4 6, w ∈ wsX4_count := by decide +kernel
  have hw_1 := hts (.fieldLink RX4 127 "PromisedCounters$State" "time" "I") (by decide +kernel)
  have hin_X3 : ∀ w ∈ u_ws RX3 TX3 15, w ∈ wsX4_count := by decide +kernel
  have hw_2 := hts (.fieldLink RX4 98 "PromisedCounters$State" "promises" "I") (by decide +kernel)
  have hw_3 := hts (.fieldLink RX4 206 "PromisedCounters$State" "made" "I") (by decide +kernel)
  have hw_4 := hts (.fieldLink RX4 191 "PromisedCounters$State" "settled" "[I") (by decide +kernel)
  have hw_5 := hts (.fieldLink RX4 194 "PromisedCounters$State" "cancelled" "[I") (by decide +kernel)
  have hw_6 := hts (.fieldLink RX4 197 "PromisedCounters$State" "lapsed" "[I") (by decide +kernel)
  have hw_7 := hts (.fieldLink RX4 107 "PromisedCounters$State" "value" "[I") (by decide +kernel)
  have hw_8 := hts (.fieldLink RX4 19 "PromisedCounters" "saved" "LPromisedCounters$SavedStates;") (by decide +kernel)
  have hw_9 := hts (.fieldLink RX4 160 "PromisedCounters$SavedStates" "many" "I") (by decide +kernel)
  have hin_X2 : ∀ w ∈ u_ws RX2 TX2 2, w ∈ wsX4_count := by decide +kernel
  have hn := hI.n
  have hti := hI.t
  refine lv_iload_n hx hb dX4_count_0 rfl (lv_at hl 1 rfl) ?_
  refine wi_iconst hx hb dX4_count_1 ?_
  refine wi_bipush hx hb dX4_count_2 (by decide) ?_
  refine wr_callv (va_runS (As := [.int (iI (w)), .int (iI (0)), .int (iI (9))]) (rest := []) ⟨hx, hb, hml, hown, hts⟩ (c_X4_checkArgument l D cI cO cC cL (w) (0) (9) (by omega) (by omega) (by omega)) (cwS 3 hts gX4_count_X4_checkArgument rfl rfl rfl (by decide +kernel) ⟨Nat.le_of_ble_eq_true rfl, Nat.le_of_ble_eq_true rfl⟩) ⟨fun _ _ _ _ h => h, fun U hU hW => ⟨rfl, trivial⟩⟩ rfl rfl hl.1 rfl (lv_room (Nat.le_of_ble_eq_true rfl)) dX4_count_4 ⟨(Nat.zero_le _), (Nat.zero_le _)⟩) (fun hv1 => ?_)
  refine lv_iload_n hx hb dX4_count_7 rfl (lv_at hl 1 rfl) ?_
  have hsx : (iI (w)).toInt = w := iI_toInt (by omega)
  by_cases hc8_0 : w = 0
  · skip
    refine lv_tableIn (tgt := 60) hx hb dX4_count_8 (by rw [hsx]; omega) (by rw [hsx]; omega) (off := 52) (by rw [hsx, hc8_0]; rfl) (by decide) ?_
    refine lv_aload_n hx hb dX4_count_60 rfl (lv_at hl 0 rfl) ?_
    refine va_get (D := D) (ci := 4) (v := .ref (a 0)) (C := RX4) (T := TX4) (N := 6) hx hb hts hin_X4 hown hK hP 0 rfl rfl 0 (by decide) hw_0 (fun _ h9 => h9) rfl dX4_count_61 ?_
    refine va_get (D := D) (ci := 3) (v := .int (iI ((σ 0 0)))) (C := RX3) (T := TX3) (N := 15) hx hb hts hin_X3 hown hK hP 1 rfl rfl 0 (by decide) hw_1 (fun _ h9 => h9) rfl dX4_count_64 ?_
    exact W.iret (v := iI ((σ 0 0))) hx hb hr (fun t9 ht9 hW9 => ⟨((σ 0 0)), rfl, (by rw [hc8_0]; rfl), ht9⟩) (fun _ h => nomatch h) dX4_count_67 hlocks
  by_cases hc8_1 : w = 1
  · skip
    refine lv_tableIn (tgt := 68) hx hb dX4_count_8 (by rw [hsx]; omega) (by rw [hsx]; omega) (off := 60) (by rw [hsx, hc8_1]; rfl) (by decide) ?_
    refine lv_aload_n hx hb dX4_count_68 rfl (lv_at hl 0 rfl) ?_
    refine va_get (D := D) (ci := 4) (v := .ref (a 0)) (C := RX4) (T := TX4) (N := 6) hx hb hts hin_X4 hown hK hP 0 rfl rfl 0 (by decide) hw_0 (fun _ h9 => h9) rfl dX4_count_69 ?_
    refine va_get (D := D) (ci := 3) (v := .int (iI ((σ 0 1)))) (C := RX3) (T := TX3) (N := 15) hx hb hts hin_X3 hown hK hP 1 rfl rfl 1 (by decide) hw_2 (fun _ h9 => h9) rfl dX4_count_72 ?_
    exact W.iret (v := iI ((σ 0 1))) hx hb hr (fun t9 ht9 hW9 => ⟨((σ 0 1)), rfl, (by rw [hc8_1]; rfl), ht9⟩) (fun _ h => nomatch h) dX4_count_75 hlocks
  by_cases hc8_2 : w = 2
  · skip
    refine lv_tableIn (tgt := 76) hx hb dX4_count_8 (by rw [hsx]; omega) (by rw [hsx]; omega) (off := 68) (by rw [hsx, hc8_2]; rfl) (by decide) ?_
    refine lv_aload_n hx hb dX4_count_76 rfl (lv_at hl 0 rfl) ?_
    refine va_get (D := D) (ci := 4) (v := .ref (a 0)) (C := RX4) (T := TX4) (N := 6) hx hb hts hin_X4 hown hK hP 0 rfl rfl 0 (by decide) hw_0 (fun _ h9 => h9) rfl dX4_count_77 ?_
    have hPc := fl_P (S' := [stW cI a σ]) hP [1] rfl
    have hKc := hK.sub (tys' := [(cI, FieldType.int)]) [0] rfl
    refine wr_calli (va_runV (As := []) (rest := []) ⟨hx, hb, hml, hown, hts⟩ (c_X3_transfers l D cI cO cC cL a σ (hI)) (cwV 0 hts gX4_count_X3_transfers rfl rfl rfl (by decide +kernel) ⟨Nat.le_of_ble_eq_true rfl, Nat.le_of_ble_eq_true rfl⟩) ⟨pcR_blind, va_recv hKc hPc (ci := 3) (q0 := 0) rfl rfl, pcR_of hPc hKc⟩ rfl rfl hl.1 rfl (lv_room (Nat.le_of_ble_eq_true rfl)) dX4_count_80 ⟨(Nat.zero_le _), (Nat.zero_le _)⟩) (fun r2 hr2 => ?_)
    subst hr2
    exact W.iret (v := iI ((trN σ))) hx hb hr (fun t9 ht9 hW9 => ⟨((trN σ)), rfl, (by rw [hc8_2]; rfl), ht9⟩) (fun _ h => nomatch h) dX4_count_83 hlocks
  by_cases hc8_3 : w = 3
  · skip
    refine lv_tableIn (tgt := 84) hx hb dX4_count_8 (by rw [hsx]; omega) (by rw [hsx]; omega) (off := 76) (by rw [hsx, hc8_3]; rfl) (by decide) ?_
    refine lv_aload_n hx hb dX4_count_84 rfl (lv_at hl 0 rfl) ?_
    refine va_get (D := D) (ci := 4) (v := .ref (a 0)) (C := RX4) (T := TX4) (N := 6) hx hb hts hin_X4 hown hK hP 0 rfl rfl 0 (by decide) hw_0 (fun _ h9 => h9) rfl dX4_count_85 ?_
    refine va_get (D := D) (ci := 3) (v := .int (iI ((σ 0 2)))) (C := RX3) (T := TX3) (N := 15) hx hb hts hin_X3 hown hK hP 1 rfl rfl 2 (by decide) hw_3 (fun _ h9 => h9) rfl dX4_count_88 ?_
    exact W.iret (v := iI ((σ 0 2))) hx hb hr (fun t9 ht9 hW9 => ⟨((σ 0 2)), rfl, (by rw [hc8_3]; rfl), ht9⟩) (fun _ h => nomatch h) dX4_count_91 hlocks
  by_cases hc8_4 : w = 4
  · skip
    refine lv_tableIn (tgt := 92) hx hb dX4_count_8 (by rw [hsx]; omega) (by rw [hsx]; omega) (off := 84) (by rw [hsx, hc8_4]; rfl) (by decide) ?_
    refine lv_aload_n hx hb dX4_count_92 rfl (lv_at hl 0 rfl) ?_
    refine va_get (D := D) (ci := 4) (v := .ref (a 0)) (C := RX4) (T := TX4) (N := 6) hx hb hts hin_X4 hown hK hP 0 rfl rfl 0 (by decide) hw_0 (fun _ h9 => h9) rfl dX4_count_93 ?_
    refine va_get (D := D) (ci := 3) (v := .ref (a 10)) (C := RX3) (T := TX3) (N := 15) hx hb hts hin_X3 hown hK hP 1 rfl rfl 12 (by decide) hw_4 (fun _ h9 => h9) rfl dX4_count_96 ?_
    have hPc := hP.sub (ws' := fl [rwW cI (a 10) 6 (σ 10)]) [11] rfl
    have hKc := hK.sub (tys' := [(cI, FieldType.int)]) [0] rfl
    refine wr_calli (va_runS (As := [.ref (a 10)]) (rest := []) ⟨hx, hb, hml, hown, hts⟩ (c_X4_sumOf6 l D cI cO cC cL (a 10) (σ 10)) (cwS 1 hts gX4_count_X4_sumOf rfl rfl rfl (by decide +kernel) ⟨Nat.le_of_ble_eq_true rfl, Nat.le_of_ble_eq_true rfl⟩) ⟨pcR_blind, pcR_of hPc hKc⟩ rfl rfl hl.1 rfl (lv_room (Nat.le_of_ble_eq_true rfl)) dX4_count_99 ⟨(Nat.zero_le _), (Nat.zero_le _)⟩) (fun r3 hr3 => ?_)
    subst hr3
    exact W.iret (v := iI ((sm (σ 10) 6))) hx hb hr (fun t9 ht9 hW9 => ⟨((sm (σ 10) 6)), rfl, (by rw [hc8_4]; rfl), ht9⟩) (fun _ h => nomatch h) dX4_count_102 hlocks
  by_cases hc8_5 : w = 5
  · skip
    refine lv_tableIn (tgt := 103) hx hb dX4_count_8 (by rw [hsx]; omega) (by rw [hsx]; omega) (off := 95) (by rw [hsx, hc8_5]; rfl) (by decide) ?_
    refine lv_aload_n hx hb dX4_count_103 rfl (lv_at hl 0 rfl) ?_
    refine va_get (D := D) (ci := 4) (v := .ref (a 0)) (C := RX4) (T := TX4) (N := 6) hx hb hts hin_X4 hown hK hP 0 rfl rfl 0 (by decide) hw_0 (fun _ h9 => h9) rfl dX4_count_104 ?_
    refine va_get (D := D) (ci := 3) (v := .ref (a 11)) (C := RX3) (T := TX3) (N := 15) hx hb hts hin_X3 hown hK hP 1 rfl rfl 13 (by decide) hw_5 (fun _ h9 => h9) rfl dX4_count_107 ?_
    have hPc := hP.sub (ws' := fl [rwW cI (a 11) 6 (σ 11)]) [12] rfl
    have hKc := hK.sub (tys' := [(cI, FieldType.int)]) [0] rfl
    refine wr_calli (va_runS (As := [.ref (a 11)]) (rest := []) ⟨hx, hb, hml, hown, hts⟩ (c_X4_sumOf6 l D cI cO cC cL (a 11) (σ 11)) (cwS 1 hts gX4_count_X4_sumOf rfl rfl rfl (by decide +kernel) ⟨Nat.le_of_ble_eq_true rfl, Nat.le_of_ble_eq_true rfl⟩) ⟨pcR_blind, pcR_of hPc hKc⟩ rfl rfl hl.1 rfl (lv_room (Nat.le_of_ble_eq_true rfl)) dX4_count_110 ⟨(Nat.zero_le _), (Nat.zero_le _)⟩) (fun r4 hr4 => ?_)
    subst hr4
    exact W.iret (v := iI ((sm (σ 11) 6))) hx hb hr (fun t9 ht9 hW9 => ⟨((sm (σ 11) 6)), rfl, (by rw [hc8_5]; rfl), ht9⟩) (fun _ h => nomatch h) dX4_count_113 hlocks
  by_cases hc8_6 : w = 6
  · skip
    refine lv_tableIn (tgt := 114) hx hb dX4_count_8 (by rw [hsx]; omega) (by rw [hsx]; omega) (off := 106) (by rw [hsx, hc8_6]; rfl) (by decide) ?_
    refine lv_aload_n hx hb dX4_count_114 rfl (lv_at hl 0 rfl) ?_
    refine va_get (D := D) (ci := 4) (v := .ref (a 0)) (C := RX4) (T := TX4) (N := 6) hx hb hts hin_X4 hown hK hP 0 rfl rfl 0 (by decide) hw_0 (fun _ h9 => h9) rfl dX4_count_115 ?_
    refine va_get (D := D) (ci := 3) (v := .ref (a 12)) (C := RX3) (T := TX3) (N := 15) hx hb hts hin_X3 hown hK hP 1 rfl rfl 14 (by decide) hw_6 (fun _ h9 => h9) rfl dX4_count_118 ?_
    have hPc := hP.sub (ws' := fl [rwW cI (a 12) 6 (σ 12)]) [13] rfl
    have hKc := hK.sub (tys' := [(cI, FieldType.int)]) [0] rfl
    refine wr_calli (va_runS (As := [.ref (a 12)]) (rest := []) ⟨hx, hb, hml, hown, hts⟩ (c_X4_sumOf6 l D cI cO cC cL (a 12) (σ 12)) (cwS 1 hts gX4_count_X4_sumOf rfl rfl rfl (by decide +kernel) ⟨Nat.le_of_ble_eq_true rfl, Nat.le_of_ble_eq_true rfl⟩) ⟨pcR_blind, pcR_of hPc hKc⟩ rfl rfl hl.1 rfl (lv_room (Nat.le_of_ble_eq_true rfl)) dX4_count_121 ⟨(Nat.zero_le _), (Nat.zero_le _)⟩) (fun r5 hr5 => ?_)
    subst hr5
    exact W.iret (v := iI ((sm (σ 12) 6))) hx hb hr (fun t9 ht9 hW9 => ⟨((sm (σ 12) 6)), rfl, (by rw [hc8_6]; rfl), ht9⟩) (fun _ h => nomatch h) dX4_count_124 hlocks
  by_cases hc8_7 : w = 7
  · skip
    refine lv_tableIn (tgt := 125) hx hb dX4_count_8 (by rw [hsx]; omega) (by rw [hsx]; omega) (off := 117) (by rw [hsx, hc8_7]; rfl) (by decide) ?_
    refine lv_aload_n hx hb dX4_count_125 rfl (lv_at hl 0 rfl) ?_
    refine va_get (D := D) (ci := 4) (v := .ref (a 0)) (C := RX4) (T := TX4) (N := 6) hx hb hts hin_X4 hown hK hP 0 rfl rfl 0 (by decide) hw_0 (fun _ h9 => h9) rfl dX4_count_126 ?_
    refine va_get (D := D) (ci := 3) (v := .ref (a 2)) (C := RX3) (T := TX3) (N := 15) hx hb hts hin_X3 hown hK hP 1 rfl rfl 4 (by decide) hw_7 (fun _ h9 => h9) rfl dX4_count_129 ?_
    have hPc := hP.sub (ws' := fl [rwW cI (a 2) 4 (σ 2)]) [3] rfl
    have hKc := hK.sub (tys' := [(cI, FieldType.int)]) [0] rfl
    refine wr_calli (va_runS (As := [.ref (a 2)]) (rest := []) ⟨hx, hb, hml, hown, hts⟩ (c_X4_sumOf4 l D cI cO cC cL (a 2) (σ 2)) (cwS 1 hts gX4_count_X4_sumOf rfl rfl rfl (by decide +kernel) ⟨Nat.le_of_ble_eq_true rfl, Nat.le_of_ble_eq_true rfl⟩) ⟨pcR_blind, pcR_of hPc hKc⟩ rfl rfl hl.1 rfl (lv_room (Nat.le_of_ble_eq_true rfl)) dX4_count_132 ⟨(Nat.zero_le _), (Nat.zero_le _)⟩) (fun r6 hr6 => ?_)
    subst hr6
    exact W.iret (v := iI ((sm (σ 2) 4))) hx hb hr (fun t9 ht9 hW9 => ⟨((sm (σ 2) 4)), rfl, (by rw [hc8_7]; rfl), ht9⟩) (fun _ h => nomatch h) dX4_count_135 hlocks
  by_cases hc8_8 : w = 8
  · skip
    refine lv_tableIn (tgt := 136) hx hb dX4_count_8 (by rw [hsx]; omega) (by rw [hsx]; omega) (off := 128) (by rw [hsx, hc8_8]; rfl) (by decide) ?_
    refine lv_aload_n hx hb dX4_count_136 rfl (lv_at hl 0 rfl) ?_
    refine va_get (D := D) (ci := 4) (v := .ref (a 0)) (C := RX4) (T := TX4) (N := 6) hx hb hts hin_X4 hown hK hP 0 rfl rfl 0 (by decide) hw_0 (fun _ h9 => h9) rfl dX4_count_137 ?_
    have hPc := fl_P (S' := [stW cI a σ]) hP [1] rfl
    have hKc := hK.sub (tys' := [(cI, FieldType.int)]) [0] rfl
    refine wr_calli (va_runV (As := []) (rest := []) ⟨hx, hb, hml, hown, hts⟩ (c_X3_firstLapse l D cI cO cC cL a σ (hI)) (cwV 0 hts gX4_count_X3_firstLapse rfl rfl rfl (by decide +kernel) ⟨Nat.le_of_ble_eq_true rfl, Nat.le_of_ble_eq_true rfl⟩) ⟨pcR_blind, va_recv hKc hPc (ci := 3) (q0 := 0) rfl rfl, pcR_of hPc hKc⟩ rfl rfl hl.1 rfl (lv_room (Nat.le_of_ble_eq_true rfl)) dX4_count_140 ⟨(Nat.zero_le _), (Nat.zero_le _)⟩) (fun r7 hr7 => ?_)
    subst hr7
    exact W.iret (v := iI ((frS σ))) hx hb hr (fun t9 ht9 hW9 => ⟨((frS σ)), rfl, (by rw [hc8_8]; rfl), ht9⟩) (fun _ h => nomatch h) dX4_count_143 hlocks
  refine lv_tableOut (tgt := 144) hx hb dX4_count_8 (by rw [hsx]; omega) (by decide) ?_
  refine lv_aload_n hx hb dX4_count_144 rfl (lv_at hl 0 rfl) ?_
  refine va_get (D := D) (ci := 4) (v := .ref (sv 0)) (C := RX4) (T := TX4) (N := 6) hx hb hts hin_X4 hown hK hP 0 rfl rfl 1 (by decide) hw_8 (fun _ h9 => h9) rfl dX4_count_145 ?_
  refine va_get (D := D) (ci := 2) (v := .int (iI ((κ 0 0)))) (C := RX2) (T := TX2) (N := 2) hx hb hts hin_X2 hown hK hP 14 rfl rfl 1 (by decide) hw_9 (fun _ h9 => h9) rfl dX4_count_148 ?_
  exact W.iret (v := iI ((κ 0 0))) hx hb hr (fun t9 ht9 hW9 => ⟨((κ 0 0)), rfl, (by rw [show w = 9 by omega]; rfl), ht9⟩) (fun _ h => nomatch h) dX4_count_151 hlocks
set_option maxHeartbeats 4000000 in
set_option maxRecDepth 100000 in
theorem c_X4_counter (l : Launch) (D : va_G) (cI cO cC cL : ClassId) (sz : Nat) (x a sv o rd bu : Nat → Nat) (ln σ : Nat → Int → Int) (φ : Nat → Int → Int) (c w : Int) (hc : 0 ≤ c ∧ c ≤ 3) (hw : 0 ≤ w ∧ w ≤ 9) (hI : Inv σ) : Met l yX4_counter wsX4_counter ({ frames := 7, cells := 0, slots := 0, locals := 142 } : Room) (pcW D [(cI, FieldType.int), (cO, FieldType.object "PromisedCounters$State"), (cC, FieldType.char)] [.ref (x 0), .int (iI (c)), .int (iI (w))] (fl [mnW x a sv o rd bu ln, stW cI a σ, ocW cI o φ]) sz) (wq_i (fun (r : Int) (ψ : Nat → Int → Int) => r = ctrS σ c w) (fun (ψ : Nat → Int → Int) => (bW D [(cI, FieldType.int), (cO, FieldType.object "PromisedCounters$State"), (cC, FieldType.char)] (fl [mnW x a sv o rd bu ln, stW cI a σ, ocW cI o ψ]) (va_A (fl [mnW x a sv o rd bu ln, stW cI a σ, ocW cI o φ]) sz))) (va_A (fl [mnW x a sv o rd bu ln, stW cI a σ, ocW cI o φ]) sz)) 0 0 (va_A (fl [mnW x a sv o rd bu ln, stW cI a σ, ocW cI o φ]) sz) := by
  refine Met.ofW (cc := cX4_counter) (maxL := 3) (ret := (some .int)) (by decide) rfl ?_
  intro p9 e9 s m args9 below9 meth9 c9 s₁ B hml hv
  obtain ⟨rfl, hsz, hP, hK, hD0⟩ := hv
  have hx := B.exec
  have hb := B.bytes
  have hr := B.returns
  have hts := atoms_spec (ws := wsX4_counter) B.pre
  have hown : s.vm.findClass RX4 = some m.cls := findClass_of_methodNamed B.named
  have hlocks := B.notSynchronized
  subst hsz
  have hD := hD0.self (sz := s.heap.size)
  generalize hAe : va_A (fl [mnW x a sv o rd bu ln, stW cI a σ, ocW cI o φ]) s.heap.size = A at hD ⊢
  have hA : ∀ q : Nat, s.heap.size ≤ q → A q := fun q h => by rw [← hAe]; exact Or.inr h
  have hS : va_S A s.heap s.heap [] := va_S.rf
  have hP : va_P D vwCl (fl [mnW x a sv o rd bu ln, stW cI a σ, ocW cI o φ]) s.heap := hP
  have hl := lv_entry ([.ref (x 0), .int (iI (c)), .int (iI (w))]) (n := 3) (Nat.le_of_ble_eq_true rfl)
  rw [lg_entry_eq]
  generalize (lg_sl ([.ref (x 0), .int (iI (c)), .int (iI (w))]) ++ List.replicate (3 - (lg_sl ([.ref (x 0), .int (iI (c)), .int (iI (w))])).length) Slot.unset).toArray = ls at hl ⊢
  have hl : lv_has ls 3 [(0, .ref (x 0)), (1, .int (iI (c))), (2, .int (iI (w)))] := hl
  have hw_0 := hts (.fieldLink RX4 10 "PromisedCounters" "state" "LPromisedCounters$State;") (by decide +kernel)
  have hin_X4 : ∀ w ∈ u_ws RX4 TX4 6, w ∈ wsX4_counter := by decide +kernel
  have hw_1 := hts (.fieldLink RX4 107 "PromisedCounters$State" "value" "[I") (by decide +kernel)
  have hin_X3 : ∀ w ∈ u_ws RX3 TX3 15, w ∈ wsX4_counter := by decide +kernel
  have hw_2 := hts (.fieldLink RX4 75 "PromisedCounters$State" "least" "[I") (by decide +kernel)
  have hw_3 := hts (.fieldLink RX4 71 "PromisedCounters$State" "most" "[I") (by decide +kernel)
  have hw_4 := hts (.fieldLink RX4 127 "PromisedCounters$State" "time" "I") (by decide +kernel)
  have hw_5 := hts (.fieldLink RX4 26 "PromisedCounters" "outcomes" "LPromisedCounters$Outcomes;") (by decide +kernel)
  have hn := hI.n
  have hti := hI.t
  refine lv_iload_n hx hb dX4_counter_0 rfl (lv_at hl 1 rfl) ?_
  refine wi_iconst hx hb dX4_counter_1 ?_
  refine wr_callv (va_runS (As := [.int (iI (c)), .int (iI (4))]) (rest := []) ⟨hx, hb, hml, hown, hts⟩ (c_X4_checkIndex l D cI cO cC cL (c) (4) (by omega) (by omega)) (cwS 2 hts gX4_counter_X4_checkIndex rfl rfl rfl (by decide +kernel) ⟨Nat.le_of_ble_eq_true rfl, Nat.le_of_ble_eq_true rfl⟩) ⟨fun _ _ _ _ h => h, fun U hU hW => ⟨rfl, trivial⟩⟩ rfl rfl hl.1 rfl (lv_room (Nat.le_of_ble_eq_true rfl)) dX4_counter_2 ⟨(Nat.zero_le _), (Nat.zero_le _)⟩) (fun hv1 => ?_)
  refine lv_iload_n hx hb dX4_counter_5 rfl (lv_at hl 2 rfl) ?_
  refine wi_iconst hx hb dX4_counter_6 ?_
  refine wi_bipush hx hb dX4_counter_7 (by decide) ?_
  refine wr_callv (va_runS (As := [.int (iI (w)), .int (iI (0)), .int (iI (9))]) (rest := []) ⟨hx, hb, hml, hown, hts⟩ (c_X4_checkArgument l D cI cO cC cL (w) (0) (9) (by omega) (by omega) (by omega)) (cwS 3 hts gX4_counter_X4_checkArgument rfl rfl rfl (by decide +kernel) ⟨Nat.le_of_ble_eq_true rfl, Nat.le_of_ble_eq_true rfl⟩) ⟨fun _ _ _ _ h => h, fun U hU hW => ⟨rfl, trivial⟩⟩ rfl rfl hl.1 rfl (lv_room (Nat.le_of_ble_eq_true rfl)) dX4_counter_9 ⟨(Nat.zero_le _), (Nat.zero_le _)⟩) (fun hv2 => ?_)
  refine lv_iload_n hx hb dX4_counter_12 rfl (lv_at hl 2 rfl) ?_
  have hsx : (iI (w)).toInt = w := iI_toInt (by omega)
  by_cases hc13_0 : w = 0
  · skip
    refine lv_tableIn (tgt := 64) hx hb dX4_counter_13 (by rw [hsx]; omega) (by rw [hsx]; omega) (off := 51) (by rw [hsx, hc13_0]; rfl) (by decide) ?_
    refine lv_aload_n hx hb dX4_counter_64 rfl (lv_at hl 0 rfl) ?_
    refine va_get (D := D) (ci := 4) (v := .ref (a 0)) (C := RX4) (T := TX4) (N := 6) hx hb hts hin_X4 hown hK hP 0 rfl rfl 0 (by decide) hw_0 (fun _ h9 => h9) rfl dX4_counter_65 ?_
    refine va_get (D := D) (ci := 3) (v := .ref (a 2)) (C := RX3) (T := TX3) (N := 15) hx hb hts hin_X3 hown hK hP 1 rfl rfl 4 (by decide) hw_1 (fun _ h9 => h9) rfl dX4_counter_68 ?_
    refine lv_iload_n hx hb dX4_counter_71 rfl (lv_at hl 1 rfl) ?_
    refine wi_iald hx hb hK hP 3 0 (n := 4) (f := σ 2) rfl rfl (i := c) (by omega) (by decide) dX4_counter_72 ?_
    exact W.iret (v := iI ((σ 2 (c)))) hx hb hr (fun t9 ht9 hW9 => ⟨⟨((σ 2 (c))), φ, rfl, (by rw [hc13_0]; rfl), ⟨by rw [ht9]; exact hP, va_K.moved hW9.alike hK, hD⟩⟩, hS.F ht9⟩) hS.2.2 dX4_counter_73 hlocks
  by_cases hc13_1 : w = 1
  · skip
    refine lv_tableIn (tgt := 74) hx hb dX4_counter_13 (by rw [hsx]; omega) (by rw [hsx]; omega) (off := 61) (by rw [hsx, hc13_1]; rfl) (by decide) ?_
    refine lv_aload_n hx hb dX4_counter_74 rfl (lv_at hl 0 rfl) ?_
    refine va_get (D := D) (ci := 4) (v := .ref (a 0)) (C := RX4) (T := TX4) (N := 6) hx hb hts hin_X4 hown hK hP 0 rfl rfl 0 (by decide) hw_0 (fun _ h9 => h9) rfl dX4_counter_75 ?_
    refine va_get (D := D) (ci := 3) (v := .ref (a 3)) (C := RX3) (T := TX3) (N := 15) hx hb hts hin_X3 hown hK hP 1 rfl rfl 5 (by decide) hw_2 (fun _ h9 => h9) rfl dX4_counter_78 ?_
    refine lv_iload_n hx hb dX4_counter_81 rfl (lv_at hl 1 rfl) ?_
    refine wi_iald hx hb hK hP 4 0 (n := 4) (f := σ 3) rfl rfl (i := c) (by omega) (by decide) dX4_counter_82 ?_
    exact W.iret (v := iI ((σ 3 (c)))) hx hb hr (fun t9 ht9 hW9 => ⟨⟨((σ 3 (c))), φ, rfl, (by rw [hc13_1]; rfl), ⟨by rw [ht9]; exact hP, va_K.moved hW9.alike hK, hD⟩⟩, hS.F ht9⟩) hS.2.2 dX4_counter_83 hlocks
  by_cases hc13_2 : w = 2
  · skip
    refine lv_tableIn (tgt := 84) hx hb dX4_counter_13 (by rw [hsx]; omega) (by rw [hsx]; omega) (off := 71) (by rw [hsx, hc13_2]; rfl) (by decide) ?_
    refine lv_aload_n hx hb dX4_counter_84 rfl (lv_at hl 0 rfl) ?_
    refine va_get (D := D) (ci := 4) (v := .ref (a 0)) (C := RX4) (T := TX4) (N := 6) hx hb hts hin_X4 hown hK hP 0 rfl rfl 0 (by decide) hw_0 (fun _ h9 => h9) rfl dX4_counter_85 ?_
    refine va_get (D := D) (ci := 3) (v := .ref (a 4)) (C := RX3) (T := TX3) (N := 15) hx hb hts hin_X3 hown hK hP 1 rfl rfl 6 (by decide) hw_3 (fun _ h9 => h9) rfl dX4_counter_88 ?_
    refine lv_iload_n hx hb dX4_counter_91 rfl (lv_at hl 1 rfl) ?_
    refine wi_iald hx hb hK hP 5 0 (n := 4) (f := σ 4) rfl rfl (i := c) (by omega) (by decide) dX4_counter_92 ?_
    exact W.iret (v := iI ((σ 4 (c)))) hx hb hr (fun t9 ht9 hW9 => ⟨⟨((σ 4 (c))), φ, rfl, (by rw [hc13_2]; rfl), ⟨by rw [ht9]; exact hP, va_K.moved hW9.alike hK, hD⟩⟩, hS.F ht9⟩) hS.2.2 dX4_counter_93 hlocks
  by_cases hc13_3 : w = 3
  · skip
    refine lv_tableIn (tgt := 94) hx hb dX4_counter_13 (by rw [hsx]; omega) (by rw [hsx]; omega) (off := 81) (by rw [hsx, hc13_3]; rfl) (by decide) ?_
    refine lv_aload_n hx hb dX4_counter_94 rfl (lv_at hl 0 rfl) ?_
    refine va_get (D := D) (ci := 4) (v := .ref (a 0)) (C := RX4) (T := TX4) (N := 6) hx hb hts hin_X4 hown hK hP 0 rfl rfl 0 (by decide) hw_0 (fun _ h9 => h9) rfl dX4_counter_95 ?_
    refine lv_iload_n hx hb dX4_counter_98 rfl (lv_at hl 1 rfl) ?_
    have hPc := fl_P (S' := [stW cI a σ]) hP [1] rfl
    have hKc := hK.sub (tys' := [(cI, FieldType.int)]) [0] rfl
    refine wr_calli (va_runV (As := [.int (iI (c))]) (rest := []) ⟨hx, hb, hml, hown, hts⟩ (c_X3_lowOf l D cI cO cC cL a σ (c) (by omega) (hI)) (cwV 1 hts gX4_counter_X3_lowOf rfl rfl rfl (by decide +kernel) ⟨Nat.le_of_ble_eq_true rfl, Nat.le_of_ble_eq_true rfl⟩) ⟨pcR_blind, va_recv hKc hPc (ci := 3) (q0 := 0) rfl rfl, pcR_of hPc hKc⟩ rfl rfl hl.1 rfl (lv_room (Nat.le_of_ble_eq_true rfl)) dX4_counter_99 ⟨(Nat.zero_le _), (Nat.zero_le _)⟩) (fun r3 hr3 => ?_)
    subst hr3
    exact W.iret (v := iI ((lowS σ (c) (σ 0 0)))) hx hb hr (fun t9 ht9 hW9 => ⟨⟨((lowS σ (c) (σ 0 0))), φ, rfl, (by rw [hc13_3]; rfl), ⟨by rw [ht9]; exact hP, va_K.moved hW9.alike hK, hD⟩⟩, hS.F ht9⟩) hS.2.2 dX4_counter_102 hlocks
  by_cases hc13_4 : w = 4
  · skip
    refine lv_tableIn (tgt := 103) hx hb dX4_counter_13 (by rw [hsx]; omega) (by rw [hsx]; omega) (off := 90) (by rw [hsx, hc13_4]; rfl) (by decide) ?_
    refine lv_aload_n hx hb dX4_counter_103 rfl (lv_at hl 0 rfl) ?_
    refine va_get (D := D) (ci := 4) (v := .ref (a 0)) (C := RX4) (T := TX4) (N := 6) hx hb hts hin_X4 hown hK hP 0 rfl rfl 0 (by decide) hw_0 (fun _ h9 => h9) rfl dX4_counter_104 ?_
    refine lv_iload_n hx hb dX4_counter_107 rfl (lv_at hl 1 rfl) ?_
    have hPc := fl_P (S' := [stW cI a σ]) hP [1] rfl
    have hKc := hK.sub (tys' := [(cI, FieldType.int)]) [0] rfl
    refine wr_calli (va_runV (As := [.int (iI (c))]) (rest := []) ⟨hx, hb, hml, hown, hts⟩ (c_X3_highOf l D cI cO cC cL a σ (c) (by omega) (hI)) (cwV 1 hts gX4_counter_X3_highOf rfl rfl rfl (by decide +kernel) ⟨Nat.le_of_ble_eq_true rfl, Nat.le_of_ble_eq_true rfl⟩) ⟨pcR_blind, va_recv hKc hPc (ci := 3) (q0 := 0) rfl rfl, pcR_of hPc hKc⟩ rfl rfl hl.1 rfl (lv_room (Nat.le_of_ble_eq_true rfl)) dX4_counter_108 ⟨(Nat.zero_le _), (Nat.zero_le _)⟩) (fun r4 hr4 => ?_)
    subst hr4
    exact W.iret (v := iI ((highS σ (c)))) hx hb hr (fun t9 ht9 hW9 => ⟨⟨((highS σ (c))), φ, rfl, (by rw [hc13_4]; rfl), ⟨by rw [ht9]; exact hP, va_K.moved hW9.alike hK, hD⟩⟩, hS.F ht9⟩) hS.2.2 dX4_counter_111 hlocks
  by_cases hc13_5 : w = 5
  · skip
    refine lv_tableIn (tgt := 112) hx hb dX4_counter_13 (by rw [hsx]; omega) (by rw [hsx]; omega) (off := 99) (by rw [hsx, hc13_5]; rfl) (by decide) ?_
    refine lv_aload_n hx hb dX4_counter_112 rfl (lv_at hl 0 rfl) ?_
    refine va_get (D := D) (ci := 4) (v := .ref (a 0)) (C := RX4) (T := TX4) (N := 6) hx hb hts hin_X4 hown hK hP 0 rfl rfl 0 (by decide) hw_0 (fun _ h9 => h9) rfl dX4_counter_113 ?_
    refine lv_iload_n hx hb dX4_counter_116 rfl (lv_at hl 1 rfl) ?_
    have hPc := fl_P (S' := [stW cI a σ]) hP [1] rfl
    have hKc := hK.sub (tys' := [(cI, FieldType.int)]) [0] rfl
    refine wr_calli (va_runV (As := [.int (iI (c))]) (rest := []) ⟨hx, hb, hml, hown, hts⟩ (c_X3_promisesChanging l D cI cO cC cL a σ (c) (by omega) (hI)) (cwV 1 hts gX4_counter_X3_promisesChanging rfl rfl rfl (by decide +kernel) ⟨Nat.le_of_ble_eq_true rfl, Nat.le_of_ble_eq_true rfl⟩) ⟨pcR_blind, va_recv hKc hPc (ci := 3) (q0 := 0) rfl rfl, pcR_of hPc hKc⟩ rfl rfl hl.1 rfl (lv_room (Nat.le_of_ble_eq_true rfl)) dX4_counter_117 ⟨(Nat.zero_le _), (Nat.zero_le _)⟩) (fun r5 hr5 => ?_)
    subst hr5
    exact W.iret (v := iI ((chN σ (c)))) hx hb hr (fun t9 ht9 hW9 => ⟨⟨((chN σ (c))), φ, rfl, (by rw [hc13_5]; rfl), ⟨by rw [ht9]; exact hP, va_K.moved hW9.alike hK, hD⟩⟩, hS.F ht9⟩) hS.2.2 dX4_counter_120 hlocks
  by_cases hc13_6 : w = 6
  · skip
    refine lv_tableIn (tgt := 121) hx hb dX4_counter_13 (by rw [hsx]; omega) (by rw [hsx]; omega) (off := 108) (by rw [hsx, hc13_6]; rfl) (by decide) ?_
    refine lv_aload_n hx hb dX4_counter_121 rfl (lv_at hl 0 rfl) ?_
    refine va_get (D := D) (ci := 4) (v := .ref (a 0)) (C := RX4) (T := TX4) (N := 6) hx hb hts hin_X4 hown hK hP 0 rfl rfl 0 (by decide) hw_0 (fun _ h9 => h9) rfl dX4_counter_122 ?_
    refine lv_iload_n hx hb dX4_counter_125 rfl (lv_at hl 1 rfl) ?_
    have hPc := fl_P (S' := [stW cI a σ]) hP [1] rfl
    have hKc := hK.sub (tys' := [(cI, FieldType.int)]) [0] rfl
    refine wr_calli (va_runV (As := [.int (iI (c))]) (rest := []) ⟨hx, hb, hml, hown, hts⟩ (c_X3_sumOfChanges l D cI cO cC cL a σ (c) (by omega) (hI)) (cwV 1 hts gX4_counter_X3_sumOfChanges rfl rfl rfl (by decide +kernel) ⟨Nat.le_of_ble_eq_true rfl, Nat.le_of_ble_eq_true rfl⟩) ⟨pcR_blind, va_recv hKc hPc (ci := 3) (q0 := 0) rfl rfl, pcR_of hPc hKc⟩ rfl rfl hl.1 rfl (lv_room (Nat.le_of_ble_eq_true rfl)) dX4_counter_126 ⟨(Nat.zero_le _), (Nat.zero_le _)⟩) (fun r6 hr6 => ?_)
    subst hr6
    exact W.iret (v := iI ((chSum σ (c)))) hx hb hr (fun t9 ht9 hW9 => ⟨⟨((chSum σ (c))), φ, rfl, (by rw [hc13_6]; rfl), ⟨by rw [ht9]; exact hP, va_K.moved hW9.alike hK, hD⟩⟩, hS.F ht9⟩) hS.2.2 dX4_counter_129 hlocks
  by_cases hc13_7 : w = 7
  · skip
    refine lv_tableIn (tgt := 130) hx hb dX4_counter_13 (by rw [hsx]; omega) (by rw [hsx]; omega) (off := 117) (by rw [hsx, hc13_7]; rfl) (by decide) ?_
    refine lv_aload_n hx hb dX4_counter_130 rfl (lv_at hl 0 rfl) ?_
    refine va_get (D := D) (ci := 4) (v := .ref (a 0)) (C := RX4) (T := TX4) (N := 6) hx hb hts hin_X4 hown hK hP 0 rfl rfl 0 (by decide) hw_0 (fun _ h9 => h9) rfl dX4_counter_131 ?_
    refine lv_iload_n hx hb dX4_counter_134 rfl (lv_at hl 1 rfl) ?_
    refine lv_aload_n hx hb dX4_counter_135 rfl (lv_at hl 0 rfl) ?_
    refine va_get (D := D) (ci := 4) (v := .ref (a 0)) (C := RX4) (T := TX4) (N := 6) hx hb hts hin_X4 hown hK hP 0 rfl rfl 0 (by decide) hw_0 (fun _ h9 => h9) rfl dX4_counter_136 ?_
    refine va_get (D := D) (ci := 3) (v := .int (iI ((σ 0 0)))) (C := RX3) (T := TX3) (N := 15) hx hb hts hin_X3 hown hK hP 1 rfl rfl 0 (by decide) hw_4 (fun _ h9 => h9) rfl dX4_counter_139 ?_
    have hPc := fl_P (S' := [stW cI a σ]) hP [1] rfl
    have hKc := hK.sub (tys' := [(cI, FieldType.int)]) [0] rfl
    refine wr_calli (va_runV (As := [.int (iI (c)), .int (iI ((σ 0 0)))]) (rest := []) ⟨hx, hb, hml, hown, hts⟩ (c_X3_roomBelow l D cI cO cC cL a σ (c) ((σ 0 0)) (by omega) (by omega) (hI)) (cwV 2 hts gX4_counter_X3_roomBelow rfl rfl rfl (by decide +kernel) ⟨Nat.le_of_ble_eq_true rfl, Nat.le_of_ble_eq_true rfl⟩) ⟨pcR_blind, va_recv hKc hPc (ci := 3) (q0 := 0) rfl rfl, pcR_of hPc hKc⟩ rfl rfl hl.1 rfl (lv_room (Nat.le_of_ble_eq_true rfl)) dX4_counter_142 ⟨(Nat.zero_le _), (Nat.zero_le _)⟩) (fun r7 hr7 => ?_)
    subst hr7
    exact W.iret (v := iI ((lowS σ (c) ((σ 0 0)) - σ 3 (c)))) hx hb hr (fun t9 ht9 hW9 => ⟨⟨((lowS σ (c) ((σ 0 0)) - σ 3 (c))), φ, rfl, (by rw [hc13_7]; rfl), ⟨by rw [ht9]; exact hP, va_K.moved hW9.alike hK, hD⟩⟩, hS.F ht9⟩) hS.2.2 dX4_counter_145 hlocks
  by_cases hc13_8 : w = 8
  · skip
    refine lv_tableIn (tgt := 146) hx hb dX4_counter_13 (by rw [hsx]; omega) (by rw [hsx]; omega) (off := 133) (by rw [hsx, hc13_8]; rfl) (by decide) ?_
    refine lv_aload_n hx hb dX4_counter_146 rfl (lv_at hl 0 rfl) ?_
    refine va_get (D := D) (ci := 4) (v := .ref (a 0)) (C := RX4) (T := TX4) (N := 6) hx hb hts hin_X4 hown hK hP 0 rfl rfl 0 (by decide) hw_0 (fun _ h9 => h9) rfl dX4_counter_147 ?_
    refine lv_iload_n hx hb dX4_counter_150 rfl (lv_at hl 1 rfl) ?_
    have hPc := fl_P (S' := [stW cI a σ]) hP [1] rfl
    have hKc := hK.sub (tys' := [(cI, FieldType.int)]) [0] rfl
    refine wr_calli (va_runV (As := [.int (iI (c))]) (rest := []) ⟨hx, hb, hml, hown, hts⟩ (c_X3_roomAbove l D cI cO cC cL a σ (c) (by omega) (hI)) (cwV 1 hts gX4_counter_X3_roomAbove rfl rfl rfl (by decide +kernel) ⟨Nat.le_of_ble_eq_true rfl, Nat.le_of_ble_eq_true rfl⟩) ⟨pcR_blind, va_recv hKc hPc (ci := 3) (q0 := 0) rfl rfl, pcR_of hPc hKc⟩ rfl rfl hl.1 rfl (lv_room (Nat.le_of_ble_eq_true rfl)) dX4_counter_151 ⟨(Nat.zero_le _), (Nat.zero_le _)⟩) (fun r8 hr8 => ?_)
    subst hr8
    exact W.iret (v := iI ((σ 4 (c) - highS σ (c)))) hx hb hr (fun t9 ht9 hW9 => ⟨⟨((σ 4 (c) - highS σ (c))), φ, rfl, (by rw [hc13_8]; rfl), ⟨by rw [ht9]; exact hP, va_K.moved hW9.alike hK, hD⟩⟩, hS.F ht9⟩) hS.2.2 dX4_counter_154 hlocks
  refine lv_tableOut (tgt := 155) hx hb dX4_counter_13 (by rw [hsx]; omega) (by decide) ?_
  refine lv_aload_n hx hb dX4_counter_155 rfl (lv_at hl 0 rfl) ?_
  refine va_get (D := D) (ci := 4) (v := .ref (o 0)) (C := RX4) (T := TX4) (N := 6) hx hb hts hin_X4 hown hK hP 0 rfl rfl 2 (by decide) hw_5 (fun _ h9 => h9) rfl dX4_counter_156 ?_
  refine lv_aload_n hx hb dX4_counter_159 rfl (lv_at hl 0 rfl) ?_
  refine va_get (D := D) (ci := 4) (v := .ref (a 0)) (C := RX4) (T := TX4) (N := 6) hx hb hts hin_X4 hown hK hP 0 rfl rfl 0 (by decide) hw_0 (fun _ h9 => h9) rfl dX4_counter_160 ?_
  refine lv_iload_n hx hb dX4_counter_163 rfl (lv_at hl 1 rfl) ?_
  have hPc := fl_P (S' := [ocW cI o φ, stW cI a σ]) hP [2, 1] rfl
  have hKc := hK.sub (tys' := [(cI, FieldType.int)]) [0] rfl
  have hDc := fl_D (S' := [ocW cI o φ, stW cI a σ]) hD [2, 1] (by decide) rfl
  have hFc := fl_free (SC := [ocW cI o φ, stW cI a σ]) hD hS hA [2, 1] rfl
  refine wq_calli (va_runV (As := [.ref (a 0), .int (iI (c))]) (rest := []) ⟨hx, hb, hml, hown, hts⟩ (c_X1_manyOf l D cI cO cC cL s.heap.size o φ a σ (c) (by omega) (hI)) (cwV 2 hts gX4_counter_X1_manyOf rfl rfl rfl (by decide +kernel) ⟨Nat.le_of_ble_eq_true rfl, Nat.le_of_ble_eq_true rfl⟩) ⟨pcW_blind, va_recv hKc hPc (ci := 1) (q0 := 0) rfl rfl, pcW_of hPc hKc hDc⟩ rfl rfl hl.1 rfl (lv_room (Nat.le_of_ble_eq_true rfl)) dX4_counter_164 ⟨(Nat.zero_le _), (Nat.zero_le _)⟩) hS (fun q _ h => hFc q h) hFc (fun r9 u11 t9 H1 locs ht9 hvm hcl10 hB hz1 hk1 hS => ?_)
  obtain ⟨hP1, hK1, hD1⟩ := hB
  rw [ht9] at hP1
  obtain ⟨hP, hD⟩ := fl_join (SR := [mnW x a sv o rd bu ln]) (S1 := [ocW cI o u11, stW cI a σ]) hP hD [2, 1] [0] rfl rfl (by decide) (by decide) hk1 hFc hP1 hD1
  generalize H1 = H at hP hS ⊢
  have hP := fl_P (S' := [mnW x a sv o rd bu ln, stW cI a σ, ocW cI o u11]) hP [0, 2, 1] rfl
  have hD := fl_D (S' := [mnW x a sv o rd bu ln, stW cI a σ, ocW cI o u11]) hD [0, 2, 1] (by decide) rfl
  exact W.iret (v := iI (r9)) hx hb hr (fun t9 ht9 hW9 => ⟨⟨(r9), u11, rfl, (by rw [show w = 9 by omega]; exact hcl10), ⟨by rw [ht9]; exact hP, va_K.moved hW9.alike hK, hD⟩⟩, hS.F ht9⟩) hS.2.2 dX4_counter_167 hlocks
set_option maxHeartbeats 4000000 in
set_option maxRecDepth 100000 in
theorem c_X4_canBe (l : Launch) (D : va_G) (cI cO cC cL : ClassId) (sz : Nat) (x a sv o rd bu : Nat → Nat) (ln σ : Nat → Int → Int) (φ : Nat → Int → Int) (c v : Int) (hc : 0 ≤ c ∧ c ≤ 3) (hv : R32 v) (hI : Inv σ) : Met l yX4_canBe wsX4_canBe ({ frames := 7, cells := 0, slots := 0, locals := 141 } : Room) (pcW D [(cI, FieldType.int), (cO, FieldType.object "PromisedCounters$State"), (cC, FieldType.char)] [.ref (x 0), .int (iI (c)), .int (iI (v))] (fl [mnW x a sv o rd bu ln, stW cI a σ, ocW cI o φ]) sz) (wq_i (fun (r : Int) (ψ : Nat → Int → Int) => r = fewS σ c v) (fun (ψ : Nat → Int → Int) => (bW D [(cI, FieldType.int), (cO, FieldType.object "PromisedCounters$State"), (cC, FieldType.char)] (fl [mnW x a sv o rd bu ln, stW cI a σ, ocW cI o ψ]) (va_A (fl [mnW x a sv o rd bu ln, stW cI a σ, ocW cI o φ]) sz))) (va_A (fl [mnW x a sv o rd bu ln, stW cI a σ, ocW cI o φ]) sz)) 0 0 (va_A (fl [mnW x a sv o rd bu ln, stW cI a σ, ocW cI o φ]) sz) := by
  refine Met.ofW (cc := cX4_canBe) (maxL := 3) (ret := (some .int)) (by decide) rfl ?_
  intro p9 e9 s m args9 below9 meth9 c9 s₁ B hml hv
  obtain ⟨rfl, hsz, hP, hK, hD0⟩ := hv
  have hx := B.exec
  have hb := B.bytes
  have hr := B.returns
  have hts := atoms_spec (ws := wsX4_canBe) B.pre
  have hown : s.vm.findClass RX4 = some m.cls := findClass_of_methodNamed B.named
  have hlocks := B.notSynchronized
  subst hsz
  have hD := hD0.self (sz := s.heap.size)
  generalize hAe : va_A (fl [mnW x a sv o rd bu ln, stW cI a σ, ocW cI o φ]) s.heap.size = A at hD ⊢
  have hA : ∀ q : Nat, s.heap.size ≤ q → A q := fun q h => by rw [← hAe]; exact Or.inr h
  have hS : va_S A s.heap s.heap [] := va_S.rf
  have hP : va_P D vwCl (fl [mnW x a sv o rd bu ln, stW cI a σ, ocW cI o φ]) s.heap := hP
  have hl := lv_entry ([.ref (x 0), .int (iI (c)), .int (iI (v))]) (n := 3) (Nat.le_of_ble_eq_true rfl)
  rw [lg_entry_eq]
  generalize (lg_sl ([.ref (x 0), .int (iI (c)), .int (iI (v))]) ++ List.replicate (3 - (lg_sl ([.ref (x 0), .int (iI (c)), .int (iI (v))])).length) Slot.unset).toArray = ls at hl ⊢
  have hl : lv_has ls 3 [(0, .ref (x 0)), (1, .int (iI (c))), (2, .int (iI (v)))] := hl
  have hw_0 := hts (.fieldLink RX4 26 "PromisedCounters" "outcomes" "LPromisedCounters$Outcomes;") (by decide +kernel)
  have hin_X4 : ∀ w ∈ u_ws RX4 TX4 6, w ∈ wsX4_canBe := by decide +kernel
  have hw_1 := hts (.fieldLink RX4 10 "PromisedCounters" "state" "LPromisedCounters$State;") (by decide +kernel)
  refine lv_iload_n hx hb dX4_canBe_0 rfl (lv_at hl 1 rfl) ?_
  refine wi_iconst hx hb dX4_canBe_1 ?_
  refine wr_callv (va_runS (As := [.int (iI (c)), .int (iI (4))]) (rest := []) ⟨hx, hb, hml, hown, hts⟩ (c_X4_checkIndex l D cI cO cC cL (c) (4) (by omega) (by omega)) (cwS 2 hts gX4_canBe_X4_checkIndex rfl rfl rfl (by decide +kernel) ⟨Nat.le_of_ble_eq_true rfl, Nat.le_of_ble_eq_true rfl⟩) ⟨fun _ _ _ _ h => h, fun U hU hW => ⟨rfl, trivial⟩⟩ rfl rfl hl.1 rfl (lv_room (Nat.le_of_ble_eq_true rfl)) dX4_canBe_2 ⟨(Nat.zero_le _), (Nat.zero_le _)⟩) (fun hv1 => ?_)
  refine lv_aload_n hx hb dX4_canBe_5 rfl (lv_at hl 0 rfl) ?_
  refine va_get (D := D) (ci := 4) (v := .ref (o 0)) (C := RX4) (T := TX4) (N := 6) hx hb hts hin_X4 hown hK hP 0 rfl rfl 2 (by decide) hw_0 (fun _ h9 => h9) rfl dX4_canBe_6 ?_
  refine lv_aload_n hx hb dX4_canBe_9 rfl (lv_at hl 0 rfl) ?_
  refine va_get (D := D) (ci := 4) (v := .ref (a 0)) (C := RX4) (T := TX4) (N := 6) hx hb hts hin_X4 hown hK hP 0 rfl rfl 0 (by decide) hw_1 (fun _ h9 => h9) rfl dX4_canBe_10 ?_
  refine lv_iload_n hx hb dX4_canBe_13 rfl (lv_at hl 1 rfl) ?_
  refine lv_iload_n hx hb dX4_canBe_14 rfl (lv_at hl 2 rfl) ?_
  have hPc := fl_P (S' := [ocW cI o φ, stW cI a σ]) hP [2, 1] rfl
  have hKc := hK.sub (tys' := [(cI, FieldType.int)]) [0] rfl
  have hDc := fl_D (S' := [ocW cI o φ, stW cI a σ]) hD [2, 1] (by decide) rfl
  have hFc := fl_free (SC := [ocW cI o φ, stW cI a σ]) hD hS hA [2, 1] rfl
  refine wq_calli (va_runV (As := [.ref (a 0), .int (iI (c)), .int (iI (v))]) (rest := []) ⟨hx, hb, hml, hown, hts⟩ (c_X1_fewestFor l D cI cO cC cL s.heap.size o φ a σ (c) (v) (by omega) (hv) (hI)) (cwV 3 hts gX4_canBe_X1_fewestFor rfl rfl rfl (by decide +kernel) ⟨Nat.le_of_ble_eq_true rfl, Nat.le_of_ble_eq_true rfl⟩) ⟨pcW_blind, va_recv hKc hPc (ci := 1) (q0 := 0) rfl rfl, pcW_of hPc hKc hDc⟩ rfl rfl hl.1 rfl (lv_room (Nat.le_of_ble_eq_true rfl)) dX4_canBe_15 ⟨(Nat.zero_le _), (Nat.zero_le _)⟩) hS (fun q _ h => hFc q h) hFc (fun r2 u4 t9 H1 locs ht9 hvm hcl3 hB hz1 hk1 hS => ?_)
  obtain ⟨hP1, hK1, hD1⟩ := hB
  rw [ht9] at hP1
  obtain ⟨hP, hD⟩ := fl_join (SR := [mnW x a sv o rd bu ln]) (S1 := [ocW cI o u4, stW cI a σ]) hP hD [2, 1] [0] rfl rfl (by decide) (by decide) hk1 hFc hP1 hD1
  generalize H1 = H at hP hS ⊢
  have hP := fl_P (S' := [mnW x a sv o rd bu ln, stW cI a σ, ocW cI o u4]) hP [0, 2, 1] rfl
  have hD := fl_D (S' := [mnW x a sv o rd bu ln, stW cI a σ, ocW cI o u4]) hD [0, 2, 1] (by decide) rfl
  exact W.iret (v := iI (r2)) hx hb hr (fun t9 ht9 hW9 => ⟨⟨(r2), u4, rfl, (hcl3), ⟨by rw [ht9]; exact hP, va_K.moved hW9.alike hK, hD⟩⟩, hS.F ht9⟩) hS.2.2 dX4_canBe_18 hlocks
