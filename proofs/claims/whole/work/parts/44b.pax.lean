set_option maxHeartbeats 4000000 in
set_option maxRecDepth 100000 in
theorem x_X4_promiseAll (l : Launch) (hl9 : l.stackTraces = false) (D : va_G) (cI cO cC cL : ClassId) (sz : Nat) (x a sv o rd bu : Nat → Nat) (ln ρ β : Nat → Int → Int) (hln9 : 0 ≤ ln 0 0 ∧ ln 0 0 ≤ 60) (hb9 : ∀ j : Int, 0 ≤ j → j < ln 0 0 → 33 ≤ β 1 j ∧ β 1 j ≤ 126) (hf9 : R32 (ρ 0 3)) (hbad : ¬ VAL (β 1) (ln 0 0) (uI (ρ 0) 0 0)) : vx_Met l yX4_promiseAll wsX4_promiseAll ({ frames := 6, cells := 1, slots := 6, locals := 120 } : Room) (pcWX D [(cI, FieldType.int), (cO, FieldType.object "PromisedCounters$State"), (cC, FieldType.char)] [.ref (x 0)] (fl [mnW x a sv o rd bu ln, rdW rd ρ, bfW cC bu β]) sz) QX (XNW D (fun η => fl [mnW x a sv o rd bu ln, rdW rd (sR ρ 0 η), bfW cC bu β]) (va_A (fl [mnW x a sv o rd bu ln, rdW rd ρ, bfW cC bu β]) sz)) 1 6 (va_A (fl [mnW x a sv o rd bu ln, rdW rd ρ, bfW cC bu β]) sz) := by
  refine vx_ofW (cc := cX4_promiseAll) (maxL := 2) (ret := (some .int)) (by decide) rfl ?_
  intro p9 e9 s m args9 below9 meth9 c9 s₁ B hml hexc hv
  obtain ⟨rfl, hsz, hP, hK, hD0, hZ⟩ := hv
  have hx := B.exec
  have hb := B.bytes
  have hr := B.returns
  have hts := atoms_spec (ws := wsX4_promiseAll) B.pre
  have hown : s.vm.findClass RX4 = some m.cls := findClass_of_methodNamed B.named
  have hlocks := B.notSynchronized
  subst hsz
  have hD := hD0.self (sz := s.heap.size)
  generalize hAe : va_A (fl [mnW x a sv o rd bu ln, rdW rd ρ, bfW cC bu β]) s.heap.size = A at hD ⊢
  rw [hAe] at hZ
  have hkk := hts (Cond.classLink RX4 93 "java/lang/IllegalArgumentException") (by decide +kernel)
  have hin9 := hts (Cond.initialized "java/lang/IllegalArgumentException") (by decide +kernel)
  have hat_IA : ∀ w ∈ (vx_atS RX4 97 "java/lang/IllegalArgumentException" thN).filter goodWord, w ∈ wsX4_promiseAll := by decide +kernel
  have hA : ∀ q : Nat, s.heap.size ≤ q → A q := fun q h => by rw [← hAe]; exact Or.inr h
  have hS : va_S A s.heap s.heap [] := va_S.rf
  have hP : va_P D vwCl (fl [mnW x a sv o rd bu ln, rdW rd ρ, bfW cC bu β]) s.heap := hP
  have hl := lv_entry ([.ref (x 0)]) (n := 2) (Nat.le_of_ble_eq_true rfl)
  rw [lg_entry_eq]
  generalize (lg_sl ([.ref (x 0)]) ++ List.replicate (2 - (lg_sl ([.ref (x 0)])).length) Slot.unset).toArray = ls at hl ⊢
  have hl : lv_has ls 2 [(0, .ref (x 0))] := hl
  have hw_0 := hts (.fieldLink RX4 41 "PromisedCounters" "length" "I") (by decide +kernel)
  have hin_X4 : ∀ w ∈ u_ws RX4 TX4 6, w ∈ wsX4_promiseAll := by decide +kernel
  have hw_1 := hts (.fieldLink RX4 33 "PromisedCounters" "reader" "LPromisedCounters$ChangeReader;") (by decide +kernel)
  refine lv_aload_n hx hb dX4_promiseAll_0 rfl (lv_at hl 0 rfl) ?_
  have hFc := fl_free (SC := [mnW x a sv o rd bu ln, rdW rd ρ, bfW cC bu β]) hD hS hA [0, 1, 2] rfl
  refine wq_calli (va_runV (As := []) (rest := []) ⟨hx, hb, hml, hown, hts⟩ (c_X4_firstError l D cI cO cC cL s.heap.size x a sv o rd bu ln ρ β (hln9) (hb9) (hf9)) (cwV 0 hts gX4_promiseAll_X4_firstError rfl rfl rfl (by decide +kernel) ⟨Nat.le_of_ble_eq_true rfl, Nat.le_of_ble_eq_true rfl⟩) ⟨pcW_blind, va_recv hK hP (ci := 4) (q0 := 0) rfl rfl, pcW_of hP hK hD⟩ rfl rfl hl.1 rfl (lv_room (Nat.le_of_ble_eq_true rfl)) dX4_promiseAll_1 ⟨(Nat.zero_le _), (Nat.zero_le _)⟩) hS (fun q _ h => hFc q h) hFc (fun r1 u3 t9 H1 locs ht9 hvm hcl2 hB hz1 hk1 hS => ?_)
  obtain ⟨hP1, hK1, hD1⟩ := hB
  rw [ht9] at hP1
  obtain ⟨hP, hD⟩ := fl_join (SR := []) (S1 := [mnW x a sv o rd bu ln, rdW rd (sR ρ 0 u3), bfW cC bu β]) hP hD [0, 1, 2] [] rfl rfl (by decide) (by decide) hk1 hFc hP1 hD1
  generalize H1 = H at hP hS ⊢
  have hP : va_P D vwCl (fl [mnW x a sv o rd bu ln, rdW rd (sR ρ 0 u3), bfW cC bu β]) H := hP
  have hD : va_D A (fl [mnW x a sv o rd bu ln, rdW rd (sR ρ 0 u3), bfW cC bu β]) := hD
  obtain ⟨hfr, hfe9⟩ := hcl2
  have hle9 := feR_le (β 1) (ln 0 0 - 0).toNat (uI (ρ 0) 0 0) 0
  have hge9 := feR_ge (β 1) (ln 0 0 - 0).toNat (uI (ρ 0) 0 0) 0
  refine lv_aload_n hx hb dX4_promiseAll_4 rfl (lv_at hl 0 rfl) ?_
  refine va_get (D := D) (ci := 4) (v := .int (iI ((ln 0 0)))) (C := RX4) (T := TX4) (N := 6) hx hb hts hin_X4 hown hK hP 0 rfl rfl 5 (by decide) hw_0 (fun _ h9 => h9) rfl dX4_promiseAll_5 ?_
  refine wi_icmp_lt (tgt := 21) hx hb dX4_promiseAll_8 (by decide) (by omega) (fun c_8 => ?_) (fun c_8 => ?_)
  · skip
    obtain ⟨sa9, hstr⟩ := hZ.2.1 (155, "the buffer is not complete changes") (by decide)
    exact vx_throwS (names := thN) (mc := 1) (ms := 6) (A := A) hx hb hl9 hown (by decide +kernel) (by decide +kernel) hkk hin9 hstr (hatX (fun w9 h9 => hts w9 (hat_IA w9 h9)) hbIA (hZ.narrow (fun _ h => h.elim))) hgIA hZ.1.1 hZ.1.2 hS (hl.1.trans hml.symm) dX4_promiseAll_21 dX4_promiseAll_24 dX4_promiseAll_25 dX4_promiseAll_27 dX4_promiseAll_30 (fun x hx => (hexc x hx).elim) (Nat.le_of_ble_eq_true rfl) (Nat.le_of_ble_eq_true rfl) (Nat.le_of_ble_eq_true rfl) (Nat.le_of_ble_eq_true rfl) hlocks (fun t _ z1 z2 => ⟨u3, rfl, va_P_mem.mpr (fun y hy => ((va_P_mem.mp hP) y hy).kept (z2 y.1 ((va_P_mem.mp hP) y hy).lt)), hD, ⟨Nat.le_trans hS.1 z1, fun q hq hn => (z2 q (Nat.lt_of_lt_of_le hq hS.1)).trans (hS.2.1 q hq hn)⟩⟩) hS.2.2 (Nat.le_refl _) (Nat.le_refl _)
  · skip
    have hrl : r1 = ln 0 0 := by omega
    obtain ⟨hE9, hw9, h39⟩ := hfe9 hrl
    have hpl9 := hw9.1
    refine lv_aload_n hx hb dX4_promiseAll_11 rfl (lv_at hl 0 rfl) ?_
    refine va_get (D := D) (ci := 4) (v := .ref (rd 0)) (C := RX4) (T := TX4) (N := 6) hx hb hts hin_X4 hown hK hP 0 rfl rfl 3 (by decide) hw_1 (fun _ h9 => h9) rfl dX4_promiseAll_12 ?_
    have hPc := fl_P (S' := [rdW rd (sR ρ 0 u3)]) hP [1] rfl
    have hKc := hK.sub (tys' := [(cI, FieldType.int)]) [0] rfl
    refine wr_calli (va_runV (As := []) (rest := []) ⟨hx, hb, hml, hown, hts⟩ (c_X0_isComplete l D cI cO cC cL rd (sR ρ 0 u3) (hpl9)) (cwV 0 hts gX4_promiseAll_X0_isComplete rfl rfl rfl (by decide +kernel) ⟨Nat.le_of_ble_eq_true rfl, Nat.le_of_ble_eq_true rfl⟩) ⟨pcR_blind, va_recv hKc hPc (ci := 0) (q0 := 0) rfl rfl, pcR_of hPc hKc⟩ rfl rfl hl.1 rfl (lv_room (Nat.le_of_ble_eq_true rfl)) dX4_promiseAll_15 ⟨(Nat.zero_le _), (Nat.zero_le _)⟩) (fun r4 hr4 => ?_)
    subst hr4
    refine wi_top (y := (if dFin (u3) then (1 : Int) else 0)) rfl ?_
    refine wi_if_ne (tgt := 31) hx hb dX4_promiseAll_18 (by decide) (by split <;> omega) (fun c_18 => ?_) (fun c_18 => ?_)
    · skip
      exfalso; exact hbad ⟨hfr.symm.trans hrl, by rw [← hE9]; exact Classical.byContradiction (fun q9 => c_18 (if_neg q9))⟩
    · skip
      obtain ⟨sa9, hstr⟩ := hZ.2.1 (155, "the buffer is not complete changes") (by decide)
      exact vx_throwS (names := thN) (mc := 1) (ms := 6) (A := A) hx hb hl9 hown (by decide +kernel) (by decide +kernel) hkk hin9 hstr (hatX (fun w9 h9 => hts w9 (hat_IA w9 h9)) hbIA (hZ.narrow (fun _ h => h.elim))) hgIA hZ.1.1 hZ.1.2 hS (hl.1.trans hml.symm) dX4_promiseAll_21 dX4_promiseAll_24 dX4_promiseAll_25 dX4_promiseAll_27 dX4_promiseAll_30 (fun x hx => (hexc x hx).elim) (Nat.le_of_ble_eq_true rfl) (Nat.le_of_ble_eq_true rfl) (Nat.le_of_ble_eq_true rfl) (Nat.le_of_ble_eq_true rfl) hlocks (fun t _ z1 z2 => ⟨u3, rfl, va_P_mem.mpr (fun y hy => ((va_P_mem.mp hP) y hy).kept (z2 y.1 ((va_P_mem.mp hP) y hy).lt)), hD, ⟨Nat.le_trans hS.1 z1, fun q hq hn => (z2 q (Nat.lt_of_lt_of_le hq hS.1)).trans (hS.2.1 q hq hn)⟩⟩) hS.2.2 (Nat.le_refl _) (Nat.le_refl _)
