set_option maxHeartbeats 4000000 in
set_option maxRecDepth 100000 in
theorem c_L_promises (l : Launch) (D : va_G) (cI cO cC cL : ClassId) (x a sv o rd bu : Nat → Nat) (ln σ : Nat → Int → Int) (κ : Nat → Int → Int) (fs : Nat → Option Nat) (hI : Inv σ) (hM : ME σ) : Met l yL_promises wsL_promises ({ frames := 8, cells := 0, slots := 0, locals := 164 } : Room) (pcR D [(cI, FieldType.int), (cO, FieldType.object "PromisedCounters$State"), (cC, FieldType.char)] [.ref (x 0)] (fl [mnW x a sv o rd bu ln, stW cI a σ, svO cO sv fs κ])) (wr_Si (fun r => r = 1)) 0 0 (fun _ => False) := by
  refine Met.ofW (cc := cL_promises) (maxL := 10) (ret := (some .boolean)) (by decide) rfl ?_
  intro p9 e9 s m args9 below9 meth9 c9 s₁ B hml hv
  obtain ⟨rfl, hP, hK⟩ := hv
  have hx := B.exec
  have hb := B.bytes
  have hr := B.returns
  have hts := atoms_spec (ws := wsL_promises) B.pre
  have hown : s.vm.findClass RL = some m.cls := findClass_of_methodNamed B.named
  have hlocks := B.notSynchronized
  have hl := lv_entry ([.ref (x 0)]) (n := 10) (Nat.le_of_ble_eq_true rfl)
  rw [lg_entry_eq]
  generalize (lg_sl ([.ref (x 0)]) ++ List.replicate (10 - (lg_sl ([.ref (x 0)])).length) Slot.unset).toArray = ls at hl ⊢
  have hl : lv_has ls 10 [(0, .ref (x 0))] := hl
  have hn := hI.n
  have hti := hI.t
  refine lv_aload_n hx hb dL_promises_0 rfl (lv_at hl 0 rfl) ?_
  refine wi_iconst hx hb dL_promises_1 ?_
  refine wr_calli (va_runV (As := [.int (iI (1))]) (rest := []) ⟨hx, hb, hml, hown, hts⟩ (c_X4_count l D cI cO cC cL x a sv o rd bu ln σ κ fs (1) (by first | assumption | omega) (by first | assumption | omega)) (cwV 1 hts gL_promises_X4_count rfl rfl rfl (by decide +kernel) ⟨Nat.le_of_ble_eq_true rfl, Nat.le_of_ble_eq_true rfl⟩) ⟨pcR_blind, va_recv hK hP (ci := 4) (q0 := 0) rfl rfl, pcR_of hP hK⟩ rfl rfl hl.1 rfl (lv_room (Nat.le_of_ble_eq_true rfl)) dL_promises_2 ⟨(Nat.zero_le _), (Nat.zero_le _)⟩) (fun r1 hr1 => ?_)
  subst hr1
  refine wi_top (y := (cntS σ (κ 0 0) (1))) rfl ?_
  refine wi_top (y := (σ 0 1)) rfl ?_
  refine lv_istore_n (lv' := [(1, .int (iI ((σ 0 1)))), (0, .ref (x 0))]) hx hb dL_promises_5 rfl hl (by decide) rfl (fun ls hl => ?_)
  refine wi_iconst hx hb dL_promises_6 ?_
  refine lv_istore_n (lv' := [(2, .int (iI (0))), (1, .int (iI ((σ 0 1)))), (0, .ref (x 0))]) hx hb dL_promises_7 rfl hl (by decide) rfl (fun ls hl => ?_)
  refine wi_iconst hx hb dL_promises_8 ?_
  refine lv_istore_n (lv' := [(3, .int (iI (-1))), (2, .int (iI (0))), (1, .int (iI ((σ 0 1)))), (0, .ref (x 0))]) hx hb dL_promises_9 rfl hl (by decide) rfl (fun ls hl => ?_)
  refine lv_iload_n hx hb dL_promises_10 rfl (lv_at hl 2 rfl) ?_
  refine wi_bipush hx hb dL_promises_11 (by decide) ?_
  refine wi_icmp_gt (tgt := 48) hx hb dL_promises_13 (by decide) (by omega) (fun c_13 => ?_) (fun c_13 => ?_)
  · skip
    exfalso; omega
  · skip
    refine lv_aload_n hx hb dL_promises_16 rfl (lv_at hl 3 rfl) ?_
    refine wi_iconst hx hb dL_promises_17 ?_
    refine wr_calli (va_runV (As := [.int (iI (3))]) (rest := []) ⟨hx, hb, hml, hown, hts⟩ (c_X4_count l D cI cO cC cL x a sv o rd bu ln σ κ fs (3) (by first | assumption | omega) (by first | assumption | omega)) (cwV 1 hts gL_promises_X4_count rfl rfl rfl (by decide +kernel) ⟨Nat.le_of_ble_eq_true rfl, Nat.le_of_ble_eq_true rfl⟩) ⟨pcR_blind, va_recv hK hP (ci := 4) (q0 := 0) rfl rfl, pcR_of hP hK⟩ rfl rfl hl.1 rfl (lv_room (Nat.le_of_ble_eq_true rfl)) dL_promises_18 ⟨(Nat.zero_le _), (Nat.zero_le _)⟩) (fun r2 hr2 => ?_)
    subst hr2
    refine wi_top (y := (cntS σ (κ 0 0) (3))) rfl ?_
    refine wi_top (y := (σ 0 2)) rfl ?_
    refine lv_iload_n hx hb dL_promises_21 rfl (lv_at hl 2 rfl) ?_
    refine lv_aload_n hx hb dL_promises_22 rfl (lv_at hl 3 rfl) ?_
    refine wi_iconst hx hb dL_promises_23 ?_
    refine wr_calli (va_runV (As := [.int (iI (4))]) (rest := [.int (iI ((σ 0 1))), .int (iI ((σ 0 2)))]) ⟨hx, hb, hml, hown, hts⟩ (c_X4_count l D cI cO cC cL x a sv o rd bu ln σ κ fs (4) (by first | assumption | omega) (by first | assumption | omega)) (cwV 1 hts gL_promises_X4_count rfl rfl rfl (by decide +kernel) ⟨Nat.le_of_ble_eq_true rfl, Nat.le_of_ble_eq_true rfl⟩) ⟨pcR_blind, va_recv hK hP (ci := 4) (q0 := 0) rfl rfl, pcR_of hP hK⟩ rfl rfl hl.1 rfl (lv_room (Nat.le_of_ble_eq_true rfl)) dL_promises_24 ⟨(Nat.zero_le _), (Nat.zero_le _)⟩) (fun r3 hr3 => ?_)
    subst hr3
    refine wi_top (y := (cntS σ (κ 0 0) (4))) rfl ?_
    refine wi_top (y := (sm (σ 10) 6)) rfl ?_
    refine wi_iadd hx hb dL_promises_27 ?_
    refine lv_aload_n hx hb dL_promises_28 rfl (lv_at hl 3 rfl) ?_
    refine wi_iconst hx hb dL_promises_29 ?_
    refine wr_calli (va_runV (As := [.int (iI (5))]) (rest := [.int (iI (((σ 0 1) + (sm (σ 10) 6)))), .int (iI ((σ 0 2)))]) ⟨hx, hb, hml, hown, hts⟩ (c_X4_count l D cI cO cC cL x a sv o rd bu ln σ κ fs (5) (by first | assumption | omega) (by first | assumption | omega)) (cwV 1 hts gL_promises_X4_count rfl rfl rfl (by decide +kernel) ⟨Nat.le_of_ble_eq_true rfl, Nat.le_of_ble_eq_true rfl⟩) ⟨pcR_blind, va_recv hK hP (ci := 4) (q0 := 0) rfl rfl, pcR_of hP hK⟩ rfl rfl hl.1 rfl (lv_room (Nat.le_of_ble_eq_true rfl)) dL_promises_30 ⟨(Nat.zero_le _), (Nat.zero_le _)⟩) (fun r4 hr4 => ?_)
    subst hr4
    refine wi_top (y := (cntS σ (κ 0 0) (5))) rfl ?_
    refine wi_top (y := (sm (σ 11) 6)) rfl ?_
    refine wi_iadd hx hb dL_promises_33 ?_
    refine lv_aload_n hx hb dL_promises_34 rfl (lv_at hl 3 rfl) ?_
    refine wi_bipush hx hb dL_promises_35 (by decide) ?_
    refine wr_calli (va_runV (As := [.int (iI (6))]) (rest := [.int (iI ((((σ 0 1) + (sm (σ 10) 6)) + (sm (σ 11) 6)))), .int (iI ((σ 0 2)))]) ⟨hx, hb, hml, hown, hts⟩ (c_X4_count l D cI cO cC cL x a sv o rd bu ln σ κ fs (6) (by first | assumption | omega) (by first | assumption | omega)) (cwV 1 hts gL_promises_X4_count rfl rfl rfl (by decide +kernel) ⟨Nat.le_of_ble_eq_true rfl, Nat.le_of_ble_eq_true rfl⟩) ⟨pcR_blind, va_recv hK hP (ci := 4) (q0 := 0) rfl rfl, pcR_of hP hK⟩ rfl rfl hl.1 rfl (lv_room (Nat.le_of_ble_eq_true rfl)) dL_promises_37 ⟨(Nat.zero_le _), (Nat.zero_le _)⟩) (fun r5 hr5 => ?_)
    subst hr5
    refine wi_top (y := (cntS σ (κ 0 0) (6))) rfl ?_
    refine wi_top (y := (sm (σ 12) 6)) rfl ?_
    refine wi_iadd hx hb dL_promises_40 ?_
    refine wi_icmp_ne_e (tgt := 48) hx hb dL_promises_41 (by decide) (hM) ?_
    refine wi_iconst hx hb dL_promises_44 ?_
    refine lv_goto (tgt := 49) hx hb dL_promises_45 (by decide) ?_
    refine lv_istore (lv' := [(4, .int (iI (1))), (3, .int (iI (-1))), (2, .int (iI (0))), (1, .int (iI ((σ 0 1)))), (0, .ref (x 0))]) hx hb dL_promises_49 hl (by decide) rfl (fun ls hl => ?_)
    refine wi_iconst hx hb dL_promises_51 ?_
    refine lv_istore (lv' := [(5, .int (iI (0))), (4, .int (iI (1))), (3, .int (iI (-1))), (2, .int (iI (0))), (1, .int (iI ((σ 0 1)))), (0, .ref (x 0))]) hx hb dL_promises_52 hl (by decide) rfl (fun ls hl => ?_)
    have L54 : ∀ (k54 : Nat), ∀ (p : Int) (tr : Int) (fi : Int), (σ 0 1 - p).toNat < k54 → (0 ≤ p ∧ p ≤ σ 0 1) → (tr = sm (fun p => if σ 8 p = -1 then 0 else 1) p.toNat) → (fi = fL (σ 9) p.toNat) → (-1 ≤ fi ∧ fi ≤ 20000) → ∀ (ls : Array Slot), lv_has ls 10 [(5, .int (iI (p))), (4, .int (iI (1))), (3, .int (iI (fi))), (2, .int (iI (tr))), (1, .int (iI ((σ 0 1)))), (0, .ref (x 0))] → W p9 l e9 ({ frames := 8, cells := 0, slots := 0, locals := 164 } : Room) s m ([.ref (x 0)] : List Value).toArray below9 meth9 c9 s.heap [] 0 0 (MQ below9 (wr_Si (fun r => r = 1)) ([.ref (x 0)] : List Value).toArray s 0 0 (fun _ => False)) (F0 m 54 ls []) := by
      intro k54
      induction k54 with
      | zero =>
        intro p tr fi hm
        exact absurd hm (Nat.not_lt_zero _)
      | succ k54 ih54 =>
        intro p tr fi hm54 hp htr hfi hrf ls hl
        refine lv_iload hx hb dL_promises_54 (lv_at hl 0 rfl) ?_
        refine lv_iload_n hx hb dL_promises_56 rfl (lv_at hl 4 rfl) ?_
        refine wi_icmp_ge (tgt := 200) hx hb dL_promises_57 (by decide) (by omega) (fun c_57 => ?_) (fun c_57 => ?_)
        · skip
          have hp9 : p = σ 0 1 := by omega
          refine wi_iconst hx hb dL_promises_200 ?_
          refine lv_istore (lv' := [(5, .int (iI (0))), (4, .int (iI (1))), (3, .int (iI (fi))), (2, .int (iI (tr))), (1, .int (iI ((σ 0 1)))), (0, .ref (x 0))]) hx hb dL_promises_201 hl (by decide) rfl (fun ls hl => ?_)
          refine wi_iconst hx hb dL_promises_203 ?_
          refine lv_istore (lv' := [(6, .int (iI (0))), (5, .int (iI (0))), (4, .int (iI (1))), (3, .int (iI (fi))), (2, .int (iI (tr))), (1, .int (iI ((σ 0 1)))), (0, .ref (x 0))]) hx hb dL_promises_204 hl (by decide) rfl (fun ls hl => ?_)
          refine wi_iconst hx hb dL_promises_206 ?_
          refine lv_istore (lv' := [(7, .int (iI (0))), (6, .int (iI (0))), (5, .int (iI (0))), (4, .int (iI (1))), (3, .int (iI (fi))), (2, .int (iI (tr))), (1, .int (iI ((σ 0 1)))), (0, .ref (x 0))]) hx hb dL_promises_207 hl (by decide) rfl (fun ls hl => ?_)
          refine wi_iconst hx hb dL_promises_209 ?_
          refine lv_istore (lv' := [(8, .int (iI (0))), (7, .int (iI (0))), (6, .int (iI (0))), (5, .int (iI (0))), (4, .int (iI (1))), (3, .int (iI (fi))), (2, .int (iI (tr))), (1, .int (iI ((σ 0 1)))), (0, .ref (x 0))]) hx hb dL_promises_210 hl (by decide) rfl (fun ls hl => ?_)
          refine wi_iconst hx hb dL_promises_212 ?_
          refine lv_istore (lv' := [(9, .int (iI (0))), (8, .int (iI (0))), (7, .int (iI (0))), (6, .int (iI (0))), (5, .int (iI (0))), (4, .int (iI (1))), (3, .int (iI (fi))), (2, .int (iI (tr))), (1, .int (iI ((σ 0 1)))), (0, .ref (x 0))]) hx hb dL_promises_213 hl (by decide) rfl (fun ls hl => ?_)
          have L215 : ∀ (k215 : Nat), ∀ (w9 : Int) (al : Int) (se : Int) (ca : Int) (la : Int), (6 - w9).toNat < k215 → (0 ≤ w9 ∧ w9 ≤ 6) → (al = sm (fun o => ofN σ o) w9.toNat) → (se = sm (σ 10) w9.toNat) → (ca = sm (σ 11) w9.toNat) → (la = sm (σ 12) w9.toNat) → ∀ (ls : Array Slot), lv_has ls 10 [(9, .int (iI (w9))), (8, .int (iI (la))), (7, .int (iI (ca))), (6, .int (iI (se))), (5, .int (iI (al))), (4, .int (iI (1))), (3, .int (iI (fi))), (2, .int (iI (tr))), (1, .int (iI ((σ 0 1)))), (0, .ref (x 0))] → W p9 l e9 ({ frames := 8, cells := 0, slots := 0, locals := 164 } : Room) s m ([.ref (x 0)] : List Value).toArray below9 meth9 c9 s.heap [] 0 0 (MQ below9 (wr_Si (fun r => r = 1)) ([.ref (x 0)] : List Value).toArray s 0 0 (fun _ => False)) (F0 m 215 ls []) := by
            intro k215
            induction k215 with
            | zero =>
              intro w9 al se ca la hm
              exact absurd hm (Nat.not_lt_zero _)
            | succ k215 ih215 =>
              intro w9 al se ca la hm215 hw hal hse hca hla ls hl
              refine lv_iload hx hb dL_promises_215 (lv_at hl 0 rfl) ?_
              refine wi_bipush hx hb dL_promises_217 (by decide) ?_
              refine wi_icmp_ge (tgt := 305) hx hb dL_promises_219 (by decide) (by omega) (fun c_219 => ?_) (fun c_219 => ?_)
              · skip
                refine lv_iload hx hb dL_promises_305 (lv_at hl 5 rfl) ?_
                refine wi_if_eq (tgt := 370) hx hb dL_promises_307 (by decide) (by omega) (fun c_307 => ?_) (fun c_307 => ?_)
                · skip
                  exfalso; omega
                · skip
                  refine lv_iload hx hb dL_promises_310 (lv_at hl 4 rfl) ?_
                  refine lv_iload_n hx hb dL_promises_312 rfl (lv_at hl 8 rfl) ?_
                  refine wi_icmp_ne_e (tgt := 370) hx hb dL_promises_313 (by decide) (by rw [hal, show w9 = 6 by omega]; exact of_all hI) ?_
                  refine lv_iload hx hb dL_promises_316 (lv_at hl 3 rfl) ?_
                  refine lv_aload_n hx hb dL_promises_318 rfl (lv_at hl 9 rfl) ?_
                  refine wi_iconst hx hb dL_promises_319 ?_
                  refine wr_calli (va_runV (As := [.int (iI (4))]) (rest := [.int (iI (se))]) ⟨hx, hb, hml, hown, hts⟩ (c_X4_count l D cI cO cC cL x a sv o rd bu ln σ κ fs (4) (by first | assumption | omega) (by first | assumption | omega)) (cwV 1 hts gL_promises_X4_count rfl rfl rfl (by decide +kernel) ⟨Nat.le_of_ble_eq_true rfl, Nat.le_of_ble_eq_true rfl⟩) ⟨pcR_blind, va_recv hK hP (ci := 4) (q0 := 0) rfl rfl, pcR_of hP hK⟩ rfl rfl hl.1 rfl (lv_room (Nat.le_of_ble_eq_true rfl)) dL_promises_320 ⟨(Nat.zero_le _), (Nat.zero_le _)⟩) (fun r6 hr6 => ?_)
                  subst hr6
                  refine wi_top (y := (cntS σ (κ 0 0) (4))) rfl ?_
                  refine wi_top (y := (sm (σ 10) 6)) rfl ?_
                  refine wi_icmp_ne_e (tgt := 370) hx hb dL_promises_323 (by decide) (by rw [hse, show w9 = 6 by omega]; rfl) ?_
                  refine lv_iload hx hb dL_promises_326 (lv_at hl 2 rfl) ?_
                  refine lv_aload_n hx hb dL_promises_328 rfl (lv_at hl 9 rfl) ?_
                  refine wi_iconst hx hb dL_promises_329 ?_
                  refine wr_calli (va_runV (As := [.int (iI (5))]) (rest := [.int (iI (ca))]) ⟨hx, hb, hml, hown, hts⟩ (c_X4_count l D cI cO cC cL x a sv o rd bu ln σ κ fs (5) (by first | assumption | omega) (by first | assumption | omega)) (cwV 1 hts gL_promises_X4_count rfl rfl rfl (by decide +kernel) ⟨Nat.le_of_ble_eq_true rfl, Nat.le_of_ble_eq_true rfl⟩) ⟨pcR_blind, va_recv hK hP (ci := 4) (q0 := 0) rfl rfl, pcR_of hP hK⟩ rfl rfl hl.1 rfl (lv_room (Nat.le_of_ble_eq_true rfl)) dL_promises_330 ⟨(Nat.zero_le _), (Nat.zero_le _)⟩) (fun r7 hr7 => ?_)
                  subst hr7
                  refine wi_top (y := (cntS σ (κ 0 0) (5))) rfl ?_
                  refine wi_top (y := (sm (σ 11) 6)) rfl ?_
                  refine wi_icmp_ne_e (tgt := 370) hx hb dL_promises_333 (by decide) (by rw [hca, show w9 = 6 by omega]; rfl) ?_
                  refine lv_iload hx hb dL_promises_336 (lv_at hl 1 rfl) ?_
                  refine lv_aload_n hx hb dL_promises_338 rfl (lv_at hl 9 rfl) ?_
                  refine wi_bipush hx hb dL_promises_339 (by decide) ?_
                  refine wr_calli (va_runV (As := [.int (iI (6))]) (rest := [.int (iI (la))]) ⟨hx, hb, hml, hown, hts⟩ (c_X4_count l D cI cO cC cL x a sv o rd bu ln σ κ fs (6) (by first | assumption | omega) (by first | assumption | omega)) (cwV 1 hts gL_promises_X4_count rfl rfl rfl (by decide +kernel) ⟨Nat.le_of_ble_eq_true rfl, Nat.le_of_ble_eq_true rfl⟩) ⟨pcR_blind, va_recv hK hP (ci := 4) (q0 := 0) rfl rfl, pcR_of hP hK⟩ rfl rfl hl.1 rfl (lv_room (Nat.le_of_ble_eq_true rfl)) dL_promises_341 ⟨(Nat.zero_le _), (Nat.zero_le _)⟩) (fun r8 hr8 => ?_)
                  subst hr8
                  refine wi_top (y := (cntS σ (κ 0 0) (6))) rfl ?_
                  refine wi_top (y := (sm (σ 12) 6)) rfl ?_
                  refine wi_icmp_ne_e (tgt := 370) hx hb dL_promises_344 (by decide) (by rw [hla, show w9 = 6 by omega]; rfl) ?_
                  refine lv_iload_n hx hb dL_promises_347 rfl (lv_at hl 7 rfl) ?_
                  refine lv_aload_n hx hb dL_promises_348 rfl (lv_at hl 9 rfl) ?_
                  refine wi_iconst hx hb dL_promises_349 ?_
                  refine wr_calli (va_runV (As := [.int (iI (2))]) (rest := [.int (iI (tr))]) ⟨hx, hb, hml, hown, hts⟩ (c_X4_count l D cI cO cC cL x a sv o rd bu ln σ κ fs (2) (by first | assumption | omega) (by first | assumption | omega)) (cwV 1 hts gL_promises_X4_count rfl rfl rfl (by decide +kernel) ⟨Nat.le_of_ble_eq_true rfl, Nat.le_of_ble_eq_true rfl⟩) ⟨pcR_blind, va_recv hK hP (ci := 4) (q0 := 0) rfl rfl, pcR_of hP hK⟩ rfl rfl hl.1 rfl (lv_room (Nat.le_of_ble_eq_true rfl)) dL_promises_350 ⟨(Nat.zero_le _), (Nat.zero_le _)⟩) (fun r9 hr9 => ?_)
                  subst hr9
                  refine wi_top (y := (cntS σ (κ 0 0) (2))) rfl ?_
                  refine wi_top (y := (trN σ)) rfl ?_
                  refine wi_icmp_ne_e (tgt := 370) hx hb dL_promises_353 (by decide) (by rw [htr, hp9]; rfl) ?_
                  refine lv_iload_n hx hb dL_promises_356 rfl (lv_at hl 6 rfl) ?_
                  refine lv_aload_n hx hb dL_promises_357 rfl (lv_at hl 9 rfl) ?_
                  refine wi_bipush hx hb dL_promises_358 (by decide) ?_
                  refine wr_calli (va_runV (As := [.int (iI (8))]) (rest := [.int (iI (fi))]) ⟨hx, hb, hml, hown, hts⟩ (c_X4_count l D cI cO cC cL x a sv o rd bu ln σ κ fs (8) (by first | assumption | omega) (by first | assumption | omega)) (cwV 1 hts gL_promises_X4_count rfl rfl rfl (by decide +kernel) ⟨Nat.le_of_ble_eq_true rfl, Nat.le_of_ble_eq_true rfl⟩) ⟨pcR_blind, va_recv hK hP (ci := 4) (q0 := 0) rfl rfl, pcR_of hP hK⟩ rfl rfl hl.1 rfl (lv_room (Nat.le_of_ble_eq_true rfl)) dL_promises_360 ⟨(Nat.zero_le _), (Nat.zero_le _)⟩) (fun r10 hr10 => ?_)
                  subst hr10
                  refine wi_top (y := (cntS σ (κ 0 0) (8))) rfl ?_
                  refine wi_top (y := (frS σ)) rfl ?_
                  refine wi_icmp_ne_e (tgt := 370) hx hb dL_promises_363 (by decide) (by rw [hfi, hp9]; rfl) ?_
                  refine wi_iconst hx hb dL_promises_366 ?_
                  refine lv_goto (tgt := 371) hx hb dL_promises_367 (by decide) ?_
                  exact W.zret (v := iI (1)) hx hb hr (nar_z (by omega)) (fun t9 ht9 hW9 => ⟨(1), rfl, (rfl), ht9⟩) (fun _ h => nomatch h) dL_promises_371 hlocks
              · skip
                have hof := ofN_r hI w9
                have hsz := ofSz_ge hI w9
                refine lv_iload hx hb dL_promises_222 (lv_at hl 4 rfl) ?_
                refine lv_aload_n hx hb dL_promises_224 rfl (lv_at hl 9 rfl) ?_
                refine lv_iload hx hb dL_promises_225 (lv_at hl 0 rfl) ?_
                refine wi_iconst hx hb dL_promises_227 ?_
                have hPc := fl_P (S' := [mnW x a sv o rd bu ln, stW cI a σ]) hP [0, 1] rfl
                refine wr_calli (va_runV (As := [.int (iI (w9)), .int (iI (0))]) (rest := [.int (iI (al))]) ⟨hx, hb, hml, hown, hts⟩ (c_X4_owner l D cI cO cC cL x a sv o rd bu ln σ (w9) (0) (by first | assumption | omega) (by first | assumption | omega) (by first | assumption | omega)) (cwV 2 hts gL_promises_X4_owner rfl rfl rfl (by decide +kernel) ⟨Nat.le_of_ble_eq_true rfl, Nat.le_of_ble_eq_true rfl⟩) ⟨pcR_blind, va_recv hK hPc (ci := 4) (q0 := 0) rfl rfl, pcR_of hPc hK⟩ rfl rfl hl.1 rfl (lv_room (Nat.le_of_ble_eq_true rfl)) dL_promises_228 ⟨(Nat.zero_le _), (Nat.zero_le _)⟩) (fun r11 hr11 => ?_)
                subst hr11
                refine wi_top (y := (ofN σ w9)) rfl ?_
                refine wi_iadd hx hb dL_promises_231 ?_
                refine lv_istore (lv' := [(5, .int (iI ((al + (ofN σ w9))))), (9, .int (iI (w9))), (8, .int (iI (la))), (7, .int (iI (ca))), (6, .int (iI (se))), (4, .int (iI (1))), (3, .int (iI (fi))), (2, .int (iI (tr))), (1, .int (iI ((σ 0 1)))), (0, .ref (x 0))]) hx hb dL_promises_232 hl (by decide) rfl (fun ls hl => ?_)
                refine lv_iload hx hb dL_promises_234 (lv_at hl 4 rfl) ?_
                refine lv_aload_n hx hb dL_promises_236 rfl (lv_at hl 9 rfl) ?_
                refine lv_iload hx hb dL_promises_237 (lv_at hl 1 rfl) ?_
                refine wi_iconst hx hb dL_promises_239 ?_
                have hPc := fl_P (S' := [mnW x a sv o rd bu ln, stW cI a σ]) hP [0, 1] rfl
                refine wr_calli (va_runV (As := [.int (iI (w9)), .int (iI (1))]) (rest := [.int (iI (se))]) ⟨hx, hb, hml, hown, hts⟩ (c_X4_owner l D cI cO cC cL x a sv o rd bu ln σ (w9) (1) (by first | assumption | omega) (by first | assumption | omega) (by first | assumption | omega)) (cwV 2 hts gL_promises_X4_owner rfl rfl rfl (by decide +kernel) ⟨Nat.le_of_ble_eq_true rfl, Nat.le_of_ble_eq_true rfl⟩) ⟨pcR_blind, va_recv hK hPc (ci := 4) (q0 := 0) rfl rfl, pcR_of hPc hK⟩ rfl rfl hl.1 rfl (lv_room (Nat.le_of_ble_eq_true rfl)) dL_promises_240 ⟨(Nat.zero_le _), (Nat.zero_le _)⟩) (fun r12 hr12 => ?_)
                subst hr12
                refine wi_top (y := (σ 10 w9)) rfl ?_
                refine wi_iadd hx hb dL_promises_243 ?_
                refine lv_istore (lv' := [(6, .int (iI ((se + (σ 10 w9))))), (5, .int (iI ((al + (ofN σ w9))))), (9, .int (iI (w9))), (8, .int (iI (la))), (7, .int (iI (ca))), (4, .int (iI (1))), (3, .int (iI (fi))), (2, .int (iI (tr))), (1, .int (iI ((σ 0 1)))), (0, .ref (x 0))]) hx hb dL_promises_244 hl (by decide) rfl (fun ls hl => ?_)
                refine lv_iload hx hb dL_promises_246 (lv_at hl 4 rfl) ?_
                refine lv_aload_n hx hb dL_promises_248 rfl (lv_at hl 9 rfl) ?_
                refine lv_iload hx hb dL_promises_249 (lv_at hl 2 rfl) ?_
                refine wi_iconst hx hb dL_promises_251 ?_
                have hPc := fl_P (S' := [mnW x a sv o rd bu ln, stW cI a σ]) hP [0, 1] rfl
                refine wr_calli (va_runV (As := [.int (iI (w9)), .int (iI (2))]) (rest := [.int (iI (ca))]) ⟨hx, hb, hml, hown, hts⟩ (c_X4_owner l D cI cO cC cL x a sv o rd bu ln σ (w9) (2) (by first | assumption | omega) (by first | assumption | omega) (by first | assumption | omega)) (cwV 2 hts gL_promises_X4_owner rfl rfl rfl (by decide +kernel) ⟨Nat.le_of_ble_eq_true rfl, Nat.le_of_ble_eq_true rfl⟩) ⟨pcR_blind, va_recv hK hPc (ci := 4) (q0 := 0) rfl rfl, pcR_of hPc hK⟩ rfl rfl hl.1 rfl (lv_room (Nat.le_of_ble_eq_true rfl)) dL_promises_252 ⟨(Nat.zero_le _), (Nat.zero_le _)⟩) (fun r13 hr13 => ?_)
                subst hr13
                refine wi_top (y := (σ 11 w9)) rfl ?_
                refine wi_iadd hx hb dL_promises_255 ?_
                refine lv_istore (lv' := [(7, .int (iI ((ca + (σ 11 w9))))), (6, .int (iI ((se + (σ 10 w9))))), (5, .int (iI ((al + (ofN σ w9))))), (9, .int (iI (w9))), (8, .int (iI (la))), (4, .int (iI (1))), (3, .int (iI (fi))), (2, .int (iI (tr))), (1, .int (iI ((σ 0 1)))), (0, .ref (x 0))]) hx hb dL_promises_256 hl (by decide) rfl (fun ls hl => ?_)
                refine lv_iload hx hb dL_promises_258 (lv_at hl 4 rfl) ?_
                refine lv_aload_n hx hb dL_promises_260 rfl (lv_at hl 9 rfl) ?_
                refine lv_iload hx hb dL_promises_261 (lv_at hl 3 rfl) ?_
                refine wi_iconst hx hb dL_promises_263 ?_
                have hPc := fl_P (S' := [mnW x a sv o rd bu ln, stW cI a σ]) hP [0, 1] rfl
                refine wr_calli (va_runV (As := [.int (iI (w9)), .int (iI (3))]) (rest := [.int (iI (la))]) ⟨hx, hb, hml, hown, hts⟩ (c_X4_owner l D cI cO cC cL x a sv o rd bu ln σ (w9) (3) (by first | assumption | omega) (by first | assumption | omega) (by first | assumption | omega)) (cwV 2 hts gL_promises_X4_owner rfl rfl rfl (by decide +kernel) ⟨Nat.le_of_ble_eq_true rfl, Nat.le_of_ble_eq_true rfl⟩) ⟨pcR_blind, va_recv hK hPc (ci := 4) (q0 := 0) rfl rfl, pcR_of hPc hK⟩ rfl rfl hl.1 rfl (lv_room (Nat.le_of_ble_eq_true rfl)) dL_promises_264 ⟨(Nat.zero_le _), (Nat.zero_le _)⟩) (fun r14 hr14 => ?_)
                subst hr14
                refine wi_top (y := (σ 12 w9)) rfl ?_
                refine wi_iadd hx hb dL_promises_267 ?_
                refine lv_istore (lv' := [(8, .int (iI ((la + (σ 12 w9))))), (7, .int (iI ((ca + (σ 11 w9))))), (6, .int (iI ((se + (σ 10 w9))))), (5, .int (iI ((al + (ofN σ w9))))), (9, .int (iI (w9))), (4, .int (iI (1))), (3, .int (iI (fi))), (2, .int (iI (tr))), (1, .int (iI ((σ 0 1)))), (0, .ref (x 0))]) hx hb dL_promises_268 hl (by decide) rfl (fun ls hl => ?_)
                refine lv_iload hx hb dL_promises_270 (lv_at hl 5 rfl) ?_
                refine wi_if_eq (tgt := 296) hx hb dL_promises_272 (by decide) (by omega) (fun c_272 => ?_) (fun c_272 => ?_)
                · skip
                  exfalso; omega
                · skip
                  refine lv_aload_n hx hb dL_promises_275 rfl (lv_at hl 9 rfl) ?_
                  refine lv_iload hx hb dL_promises_276 (lv_at hl 4 rfl) ?_
                  refine wi_iconst hx hb dL_promises_278 ?_
                  have hPc := fl_P (S' := [mnW x a sv o rd bu ln, stW cI a σ]) hP [0, 1] rfl
                  refine wr_calli (va_runV (As := [.int (iI (w9)), .int (iI (4))]) (rest := []) ⟨hx, hb, hml, hown, hts⟩ (c_X4_owner l D cI cO cC cL x a sv o rd bu ln σ (w9) (4) (by first | assumption | omega) (by first | assumption | omega) (by first | assumption | omega)) (cwV 2 hts gL_promises_X4_owner rfl rfl rfl (by decide +kernel) ⟨Nat.le_of_ble_eq_true rfl, Nat.le_of_ble_eq_true rfl⟩) ⟨pcR_blind, va_recv hK hPc (ci := 4) (q0 := 0) rfl rfl, pcR_of hPc hK⟩ rfl rfl hl.1 rfl (lv_room (Nat.le_of_ble_eq_true rfl)) dL_promises_279 ⟨(Nat.zero_le _), (Nat.zero_le _)⟩) (fun r15 hr15 => ?_)
                  subst hr15
                  refine wi_top (y := (ofSz σ w9)) rfl ?_
                  refine lv_aload_n hx hb dL_promises_282 rfl (lv_at hl 9 rfl) ?_
                  refine lv_iload hx hb dL_promises_283 (lv_at hl 4 rfl) ?_
                  refine wi_iconst hx hb dL_promises_285 ?_
                  have hPc := fl_P (S' := [mnW x a sv o rd bu ln, stW cI a σ]) hP [0, 1] rfl
                  refine wr_calli (va_runV (As := [.int (iI (w9)), .int (iI (0))]) (rest := [.int (iI ((ofSz σ w9)))]) ⟨hx, hb, hml, hown, hts⟩ (c_X4_owner l D cI cO cC cL x a sv o rd bu ln σ (w9) (0) (by first | assumption | omega) (by first | assumption | omega) (by first | assumption | omega)) (cwV 2 hts gL_promises_X4_owner rfl rfl rfl (by decide +kernel) ⟨Nat.le_of_ble_eq_true rfl, Nat.le_of_ble_eq_true rfl⟩) ⟨pcR_blind, va_recv hK hPc (ci := 4) (q0 := 0) rfl rfl, pcR_of hPc hK⟩ rfl rfl hl.1 rfl (lv_room (Nat.le_of_ble_eq_true rfl)) dL_promises_286 ⟨(Nat.zero_le _), (Nat.zero_le _)⟩) (fun r16 hr16 => ?_)
                  subst hr16
                  refine wi_top (y := (ofN σ w9)) rfl ?_
                  refine wi_icmp_lt (tgt := 296) hx hb dL_promises_289 (by decide) (by omega) (fun c_289 => ?_) (fun c_289 => ?_)
                  · skip
                    exfalso; omega
                  · skip
                    refine wi_iconst hx hb dL_promises_292 ?_
                    refine lv_goto (tgt := 297) hx hb dL_promises_293 (by decide) ?_
                    refine lv_istore (lv' := [(4, .int (iI (1))), (8, .int (iI ((la + (σ 12 w9))))), (7, .int (iI ((ca + (σ 11 w9))))), (6, .int (iI ((se + (σ 10 w9))))), (5, .int (iI ((al + (ofN σ w9))))), (9, .int (iI (w9))), (3, .int (iI (fi))), (2, .int (iI (tr))), (1, .int (iI ((σ 0 1)))), (0, .ref (x 0))]) hx hb dL_promises_297 hl (by decide) rfl (fun ls hl => ?_)
                    refine wi_iinc (lv' := [(9, .int (iI ((w9 + 1)))), (4, .int (iI (1))), (8, .int (iI ((la + (σ 12 w9))))), (7, .int (iI ((ca + (σ 11 w9))))), (6, .int (iI ((se + (σ 10 w9))))), (5, .int (iI ((al + (ofN σ w9))))), (3, .int (iI (fi))), (2, .int (iI (tr))), (1, .int (iI ((σ 0 1)))), (0, .ref (x 0))]) hx hb dL_promises_299 hl (k := 5) rfl (by decide) rfl (fun ls hl => ?_)
                    refine lv_goto (tgt := 215) hx hb dL_promises_302 (by decide) ?_
                    exact ih215 ((w9 + 1)) ((al + (ofN σ w9))) ((se + (σ 10 w9))) ((ca + (σ 11 w9))) ((la + (σ 12 w9))) (by omega) (by omega) (by rw [sm_step (by omega), ← hal]) (by rw [sm_step (by omega), ← hse]) (by rw [sm_step (by omega), ← hca]) (by rw [sm_step (by omega), ← hla])  ls (lv_sub hl [0, 2, 3, 4, 5, 1, 6, 7, 8, 9] rfl)
          exact L215 _ (0) (0) (0) (0) (0) (Nat.lt_succ_self _) (by omega) (rfl) (rfl) (rfl) (rfl)  ls (lv_sub hl [0, 1, 2, 3, 4, 5, 6, 7, 8, 9] rfl)
        · skip
          refine lv_iload hx hb dL_promises_60 (lv_at hl 1 rfl) ?_
          refine wi_if_eq (tgt := 200) hx hb dL_promises_62 (by decide) (by omega) (fun c_62 => ?_) (fun c_62 => ?_)
          · skip
            exfalso; omega
          · skip
            have hpr := hI.pr (p := p) (by omega) (by omega)
            obtain ⟨hp1, hp2, hp3, hp4, hp5⟩ := id hpr
            refine lv_aload_n hx hb dL_promises_65 rfl (lv_at hl 5 rfl) ?_
            refine lv_iload hx hb dL_promises_66 (lv_at hl 0 rfl) ?_
            refine wi_iconst hx hb dL_promises_68 ?_
            have hPc := fl_P (S' := [mnW x a sv o rd bu ln, stW cI a σ]) hP [0, 1] rfl
            refine wr_calli (va_runV (As := [.int (iI (p)), .int (iI (4))]) (rest := []) ⟨hx, hb, hml, hown, hts⟩ (c_X4_promiseOf l D cI cO cC cL x a sv o rd bu ln σ (p) (4) (by first | assumption | omega) (by first | assumption | omega) (by first | assumption | omega)) (cwV 2 hts gL_promises_X4_promiseOf rfl rfl rfl (by decide +kernel) ⟨Nat.le_of_ble_eq_true rfl, Nat.le_of_ble_eq_true rfl⟩) ⟨pcR_blind, va_recv hK hPc (ci := 4) (q0 := 0) rfl rfl, pcR_of hPc hK⟩ rfl rfl hl.1 rfl (lv_room (Nat.le_of_ble_eq_true rfl)) dL_promises_69 ⟨(Nat.zero_le _), (Nat.zero_le _)⟩) (fun r17 hr17 => ?_)
            subst hr17
            refine wi_top (y := (σ 9 p)) rfl ?_
            refine lv_istore (lv' := [(6, .int (iI ((σ 9 p)))), (5, .int (iI (p))), (4, .int (iI (1))), (3, .int (iI (fi))), (2, .int (iI (tr))), (1, .int (iI ((σ 0 1)))), (0, .ref (x 0))]) hx hb dL_promises_72 hl (by decide) rfl (fun ls hl => ?_)
            refine lv_iload hx hb dL_promises_74 (lv_at hl 0 rfl) ?_
            refine lv_aload_n hx hb dL_promises_76 rfl (lv_at hl 6 rfl) ?_
            refine wi_iconst hx hb dL_promises_77 ?_
            refine wr_calli (va_runV (As := [.int (iI (0))]) (rest := [.int (iI ((σ 9 p)))]) ⟨hx, hb, hml, hown, hts⟩ (c_X4_count l D cI cO cC cL x a sv o rd bu ln σ κ fs (0) (by first | assumption | omega) (by first | assumption | omega)) (cwV 1 hts gL_promises_X4_count rfl rfl rfl (by decide +kernel) ⟨Nat.le_of_ble_eq_true rfl, Nat.le_of_ble_eq_true rfl⟩) ⟨pcR_blind, va_recv hK hP (ci := 4) (q0 := 0) rfl rfl, pcR_of hP hK⟩ rfl rfl hl.1 rfl (lv_room (Nat.le_of_ble_eq_true rfl)) dL_promises_78 ⟨(Nat.zero_le _), (Nat.zero_le _)⟩) (fun r18 hr18 => ?_)
            subst hr18
            refine wi_top (y := (cntS σ (κ 0 0) (0))) rfl ?_
            refine wi_top (y := (σ 0 0)) rfl ?_
            refine wi_icmp_le (tgt := 154) hx hb dL_promises_81 (by decide) (by omega) (fun c_81 => ?_) (fun c_81 => ?_)
            · skip
              exfalso; omega
            · skip
              refine lv_aload_n hx hb dL_promises_84 rfl (lv_at hl 6 rfl) ?_
              refine lv_iload hx hb dL_promises_85 (lv_at hl 1 rfl) ?_
              refine wi_iconst hx hb dL_promises_87 ?_
              have hPc := fl_P (S' := [mnW x a sv o rd bu ln, stW cI a σ]) hP [0, 1] rfl
              refine wr_calli (va_runV (As := [.int (iI (p)), .int (iI (5))]) (rest := []) ⟨hx, hb, hml, hown, hts⟩ (c_X4_promiseOf l D cI cO cC cL x a sv o rd bu ln σ (p) (5) (by first | assumption | omega) (by first | assumption | omega) (by first | assumption | omega)) (cwV 2 hts gL_promises_X4_promiseOf rfl rfl rfl (by decide +kernel) ⟨Nat.le_of_ble_eq_true rfl, Nat.le_of_ble_eq_true rfl⟩) ⟨pcR_blind, va_recv hK hPc (ci := 4) (q0 := 0) rfl rfl, pcR_of hPc hK⟩ rfl rfl hl.1 rfl (lv_room (Nat.le_of_ble_eq_true rfl)) dL_promises_88 ⟨(Nat.zero_le _), (Nat.zero_le _)⟩) (fun r19 hr19 => ?_)
              subst hr19
              refine wi_top (y := (σ 9 p - σ 0 0)) rfl ?_
              refine lv_iload hx hb dL_promises_91 (lv_at hl 0 rfl) ?_
              refine lv_aload_n hx hb dL_promises_93 rfl (lv_at hl 6 rfl) ?_
              refine wi_iconst hx hb dL_promises_94 ?_
              refine wr_calli (va_runV (As := [.int (iI (0))]) (rest := [.int (iI ((σ 9 p))), .int (iI ((σ 9 p - σ 0 0)))]) ⟨hx, hb, hml, hown, hts⟩ (c_X4_count l D cI cO cC cL x a sv o rd bu ln σ κ fs (0) (by first | assumption | omega) (by first | assumption | omega)) (cwV 1 hts gL_promises_X4_count rfl rfl rfl (by decide +kernel) ⟨Nat.le_of_ble_eq_true rfl, Nat.le_of_ble_eq_true rfl⟩) ⟨pcR_blind, va_recv hK hP (ci := 4) (q0 := 0) rfl rfl, pcR_of hP hK⟩ rfl rfl hl.1 rfl (lv_room (Nat.le_of_ble_eq_true rfl)) dL_promises_95 ⟨(Nat.zero_le _), (Nat.zero_le _)⟩) (fun r20 hr20 => ?_)
              subst hr20
              refine wi_top (y := (cntS σ (κ 0 0) (0))) rfl ?_
              refine wi_top (y := (σ 0 0)) rfl ?_
              refine wi_isub hx hb dL_promises_98 ?_
              refine wi_icmp_ne_e (tgt := 154) hx hb dL_promises_99 (by decide) (rfl) ?_
              refine lv_aload_n hx hb dL_promises_102 rfl (lv_at hl 6 rfl) ?_
              refine lv_iload hx hb dL_promises_103 (lv_at hl 1 rfl) ?_
              refine wi_iconst hx hb dL_promises_105 ?_
              have hPc := fl_P (S' := [mnW x a sv o rd bu ln, stW cI a σ]) hP [0, 1] rfl
              refine wr_calli (va_runV (As := [.int (iI (p)), .int (iI (2))]) (rest := []) ⟨hx, hb, hml, hown, hts⟩ (c_X4_promiseOf l D cI cO cC cL x a sv o rd bu ln σ (p) (2) (by first | assumption | omega) (by first | assumption | omega) (by first | assumption | omega)) (cwV 2 hts gL_promises_X4_promiseOf rfl rfl rfl (by decide +kernel) ⟨Nat.le_of_ble_eq_true rfl, Nat.le_of_ble_eq_true rfl⟩) ⟨pcR_blind, va_recv hK hPc (ci := 4) (q0 := 0) rfl rfl, pcR_of hPc hK⟩ rfl rfl hl.1 rfl (lv_room (Nat.le_of_ble_eq_true rfl)) dL_promises_106 ⟨(Nat.zero_le _), (Nat.zero_le _)⟩) (fun r21 hr21 => ?_)
              subst hr21
              refine wi_top (y := (σ 7 p)) rfl ?_
              refine wi_if_eq (tgt := 154) hx hb dL_promises_109 (by decide) (by omega) (fun c_109 => ?_) (fun c_109 => ?_)
              · skip
                exfalso; omega
              · skip
                refine lv_aload_n hx hb dL_promises_112 rfl (lv_at hl 6 rfl) ?_
                refine lv_iload hx hb dL_promises_113 (lv_at hl 1 rfl) ?_
                refine wi_iconst hx hb dL_promises_115 ?_
                have hPc := fl_P (S' := [mnW x a sv o rd bu ln, stW cI a σ]) hP [0, 1] rfl
                refine wr_calli (va_runV (As := [.int (iI (p)), .int (iI (1))]) (rest := []) ⟨hx, hb, hml, hown, hts⟩ (c_X4_promiseOf l D cI cO cC cL x a sv o rd bu ln σ (p) (1) (by first | assumption | omega) (by first | assumption | omega) (by first | assumption | omega)) (cwV 2 hts gL_promises_X4_promiseOf rfl rfl rfl (by decide +kernel) ⟨Nat.le_of_ble_eq_true rfl, Nat.le_of_ble_eq_true rfl⟩) ⟨pcR_blind, va_recv hK hPc (ci := 4) (q0 := 0) rfl rfl, pcR_of hPc hK⟩ rfl rfl hl.1 rfl (lv_room (Nat.le_of_ble_eq_true rfl)) dL_promises_116 ⟨(Nat.zero_le _), (Nat.zero_le _)⟩) (fun r22 hr22 => ?_)
                subst hr22
                refine wi_top (y := (σ 6 p)) rfl ?_
                refine lv_aload_n hx hb dL_promises_119 rfl (lv_at hl 6 rfl) ?_
                refine lv_iload hx hb dL_promises_120 (lv_at hl 1 rfl) ?_
                refine wi_iconst hx hb dL_promises_122 ?_
                have hPc := fl_P (S' := [mnW x a sv o rd bu ln, stW cI a σ]) hP [0, 1] rfl
                refine wr_calli (va_runV (As := [.int (iI (p)), .int (iI (3))]) (rest := [.int (iI ((σ 6 p)))]) ⟨hx, hb, hml, hown, hts⟩ (c_X4_promiseOf l D cI cO cC cL x a sv o rd bu ln σ (p) (3) (by first | assumption | omega) (by first | assumption | omega) (by first | assumption | omega)) (cwV 2 hts gL_promises_X4_promiseOf rfl rfl rfl (by decide +kernel) ⟨Nat.le_of_ble_eq_true rfl, Nat.le_of_ble_eq_true rfl⟩) ⟨pcR_blind, va_recv hK hPc (ci := 4) (q0 := 0) rfl rfl, pcR_of hPc hK⟩ rfl rfl hl.1 rfl (lv_room (Nat.le_of_ble_eq_true rfl)) dL_promises_123 ⟨(Nat.zero_le _), (Nat.zero_le _)⟩) (fun r23 hr23 => ?_)
                subst hr23
                refine wi_top (y := (σ 8 p)) rfl ?_
                refine wi_icmp_eq (tgt := 154) hx hb dL_promises_126 (by decide) (by omega) (fun c_126 => ?_) (fun c_126 => ?_)
                · skip
                  exfalso; omega
                · skip
                  refine lv_aload_n hx hb dL_promises_129 rfl (lv_at hl 6 rfl) ?_
                  refine lv_iload hx hb dL_promises_130 (lv_at hl 1 rfl) ?_
                  refine wi_iconst hx hb dL_promises_132 ?_
                  have hPc := fl_P (S' := [mnW x a sv o rd bu ln, stW cI a σ]) hP [0, 1] rfl
                  refine wr_calli (va_runV (As := [.int (iI (p)), .int (iI (3))]) (rest := []) ⟨hx, hb, hml, hown, hts⟩ (c_X4_promiseOf l D cI cO cC cL x a sv o rd bu ln σ (p) (3) (by first | assumption | omega) (by first | assumption | omega) (by first | assumption | omega)) (cwV 2 hts gL_promises_X4_promiseOf rfl rfl rfl (by decide +kernel) ⟨Nat.le_of_ble_eq_true rfl, Nat.le_of_ble_eq_true rfl⟩) ⟨pcR_blind, va_recv hK hPc (ci := 4) (q0 := 0) rfl rfl, pcR_of hPc hK⟩ rfl rfl hl.1 rfl (lv_room (Nat.le_of_ble_eq_true rfl)) dL_promises_133 ⟨(Nat.zero_le _), (Nat.zero_le _)⟩) (fun r24 hr24 => ?_)
                  subst hr24
                  refine wi_top (y := (σ 8 p)) rfl ?_
                  refine wi_iconst hx hb dL_promises_136 ?_
                  refine wi_icmp_eq (tgt := 150) hx hb dL_promises_137 (by decide) (by omega) (fun c_137 => ?_) (fun c_137 => ?_)
                  · skip
                    refine wi_iconst hx hb dL_promises_150 ?_
                    refine lv_goto (tgt := 155) hx hb dL_promises_151 (by decide) ?_
                    refine lv_istore (lv' := [(4, .int (iI (1))), (6, .int (iI ((σ 9 p)))), (5, .int (iI (p))), (3, .int (iI (fi))), (2, .int (iI (tr))), (1, .int (iI ((σ 0 1)))), (0, .ref (x 0))]) hx hb dL_promises_155 hl (by decide) rfl (fun ls hl => ?_)
                    refine lv_iload_n hx hb dL_promises_157 rfl (lv_at hl 4 rfl) ?_
                    refine lv_aload_n hx hb dL_promises_158 rfl (lv_at hl 6 rfl) ?_
                    refine lv_iload hx hb dL_promises_159 (lv_at hl 2 rfl) ?_
                    refine wi_iconst hx hb dL_promises_161 ?_
                    have hPc := fl_P (S' := [mnW x a sv o rd bu ln, stW cI a σ]) hP [0, 1] rfl
                    refine wr_calli (va_runV (As := [.int (iI (p)), .int (iI (3))]) (rest := [.int (iI (tr))]) ⟨hx, hb, hml, hown, hts⟩ (c_X4_promiseOf l D cI cO cC cL x a sv o rd bu ln σ (p) (3) (by first | assumption | omega) (by first | assumption | omega) (by first | assumption | omega)) (cwV 2 hts gL_promises_X4_promiseOf rfl rfl rfl (by decide +kernel) ⟨Nat.le_of_ble_eq_true rfl, Nat.le_of_ble_eq_true rfl⟩) ⟨pcR_blind, va_recv hK hPc (ci := 4) (q0 := 0) rfl rfl, pcR_of hPc hK⟩ rfl rfl hl.1 rfl (lv_room (Nat.le_of_ble_eq_true rfl)) dL_promises_162 ⟨(Nat.zero_le _), (Nat.zero_le _)⟩) (fun r25 hr25 => ?_)
                    subst hr25
                    refine wi_top (y := (σ 8 p)) rfl ?_
                    refine wi_iconst hx hb dL_promises_165 ?_
                    refine wi_icmp_ne (tgt := 173) hx hb dL_promises_166 (by decide) (by omega) (fun c_166 => ?_) (fun c_166 => ?_)
                    · skip
                      exfalso; omega
                    · skip
                      refine wi_iconst hx hb dL_promises_169 ?_
                      refine lv_goto (tgt := 174) hx hb dL_promises_170 (by decide) ?_
                      refine wi_iadd hx hb dL_promises_174 ?_
                      refine lv_istore_n (lv' := [(2, .int (iI ((tr + 0)))), (4, .int (iI (1))), (6, .int (iI ((σ 9 p)))), (5, .int (iI (p))), (3, .int (iI (fi))), (1, .int (iI ((σ 0 1)))), (0, .ref (x 0))]) hx hb dL_promises_175 rfl hl (by decide) rfl (fun ls hl => ?_)
                      refine lv_iload_n hx hb dL_promises_176 rfl (lv_at hl 4 rfl) ?_
                      refine wi_iconst hx hb dL_promises_177 ?_
                      refine wi_icmp_eq (tgt := 187) hx hb dL_promises_178 (by decide) (by omega) (fun c_178 => ?_) (fun c_178 => ?_)
                      · skip
                        refine lv_iload hx hb dL_promises_187 (lv_at hl 2 rfl) ?_
                        refine lv_goto (tgt := 193) hx hb dL_promises_189 (by decide) ?_
                        refine lv_istore_n (lv' := [(3, .int (iI ((σ 9 p)))), (2, .int (iI ((tr + 0)))), (4, .int (iI (1))), (6, .int (iI ((σ 9 p)))), (5, .int (iI (p))), (1, .int (iI ((σ 0 1)))), (0, .ref (x 0))]) hx hb dL_promises_193 rfl hl (by decide) rfl (fun ls hl => ?_)
                        refine wi_iinc (lv' := [(5, .int (iI ((p + 1)))), (3, .int (iI ((σ 9 p)))), (2, .int (iI ((tr + 0)))), (4, .int (iI (1))), (6, .int (iI ((σ 9 p)))), (1, .int (iI ((σ 0 1)))), (0, .ref (x 0))]) hx hb dL_promises_194 hl (k := 4) rfl (by decide) rfl (fun ls hl => ?_)
                        refine lv_goto (tgt := 54) hx hb dL_promises_197 (by decide) ?_
                        exact ih54 ((p + 1)) ((tr + 0)) ((σ 9 p)) (by omega) (by omega) (by rw [sm_step (by omega), ← htr]; first | rw [if_pos (by omega)] | rw [if_neg (by omega)]) (by rw [fL_step (by omega), ← hfi]; first | rw [if_pos (by omega)] | rw [if_neg (by omega)]) (by omega)  ls (lv_sub hl [0, 3, 1, 2, 5, 6] rfl)
                      · skip
                        refine lv_iload hx hb dL_promises_181 (lv_at hl 2 rfl) ?_
                        refine lv_iload_n hx hb dL_promises_183 rfl (lv_at hl 4 rfl) ?_
                        refine wi_icmp_ge (tgt := 192) hx hb dL_promises_184 (by decide) (by omega) (fun c_184 => ?_) (fun c_184 => ?_)
                        · skip
                          refine lv_iload_n hx hb dL_promises_192 rfl (lv_at hl 4 rfl) ?_
                          refine lv_istore_n (lv' := [(3, .int (iI (fi))), (2, .int (iI ((tr + 0)))), (4, .int (iI (1))), (6, .int (iI ((σ 9 p)))), (5, .int (iI (p))), (1, .int (iI ((σ 0 1)))), (0, .ref (x 0))]) hx hb dL_promises_193 rfl hl (by decide) rfl (fun ls hl => ?_)
                          refine wi_iinc (lv' := [(5, .int (iI ((p + 1)))), (3, .int (iI (fi))), (2, .int (iI ((tr + 0)))), (4, .int (iI (1))), (6, .int (iI ((σ 9 p)))), (1, .int (iI ((σ 0 1)))), (0, .ref (x 0))]) hx hb dL_promises_194 hl (k := 4) rfl (by decide) rfl (fun ls hl => ?_)
                          refine lv_goto (tgt := 54) hx hb dL_promises_197 (by decide) ?_
                          exact ih54 ((p + 1)) ((tr + 0)) (fi) (by omega) (by omega) (by rw [sm_step (by omega), ← htr]; first | rw [if_pos (by omega)] | rw [if_neg (by omega)]) (by rw [fL_step (by omega), ← hfi]; first | rw [if_pos (by omega)] | rw [if_neg (by omega)]) (by omega)  ls (lv_sub hl [0, 3, 1, 2, 5, 6] rfl)
                        · skip
                          refine lv_iload hx hb dL_promises_187 (lv_at hl 2 rfl) ?_
                          refine lv_goto (tgt := 193) hx hb dL_promises_189 (by decide) ?_
                          refine lv_istore_n (lv' := [(3, .int (iI ((σ 9 p)))), (2, .int (iI ((tr + 0)))), (4, .int (iI (1))), (6, .int (iI ((σ 9 p)))), (5, .int (iI (p))), (1, .int (iI ((σ 0 1)))), (0, .ref (x 0))]) hx hb dL_promises_193 rfl hl (by decide) rfl (fun ls hl => ?_)
                          refine wi_iinc (lv' := [(5, .int (iI ((p + 1)))), (3, .int (iI ((σ 9 p)))), (2, .int (iI ((tr + 0)))), (4, .int (iI (1))), (6, .int (iI ((σ 9 p)))), (1, .int (iI ((σ 0 1)))), (0, .ref (x 0))]) hx hb dL_promises_194 hl (k := 4) rfl (by decide) rfl (fun ls hl => ?_)
                          refine lv_goto (tgt := 54) hx hb dL_promises_197 (by decide) ?_
                          exact ih54 ((p + 1)) ((tr + 0)) ((σ 9 p)) (by omega) (by omega) (by rw [sm_step (by omega), ← htr]; first | rw [if_pos (by omega)] | rw [if_neg (by omega)]) (by rw [fL_step (by omega), ← hfi]; first | rw [if_pos (by omega)] | rw [if_neg (by omega)]) (by omega)  ls (lv_sub hl [0, 3, 1, 2, 5, 6] rfl)
                  · skip
                    refine lv_aload_n hx hb dL_promises_140 rfl (lv_at hl 6 rfl) ?_
                    refine lv_iload hx hb dL_promises_141 (lv_at hl 1 rfl) ?_
                    refine wi_iconst hx hb dL_promises_143 ?_
                    have hPc := fl_P (S' := [mnW x a sv o rd bu ln, stW cI a σ]) hP [0, 1] rfl
                    refine wr_calli (va_runV (As := [.int (iI (p)), .int (iI (2))]) (rest := []) ⟨hx, hb, hml, hown, hts⟩ (c_X4_promiseOf l D cI cO cC cL x a sv o rd bu ln σ (p) (2) (by first | assumption | omega) (by first | assumption | omega) (by first | assumption | omega)) (cwV 2 hts gL_promises_X4_promiseOf rfl rfl rfl (by decide +kernel) ⟨Nat.le_of_ble_eq_true rfl, Nat.le_of_ble_eq_true rfl⟩) ⟨pcR_blind, va_recv hK hPc (ci := 4) (q0 := 0) rfl rfl, pcR_of hPc hK⟩ rfl rfl hl.1 rfl (lv_room (Nat.le_of_ble_eq_true rfl)) dL_promises_144 ⟨(Nat.zero_le _), (Nat.zero_le _)⟩) (fun r26 hr26 => ?_)
                    subst hr26
                    refine wi_top (y := (σ 7 p)) rfl ?_
                    refine wi_if_ge (tgt := 154) hx hb dL_promises_147 (by decide) (by omega) (fun c_147 => ?_) (fun c_147 => ?_)
                    · skip
                      exfalso; omega
                    · skip
                      refine wi_iconst hx hb dL_promises_150 ?_
                      refine lv_goto (tgt := 155) hx hb dL_promises_151 (by decide) ?_
                      refine lv_istore (lv' := [(4, .int (iI (1))), (6, .int (iI ((σ 9 p)))), (5, .int (iI (p))), (3, .int (iI (fi))), (2, .int (iI (tr))), (1, .int (iI ((σ 0 1)))), (0, .ref (x 0))]) hx hb dL_promises_155 hl (by decide) rfl (fun ls hl => ?_)
                      refine lv_iload_n hx hb dL_promises_157 rfl (lv_at hl 4 rfl) ?_
                      refine lv_aload_n hx hb dL_promises_158 rfl (lv_at hl 6 rfl) ?_
                      refine lv_iload hx hb dL_promises_159 (lv_at hl 2 rfl) ?_
                      refine wi_iconst hx hb dL_promises_161 ?_
                      have hPc := fl_P (S' := [mnW x a sv o rd bu ln, stW cI a σ]) hP [0, 1] rfl
                      refine wr_calli (va_runV (As := [.int (iI (p)), .int (iI (3))]) (rest := [.int (iI (tr))]) ⟨hx, hb, hml, hown, hts⟩ (c_X4_promiseOf l D cI cO cC cL x a sv o rd bu ln σ (p) (3) (by first | assumption | omega) (by first | assumption | omega) (by first | assumption | omega)) (cwV 2 hts gL_promises_X4_promiseOf rfl rfl rfl (by decide +kernel) ⟨Nat.le_of_ble_eq_true rfl, Nat.le_of_ble_eq_true rfl⟩) ⟨pcR_blind, va_recv hK hPc (ci := 4) (q0 := 0) rfl rfl, pcR_of hPc hK⟩ rfl rfl hl.1 rfl (lv_room (Nat.le_of_ble_eq_true rfl)) dL_promises_162 ⟨(Nat.zero_le _), (Nat.zero_le _)⟩) (fun r27 hr27 => ?_)
                      subst hr27
                      refine wi_top (y := (σ 8 p)) rfl ?_
                      refine wi_iconst hx hb dL_promises_165 ?_
                      refine wi_icmp_ne (tgt := 173) hx hb dL_promises_166 (by decide) (by omega) (fun c_166 => ?_) (fun c_166 => ?_)
                      · skip
                        refine wi_iconst hx hb dL_promises_173 ?_
                        refine wi_iadd hx hb dL_promises_174 ?_
                        refine lv_istore_n (lv' := [(2, .int (iI ((tr + 1)))), (4, .int (iI (1))), (6, .int (iI ((σ 9 p)))), (5, .int (iI (p))), (3, .int (iI (fi))), (1, .int (iI ((σ 0 1)))), (0, .ref (x 0))]) hx hb dL_promises_175 rfl hl (by decide) rfl (fun ls hl => ?_)
                        refine lv_iload_n hx hb dL_promises_176 rfl (lv_at hl 4 rfl) ?_
                        refine wi_iconst hx hb dL_promises_177 ?_
                        refine wi_icmp_eq (tgt := 187) hx hb dL_promises_178 (by decide) (by omega) (fun c_178 => ?_) (fun c_178 => ?_)
                        · skip
                          refine lv_iload hx hb dL_promises_187 (lv_at hl 2 rfl) ?_
                          refine lv_goto (tgt := 193) hx hb dL_promises_189 (by decide) ?_
                          refine lv_istore_n (lv' := [(3, .int (iI ((σ 9 p)))), (2, .int (iI ((tr + 1)))), (4, .int (iI (1))), (6, .int (iI ((σ 9 p)))), (5, .int (iI (p))), (1, .int (iI ((σ 0 1)))), (0, .ref (x 0))]) hx hb dL_promises_193 rfl hl (by decide) rfl (fun ls hl => ?_)
                          refine wi_iinc (lv' := [(5, .int (iI ((p + 1)))), (3, .int (iI ((σ 9 p)))), (2, .int (iI ((tr + 1)))), (4, .int (iI (1))), (6, .int (iI ((σ 9 p)))), (1, .int (iI ((σ 0 1)))), (0, .ref (x 0))]) hx hb dL_promises_194 hl (k := 4) rfl (by decide) rfl (fun ls hl => ?_)
                          refine lv_goto (tgt := 54) hx hb dL_promises_197 (by decide) ?_
                          exact ih54 ((p + 1)) ((tr + 1)) ((σ 9 p)) (by omega) (by omega) (by rw [sm_step (by omega), ← htr]; first | rw [if_pos (by omega)] | rw [if_neg (by omega)]) (by rw [fL_step (by omega), ← hfi]; first | rw [if_pos (by omega)] | rw [if_neg (by omega)]) (by omega)  ls (lv_sub hl [0, 3, 1, 2, 5, 6] rfl)
                        · skip
                          refine lv_iload hx hb dL_promises_181 (lv_at hl 2 rfl) ?_
                          refine lv_iload_n hx hb dL_promises_183 rfl (lv_at hl 4 rfl) ?_
                          refine wi_icmp_ge (tgt := 192) hx hb dL_promises_184 (by decide) (by omega) (fun c_184 => ?_) (fun c_184 => ?_)
                          · skip
                            refine lv_iload_n hx hb dL_promises_192 rfl (lv_at hl 4 rfl) ?_
                            refine lv_istore_n (lv' := [(3, .int (iI (fi))), (2, .int (iI ((tr + 1)))), (4, .int (iI (1))), (6, .int (iI ((σ 9 p)))), (5, .int (iI (p))), (1, .int (iI ((σ 0 1)))), (0, .ref (x 0))]) hx hb dL_promises_193 rfl hl (by decide) rfl (fun ls hl => ?_)
                            refine wi_iinc (lv' := [(5, .int (iI ((p + 1)))), (3, .int (iI (fi))), (2, .int (iI ((tr + 1)))), (4, .int (iI (1))), (6, .int (iI ((σ 9 p)))), (1, .int (iI ((σ 0 1)))), (0, .ref (x 0))]) hx hb dL_promises_194 hl (k := 4) rfl (by decide) rfl (fun ls hl => ?_)
                            refine lv_goto (tgt := 54) hx hb dL_promises_197 (by decide) ?_
                            exact ih54 ((p + 1)) ((tr + 1)) (fi) (by omega) (by omega) (by rw [sm_step (by omega), ← htr]; first | rw [if_pos (by omega)] | rw [if_neg (by omega)]) (by rw [fL_step (by omega), ← hfi]; first | rw [if_pos (by omega)] | rw [if_neg (by omega)]) (by omega)  ls (lv_sub hl [0, 3, 1, 2, 5, 6] rfl)
                          · skip
                            refine lv_iload hx hb dL_promises_187 (lv_at hl 2 rfl) ?_
                            refine lv_goto (tgt := 193) hx hb dL_promises_189 (by decide) ?_
                            refine lv_istore_n (lv' := [(3, .int (iI ((σ 9 p)))), (2, .int (iI ((tr + 1)))), (4, .int (iI (1))), (6, .int (iI ((σ 9 p)))), (5, .int (iI (p))), (1, .int (iI ((σ 0 1)))), (0, .ref (x 0))]) hx hb dL_promises_193 rfl hl (by decide) rfl (fun ls hl => ?_)
                            refine wi_iinc (lv' := [(5, .int (iI ((p + 1)))), (3, .int (iI ((σ 9 p)))), (2, .int (iI ((tr + 1)))), (4, .int (iI (1))), (6, .int (iI ((σ 9 p)))), (1, .int (iI ((σ 0 1)))), (0, .ref (x 0))]) hx hb dL_promises_194 hl (k := 4) rfl (by decide) rfl (fun ls hl => ?_)
                            refine lv_goto (tgt := 54) hx hb dL_promises_197 (by decide) ?_
                            exact ih54 ((p + 1)) ((tr + 1)) ((σ 9 p)) (by omega) (by omega) (by rw [sm_step (by omega), ← htr]; first | rw [if_pos (by omega)] | rw [if_neg (by omega)]) (by rw [fL_step (by omega), ← hfi]; first | rw [if_pos (by omega)] | rw [if_neg (by omega)]) (by omega)  ls (lv_sub hl [0, 3, 1, 2, 5, 6] rfl)
                      · skip
                        exfalso; omega
    exact L54 _ (0) (0) (-1) (Nat.lt_succ_self _) (by omega) (rfl) (rfl) (by omega)  ls (lv_sub hl [0, 1, 2, 3, 4, 5] rfl)
