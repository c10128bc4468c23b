abbrev lawP (cI cO cC : ClassId) (x a sv o rd bu : Nat → Nat) (ln ρ β : Nat → Int → Int) (u : PS) (φ : Nat → Int → Int) : va_W := fl [mnW x a sv o rd bu ln, stW cI a (PS.σ u), svO cO sv (saF (PS.sa u)) (PS.κ u), stW cI ((PS.sa u) 0) ((PS.ss u) 0), stW cI ((PS.sa u) 1) ((PS.ss u) 1), stW cI ((PS.sa u) 2) ((PS.ss u) 2), stW cI ((PS.sa u) 3) ((PS.ss u) 3), stW cI ((PS.sa u) 4) ((PS.ss u) 4), stW cI ((PS.sa u) 5) ((PS.ss u) 5), ocW cI o φ, rdW rd ρ, bfW cC bu β]
section LAWL
variable {p : Program} {l : Launch} {e : Env} {s : State} {m : MethodId} {args : Array Value} {below : List Frame} {meth : Method} {c : Code} {Q : State → Prop}
variable {D : va_G} {cI cO cC : ClassId} {x a sv o rd bu : Nat → Nat} {ln ρ β : Nat → Int → Int} {sc n9 : Nat} {g : Int → Int} {A : Nat → Prop} {H0 : Heap}
set_option maxHeartbeats 4000000 in
set_option maxRecDepth 100000 in
theorem law_loop (hl9 : l.stackTraces = false) (hx : p.tables.exec = Jvm.exec) (hb : c.code = cL_law) (hlocks : meth.locks = false) (hown : s.vm.findClass RL = some m.cls) (hml : c.maxLocals = 9) (hts : ∀ w ∈ wsL_law, w.before args s = true) (hK : va_K D vwCl [(cI, FieldType.int), (cO, FieldType.object "PromisedCounters$State"), (cC, FieldType.char)] s) (hA : ∀ q : Nat, H0.size ≤ q → A q) (hn9 : n9 ≤ 260) (hZ : ZP A s H0) (hX : va_X sc n9 (rI g) s H0) (hbl : sc < H0.size) (hsc : ¬ A sc) {tu : Int} (htu : 0 ≤ tu ∧ tu ≤ 40 ∧ 4 * tu ≤ (n9 : Int))
    (kend : ∀ (cells slots : Nat) (H : Heap) (locs : List Loc) (ls : Array Slot), cells ≤ 210 → slots ≤ 3435 → va_S A H0 H locs → W p l e ({ frames := 13, cells := 210, slots := 3435, locals := 484 } : Room) s m args below meth c H locs cells slots Q (F0 m 140 ls [.int (iI 1)])) : ∀ (k9 : Nat) (i : Int) (cells slots : Nat) (u : PS) (φ : Nat → Int → Int) (H : Heap) (locs : List Loc) (ls : Array Slot), (tu - i).toNat < k9 → 0 ≤ i ∧ i ≤ tu → (cells : Int) ≤ 98 + i → (slots : Int) ≤ 3000 + 6 * i → G2 (8 * i) (PS.σ u) (PS.κ u 0 0) (PS.ss u) → va_P D vwCl (lawP cI cO cC x a sv o rd bu ln ρ β u φ) H → va_D A (lawP cI cO cC x a sv o rd bu ln ρ β u φ) → va_S A H0 H locs → lv_has ls 9 [(0, .ref (sc)), (1, .ref (x 0)), (2, .int (iI (1))), (3, .int (iI (tu))), (4, .int (iI (i)))] →
      W p l e ({ frames := 13, cells := 210, slots := 3435, locals := 484 } : Room) s m args below meth c H locs cells slots Q (F0 m 32 ls []) := by
  intro k9
  induction k9 with
  | zero =>
    intro i cells slots u φ H locs ls hm
    exact absurd hm (Nat.not_lt_zero _)
  | succ k9 ih =>
    intro i cells slots u φ H locs ls hm hi hc hs hG hP hD hS hl
    have hP : va_P D vwCl (fl [mnW x a sv o rd bu ln, stW cI a (PS.σ u), svO cO sv (saF (PS.sa u)) (PS.κ u), stW cI ((PS.sa u) 0) ((PS.ss u) 0), stW cI ((PS.sa u) 1) ((PS.ss u) 1), stW cI ((PS.sa u) 2) ((PS.ss u) 2), stW cI ((PS.sa u) 3) ((PS.ss u) 3), stW cI ((PS.sa u) 4) ((PS.ss u) 4), stW cI ((PS.sa u) 5) ((PS.ss u) 5), ocW cI o φ, rdW rd ρ, bfW cC bu β]) H := hP
    have hD : va_D A (fl [mnW x a sv o rd bu ln, stW cI a (PS.σ u), svO cO sv (saF (PS.sa u)) (PS.κ u), stW cI ((PS.sa u) 0) ((PS.ss u) 0), stW cI ((PS.sa u) 1) ((PS.ss u) 1), stW cI ((PS.sa u) 2) ((PS.ss u) 2), stW cI ((PS.sa u) 3) ((PS.ss u) 3), stW cI ((PS.sa u) 4) ((PS.ss u) 4), stW cI ((PS.sa u) 5) ((PS.ss u) 5), ocW cI o φ, rdW rd ρ, bfW cC bu β]) := hD
    refine lv_iload hx hb dL_law_32 (lv_at hl 4 rfl) ?_
    refine lv_iload_n hx hb dL_law_34 rfl (lv_at hl 3 rfl) ?_
    refine wi_icmp_ge (tgt := 139) hx hb dL_law_35 (by decide) (by omega) (fun c_35 => ?_) (fun c_35 => ?_)
    · skip
      refine lv_iload_n hx hb dL_law_139 rfl (lv_at hl 2 rfl) ?_
      exact kend cells slots H locs ls (by omega) (by omega) hS
    · skip
      refine lv_iload_n hx hb dL_law_38 rfl (lv_at hl 2 rfl) ?_
      refine wi_if_eq (tgt := 139) hx hb dL_law_39 (by decide) (by omega) (fun c_39 => ?_) (fun c_39 => ?_)
      · skip
        exfalso; omega
      · skip
        refine lv_aload_n hx hb dL_law_42 rfl (lv_at hl 1 rfl) ?_
        refine wi_bipush hx hb dL_law_43 (by decide) ?_
        have hPc := fl_P (S' := [mnW x a sv o rd bu ln, stW cI a (PS.σ u), svO cO sv (saF (PS.sa u)) (PS.κ u)]) hP [0, 1, 2] rfl
        refine wr_calli (va_runV (As := [.int (iI (9))]) (rest := []) ⟨hx, hb, hml, hown, hts⟩ (c_X4_count l D cI cO cC cI x a sv o rd bu ln (PS.σ u) (PS.κ u) (saF (PS.sa u)) (9) (by omega) (hG.1.1)) (cwV 1 hts gL_law_X4_count rfl rfl rfl (by decide +kernel) ⟨Nat.le_of_ble_eq_true rfl, Nat.le_of_ble_eq_true rfl⟩) ⟨pcR_blind, va_recv hK hPc (ci := 4) (q0 := 0) rfl rfl, pcR_of hPc hK⟩ rfl rfl hl.1 rfl (lv_room (Nat.le_of_ble_eq_true rfl)) dL_law_45 ⟨(by show cells + 0 + 0 ≤ 210; omega), (by show slots + 0 + 0 ≤ 3435; omega)⟩) (fun r1 hr1 => ?_)
        subst hr1
        refine wi_top (y := (cntS (PS.σ u) (((PS.κ u) 0) 0) (9))) rfl ?_
        refine wi_top (y := ((PS.κ u) 0 0)) rfl ?_
        refine lv_istore (lv' := [(5, .int (iI (((PS.κ u) 0 0)))), (0, .ref (sc)), (1, .ref (x 0)), (2, .int (iI (1))), (3, .int (iI (tu))), (4, .int (iI (i)))]) hx hb dL_law_48 hl (by decide) rfl (fun ls hl => ?_)
        refine lv_aload_n hx hb dL_law_50 rfl (lv_at hl 2 rfl) ?_
        refine wi_bipush hx hb dL_law_51 (by decide) ?_
        have hPc := fl_P (S' := [mnW x a sv o rd bu ln, stW cI a (PS.σ u), svO cO sv (saF (PS.sa u)) (PS.κ u)]) hP [0, 1, 2] rfl
        refine wr_calli (va_runV (As := [.int (iI (7))]) (rest := []) ⟨hx, hb, hml, hown, hts⟩ (c_X4_count l D cI cO cC cI x a sv o rd bu ln (PS.σ u) (PS.κ u) (saF (PS.sa u)) (7) (by omega) (hG.1.1)) (cwV 1 hts gL_law_X4_count rfl rfl rfl (by decide +kernel) ⟨Nat.le_of_ble_eq_true rfl, Nat.le_of_ble_eq_true rfl⟩) ⟨pcR_blind, va_recv hK hPc (ci := 4) (q0 := 0) rfl rfl, pcR_of hPc hK⟩ rfl rfl hl.1 rfl (lv_room (Nat.le_of_ble_eq_true rfl)) dL_law_53 ⟨(by show cells + 0 + 0 ≤ 210; omega), (by show slots + 0 + 0 ≤ 3435; omega)⟩) (fun r2 hr2 => ?_)
        subst hr2
        refine wi_top (y := (cntS (PS.σ u) (((PS.κ u) 0) 0) (7))) rfl ?_
        refine wi_top (y := (sm ((PS.σ u) 2) 4)) rfl ?_
        refine lv_istore (lv' := [(6, .int (iI ((sm ((PS.σ u) 2) 4)))), (5, .int (iI (((PS.κ u) 0 0)))), (0, .ref (sc)), (1, .ref (x 0)), (2, .int (iI (1))), (3, .int (iI (tu))), (4, .int (iI (i)))]) hx hb dL_law_56 hl (by decide) rfl (fun ls hl => ?_)
        refine lv_aload_n hx hb dL_law_58 rfl (lv_at hl 3 rfl) ?_
        refine wi_iconst hx hb dL_law_59 ?_
        have hPc := fl_P (S' := [mnW x a sv o rd bu ln, stW cI a (PS.σ u), svO cO sv (saF (PS.sa u)) (PS.κ u)]) hP [0, 1, 2] rfl
        refine wr_calli (va_runV (As := [.int (iI (3))]) (rest := []) ⟨hx, hb, hml, hown, hts⟩ (c_X4_count l D cI cO cC cI x a sv o rd bu ln (PS.σ u) (PS.κ u) (saF (PS.sa u)) (3) (by omega) (hG.1.1)) (cwV 1 hts gL_law_X4_count rfl rfl rfl (by decide +kernel) ⟨Nat.le_of_ble_eq_true rfl, Nat.le_of_ble_eq_true rfl⟩) ⟨pcR_blind, va_recv hK hPc (ci := 4) (q0 := 0) rfl rfl, pcR_of hPc hK⟩ rfl rfl hl.1 rfl (lv_room (Nat.le_of_ble_eq_true rfl)) dL_law_60 ⟨(by show cells + 0 + 0 ≤ 210; omega), (by show slots + 0 + 0 ≤ 3435; omega)⟩) (fun r3 hr3 => ?_)
        subst hr3
        refine wi_top (y := (cntS (PS.σ u) (((PS.κ u) 0) 0) (3))) rfl ?_
        refine wi_top (y := ((PS.σ u) 0 2)) rfl ?_
        refine lv_istore (lv' := [(7, .int (iI (((PS.σ u) 0 2)))), (6, .int (iI ((sm ((PS.σ u) 2) 4)))), (5, .int (iI (((PS.κ u) 0 0)))), (0, .ref (sc)), (1, .ref (x 0)), (2, .int (iI (1))), (3, .int (iI (tu))), (4, .int (iI (i)))]) hx hb dL_law_63 hl (by decide) rfl (fun ls hl => ?_)
        refine lv_aload_n hx hb dL_law_65 rfl (lv_at hl 4 rfl) ?_
        refine lv_aload_n hx hb dL_law_66 rfl (lv_at hl 3 rfl) ?_
        refine wi_iconst hx hb dL_law_67 ?_
        refine lv_iload hx hb dL_law_68 (lv_at hl 7 rfl) ?_
        refine wi_imul hx hb dL_law_70 ?_
        have hPc := fl_P (S' := [mnW x a sv o rd bu ln, stW cI a (PS.σ u), svO cO sv (saF (PS.sa u)) (PS.κ u), stW cI ((PS.sa u) 0) ((PS.ss u) 0), stW cI ((PS.sa u) 1) ((PS.ss u) 1), stW cI ((PS.sa u) 2) ((PS.ss u) 2), stW cI ((PS.sa u) 3) ((PS.ss u) 3), stW cI ((PS.sa u) 4) ((PS.ss u) 4), stW cI ((PS.sa u) 5) ((PS.ss u) 5)]) hP [0, 1, 2, 3, 4, 5, 6, 7, 8] rfl
        have hDc := fl_D (S' := [mnW x a sv o rd bu ln, stW cI a (PS.σ u), svO cO sv (saF (PS.sa u)) (PS.κ u), stW cI ((PS.sa u) 0) ((PS.ss u) 0), stW cI ((PS.sa u) 1) ((PS.ss u) 1), stW cI ((PS.sa u) 2) ((PS.ss u) 2), stW cI ((PS.sa u) 3) ((PS.ss u) 3), stW cI ((PS.sa u) 4) ((PS.ss u) 4), stW cI ((PS.sa u) 5) ((PS.ss u) 5)]) hD [0, 1, 2, 3, 4, 5, 6, 7, 8] (by decide) rfl
        have hFc := fl_free (SC := [mnW x a sv o rd bu ln, stW cI a (PS.σ u), svO cO sv (saF (PS.sa u)) (PS.κ u), stW cI ((PS.sa u) 0) ((PS.ss u) 0), stW cI ((PS.sa u) 1) ((PS.ss u) 1), stW cI ((PS.sa u) 2) ((PS.ss u) 2), stW cI ((PS.sa u) 3) ((PS.ss u) 3), stW cI ((PS.sa u) 4) ((PS.ss u) 4), stW cI ((PS.sa u) 5) ((PS.ss u) 5)]) hD hS hA [0, 1, 2, 3, 4, 5, 6, 7, 8] rfl
        refine wq_calli (va_runS (As := [.ref (x 0), .ref (sc), .int (iI ((4 * i)))]) (rest := []) ⟨hx, hb, hml, hown, hts⟩ (c_L_act l hl9 D cI cO cC cI H.size x a sv o rd bu ln (PS.σ u) (PS.κ u) (PS.sa u) (PS.ss u) sc n9 g ((4 * i)) (8 * i) (by omega) (hn9) (by omega) (hG)) (cwS 3 hts gL_law_L_act rfl rfl rfl (by decide +kernel) ⟨Nat.le_of_ble_eq_true rfl, Nat.le_of_ble_eq_true rfl⟩) ⟨pcAX_blind, pcAX_of hPc hK hDc (hZ.kept hS.2.1) hFc (va_X.kept hX (hS.2.1 sc hbl hsc)) (Nat.lt_of_lt_of_le hbl hS.1) hsc⟩ rfl rfl hl.1 rfl (lv_room (Nat.le_of_ble_eq_true rfl)) dL_law_71 ⟨(by show cells + 0 + 1 ≤ 210; omega), (by show slots + 0 + 6 ≤ 3435; omega)⟩) hS (fun q _ h => hFc q h) hFc (fun r4 u6 t9 H1 locs ht9 hvm hcl5 hB hz1 hk1 hS => ?_)
        obtain ⟨hP1, hK1, hD1⟩ := hB
        rw [ht9] at hP1
        obtain ⟨hP, hD⟩ := fl_join (SR := [ocW cI o φ, rdW rd ρ, bfW cC bu β]) (S1 := [mnW x a sv o rd bu ln, stW cI a (PS.σ u6), svO cO sv (saF (PS.sa u6)) (PS.κ u6), stW cI ((PS.sa u6) 0) ((PS.ss u6) 0), stW cI ((PS.sa u6) 1) ((PS.ss u6) 1), stW cI ((PS.sa u6) 2) ((PS.ss u6) 2), stW cI ((PS.sa u6) 3) ((PS.ss u6) 3), stW cI ((PS.sa u6) 4) ((PS.ss u6) 4), stW cI ((PS.sa u6) 5) ((PS.ss u6) 5)]) hP hD [0, 1, 2, 3, 4, 5, 6, 7, 8] [9, 10, 11] rfl rfl (by decide) (by decide) hk1 hFc hP1 hD1
        generalize H1 = H at hP hS ⊢
        have hP := fl_P (S' := [mnW x a sv o rd bu ln, stW cI a (PS.σ u6), svO cO sv (saF (PS.sa u6)) (PS.κ u6), stW cI ((PS.sa u6) 0) ((PS.ss u6) 0), stW cI ((PS.sa u6) 1) ((PS.ss u6) 1), stW cI ((PS.sa u6) 2) ((PS.ss u6) 2), stW cI ((PS.sa u6) 3) ((PS.ss u6) 3), stW cI ((PS.sa u6) 4) ((PS.ss u6) 4), stW cI ((PS.sa u6) 5) ((PS.ss u6) 5), ocW cI o φ, rdW rd ρ, bfW cC bu β]) hP [3, 4, 5, 6, 7, 8, 9, 10, 11, 0, 1, 2] rfl
        have hD := fl_D (S' := [mnW x a sv o rd bu ln, stW cI a (PS.σ u6), svO cO sv (saF (PS.sa u6)) (PS.κ u6), stW cI ((PS.sa u6) 0) ((PS.ss u6) 0), stW cI ((PS.sa u6) 1) ((PS.ss u6) 1), stW cI ((PS.sa u6) 2) ((PS.ss u6) 2), stW cI ((PS.sa u6) 3) ((PS.ss u6) 3), stW cI ((PS.sa u6) 4) ((PS.ss u6) 4), stW cI ((PS.sa u6) 5) ((PS.ss u6) 5), ocW cI o φ, rdW rd ρ, bfW cC bu β]) hD [3, 4, 5, 6, 7, 8, 9, 10, 11, 0, 1, 2] (by decide) rfl
        have hq9 : AQ (8 * i + 8) r4 u6 (PS.σ u) (PS.κ u 0 0) := hcl5
        obtain ⟨hG8, hr8, ho8⟩ := hq9
        refine lv_istore (lv' := [(8, .int (iI (r4))), (7, .int (iI (((PS.σ u) 0 2)))), (6, .int (iI ((sm ((PS.σ u) 2) 4)))), (5, .int (iI (((PS.κ u) 0 0)))), (0, .ref (sc)), (1, .ref (x 0)), (2, .int (iI (1))), (3, .int (iI (tu))), (4, .int (iI (i)))]) hx hb dL_law_74 hl (by decide) rfl (fun ls hl => ?_)
        refine lv_iload hx hb dL_law_76 (lv_at hl 0 rfl) ?_
        refine wi_if_ge (tgt := 113) hx hb dL_law_78 (by decide) (by omega) (fun c_78 => ?_) (fun c_78 => ?_)
        · skip
          refine lv_aload_n hx hb dL_law_113 rfl (lv_at hl 5 rfl) ?_
          have hPc := fl_P (S' := [mnW x a sv o rd bu ln, stW cI a (PS.σ u6), svO cO sv (saF (PS.sa u6)) (PS.κ u6), ocW cI o φ]) hP [0, 1, 2, 9] rfl
          have hDc := fl_D (S' := [mnW x a sv o rd bu ln, stW cI a (PS.σ u6), svO cO sv (saF (PS.sa u6)) (PS.κ u6), ocW cI o φ]) hD [0, 1, 2, 9] (by decide) rfl
          have hFc := fl_free (SC := [mnW x a sv o rd bu ln, stW cI a (PS.σ u6), svO cO sv (saF (PS.sa u6)) (PS.κ u6), ocW cI o φ]) hD hS hA [0, 1, 2, 9] rfl
          refine wq_calli (va_runS (As := [.ref (x 0)]) (rest := []) ⟨hx, hb, hml, hown, hts⟩ (c_L_counters l D cI cO cC cI H.size x a sv o rd bu ln (PS.σ u6) (PS.κ u6) φ (saF (PS.sa u6)) (hG8.1.1)) (cwS 1 hts gL_law_L_counters rfl rfl rfl (by decide +kernel) ⟨Nat.le_of_ble_eq_true rfl, Nat.le_of_ble_eq_true rfl⟩) ⟨pcW_blind, pcW_of hPc hK hDc⟩ rfl rfl hl.1 rfl (lv_room (Nat.le_of_ble_eq_true rfl)) dL_law_114 ⟨(by show cells + 1 + 0 ≤ 210; omega), (by show slots + 6 + 0 ≤ 3435; omega)⟩) hS (fun q _ h => hFc q h) hFc (fun r7 u9 t9 H1 locs ht9 hvm hcl8 hB hz1 hk1 hS => ?_)
          obtain ⟨hP1, hK1, hD1⟩ := hB
          rw [ht9] at hP1
          obtain ⟨hP, hD⟩ := fl_join (SR := [stW cI ((PS.sa u6) 0) ((PS.ss u6) 0), stW cI ((PS.sa u6) 1) ((PS.ss u6) 1), stW cI ((PS.sa u6) 2) ((PS.ss u6) 2), stW cI ((PS.sa u6) 3) ((PS.ss u6) 3), stW cI ((PS.sa u6) 4) ((PS.ss u6) 4), stW cI ((PS.sa u6) 5) ((PS.ss u6) 5), rdW rd ρ, bfW cC bu β]) (S1 := [mnW x a sv o rd bu ln, stW cI a (PS.σ u6), svO cO sv (saF (PS.sa u6)) (PS.κ u6), ocW cI o u9]) hP hD [0, 1, 2, 9] [3, 4, 5, 6, 7, 8, 10, 11] rfl rfl (by decide) (by decide) hk1 hFc hP1 hD1
          generalize H1 = H at hP hS ⊢
          have hP := fl_P (S' := [mnW x a sv o rd bu ln, stW cI a (PS.σ u6), svO cO sv (saF (PS.sa u6)) (PS.κ u6), stW cI ((PS.sa u6) 0) ((PS.ss u6) 0), stW cI ((PS.sa u6) 1) ((PS.ss u6) 1), stW cI ((PS.sa u6) 2) ((PS.ss u6) 2), stW cI ((PS.sa u6) 3) ((PS.ss u6) 3), stW cI ((PS.sa u6) 4) ((PS.ss u6) 4), stW cI ((PS.sa u6) 5) ((PS.ss u6) 5), ocW cI o u9, rdW rd ρ, bfW cC bu β]) hP [8, 9, 10, 0, 1, 2, 3, 4, 5, 11, 6, 7] rfl
          have hD := fl_D (S' := [mnW x a sv o rd bu ln, stW cI a (PS.σ u6), svO cO sv (saF (PS.sa u6)) (PS.κ u6), stW cI ((PS.sa u6) 0) ((PS.ss u6) 0), stW cI ((PS.sa u6) 1) ((PS.ss u6) 1), stW cI ((PS.sa u6) 2) ((PS.ss u6) 2), stW cI ((PS.sa u6) 3) ((PS.ss u6) 3), stW cI ((PS.sa u6) 4) ((PS.ss u6) 4), stW cI ((PS.sa u6) 5) ((PS.ss u6) 5), ocW cI o u9, rdW rd ρ, bfW cC bu β]) hD [8, 9, 10, 0, 1, 2, 3, 4, 5, 11, 6, 7] (by decide) rfl
          have hr79 : r7 = 1 := hcl8
          subst hr79
          refine wi_if_eq (tgt := 131) hx hb dL_law_117 (by decide) (by omega) (fun c_117 => ?_) (fun c_117 => ?_)
          · skip
            exfalso; omega
          · skip
            refine lv_aload_n hx hb dL_law_120 rfl (lv_at hl 5 rfl) ?_
            have hPc := fl_P (S' := [mnW x a sv o rd bu ln, stW cI a (PS.σ u6), svO cO sv (saF (PS.sa u6)) (PS.κ u6)]) hP [0, 1, 2] rfl
            refine wr_calli (va_runS (As := [.ref (x 0)]) (rest := []) ⟨hx, hb, hml, hown, hts⟩ (c_L_promises l D cI cO cC cI x a sv o rd bu ln (PS.σ u6) (PS.κ u6) (saF (PS.sa u6)) (hG8.1.1) (hG8.1.2.1)) (cwS 1 hts gL_law_L_promises rfl rfl rfl (by decide +kernel) ⟨Nat.le_of_ble_eq_true rfl, Nat.le_of_ble_eq_true rfl⟩) ⟨pcR_blind, pcR_of hPc hK⟩ rfl rfl hl.1 rfl (lv_room (Nat.le_of_ble_eq_true rfl)) dL_law_121 ⟨(by show cells + 1 + 0 ≤ 210; omega), (by show slots + 6 + 0 ≤ 3435; omega)⟩) (fun r10 hr10 => ?_)
            have hr109 : r10 = 1 := hr10
            subst hr109
            refine wi_if_eq (tgt := 131) hx hb dL_law_124 (by decide) (by omega) (fun c_124 => ?_) (fun c_124 => ?_)
            · skip
              exfalso; omega
            · skip
              refine wi_iconst hx hb dL_law_127 ?_
              refine lv_goto (tgt := 132) hx hb dL_law_128 (by decide) ?_
              refine lv_istore_n (lv' := [(2, .int (iI (1))), (8, .int (iI (r4))), (7, .int (iI (((PS.σ u) 0 2)))), (6, .int (iI ((sm ((PS.σ u) 2) 4)))), (5, .int (iI (((PS.κ u) 0 0)))), (0, .ref (sc)), (1, .ref (x 0)), (3, .int (iI (tu))), (4, .int (iI (i)))]) hx hb dL_law_132 rfl hl (by decide) rfl (fun ls hl => ?_)
              refine wi_iinc (lv' := [(4, .int (iI ((i + 1)))), (2, .int (iI (1))), (8, .int (iI (r4))), (7, .int (iI (((PS.σ u) 0 2)))), (6, .int (iI ((sm ((PS.σ u) 2) 4)))), (5, .int (iI (((PS.κ u) 0 0)))), (0, .ref (sc)), (1, .ref (x 0)), (3, .int (iI (tu)))]) hx hb dL_law_133 hl (k := 8) rfl (by decide) rfl (fun ls hl => ?_)
              refine lv_goto (tgt := 32) hx hb dL_law_136 (by decide) ?_
              exact ih (i + 1) (cells + 1) (slots + 6) u6 u9 H locs ls (by omega) ⟨by omega, by omega⟩ (by omega) (by omega) (hG8.mono (by omega)) hP hD hS (lv_sub hl [6, 7, 1, 8, 0] rfl)
        · skip
          refine lv_aload_n hx hb dL_law_81 rfl (lv_at hl 5 rfl) ?_
          refine wi_bipush hx hb dL_law_82 (by decide) ?_
          have hPc := fl_P (S' := [mnW x a sv o rd bu ln, stW cI a (PS.σ u6), svO cO sv (saF (PS.sa u6)) (PS.κ u6)]) hP [0, 1, 2] rfl
          refine wr_calli (va_runV (As := [.int (iI (9))]) (rest := []) ⟨hx, hb, hml, hown, hts⟩ (c_X4_count l D cI cO cC cI x a sv o rd bu ln (PS.σ u6) (PS.κ u6) (saF (PS.sa u6)) (9) (by omega) (hG8.1.1)) (cwV 1 hts gL_law_X4_count rfl rfl rfl (by decide +kernel) ⟨Nat.le_of_ble_eq_true rfl, Nat.le_of_ble_eq_true rfl⟩) ⟨pcR_blind, va_recv hK hPc (ci := 4) (q0 := 0) rfl rfl, pcR_of hPc hK⟩ rfl rfl hl.1 rfl (lv_room (Nat.le_of_ble_eq_true rfl)) dL_law_84 ⟨(by show cells + 1 + 0 ≤ 210; omega), (by show slots + 6 + 0 ≤ 3435; omega)⟩) (fun r11 hr11 => ?_)
          subst hr11
          refine wi_top (y := (cntS (PS.σ u6) (((PS.κ u6) 0) 0) (9))) rfl ?_
          refine wi_top (y := ((PS.κ u6) 0 0)) rfl ?_
          refine lv_iload hx hb dL_law_87 (lv_at hl 3 rfl) ?_
          refine wi_icmp_ne_e (tgt := 131) hx hb dL_law_89 (by decide) ((ho8.resolve_left (by omega)).2) ?_
          refine lv_aload_n hx hb dL_law_92 rfl (lv_at hl 5 rfl) ?_
          refine wi_bipush hx hb dL_law_93 (by decide) ?_
          have hPc := fl_P (S' := [mnW x a sv o rd bu ln, stW cI a (PS.σ u6), svO cO sv (saF (PS.sa u6)) (PS.κ u6)]) hP [0, 1, 2] rfl
          refine wr_calli (va_runV (As := [.int (iI (7))]) (rest := []) ⟨hx, hb, hml, hown, hts⟩ (c_X4_count l D cI cO cC cI x a sv o rd bu ln (PS.σ u6) (PS.κ u6) (saF (PS.sa u6)) (7) (by omega) (hG8.1.1)) (cwV 1 hts gL_law_X4_count rfl rfl rfl (by decide +kernel) ⟨Nat.le_of_ble_eq_true rfl, Nat.le_of_ble_eq_true rfl⟩) ⟨pcR_blind, va_recv hK hPc (ci := 4) (q0 := 0) rfl rfl, pcR_of hPc hK⟩ rfl rfl hl.1 rfl (lv_room (Nat.le_of_ble_eq_true rfl)) dL_law_95 ⟨(by show cells + 1 + 0 ≤ 210; omega), (by show slots + 6 + 0 ≤ 3435; omega)⟩) (fun r12 hr12 => ?_)
          subst hr12
          refine wi_top (y := (cntS (PS.σ u6) (((PS.κ u6) 0) 0) (7))) rfl ?_
          refine wi_top (y := (sm ((PS.σ u6) 2) 4)) rfl ?_
          refine lv_iload hx hb dL_law_98 (lv_at hl 2 rfl) ?_
          refine wi_icmp_ne_e (tgt := 131) hx hb dL_law_100 (by decide) (by rw [(ho8.resolve_left (by omega)).1]) ?_
          refine lv_aload_n hx hb dL_law_103 rfl (lv_at hl 5 rfl) ?_
          refine wi_iconst hx hb dL_law_104 ?_
          have hPc := fl_P (S' := [mnW x a sv o rd bu ln, stW cI a (PS.σ u6), svO cO sv (saF (PS.sa u6)) (PS.κ u6)]) hP [0, 1, 2] rfl
          refine wr_calli (va_runV (As := [.int (iI (3))]) (rest := []) ⟨hx, hb, hml, hown, hts⟩ (c_X4_count l D cI cO cC cI x a sv o rd bu ln (PS.σ u6) (PS.κ u6) (saF (PS.sa u6)) (3) (by omega) (hG8.1.1)) (cwV 1 hts gL_law_X4_count rfl rfl rfl (by decide +kernel) ⟨Nat.le_of_ble_eq_true rfl, Nat.le_of_ble_eq_true rfl⟩) ⟨pcR_blind, va_recv hK hPc (ci := 4) (q0 := 0) rfl rfl, pcR_of hPc hK⟩ rfl rfl hl.1 rfl (lv_room (Nat.le_of_ble_eq_true rfl)) dL_law_105 ⟨(by show cells + 1 + 0 ≤ 210; omega), (by show slots + 6 + 0 ≤ 3435; omega)⟩) (fun r13 hr13 => ?_)
          subst hr13
          refine wi_top (y := (cntS (PS.σ u6) (((PS.κ u6) 0) 0) (3))) rfl ?_
          refine wi_top (y := ((PS.σ u6) 0 2)) rfl ?_
          refine lv_iload hx hb dL_law_108 (lv_at hl 1 rfl) ?_
          refine wi_icmp_ne_e (tgt := 131) hx hb dL_law_110 (by decide) (by rw [(ho8.resolve_left (by omega)).1]) ?_
          refine lv_aload_n hx hb dL_law_113 rfl (lv_at hl 5 rfl) ?_
          have hPc := fl_P (S' := [mnW x a sv o rd bu ln, stW cI a (PS.σ u6), svO cO sv (saF (PS.sa u6)) (PS.κ u6), ocW cI o φ]) hP [0, 1, 2, 9] rfl
          have hDc := fl_D (S' := [mnW x a sv o rd bu ln, stW cI a (PS.σ u6), svO cO sv (saF (PS.sa u6)) (PS.κ u6), ocW cI o φ]) hD [0, 1, 2, 9] (by decide) rfl
          have hFc := fl_free (SC := [mnW x a sv o rd bu ln, stW cI a (PS.σ u6), svO cO sv (saF (PS.sa u6)) (PS.κ u6), ocW cI o φ]) hD hS hA [0, 1, 2, 9] rfl
          refine wq_calli (va_runS (As := [.ref (x 0)]) (rest := []) ⟨hx, hb, hml, hown, hts⟩ (c_L_counters l D cI cO cC cI H.size x a sv o rd bu ln (PS.σ u6) (PS.κ u6) φ (saF (PS.sa u6)) (hG8.1.1)) (cwS 1 hts gL_law_L_counters rfl rfl rfl (by decide +kernel) ⟨Nat.le_of_ble_eq_true rfl, Nat.le_of_ble_eq_true rfl⟩) ⟨pcW_blind, pcW_of hPc hK hDc⟩ rfl rfl hl.1 rfl (lv_room (Nat.le_of_ble_eq_true rfl)) dL_law_114 ⟨(by show cells + 1 + 0 ≤ 210; omega), (by show slots + 6 + 0 ≤ 3435; omega)⟩) hS (fun q _ h => hFc q h) hFc (fun r14 u16 t9 H1 locs ht9 hvm hcl15 hB hz1 hk1 hS => ?_)
          obtain ⟨hP1, hK1, hD1⟩ := hB
          rw [ht9] at hP1
          obtain ⟨hP, hD⟩ := fl_join (SR := [stW cI ((PS.sa u6) 0) ((PS.ss u6) 0), stW cI ((PS.sa u6) 1) ((PS.ss u6) 1), stW cI ((PS.sa u6) 2) ((PS.ss u6) 2), stW cI ((PS.sa u6) 3) ((PS.ss u6) 3), stW cI ((PS.sa u6) 4) ((PS.ss u6) 4), stW cI ((PS.sa u6) 5) ((PS.ss u6) 5), rdW rd ρ, bfW cC bu β]) (S1 := [mnW x a sv o rd bu ln, stW cI a (PS.σ u6), svO cO sv (saF (PS.sa u6)) (PS.κ u6), ocW cI o u16]) hP hD [0, 1, 2, 9] [3, 4, 5, 6, 7, 8, 10, 11] rfl rfl (by decide) (by decide) hk1 hFc hP1 hD1
          generalize H1 = H at hP hS ⊢
          have hP := fl_P (S' := [mnW x a sv o rd bu ln, stW cI a (PS.σ u6), svO cO sv (saF (PS.sa u6)) (PS.κ u6), stW cI ((PS.sa u6) 0) ((PS.ss u6) 0), stW cI ((PS.sa u6) 1) ((PS.ss u6) 1), stW cI ((PS.sa u6) 2) ((PS.ss u6) 2), stW cI ((PS.sa u6) 3) ((PS.ss u6) 3), stW cI ((PS.sa u6) 4) ((PS.ss u6) 4), stW cI ((PS.sa u6) 5) ((PS.ss u6) 5), ocW cI o u16, rdW rd ρ, bfW cC bu β]) hP [8, 9, 10, 0, 1, 2, 3, 4, 5, 11, 6, 7] rfl
          have hD := fl_D (S' := [mnW x a sv o rd bu ln, stW cI a (PS.σ u6), svO cO sv (saF (PS.sa u6)) (PS.κ u6), stW cI ((PS.sa u6) 0) ((PS.ss u6) 0), stW cI ((PS.sa u6) 1) ((PS.ss u6) 1), stW cI ((PS.sa u6) 2) ((PS.ss u6) 2), stW cI ((PS.sa u6) 3) ((PS.ss u6) 3), stW cI ((PS.sa u6) 4) ((PS.ss u6) 4), stW cI ((PS.sa u6) 5) ((PS.ss u6) 5), ocW cI o u16, rdW rd ρ, bfW cC bu β]) hD [8, 9, 10, 0, 1, 2, 3, 4, 5, 11, 6, 7] (by decide) rfl
          have hr149 : r14 = 1 := hcl15
          subst hr149
          refine wi_if_eq (tgt := 131) hx hb dL_law_117 (by decide) (by omega) (fun c_117 => ?_) (fun c_117 => ?_)
          · skip
            exfalso; omega
          · skip
            refine lv_aload_n hx hb dL_law_120 rfl (lv_at hl 5 rfl) ?_
            have hPc := fl_P (S' := [mnW x a sv o rd bu ln, stW cI a (PS.σ u6), svO cO sv (saF (PS.sa u6)) (PS.κ u6)]) hP [0, 1, 2] rfl
            refine wr_calli (va_runS (As := [.ref (x 0)]) (rest := []) ⟨hx, hb, hml, hown, hts⟩ (c_L_promises l D cI cO cC cI x a sv o rd bu ln (PS.σ u6) (PS.κ u6) (saF (PS.sa u6)) (hG8.1.1) (hG8.1.2.1)) (cwS 1 hts gL_law_L_promises rfl rfl rfl (by decide +kernel) ⟨Nat.le_of_ble_eq_true rfl, Nat.le_of_ble_eq_true rfl⟩) ⟨pcR_blind, pcR_of hPc hK⟩ rfl rfl hl.1 rfl (lv_room (Nat.le_of_ble_eq_true rfl)) dL_law_121 ⟨(by show cells + 1 + 0 ≤ 210; omega), (by show slots + 6 + 0 ≤ 3435; omega)⟩) (fun r17 hr17 => ?_)
            have hr179 : r17 = 1 := hr17
            subst hr179
            refine wi_if_eq (tgt := 131) hx hb dL_law_124 (by decide) (by omega) (fun c_124 => ?_) (fun c_124 => ?_)
            · skip
              exfalso; omega
            · skip
              refine wi_iconst hx hb dL_law_127 ?_
              refine lv_goto (tgt := 132) hx hb dL_law_128 (by decide) ?_
              refine lv_istore_n (lv' := [(2, .int (iI (1))), (8, .int (iI (r4))), (7, .int (iI (((PS.σ u) 0 2)))), (6, .int (iI ((sm ((PS.σ u) 2) 4)))), (5, .int (iI (((PS.κ u) 0 0)))), (0, .ref (sc)), (1, .ref (x 0)), (3, .int (iI (tu))), (4, .int (iI (i)))]) hx hb dL_law_132 rfl hl (by decide) rfl (fun ls hl => ?_)
              refine wi_iinc (lv' := [(4, .int (iI ((i + 1)))), (2, .int (iI (1))), (8, .int (iI (r4))), (7, .int (iI (((PS.σ u) 0 2)))), (6, .int (iI ((sm ((PS.σ u) 2) 4)))), (5, .int (iI (((PS.κ u) 0 0)))), (0, .ref (sc)), (1, .ref (x 0)), (3, .int (iI (tu)))]) hx hb dL_law_133 hl (k := 8) rfl (by decide) rfl (fun ls hl => ?_)
              refine lv_goto (tgt := 32) hx hb dL_law_136 (by decide) ?_
              exact ih (i + 1) (cells + 1) (slots + 6) u6 u16 H locs ls (by omega) ⟨by omega, by omega⟩ (by omega) (by omega) (hG8.mono (by omega)) hP hD hS (lv_sub hl [6, 7, 1, 8, 0] rfl)
end LAWL
