section LAWC
variable {p : Program} {l : Launch} {e : Env} {s : State} {m : MethodId} {args : Array Value} {below : List Frame} {meth : Method} {c : Code} {H : Heap} {locs : List Loc} {cells slots : Nat} {Q : State → Prop}
variable {D : va_G} {cI cO cC cL : ClassId} {x a sv o rd bu ob b : Nat → Nat} {ln σ κ φ ρ β μ : Nat → Int → Int} {sa : Nat → Nat → Nat} {ss : Nat → Nat → Int → Int} {f : Nat → Int64} {sc n9 : Nat} {g : Int → Int} {A : Nat → Prop} {H0 : Heap} {ls : Array Slot} {i : Int}
set_option maxHeartbeats 4000000 in
set_option maxRecDepth 100000 in
theorem lc_cancel (hl9 : l.stackTraces = false) (hx : p.tables.exec = Jvm.exec) (hb : c.code = cL_law) (hlocks : meth.locks = false) (hown : s.vm.findClass RL = some m.cls) (hml : c.maxLocals = 9) (hts : ∀ w ∈ wsL_law, w.before args s = true) (hK : va_K D vwCl [(cI, FieldType.int), (cO, FieldType.object "PromisedCounters$State"), (cC, FieldType.char), (cL, FieldType.long)] s) (hA : ∀ q : Nat, H0.size ≤ q → A q)
    (hgR : ∀ j : Int, R32 (g j)) (hi : 0 ≤ i ∧ i + 5 ≤ (n9 : Int)) (hn9 : n9 ≤ 2560) (hcells : cells + 1 ≤ 1139) (hslots : slots + 6 ≤ 14922) (hκ : κ 0 0 = μ 0 0) (hln : ln 0 0 = μ 0 1) (hM : RelM σ (μ 0 0) ss (μ 0 1) (β 1) μ) (hG : GI σ (μ 0 0) ss (μ 0 1) (β 1)) (hZ : ZP A s H0) (hX : va_X sc n9 (rI g) s H0) (hbl : sc < H0.size) (hsc : ¬ A sc) (hP : va_P D vwCl (fl [mnW x a sv o rd bu ln, stW cI a σ, svO cO sv (saF sa) κ, stW cI (sa 0) (ss 0), stW cI (sa 1) (ss 1), stW cI (sa 2) (ss 2), stW cI (sa 3) (ss 3), stW cI (sa 4) (ss 4), stW cI (sa 5) (ss 5), ocW cI o φ, rdW rd ρ, bfW cC bu β, ouW cL ob f, mdW cI b μ]) H) (hD : va_D A (fl [mnW x a sv o rd bu ln, stW cI a σ, svO cO sv (saF sa) κ, stW cI (sa 0) (ss 0), stW cI (sa 1) (ss 1), stW cI (sa 2) (ss 2), stW cI (sa 3) (ss 3), stW cI (sa 4) (ss 4), stW cI (sa 5) (ss 5), ocW cI o φ, rdW rd ρ, bfW cC bu β, ouW cL ob f, mdW cI b μ])) (hS : va_S A H0 H locs) (hl : lv_has ls 9 [(0, .ref (sc)), (1, .ref (x 0)), (2, .ref (b 0)), (3, .ref (ob 0)), (4, .int (iI (i)))])
    (kk : ∀ (u : LwS) (μ : Nat → Int → Int) (H : Heap) (locs : List Loc), LI u μ → va_P D vwCl (lawW cI cO cC cL x a sv o rd bu ob b u μ) H → va_D A (lawW cI cO cC cL x a sv o rd bu ob b u μ) → va_S A H0 H locs → ∀ ls : Array Slot, lv_has ls 9 [(0, .ref (sc)), (1, .ref (x 0)), (2, .ref (b 0)), (3, .ref (ob 0)), (4, .int (iI (i)))] → W p l e ({ frames := 13, cells := 1139, slots := 14922, locals := 478 } : Room) s m args below meth c H locs (cells + 1) (slots + 6) Q (F0 m 1705 ls [])) : W p l e ({ frames := 13, cells := 1139, slots := 14922, locals := 478 } : Room) s m args below meth c H locs cells slots Q (F0 m 600 ls []) := by
  refine lv_aload_n hx hb dL_law_600 rfl (lv_at hl 1 rfl) ?_
  refine lv_aload_n hx hb dL_law_601 rfl (lv_at hl 0 rfl) ?_
  refine lv_iload hx hb dL_law_602 (lv_at hl 4 rfl) ?_
  refine wi_iconst hx hb dL_law_604 ?_
  refine wi_iadd hx hb dL_law_605 ?_
  refine wi_sld hx hb hX hbl hsc hS (i := (i + 1)) (by omega) (by omega) dL_law_606 ?_
  refine lv_aload_n hx hb dL_law_607 rfl (lv_at hl 3 rfl) ?_
  have hPc := fl_P (S' := [mnW x a sv o rd bu ln, stW cI a σ, svO cO sv (saF sa) κ, stW cI (sa 0) (ss 0), stW cI (sa 1) (ss 1), stW cI (sa 2) (ss 2), stW cI (sa 3) (ss 3), stW cI (sa 4) (ss 4), stW cI (sa 5) (ss 5), ocW cI o φ, rdW rd ρ, bfW cC bu β, ouW cL ob f]) hP [0, 1, 2, 3, 4, 5, 6, 7, 8, 9, 10, 11, 12] rfl
  have hDc := fl_D (S' := [mnW x a sv o rd bu ln, stW cI a σ, svO cO sv (saF sa) κ, stW cI (sa 0) (ss 0), stW cI (sa 1) (ss 1), stW cI (sa 2) (ss 2), stW cI (sa 3) (ss 3), stW cI (sa 4) (ss 4), stW cI (sa 5) (ss 5), ocW cI o φ, rdW rd ρ, bfW cC bu β, ouW cL ob f]) hD [0, 1, 2, 3, 4, 5, 6, 7, 8, 9, 10, 11, 12] (by decide) rfl
  have hFc := fl_free (SC := [mnW x a sv o rd bu ln, stW cI a σ, svO cO sv (saF sa) κ, stW cI (sa 0) (ss 0), stW cI (sa 1) (ss 1), stW cI (sa 2) (ss 2), stW cI (sa 3) (ss 3), stW cI (sa 4) (ss 4), stW cI (sa 5) (ss 5), ocW cI o φ, rdW rd ρ, bfW cC bu β, ouW cL ob f]) hD hS hA [0, 1, 2, 3, 4, 5, 6, 7, 8, 9, 10, 11, 12] rfl
  refine wq_calli (vx_runSW (As := [.ref (x 0), .int (iI ((g (i + 1)))), .ref (ob 0)]) (rest := []) ⟨hx, hb, hml, hown, hts⟩ (lk_cancel l hl9 D cI cO cC cL H.size x a sv o rd bu ob ln σ κ φ ρ β sa ss f ((g (i + 1))) (hgR _) (by rw [hκ, hln]; exact hG)) (vx_cwSW 3 hts gL_law_L_cancel rfl rfl rfl (by decide +kernel) ⟨Nat.le_of_ble_eq_true rfl, Nat.le_of_ble_eq_true rfl⟩) ⟨pcWX_blind, pcWX_of hPc hK hDc (hZ.kept hS.2.1) hFc⟩ rfl rfl hl.1 rfl (lv_room (Nat.le_of_ble_eq_true rfl)) dL_law_608 ⟨(by show cells + 0 + 1 ≤ 1139; omega), (by show slots + 0 + 6 ≤ 14922; omega)⟩) hS (fun q _ h => hFc q h) hFc (fun r1 u3 t9 H1 locs ht9 hvm hcl2 hB hz1 hk1 hS => ?_)
  obtain ⟨hP1, hK1, hD1⟩ := hB
  rw [ht9] at hP1
  obtain ⟨hP, hD⟩ := fl_join (SR := [mdW cI b μ]) (S1 := [mnW x a sv o rd bu (LwS.ln u3), stW cI a (LwS.σ u3), svO cO sv (saF (LwS.sa u3)) (LwS.κ u3), stW cI (LwS.sa u3 0) (LwS.ss u3 0), stW cI (LwS.sa u3 1) (LwS.ss u3 1), stW cI (LwS.sa u3 2) (LwS.ss u3 2), stW cI (LwS.sa u3 3) (LwS.ss u3 3), stW cI (LwS.sa u3 4) (LwS.ss u3 4), stW cI (LwS.sa u3 5) (LwS.ss u3 5), ocW cI o (LwS.φ u3), rdW rd (LwS.ρ u3), bfW cC bu (LwS.β u3), ouW cL ob (LwS.f u3)]) hP hD [0, 1, 2, 3, 4, 5, 6, 7, 8, 9, 10, 11, 12] [13] rfl rfl (by decide) (by decide) hk1 hFc hP1 hD1
  generalize H1 = H at hP hS ⊢
  have hP := fl_P (S' := [mnW x a sv o rd bu (LwS.ln u3), stW cI a (LwS.σ u3), svO cO sv (saF (LwS.sa u3)) (LwS.κ u3), stW cI (LwS.sa u3 0) (LwS.ss u3 0), stW cI (LwS.sa u3 1) (LwS.ss u3 1), stW cI (LwS.sa u3 2) (LwS.ss u3 2), stW cI (LwS.sa u3 3) (LwS.ss u3 3), stW cI (LwS.sa u3 4) (LwS.ss u3 4), stW cI (LwS.sa u3 5) (LwS.ss u3 5), ocW cI o (LwS.φ u3), rdW rd (LwS.ρ u3), bfW cC bu (LwS.β u3), ouW cL ob (LwS.f u3), mdW cI b μ]) hP [1, 2, 3, 4, 5, 6, 7, 8, 9, 10, 11, 12, 13, 0] rfl
  have hD := fl_D (S' := [mnW x a sv o rd bu (LwS.ln u3), stW cI a (LwS.σ u3), svO cO sv (saF (LwS.sa u3)) (LwS.κ u3), stW cI (LwS.sa u3 0) (LwS.ss u3 0), stW cI (LwS.sa u3 1) (LwS.ss u3 1), stW cI (LwS.sa u3 2) (LwS.ss u3 2), stW cI (LwS.sa u3 3) (LwS.ss u3 3), stW cI (LwS.sa u3 4) (LwS.ss u3 4), stW cI (LwS.sa u3 5) (LwS.ss u3 5), ocW cI o (LwS.φ u3), rdW rd (LwS.ρ u3), bfW cC bu (LwS.β u3), ouW cL ob (LwS.f u3), mdW cI b μ]) hD [1, 2, 3, 4, 5, 6, 7, 8, 9, 10, 11, 12, 13, 0] (by decide) rfl
  rw [hκ, hln] at hcl2
  refine lv_istore (lv' := [(5, .int (iI (r1))), (0, .ref (sc)), (1, .ref (x 0)), (2, .ref (b 0)), (3, .ref (ob 0)), (4, .int (iI (i)))]) hx hb dL_law_611 hl (by decide) rfl (fun ls hl => ?_)
  refine lv_aload_n hx hb dL_law_613 rfl (lv_at hl 3 rfl) ?_
  refine lv_aload_n hx hb dL_law_614 rfl (lv_at hl 1 rfl) ?_
  refine lv_iload hx hb dL_law_615 (lv_at hl 5 rfl) ?_
  refine wi_iconst hx hb dL_law_617 ?_
  refine wi_iadd hx hb dL_law_618 ?_
  refine wi_sld hx hb hX hbl hsc hS (i := (i + 1)) (by omega) (by omega) dL_law_619 ?_
  have hPc := fl_P (S' := [mdW cI b μ]) hP [13] rfl
  have hKc := hK.sub (tys' := [(cI, FieldType.int)]) [0] rfl
  have hDc := fl_D (S' := [mdW cI b μ]) hD [13] (by decide) rfl
  have hFc := fl_free (SC := [mdW cI b μ]) hD hS hA [13] rfl
  refine wq_calli (va_runV (As := [.int (iI ((g (i + 1))))]) (rest := []) ⟨hx, hb, hml, hown, hts⟩ (c_X5_cancel l D cI cO cC cL H.size b μ σ ss (β 1) ((g (i + 1))) (hgR _) (hM) (hG)) (cwV 1 hts gL_law_X5_cancel rfl rfl rfl (by decide +kernel) ⟨Nat.le_of_ble_eq_true rfl, Nat.le_of_ble_eq_true rfl⟩) ⟨pcW_blind, va_recv hKc hPc (ci := 5) (q0 := 0) rfl rfl, pcW_of hPc hKc hDc⟩ rfl rfl hl.1 rfl (lv_room (Nat.le_of_ble_eq_true rfl)) dL_law_620 ⟨(by show cells + 1 + 0 ≤ 1139; omega), (by show slots + 6 + 0 ≤ 14922; omega)⟩) hS (fun q _ h => hFc q h) hFc (fun r4 u6 t9 H1 locs ht9 hvm hcl5 hB hz1 hk1 hS => ?_)
  obtain ⟨hP1, hK1, hD1⟩ := hB
  rw [ht9] at hP1
  obtain ⟨hP, hD⟩ := fl_join (SR := [mnW x a sv o rd bu (LwS.ln u3), stW cI a (LwS.σ u3), svO cO sv (saF (LwS.sa u3)) (LwS.κ u3), stW cI (LwS.sa u3 0) (LwS.ss u3 0), stW cI (LwS.sa u3 1) (LwS.ss u3 1), stW cI (LwS.sa u3 2) (LwS.ss u3 2), stW cI (LwS.sa u3 3) (LwS.ss u3 3), stW cI (LwS.sa u3 4) (LwS.ss u3 4), stW cI (LwS.sa u3 5) (LwS.ss u3 5), ocW cI o (LwS.φ u3), rdW rd (LwS.ρ u3), bfW cC bu (LwS.β u3), ouW cL ob (LwS.f u3)]) (S1 := [mdW cI b u6]) hP hD [13] [0, 1, 2, 3, 4, 5, 6, 7, 8, 9, 10, 11, 12] rfl rfl (by decide) (by decide) hk1 hFc hP1 hD1
  generalize H1 = H at hP hS ⊢
  have hP := fl_P (S' := [mnW x a sv o rd bu (LwS.ln u3), stW cI a (LwS.σ u3), svO cO sv (saF (LwS.sa u3)) (LwS.κ u3), stW cI (LwS.sa u3 0) (LwS.ss u3 0), stW cI (LwS.sa u3 1) (LwS.ss u3 1), stW cI (LwS.sa u3 2) (LwS.ss u3 2), stW cI (LwS.sa u3 3) (LwS.ss u3 3), stW cI (LwS.sa u3 4) (LwS.ss u3 4), stW cI (LwS.sa u3 5) (LwS.ss u3 5), ocW cI o (LwS.φ u3), rdW rd (LwS.ρ u3), bfW cC bu (LwS.β u3), ouW cL ob (LwS.f u3), mdW cI b u6]) hP [0, 1, 2, 3, 4, 5, 6, 7, 8, 9, 10, 11, 12, 13] rfl
  have hD := fl_D (S' := [mnW x a sv o rd bu (LwS.ln u3), stW cI a (LwS.σ u3), svO cO sv (saF (LwS.sa u3)) (LwS.κ u3), stW cI (LwS.sa u3 0) (LwS.ss u3 0), stW cI (LwS.sa u3 1) (LwS.ss u3 1), stW cI (LwS.sa u3 2) (LwS.ss u3 2), stW cI (LwS.sa u3 3) (LwS.ss u3 3), stW cI (LwS.sa u3 4) (LwS.ss u3 4), stW cI (LwS.sa u3 5) (LwS.ss u3 5), ocW cI o (LwS.φ u3), rdW rd (LwS.ρ u3), bfW cC bu (LwS.β u3), ouW cL ob (LwS.f u3), mdW cI b u6]) hD [0, 1, 2, 3, 4, 5, 6, 7, 8, 9, 10, 11, 12, 13] (by decide) rfl
  obtain ⟨he9, hf9, hLI⟩ := LI.step hcl2 hcl5 hG (fun h0 => by obtain a1 := cd1_0 h0; exact hG.push (hG.1.can a1))
  have hrg : 0 ≤ r1 ∧ r1 ≤ 3 := by rw [hcl2.1]; exact cd1_b
  refine lv_istore (lv' := [(6, .int (iI (r4))), (5, .int (iI (r1))), (0, .ref (sc)), (1, .ref (x 0)), (2, .ref (b 0)), (3, .ref (ob 0)), (4, .int (iI (i)))]) hx hb dL_law_623 hl (by decide) rfl (fun ls hl => ?_)
  refine lv_aload_n hx hb dL_law_625 rfl (lv_at hl 4 rfl) ?_
  have hPc := fl_P (S' := [mdW cI b u6]) hP [13] rfl
  have hKc := hK.sub (tys' := [(cI, FieldType.int)]) [0] rfl
  refine wr_calli (va_runV (As := []) (rest := []) ⟨hx, hb, hml, hown, hts⟩ (c_X5_thrown l D cI cO cC cL b u6 ) (cwV 0 hts gL_law_X5_thrown rfl rfl rfl (by decide +kernel) ⟨Nat.le_of_ble_eq_true rfl, Nat.le_of_ble_eq_true rfl⟩) ⟨pcR_blind, va_recv hKc hPc (ci := 5) (q0 := 0) rfl rfl, pcR_of hPc hKc⟩ rfl rfl hl.1 rfl (lv_room (Nat.le_of_ble_eq_true rfl)) dL_law_626 ⟨(by show cells + 1 + 0 ≤ 1139; omega), (by show slots + 6 + 0 ≤ 14922; omega)⟩) (fun r7 hr7 => ?_)
  subst hr7
  refine lv_iload hx hb dL_law_629 (lv_at hl 1 rfl) ?_
  refine wi_icmp_eq (tgt := 636) hx hb dL_law_631 (by decide) (by omega) (fun c_631 => ?_) (fun c_631 => ?_)
  · skip
    refine lv_iload hx hb dL_law_636 (lv_at hl 1 rfl) ?_
    refine wi_if_ne (tgt := 653) hx hb dL_law_638 (by decide) (by omega) (fun c_638 => ?_) (fun c_638 => ?_)
    · skip
      refine lv_goto (tgt := 1705) hx hb dL_law_653 (by decide) ?_
      exact kk u3 u6 _ _ (hLI) hP hD hS ls (lv_sub hl [2, 3, 4, 5, 6] rfl)
    · skip
      refine lv_aload_n hx hb dL_law_641 rfl (lv_at hl 5 rfl) ?_
      refine wi_iconst hx hb dL_law_642 ?_
      refine wi_lald hx hb hK hP 98 3 rfl rfl dL_law_643 ?_
      refine lv_iload hx hb dL_law_644 (lv_at hl 0 rfl) ?_
      refine lv_i2l (v := iL (r4)) hx hb dL_law_646 rfl ?_
      refine wi_lcmp0 hx hb (congrFun (hf9 (by omega)) 0) dL_law_647 ?_
      refine wi_if_eq (tgt := 653) hx hb dL_law_648 (by decide) (by omega) (fun c_648 => ?_) (fun c_648 => ?_)
      · skip
        refine lv_goto (tgt := 1705) hx hb dL_law_653 (by decide) ?_
        exact kk u3 u6 _ _ (hLI) hP hD hS ls (lv_sub hl [2, 3, 4, 5, 6] rfl)
      · skip
        exfalso; omega
  · skip
    exfalso; omega
set_option maxHeartbeats 4000000 in
set_option maxRecDepth 100000 in
theorem lc_renew (hl9 : l.stackTraces = false) (hx : p.tables.exec = Jvm.exec) (hb : c.code = cL_law) (hlocks : meth.locks = false) (hown : s.vm.findClass RL = some m.cls) (hml : c.maxLocals = 9) (hts : ∀ w ∈ wsL_law, w.before args s = true) (hK : va_K D vwCl [(cI, FieldType.int), (cO, FieldType.object "PromisedCounters$State"), (cC, FieldType.char), (cL, FieldType.long)] s) (hA : ∀ q : Nat, H0.size ≤ q → A q)
    (hgR : ∀ j : Int, R32 (g j)) (hi : 0 ≤ i ∧ i + 5 ≤ (n9 : Int)) (hn9 : n9 ≤ 2560) (hcells : cells + 1 ≤ 1139) (hslots : slots + 6 ≤ 14922) (hκ : κ 0 0 = μ 0 0) (hln : ln 0 0 = μ 0 1) (hM : RelM σ (μ 0 0) ss (μ 0 1) (β 1) μ) (hG : GI σ (μ 0 0) ss (μ 0 1) (β 1)) (hZ : ZP A s H0) (hX : va_X sc n9 (rI g) s H0) (hbl : sc < H0.size) (hsc : ¬ A sc) (hP : va_P D vwCl (fl [mnW x a sv o rd bu ln, stW cI a σ, svO cO sv (saF sa) κ, stW cI (sa 0) (ss 0), stW cI (sa 1) (ss 1), stW cI (sa 2) (ss 2), stW cI (sa 3) (ss 3), stW cI (sa 4) (ss 4), stW cI (sa 5) (ss 5), ocW cI o φ, rdW rd ρ, bfW cC bu β, ouW cL ob f, mdW cI b μ]) H) (hD : va_D A (fl [mnW x a sv o rd bu ln, stW cI a σ, svO cO sv (saF sa) κ, stW cI (sa 0) (ss 0), stW cI (sa 1) (ss 1), stW cI (sa 2) (ss 2), stW cI (sa 3) (ss 3), stW cI (sa 4) (ss 4), stW cI (sa 5) (ss 5), ocW cI o φ, rdW rd ρ, bfW cC bu β, ouW cL ob f, mdW cI b μ])) (hS : va_S A H0 H locs) (hl : lv_has ls 9 [(0, .ref (sc)), (1, .ref (x 0)), (2, .ref (b 0)), (3, .ref (ob 0)), (4, .int (iI (i)))])
    (kk : ∀ (u : LwS) (μ : Nat → Int → Int) (H : Heap) (locs : List Loc), LI u μ → va_P D vwCl (lawW cI cO cC cL x a sv o rd bu ob b u μ) H → va_D A (lawW cI cO cC cL x a sv o rd bu ob b u μ) → va_S A H0 H locs → ∀ ls : Array Slot, lv_has ls 9 [(0, .ref (sc)), (1, .ref (x 0)), (2, .ref (b 0)), (3, .ref (ob 0)), (4, .int (iI (i)))] → W p l e ({ frames := 13, cells := 1139, slots := 14922, locals := 478 } : Room) s m args below meth c H locs (cells + 1) (slots + 6) Q (F0 m 1705 ls [])) : W p l e ({ frames := 13, cells := 1139, slots := 14922, locals := 478 } : Room) s m args below meth c H locs cells slots Q (F0 m 656 ls []) := by
  refine lv_aload_n hx hb dL_law_656 rfl (lv_at hl 1 rfl) ?_
  refine lv_aload_n hx hb dL_law_657 rfl (lv_at hl 0 rfl) ?_
  refine lv_iload hx hb dL_law_658 (lv_at hl 4 rfl) ?_
  refine wi_iconst hx hb dL_law_660 ?_
  refine wi_iadd hx hb dL_law_661 ?_
  refine wi_sld hx hb hX hbl hsc hS (i := (i + 1)) (by omega) (by omega) dL_law_662 ?_
  refine lv_aload_n hx hb dL_law_663 rfl (lv_at hl 3 rfl) ?_
  have hPc := fl_P (S' := [mnW x a sv o rd bu ln, stW cI a σ, svO cO sv (saF sa) κ, stW cI (sa 0) (ss 0), stW cI (sa 1) (ss 1), stW cI (sa 2) (ss 2), stW cI (sa 3) (ss 3), stW cI (sa 4) (ss 4), stW cI (sa 5) (ss 5), ocW cI o φ, rdW rd ρ, bfW cC bu β, ouW cL ob f]) hP [0, 1, 2, 3, 4, 5, 6, 7, 8, 9, 10, 11, 12] rfl
  have hDc := fl_D (S' := [mnW x a sv o rd bu ln, stW cI a σ, svO cO sv (saF sa) κ, stW cI (sa 0) (ss 0), stW cI (sa 1) (ss 1), stW cI (sa 2) (ss 2), stW cI (sa 3) (ss 3), stW cI (sa 4) (ss 4), stW cI (sa 5) (ss 5), ocW cI o φ, rdW rd ρ, bfW cC bu β, ouW cL ob f]) hD [0, 1, 2, 3, 4, 5, 6, 7, 8, 9, 10, 11, 12] (by decide) rfl
  have hFc := fl_free (SC := [mnW x a sv o rd bu ln, stW cI a σ, svO cO sv (saF sa) κ, stW cI (sa 0) (ss 0), stW cI (sa 1) (ss 1), stW cI (sa 2) (ss 2), stW cI (sa 3) (ss 3), stW cI (sa 4) (ss 4), stW cI (sa 5) (ss 5), ocW cI o φ, rdW rd ρ, bfW cC bu β, ouW cL ob f]) hD hS hA [0, 1, 2, 3, 4, 5, 6, 7, 8, 9, 10, 11, 12] rfl
  refine wq_calli (vx_runSW (As := [.ref (x 0), .int (iI ((g (i + 1)))), .ref (ob 0)]) (rest := []) ⟨hx, hb, hml, hown, hts⟩ (lk_renew l hl9 D cI cO cC cL H.size x a sv o rd bu ob ln σ κ φ ρ β sa ss f ((g (i + 1))) (hgR _) (by rw [hκ, hln]; exact hG)) (vx_cwSW 3 hts gL_law_L_renew rfl rfl rfl (by decide +kernel) ⟨Nat.le_of_ble_eq_true rfl, Nat.le_of_ble_eq_true rfl⟩) ⟨pcWX_blind, pcWX_of hPc hK hDc (hZ.kept hS.2.1) hFc⟩ rfl rfl hl.1 rfl (lv_room (Nat.le_of_ble_eq_true rfl)) dL_law_664 ⟨(by show cells + 0 + 1 ≤ 1139; omega), (by show slots + 0 + 6 ≤ 14922; omega)⟩) hS (fun q _ h => hFc q h) hFc (fun r1 u3 t9 H1 locs ht9 hvm hcl2 hB hz1 hk1 hS => ?_)
  obtain ⟨hP1, hK1, hD1⟩ := hB
  rw [ht9] at hP1
  obtain ⟨hP, hD⟩ := fl_join (SR := [mdW cI b μ]) (S1 := [mnW x a sv o rd bu (LwS.ln u3), stW cI a (LwS.σ u3), svO cO sv (saF (LwS.sa u3)) (LwS.κ u3), stW cI (LwS.sa u3 0) (LwS.ss u3 0), stW cI (LwS.sa u3 1) (LwS.ss u3 1), stW cI (LwS.sa u3 2) (LwS.ss u3 2), stW cI (LwS.sa u3 3) (LwS.ss u3 3), stW cI (LwS.sa u3 4) (LwS.ss u3 4), stW cI (LwS.sa u3 5) (LwS.ss u3 5), ocW cI o (LwS.φ u3), rdW rd (LwS.ρ u3), bfW cC bu (LwS.β u3), ouW cL ob (LwS.f u3)]) hP hD [0, 1, 2, 3, 4, 5, 6, 7, 8, 9, 10, 11, 12] [13] rfl rfl (by decide) (by decide) hk1 hFc hP1 hD1
  generalize H1 = H at hP hS ⊢
  have hP := fl_P (S' := [mnW x a sv o rd bu (LwS.ln u3), stW cI a (LwS.σ u3), svO cO sv (saF (LwS.sa u3)) (LwS.κ u3), stW cI (LwS.sa u3 0) (LwS.ss u3 0), stW cI (LwS.sa u3 1) (LwS.ss u3 1), stW cI (LwS.sa u3 2) (LwS.ss u3 2), stW cI (LwS.sa u3 3) (LwS.ss u3 3), stW cI (LwS.sa u3 4) (LwS.ss u3 4), stW cI (LwS.sa u3 5) (LwS.ss u3 5), ocW cI o (LwS.φ u3), rdW rd (LwS.ρ u3), bfW cC bu (LwS.β u3), ouW cL ob (LwS.f u3), mdW cI b μ]) hP [1, 2, 3, 4, 5, 6, 7, 8, 9, 10, 11, 12, 13, 0] rfl
  have hD := fl_D (S' := [mnW x a sv o rd bu (LwS.ln u3), stW cI a (LwS.σ u3), svO cO sv (saF (LwS.sa u3)) (LwS.κ u3), stW cI (LwS.sa u3 0) (LwS.ss u3 0), stW cI (LwS.sa u3 1) (LwS.ss u3 1), stW cI (LwS.sa u3 2) (LwS.ss u3 2), stW cI (LwS.sa u3 3) (LwS.ss u3 3), stW cI (LwS.sa u3 4) (LwS.ss u3 4), stW cI (LwS.sa u3 5) (LwS.ss u3 5), ocW cI o (LwS.φ u3), rdW rd (LwS.ρ u3), bfW cC bu (LwS.β u3), ouW cL ob (LwS.f u3), mdW cI b μ]) hD [1, 2, 3, 4, 5, 6, 7, 8, 9, 10, 11, 12, 13, 0] (by decide) rfl
  rw [hκ, hln] at hcl2
  refine lv_istore (lv' := [(5, .int (iI (r1))), (0, .ref (sc)), (1, .ref (x 0)), (2, .ref (b 0)), (3, .ref (ob 0)), (4, .int (iI (i)))]) hx hb dL_law_667 hl (by decide) rfl (fun ls hl => ?_)
  refine lv_aload_n hx hb dL_law_669 rfl (lv_at hl 3 rfl) ?_
  refine lv_aload_n hx hb dL_law_670 rfl (lv_at hl 1 rfl) ?_
  refine lv_iload hx hb dL_law_671 (lv_at hl 5 rfl) ?_
  refine wi_iconst hx hb dL_law_673 ?_
  refine wi_iadd hx hb dL_law_674 ?_
  refine wi_sld hx hb hX hbl hsc hS (i := (i + 1)) (by omega) (by omega) dL_law_675 ?_
  have hPc := fl_P (S' := [mdW cI b μ]) hP [13] rfl
  have hKc := hK.sub (tys' := [(cI, FieldType.int)]) [0] rfl
  have hDc := fl_D (S' := [mdW cI b μ]) hD [13] (by decide) rfl
  have hFc := fl_free (SC := [mdW cI b μ]) hD hS hA [13] rfl
  refine wq_calli (va_runV (As := [.int (iI ((g (i + 1))))]) (rest := []) ⟨hx, hb, hml, hown, hts⟩ (c_X5_renew l D cI cO cC cL H.size b μ σ ss (β 1) ((g (i + 1))) (hgR _) (hM) (hG)) (cwV 1 hts gL_law_X5_renew rfl rfl rfl (by decide +kernel) ⟨Nat.le_of_ble_eq_true rfl, Nat.le_of_ble_eq_true rfl⟩) ⟨pcW_blind, va_recv hKc hPc (ci := 5) (q0 := 0) rfl rfl, pcW_of hPc hKc hDc⟩ rfl rfl hl.1 rfl (lv_room (Nat.le_of_ble_eq_true rfl)) dL_law_676 ⟨(by show cells + 1 + 0 ≤ 1139; omega), (by show slots + 6 + 0 ≤ 14922; omega)⟩) hS (fun q _ h => hFc q h) hFc (fun r4 u6 t9 H1 locs ht9 hvm hcl5 hB hz1 hk1 hS => ?_)
  obtain ⟨hP1, hK1, hD1⟩ := hB
  rw [ht9] at hP1
  obtain ⟨hP, hD⟩ := fl_join (SR := [mnW x a sv o rd bu (LwS.ln u3), stW cI a (LwS.σ u3), svO cO sv (saF (LwS.sa u3)) (LwS.κ u3), stW cI (LwS.sa u3 0) (LwS.ss u3 0), stW cI (LwS.sa u3 1) (LwS.ss u3 1), stW cI (LwS.sa u3 2) (LwS.ss u3 2), stW cI (LwS.sa u3 3) (LwS.ss u3 3), stW cI (LwS.sa u3 4) (LwS.ss u3 4), stW cI (LwS.sa u3 5) (LwS.ss u3 5), ocW cI o (LwS.φ u3), rdW rd (LwS.ρ u3), bfW cC bu (LwS.β u3), ouW cL ob (LwS.f u3)]) (S1 := [mdW cI b u6]) hP hD [13] [0, 1, 2, 3, 4, 5, 6, 7, 8, 9, 10, 11, 12] rfl rfl (by decide) (by decide) hk1 hFc hP1 hD1
  generalize H1 = H at hP hS ⊢
  have hP := fl_P (S' := [mnW x a sv o rd bu (LwS.ln u3), stW cI a (LwS.σ u3), svO cO sv (saF (LwS.sa u3)) (LwS.κ u3), stW cI (LwS.sa u3 0) (LwS.ss u3 0), stW cI (LwS.sa u3 1) (LwS.ss u3 1), stW cI (LwS.sa u3 2) (LwS.ss u3 2), stW cI (LwS.sa u3 3) (LwS.ss u3 3), stW cI (LwS.sa u3 4) (LwS.ss u3 4), stW cI (LwS.sa u3 5) (LwS.ss u3 5), ocW cI o (LwS.φ u3), rdW rd (LwS.ρ u3), bfW cC bu (LwS.β u3), ouW cL ob (LwS.f u3), mdW cI b u6]) hP [0, 1, 2, 3, 4, 5, 6, 7, 8, 9, 10, 11, 12, 13] rfl
  have hD := fl_D (S' := [mnW x a sv o rd bu (LwS.ln u3), stW cI a (LwS.σ u3), svO cO sv (saF (LwS.sa u3)) (LwS.κ u3), stW cI (LwS.sa u3 0) (LwS.ss u3 0), stW cI (LwS.sa u3 1) (LwS.ss u3 1), stW cI (LwS.sa u3 2) (LwS.ss u3 2), stW cI (LwS.sa u3 3) (LwS.ss u3 3), stW cI (LwS.sa u3 4) (LwS.ss u3 4), stW cI (LwS.sa u3 5) (LwS.ss u3 5), ocW cI o (LwS.φ u3), rdW rd (LwS.ρ u3), bfW cC bu (LwS.β u3), ouW cL ob (LwS.f u3), mdW cI b u6]) hD [0, 1, 2, 3, 4, 5, 6, 7, 8, 9, 10, 11, 12, 13] (by decide) rfl
  obtain ⟨he9, hf9, hLI⟩ := LI.step hcl2 hcl5 hG (fun h0 => by obtain a1 := cd1_0 h0; exact hG.push (hG.1.ren a1))
  have hrg : 0 ≤ r1 ∧ r1 ≤ 3 := by rw [hcl2.1]; exact cd1_b
  refine lv_istore (lv' := [(6, .int (iI (r4))), (5, .int (iI (r1))), (0, .ref (sc)), (1, .ref (x 0)), (2, .ref (b 0)), (3, .ref (ob 0)), (4, .int (iI (i)))]) hx hb dL_law_679 hl (by decide) rfl (fun ls hl => ?_)
  refine lv_aload_n hx hb dL_law_681 rfl (lv_at hl 4 rfl) ?_
  have hPc := fl_P (S' := [mdW cI b u6]) hP [13] rfl
  have hKc := hK.sub (tys' := [(cI, FieldType.int)]) [0] rfl
  refine wr_calli (va_runV (As := []) (rest := []) ⟨hx, hb, hml, hown, hts⟩ (c_X5_thrown l D cI cO cC cL b u6 ) (cwV 0 hts gL_law_X5_thrown rfl rfl rfl (by decide +kernel) ⟨Nat.le_of_ble_eq_true rfl, Nat.le_of_ble_eq_true rfl⟩) ⟨pcR_blind, va_recv hKc hPc (ci := 5) (q0 := 0) rfl rfl, pcR_of hPc hKc⟩ rfl rfl hl.1 rfl (lv_room (Nat.le_of_ble_eq_true rfl)) dL_law_682 ⟨(by show cells + 1 + 0 ≤ 1139; omega), (by show slots + 6 + 0 ≤ 14922; omega)⟩) (fun r7 hr7 => ?_)
  subst hr7
  refine lv_iload hx hb dL_law_685 (lv_at hl 1 rfl) ?_
  refine wi_icmp_eq (tgt := 692) hx hb dL_law_687 (by decide) (by omega) (fun c_687 => ?_) (fun c_687 => ?_)
  · skip
    refine lv_iload hx hb dL_law_692 (lv_at hl 1 rfl) ?_
    refine wi_if_ne (tgt := 709) hx hb dL_law_694 (by decide) (by omega) (fun c_694 => ?_) (fun c_694 => ?_)
    · skip
      refine lv_goto (tgt := 1705) hx hb dL_law_709 (by decide) ?_
      exact kk u3 u6 _ _ (hLI) hP hD hS ls (lv_sub hl [2, 3, 4, 5, 6] rfl)
    · skip
      refine lv_aload_n hx hb dL_law_697 rfl (lv_at hl 5 rfl) ?_
      refine wi_iconst hx hb dL_law_698 ?_
      refine wi_lald hx hb hK hP 98 3 rfl rfl dL_law_699 ?_
      refine lv_iload hx hb dL_law_700 (lv_at hl 0 rfl) ?_
      refine lv_i2l (v := iL (r4)) hx hb dL_law_702 rfl ?_
      refine wi_lcmp0 hx hb (congrFun (hf9 (by omega)) 0) dL_law_703 ?_
      refine wi_if_eq (tgt := 709) hx hb dL_law_704 (by decide) (by omega) (fun c_704 => ?_) (fun c_704 => ?_)
      · skip
        refine lv_goto (tgt := 1705) hx hb dL_law_709 (by decide) ?_
        exact kk u3 u6 _ _ (hLI) hP hD hS ls (lv_sub hl [2, 3, 4, 5, 6] rfl)
      · skip
        exfalso; omega
  · skip
    exfalso; omega
set_option maxHeartbeats 4000000 in
set_option maxRecDepth 100000 in
theorem lc_finish (hl9 : l.stackTraces = false) (hx : p.tables.exec = Jvm.exec) (hb : c.code = cL_law) (hlocks : meth.locks = false) (hown : s.vm.findClass RL = some m.cls) (hml : c.maxLocals = 9) (hts : ∀ w ∈ wsL_law, w.before args s = true) (hK : va_K D vwCl [(cI, FieldType.int), (cO, FieldType.object "PromisedCounters$State"), (cC, FieldType.char), (cL, FieldType.long)] s) (hA : ∀ q : Nat, H0.size ≤ q → A q)
    (hgR : ∀ j : Int, R32 (g j)) (hi : 0 ≤ i ∧ i + 5 ≤ (n9 : Int)) (hn9 : n9 ≤ 2560) (hcells : cells + 1 ≤ 1139) (hslots : slots + 6 ≤ 14922) (hκ : κ 0 0 = μ 0 0) (hln : ln 0 0 = μ 0 1) (hM : RelM σ (μ 0 0) ss (μ 0 1) (β 1) μ) (hG : GI σ (μ 0 0) ss (μ 0 1) (β 1)) (hZ : ZP A s H0) (hX : va_X sc n9 (rI g) s H0) (hbl : sc < H0.size) (hsc : ¬ A sc) (hP : va_P D vwCl (fl [mnW x a sv o rd bu ln, stW cI a σ, svO cO sv (saF sa) κ, stW cI (sa 0) (ss 0), stW cI (sa 1) (ss 1), stW cI (sa 2) (ss 2), stW cI (sa 3) (ss 3), stW cI (sa 4) (ss 4), stW cI (sa 5) (ss 5), ocW cI o φ, rdW rd ρ, bfW cC bu β, ouW cL ob f, mdW cI b μ]) H) (hD : va_D A (fl [mnW x a sv o rd bu ln, stW cI a σ, svO cO sv (saF sa) κ, stW cI (sa 0) (ss 0), stW cI (sa 1) (ss 1), stW cI (sa 2) (ss 2), stW cI (sa 3) (ss 3), stW cI (sa 4) (ss 4), stW cI (sa 5) (ss 5), ocW cI o φ, rdW rd ρ, bfW cC bu β, ouW cL ob f, mdW cI b μ])) (hS : va_S A H0 H locs) (hl : lv_has ls 9 [(0, .ref (sc)), (1, .ref (x 0)), (2, .ref (b 0)), (3, .ref (ob 0)), (4, .int (iI (i)))])
    (kk : ∀ (u : LwS) (μ : Nat → Int → Int) (H : Heap) (locs : List Loc), LI u μ → va_P D vwCl (lawW cI cO cC cL x a sv o rd bu ob b u μ) H → va_D A (lawW cI cO cC cL x a sv o rd bu ob b u μ) → va_S A H0 H locs → ∀ ls : Array Slot, lv_has ls 9 [(0, .ref (sc)), (1, .ref (x 0)), (2, .ref (b 0)), (3, .ref (ob 0)), (4, .int (iI (i)))] → W p l e ({ frames := 13, cells := 1139, slots := 14922, locals := 478 } : Room) s m args below meth c H locs (cells + 1) (slots + 6) Q (F0 m 1705 ls [])) : W p l e ({ frames := 13, cells := 1139, slots := 14922, locals := 478 } : Room) s m args below meth c H locs cells slots Q (F0 m 712 ls []) := by
  refine lv_aload_n hx hb dL_law_712 rfl (lv_at hl 1 rfl) ?_
  refine lv_aload_n hx hb dL_law_713 rfl (lv_at hl 0 rfl) ?_
  refine lv_iload hx hb dL_law_714 (lv_at hl 4 rfl) ?_
  refine wi_iconst hx hb dL_law_716 ?_
  refine wi_iadd hx hb dL_law_717 ?_
  refine wi_sld hx hb hX hbl hsc hS (i := (i + 1)) (by omega) (by omega) dL_law_718 ?_
  refine lv_aload_n hx hb dL_law_719 rfl (lv_at hl 0 rfl) ?_
  refine lv_iload hx hb dL_law_720 (lv_at hl 4 rfl) ?_
  refine wi_iconst hx hb dL_law_722 ?_
  refine wi_iadd hx hb dL_law_723 ?_
  refine wi_sld hx hb hX hbl hsc hS (i := (i + 2)) (by omega) (by omega) dL_law_724 ?_
  refine wi_if_eq (tgt := 732) hx hb dL_law_725 (by decide) (hgR _) (fun c_725 => ?_) (fun c_725 => ?_)
  · skip
    refine wi_iconst hx hb dL_law_732 ?_
    refine lv_aload_n hx hb dL_law_733 rfl (lv_at hl 3 rfl) ?_
    have hPc := fl_P (S' := [mnW x a sv o rd bu ln, stW cI a σ, svO cO sv (saF sa) κ, stW cI (sa 0) (ss 0), stW cI (sa 1) (ss 1), stW cI (sa 2) (ss 2), stW cI (sa 3) (ss 3), stW cI (sa 4) (ss 4), stW cI (sa 5) (ss 5), ocW cI o φ, rdW rd ρ, bfW cC bu β, ouW cL ob f]) hP [0, 1, 2, 3, 4, 5, 6, 7, 8, 9, 10, 11, 12] rfl
    have hDc := fl_D (S' := [mnW x a sv o rd bu ln, stW cI a σ, svO cO sv (saF sa) κ, stW cI (sa 0) (ss 0), stW cI (sa 1) (ss 1), stW cI (sa 2) (ss 2), stW cI (sa 3) (ss 3), stW cI (sa 4) (ss 4), stW cI (sa 5) (ss 5), ocW cI o φ, rdW rd ρ, bfW cC bu β, ouW cL ob f]) hD [0, 1, 2, 3, 4, 5, 6, 7, 8, 9, 10, 11, 12] (by decide) rfl
    have hFc := fl_free (SC := [mnW x a sv o rd bu ln, stW cI a σ, svO cO sv (saF sa) κ, stW cI (sa 0) (ss 0), stW cI (sa 1) (ss 1), stW cI (sa 2) (ss 2), stW cI (sa 3) (ss 3), stW cI (sa 4) (ss 4), stW cI (sa 5) (ss 5), ocW cI o φ, rdW rd ρ, bfW cC bu β, ouW cL ob f]) hD hS hA [0, 1, 2, 3, 4, 5, 6, 7, 8, 9, 10, 11, 12] rfl
    refine wq_calli (vx_runSW (As := [.ref (x 0), .int (iI ((g (i + 1)))), .int (iI (0)), .ref (ob 0)]) (rest := []) ⟨hx, hb, hml, hown, hts⟩ (lk_finish l hl9 D cI cO cC cL H.size x a sv o rd bu ob ln σ κ φ ρ β sa ss f ((g (i + 1))) (0) (hgR _) (by omega) (by rw [hκ, hln]; exact hG)) (vx_cwSW 4 hts gL_law_L_finish rfl rfl rfl (by decide +kernel) ⟨Nat.le_of_ble_eq_true rfl, Nat.le_of_ble_eq_true rfl⟩) ⟨pcWX_blind, pcWX_of hPc hK hDc (hZ.kept hS.2.1) hFc⟩ rfl rfl hl.1 rfl (lv_room (Nat.le_of_ble_eq_true rfl)) dL_law_734 ⟨(by show cells + 0 + 1 ≤ 1139; omega), (by show slots + 0 + 6 ≤ 14922; omega)⟩) hS (fun q _ h => hFc q h) hFc (fun r1 u3 t9 H1 locs ht9 hvm hcl2 hB hz1 hk1 hS => ?_)
    obtain ⟨hP1, hK1, hD1⟩ := hB
    rw [ht9] at hP1
    obtain ⟨hP, hD⟩ := fl_join (SR := [mdW cI b μ]) (S1 := [mnW x a sv o rd bu (LwS.ln u3), stW cI a (LwS.σ u3), svO cO sv (saF (LwS.sa u3)) (LwS.κ u3), stW cI (LwS.sa u3 0) (LwS.ss u3 0), stW cI (LwS.sa u3 1) (LwS.ss u3 1), stW cI (LwS.sa u3 2) (LwS.ss u3 2), stW cI (LwS.sa u3 3) (LwS.ss u3 3), stW cI (LwS.sa u3 4) (LwS.ss u3 4), stW cI (LwS.sa u3 5) (LwS.ss u3 5), ocW cI o (LwS.φ u3), rdW rd (LwS.ρ u3), bfW cC bu (LwS.β u3), ouW cL ob (LwS.f u3)]) hP hD [0, 1, 2, 3, 4, 5, 6, 7, 8, 9, 10, 11, 12] [13] rfl rfl (by decide) (by decide) hk1 hFc hP1 hD1
    generalize H1 = H at hP hS ⊢
    have hP := fl_P (S' := [mnW x a sv o rd bu (LwS.ln u3), stW cI a (LwS.σ u3), svO cO sv (saF (LwS.sa u3)) (LwS.κ u3), stW cI (LwS.sa u3 0) (LwS.ss u3 0), stW cI (LwS.sa u3 1) (LwS.ss u3 1), stW cI (LwS.sa u3 2) (LwS.ss u3 2), stW cI (LwS.sa u3 3) (LwS.ss u3 3), stW cI (LwS.sa u3 4) (LwS.ss u3 4), stW cI (LwS.sa u3 5) (LwS.ss u3 5), ocW cI o (LwS.φ u3), rdW rd (LwS.ρ u3), bfW cC bu (LwS.β u3), ouW cL ob (LwS.f u3), mdW cI b μ]) hP [1, 2, 3, 4, 5, 6, 7, 8, 9, 10, 11, 12, 13, 0] rfl
    have hD := fl_D (S' := [mnW x a sv o rd bu (LwS.ln u3), stW cI a (LwS.σ u3), svO cO sv (saF (LwS.sa u3)) (LwS.κ u3), stW cI (LwS.sa u3 0) (LwS.ss u3 0), stW cI (LwS.sa u3 1) (LwS.ss u3 1), stW cI (LwS.sa u3 2) (LwS.ss u3 2), stW cI (LwS.sa u3 3) (LwS.ss u3 3), stW cI (LwS.sa u3 4) (LwS.ss u3 4), stW cI (LwS.sa u3 5) (LwS.ss u3 5), ocW cI o (LwS.φ u3), rdW rd (LwS.ρ u3), bfW cC bu (LwS.β u3), ouW cL ob (LwS.f u3), mdW cI b μ]) hD [1, 2, 3, 4, 5, 6, 7, 8, 9, 10, 11, 12, 13, 0] (by decide) rfl
    rw [hκ, hln] at hcl2
    refine lv_istore (lv' := [(5, .int (iI (r1))), (0, .ref (sc)), (1, .ref (x 0)), (2, .ref (b 0)), (3, .ref (ob 0)), (4, .int (iI (i)))]) hx hb dL_law_737 hl (by decide) rfl (fun ls hl => ?_)
    refine lv_aload_n hx hb dL_law_739 rfl (lv_at hl 3 rfl) ?_
    refine lv_aload_n hx hb dL_law_740 rfl (lv_at hl 1 rfl) ?_
    refine lv_iload hx hb dL_law_741 (lv_at hl 5 rfl) ?_
    refine wi_iconst hx hb dL_law_743 ?_
    refine wi_iadd hx hb dL_law_744 ?_
    refine wi_sld hx hb hX hbl hsc hS (i := (i + 1)) (by omega) (by omega) dL_law_745 ?_
    refine lv_aload_n hx hb dL_law_746 rfl (lv_at hl 1 rfl) ?_
    refine lv_iload hx hb dL_law_747 (lv_at hl 5 rfl) ?_
    refine wi_iconst hx hb dL_law_749 ?_
    refine wi_iadd hx hb dL_law_750 ?_
    refine wi_sld hx hb hX hbl hsc hS (i := (i + 2)) (by omega) (by omega) dL_law_751 ?_
    refine wi_if_eq (tgt := 759) hx hb dL_law_752 (by decide) (hgR _) (fun c_752 => ?_) (fun c_752 => ?_)
    · skip
      refine wi_iconst hx hb dL_law_759 ?_
      have hPc := fl_P (S' := [mdW cI b μ]) hP [13] rfl
      have hKc := hK.sub (tys' := [(cI, FieldType.int)]) [0] rfl
      have hDc := fl_D (S' := [mdW cI b μ]) hD [13] (by decide) rfl
      have hFc := fl_free (SC := [mdW cI b μ]) hD hS hA [13] rfl
      refine wq_calli (va_runV (As := [.int (iI ((g (i + 1)))), .int (iI (0))]) (rest := []) ⟨hx, hb, hml, hown, hts⟩ (c_X5_finish l D cI cO cC cL H.size b μ σ ss (β 1) ((g (i + 1))) (0) (hgR _) (by omega) (hM) (hG)) (cwV 2 hts gL_law_X5_finish rfl rfl rfl (by decide +kernel) ⟨Nat.le_of_ble_eq_true rfl, Nat.le_of_ble_eq_true rfl⟩) ⟨pcW_blind, va_recv hKc hPc (ci := 5) (q0 := 0) rfl rfl, pcW_of hPc hKc hDc⟩ rfl rfl hl.1 rfl (lv_room (Nat.le_of_ble_eq_true rfl)) dL_law_760 ⟨(by show cells + 1 + 0 ≤ 1139; omega), (by show slots + 6 + 0 ≤ 14922; omega)⟩) hS (fun q _ h => hFc q h) hFc (fun r4 u6 t9 H1 locs ht9 hvm hcl5 hB hz1 hk1 hS => ?_)
      obtain ⟨hP1, hK1, hD1⟩ := hB
      rw [ht9] at hP1
      obtain ⟨hP, hD⟩ := fl_join (SR := [mnW x a sv o rd bu (LwS.ln u3), stW cI a (LwS.σ u3), svO cO sv (saF (LwS.sa u3)) (LwS.κ u3), stW cI (LwS.sa u3 0) (LwS.ss u3 0), stW cI (LwS.sa u3 1) (LwS.ss u3 1), stW cI (LwS.sa u3 2) (LwS.ss u3 2), stW cI (LwS.sa u3 3) (LwS.ss u3 3), stW cI (LwS.sa u3 4) (LwS.ss u3 4), stW cI (LwS.sa u3 5) (LwS.ss u3 5), ocW cI o (LwS.φ u3), rdW rd (LwS.ρ u3), bfW cC bu (LwS.β u3), ouW cL ob (LwS.f u3)]) (S1 := [mdW cI b u6]) hP hD [13] [0, 1, 2, 3, 4, 5, 6, 7, 8, 9, 10, 11, 12] rfl rfl (by decide) (by decide) hk1 hFc hP1 hD1
      generalize H1 = H at hP hS ⊢
      have hP := fl_P (S' := [mnW x a sv o rd bu (LwS.ln u3), stW cI a (LwS.σ u3), svO cO sv (saF (LwS.sa u3)) (LwS.κ u3), stW cI (LwS.sa u3 0) (LwS.ss u3 0), stW cI (LwS.sa u3 1) (LwS.ss u3 1), stW cI (LwS.sa u3 2) (LwS.ss u3 2), stW cI (LwS.sa u3 3) (LwS.ss u3 3), stW cI (LwS.sa u3 4) (LwS.ss u3 4), stW cI (LwS.sa u3 5) (LwS.ss u3 5), ocW cI o (LwS.φ u3), rdW rd (LwS.ρ u3), bfW cC bu (LwS.β u3), ouW cL ob (LwS.f u3), mdW cI b u6]) hP [0, 1, 2, 3, 4, 5, 6, 7, 8, 9, 10, 11, 12, 13] rfl
      have hD := fl_D (S' := [mnW x a sv o rd bu (LwS.ln u3), stW cI a (LwS.σ u3), svO cO sv (saF (LwS.sa u3)) (LwS.κ u3), stW cI (LwS.sa u3 0) (LwS.ss u3 0), stW cI (LwS.sa u3 1) (LwS.ss u3 1), stW cI (LwS.sa u3 2) (LwS.ss u3 2), stW cI (LwS.sa u3 3) (LwS.ss u3 3), stW cI (LwS.sa u3 4) (LwS.ss u3 4), stW cI (LwS.sa u3 5) (LwS.ss u3 5), ocW cI o (LwS.φ u3), rdW rd (LwS.ρ u3), bfW cC bu (LwS.β u3), ouW cL ob (LwS.f u3), mdW cI b u6]) hD [0, 1, 2, 3, 4, 5, 6, 7, 8, 9, 10, 11, 12, 13] (by decide) rfl
      obtain ⟨he9, hf9, hLI⟩ := LI.step hcl2 hcl5 hG (fun h0 => by obtain a1 := cd1_0 h0; exact hG.push (hG.1.fin _ _))
      have hrg : 0 ≤ r1 ∧ r1 ≤ 3 := by rw [hcl2.1]; exact cd1_b
      refine lv_istore (lv' := [(6, .int (iI (r4))), (5, .int (iI (r1))), (0, .ref (sc)), (1, .ref (x 0)), (2, .ref (b 0)), (3, .ref (ob 0)), (4, .int (iI (i)))]) hx hb dL_law_763 hl (by decide) rfl (fun ls hl => ?_)
      refine lv_aload_n hx hb dL_law_765 rfl (lv_at hl 4 rfl) ?_
      have hPc := fl_P (S' := [mdW cI b u6]) hP [13] rfl
      have hKc := hK.sub (tys' := [(cI, FieldType.int)]) [0] rfl
      refine wr_calli (va_runV (As := []) (rest := []) ⟨hx, hb, hml, hown, hts⟩ (c_X5_thrown l D cI cO cC cL b u6 ) (cwV 0 hts gL_law_X5_thrown rfl rfl rfl (by decide +kernel) ⟨Nat.le_of_ble_eq_true rfl, Nat.le_of_ble_eq_true rfl⟩) ⟨pcR_blind, va_recv hKc hPc (ci := 5) (q0 := 0) rfl rfl, pcR_of hPc hKc⟩ rfl rfl hl.1 rfl (lv_room (Nat.le_of_ble_eq_true rfl)) dL_law_766 ⟨(by show cells + 1 + 0 ≤ 1139; omega), (by show slots + 6 + 0 ≤ 14922; omega)⟩) (fun r7 hr7 => ?_)
      subst hr7
      refine lv_iload hx hb dL_law_769 (lv_at hl 1 rfl) ?_
      refine wi_icmp_eq (tgt := 776) hx hb dL_law_771 (by decide) (by omega) (fun c_771 => ?_) (fun c_771 => ?_)
      · skip
        refine lv_iload hx hb dL_law_776 (lv_at hl 1 rfl) ?_
        refine wi_if_ne (tgt := 793) hx hb dL_law_778 (by decide) (by omega) (fun c_778 => ?_) (fun c_778 => ?_)
        · skip
          refine lv_goto (tgt := 1705) hx hb dL_law_793 (by decide) ?_
          exact kk u3 u6 _ _ (hLI) hP hD hS ls (lv_sub hl [2, 3, 4, 5, 6] rfl)
        · skip
          refine lv_aload_n hx hb dL_law_781 rfl (lv_at hl 5 rfl) ?_
          refine wi_iconst hx hb dL_law_782 ?_
          refine wi_lald hx hb hK hP 98 3 rfl rfl dL_law_783 ?_
          refine lv_iload hx hb dL_law_784 (lv_at hl 0 rfl) ?_
          refine lv_i2l (v := iL (r4)) hx hb dL_law_786 rfl ?_
          refine wi_lcmp0 hx hb (congrFun (hf9 (by omega)) 0) dL_law_787 ?_
          refine wi_if_eq (tgt := 793) hx hb dL_law_788 (by decide) (by omega) (fun c_788 => ?_) (fun c_788 => ?_)
          · skip
            refine lv_goto (tgt := 1705) hx hb dL_law_793 (by decide) ?_
            exact kk u3 u6 _ _ (hLI) hP hD hS ls (lv_sub hl [2, 3, 4, 5, 6] rfl)
          · skip
            exfalso; omega
      · skip
        exfalso; omega
    · skip
      exfalso; omega
  · skip
    refine wi_iconst hx hb dL_law_728 ?_
    refine lv_goto (tgt := 733) hx hb dL_law_729 (by decide) ?_
    refine lv_aload_n hx hb dL_law_733 rfl (lv_at hl 3 rfl) ?_
    have hPc := fl_P (S' := [mnW x a sv o rd bu ln, stW cI a σ, svO cO sv (saF sa) κ, stW cI (sa 0) (ss 0), stW cI (sa 1) (ss 1), stW cI (sa 2) (ss 2), stW cI (sa 3) (ss 3), stW cI (sa 4) (ss 4), stW cI (sa 5) (ss 5), ocW cI o φ, rdW rd ρ, bfW cC bu β, ouW cL ob f]) hP [0, 1, 2, 3, 4, 5, 6, 7, 8, 9, 10, 11, 12] rfl
    have hDc := fl_D (S' := [mnW x a sv o rd bu ln, stW cI a σ, svO cO sv (saF sa) κ, stW cI (sa 0) (ss 0), stW cI (sa 1) (ss 1), stW cI (sa 2) (ss 2), stW cI (sa 3) (ss 3), stW cI (sa 4) (ss 4), stW cI (sa 5) (ss 5), ocW cI o φ, rdW rd ρ, bfW cC bu β, ouW cL ob f]) hD [0, 1, 2, 3, 4, 5, 6, 7, 8, 9, 10, 11, 12] (by decide) rfl
    have hFc := fl_free (SC := [mnW x a sv o rd bu ln, stW cI a σ, svO cO sv (saF sa) κ, stW cI (sa 0) (ss 0), stW cI (sa 1) (ss 1), stW cI (sa 2) (ss 2), stW cI (sa 3) (ss 3), stW cI (sa 4) (ss 4), stW cI (sa 5) (ss 5), ocW cI o φ, rdW rd ρ, bfW cC bu β, ouW cL ob f]) hD hS hA [0, 1, 2, 3, 4, 5, 6, 7, 8, 9, 10, 11, 12] rfl
    refine wq_calli (vx_runSW (As := [.ref (x 0), .int (iI ((g (i + 1)))), .int (iI (1)), .ref (ob 0)]) (rest := []) ⟨hx, hb, hml, hown, hts⟩ (lk_finish l hl9 D cI cO cC cL H.size x a sv o rd bu ob ln σ κ φ ρ β sa ss f ((g (i + 1))) (1) (hgR _) (by omega) (by rw [hκ, hln]; exact hG)) (vx_cwSW 4 hts gL_law_L_finish rfl rfl rfl (by decide +kernel) ⟨Nat.le_of_ble_eq_true rfl, Nat.le_of_ble_eq_true rfl⟩) ⟨pcWX_blind, pcWX_of hPc hK hDc (hZ.kept hS.2.1) hFc⟩ rfl rfl hl.1 rfl (lv_room (Nat.le_of_ble_eq_true rfl)) dL_law_734 ⟨(by show cells + 0 + 1 ≤ 1139; omega), (by show slots + 0 + 6 ≤ 14922; omega)⟩) hS (fun q _ h => hFc q h) hFc (fun r8 u10 t9 H1 locs ht9 hvm hcl9 hB hz1 hk1 hS => ?_)
    obtain ⟨hP1, hK1, hD1⟩ := hB
    rw [ht9] at hP1
    obtain ⟨hP, hD⟩ := fl_join (SR := [mdW cI b μ]) (S1 := [mnW x a sv o rd bu (LwS.ln u10), stW cI a (LwS.σ u10), svO cO sv (saF (LwS.sa u10)) (LwS.κ u10), stW cI (LwS.sa u10 0) (LwS.ss u10 0), stW cI (LwS.sa u10 1) (LwS.ss u10 1), stW cI (LwS.sa u10 2) (LwS.ss u10 2), stW cI (LwS.sa u10 3) (LwS.ss u10 3), stW cI (LwS.sa u10 4) (LwS.ss u10 4), stW cI (LwS.sa u10 5) (LwS.ss u10 5), ocW cI o (LwS.φ u10), rdW rd (LwS.ρ u10), bfW cC bu (LwS.β u10), ouW cL ob (LwS.f u10)]) hP hD [0, 1, 2, 3, 4, 5, 6, 7, 8, 9, 10, 11, 12] [13] rfl rfl (by decide) (by decide) hk1 hFc hP1 hD1
    generalize H1 = H at hP hS ⊢
    have hP := fl_P (S' := [mnW x a sv o rd bu (LwS.ln u10), stW cI a (LwS.σ u10), svO cO sv (saF (LwS.sa u10)) (LwS.κ u10), stW cI (LwS.sa u10 0) (LwS.ss u10 0), stW cI (LwS.sa u10 1) (LwS.ss u10 1), stW cI (LwS.sa u10 2) (LwS.ss u10 2), stW cI (LwS.sa u10 3) (LwS.ss u10 3), stW cI (LwS.sa u10 4) (LwS.ss u10 4), stW cI (LwS.sa u10 5) (LwS.ss u10 5), ocW cI o (LwS.φ u10), rdW rd (LwS.ρ u10), bfW cC bu (LwS.β u10), ouW cL ob (LwS.f u10), mdW cI b μ]) hP [1, 2, 3, 4, 5, 6, 7, 8, 9, 10, 11, 12, 13, 0] rfl
    have hD := fl_D (S' := [mnW x a sv o rd bu (LwS.ln u10), stW cI a (LwS.σ u10), svO cO sv (saF (LwS.sa u10)) (LwS.κ u10), stW cI (LwS.sa u10 0) (LwS.ss u10 0), stW cI (LwS.sa u10 1) (LwS.ss u10 1), stW cI (LwS.sa u10 2) (LwS.ss u10 2), stW cI (LwS.sa u10 3) (LwS.ss u10 3), stW cI (LwS.sa u10 4) (LwS.ss u10 4), stW cI (LwS.sa u10 5) (LwS.ss u10 5), ocW cI o (LwS.φ u10), rdW rd (LwS.ρ u10), bfW cC bu (LwS.β u10), ouW cL ob (LwS.f u10), mdW cI b μ]) hD [1, 2, 3, 4, 5, 6, 7, 8, 9, 10, 11, 12, 13, 0] (by decide) rfl
    rw [hκ, hln] at hcl9
    refine lv_istore (lv' := [(5, .int (iI (r8))), (0, .ref (sc)), (1, .ref (x 0)), (2, .ref (b 0)), (3, .ref (ob 0)), (4, .int (iI (i)))]) hx hb dL_law_737 hl (by decide) rfl (fun ls hl => ?_)
    refine lv_aload_n hx hb dL_law_739 rfl (lv_at hl 3 rfl) ?_
    refine lv_aload_n hx hb dL_law_740 rfl (lv_at hl 1 rfl) ?_
    refine lv_iload hx hb dL_law_741 (lv_at hl 5 rfl) ?_
    refine wi_iconst hx hb dL_law_743 ?_
    refine wi_iadd hx hb dL_law_744 ?_
    refine wi_sld hx hb hX hbl hsc hS (i := (i + 1)) (by omega) (by omega) dL_law_745 ?_
    refine lv_aload_n hx hb dL_law_746 rfl (lv_at hl 1 rfl) ?_
    refine lv_iload hx hb dL_law_747 (lv_at hl 5 rfl) ?_
    refine wi_iconst hx hb dL_law_749 ?_
    refine wi_iadd hx hb dL_law_750 ?_
    refine wi_sld hx hb hX hbl hsc hS (i := (i + 2)) (by omega) (by omega) dL_law_751 ?_
    refine wi_if_eq (tgt := 759) hx hb dL_law_752 (by decide) (hgR _) (fun c_752 => ?_) (fun c_752 => ?_)
    · skip
      exfalso; omega
    · skip
      refine wi_iconst hx hb dL_law_755 ?_
      refine lv_goto (tgt := 760) hx hb dL_law_756 (by decide) ?_
      have hPc := fl_P (S' := [mdW cI b μ]) hP [13] rfl
      have hKc := hK.sub (tys' := [(cI, FieldType.int)]) [0] rfl
      have hDc := fl_D (S' := [mdW cI b μ]) hD [13] (by decide) rfl
      have hFc := fl_free (SC := [mdW cI b μ]) hD hS hA [13] rfl
      refine wq_calli (va_runV (As := [.int (iI ((g (i + 1)))), .int (iI (1))]) (rest := []) ⟨hx, hb, hml, hown, hts⟩ (c_X5_finish l D cI cO cC cL H.size b μ σ ss (β 1) ((g (i + 1))) (1) (hgR _) (by omega) (hM) (hG)) (cwV 2 hts gL_law_X5_finish rfl rfl rfl (by decide +kernel) ⟨Nat.le_of_ble_eq_true rfl, Nat.le_of_ble_eq_true rfl⟩) ⟨pcW_blind, va_recv hKc hPc (ci := 5) (q0 := 0) rfl rfl, pcW_of hPc hKc hDc⟩ rfl rfl hl.1 rfl (lv_room (Nat.le_of_ble_eq_true rfl)) dL_law_760 ⟨(by show cells + 1 + 0 ≤ 1139; omega), (by show slots + 6 + 0 ≤ 14922; omega)⟩) hS (fun q _ h => hFc q h) hFc (fun r11 u13 t9 H1 locs ht9 hvm hcl12 hB hz1 hk1 hS => ?_)
      obtain ⟨hP1, hK1, hD1⟩ := hB
      rw [ht9] at hP1
      obtain ⟨hP, hD⟩ := fl_join (SR := [mnW x a sv o rd bu (LwS.ln u10), stW cI a (LwS.σ u10), svO cO sv (saF (LwS.sa u10)) (LwS.κ u10), stW cI (LwS.sa u10 0) (LwS.ss u10 0), stW cI (LwS.sa u10 1) (LwS.ss u10 1), stW cI (LwS.sa u10 2) (LwS.ss u10 2), stW cI (LwS.sa u10 3) (LwS.ss u10 3), stW cI (LwS.sa u10 4) (LwS.ss u10 4), stW cI (LwS.sa u10 5) (LwS.ss u10 5), ocW cI o (LwS.φ u10), rdW rd (LwS.ρ u10), bfW cC bu (LwS.β u10), ouW cL ob (LwS.f u10)]) (S1 := [mdW cI b u13]) hP hD [13] [0, 1, 2, 3, 4, 5, 6, 7, 8, 9, 10, 11, 12] rfl rfl (by decide) (by decide) hk1 hFc hP1 hD1
      generalize H1 = H at hP hS ⊢
      have hP := fl_P (S' := [mnW x a sv o rd bu (LwS.ln u10), stW cI a (LwS.σ u10), svO cO sv (saF (LwS.sa u10)) (LwS.κ u10), stW cI (LwS.sa u10 0) (LwS.ss u10 0), stW cI (LwS.sa u10 1) (LwS.ss u10 1), stW cI (LwS.sa u10 2) (LwS.ss u10 2), stW cI (LwS.sa u10 3) (LwS.ss u10 3), stW cI (LwS.sa u10 4) (LwS.ss u10 4), stW cI (LwS.sa u10 5) (LwS.ss u10 5), ocW cI o (LwS.φ u10), rdW rd (LwS.ρ u10), bfW cC bu (LwS.β u10), ouW cL ob (LwS.f u10), mdW cI b u13]) hP [0, 1, 2, 3, 4, 5, 6, 7, 8, 9, 10, 11, 12, 13] rfl
      have hD := fl_D (S' := [mnW x a sv o rd bu (LwS.ln u10), stW cI a (LwS.σ u10), svO cO sv (saF (LwS.sa u10)) (LwS.κ u10), stW cI (LwS.sa u10 0) (LwS.ss u10 0), stW cI (LwS.sa u10 1) (LwS.ss u10 1), stW cI (LwS.sa u10 2) (LwS.ss u10 2), stW cI (LwS.sa u10 3) (LwS.ss u10 3), stW cI (LwS.sa u10 4) (LwS.ss u10 4), stW cI (LwS.sa u10 5) (LwS.ss u10 5), ocW cI o (LwS.φ u10), rdW rd (LwS.ρ u10), bfW cC bu (LwS.β u10), ouW cL ob (LwS.f u10), mdW cI b u13]) hD [0, 1, 2, 3, 4, 5, 6, 7, 8, 9, 10, 11, 12, 13] (by decide) rfl
      obtain ⟨he9, hf9, hLI⟩ := LI.step hcl9 hcl12 hG (fun h0 => by obtain a1 := cd1_0 h0; exact hG.push (hG.1.fin _ _))
      have hrg : 0 ≤ r8 ∧ r8 ≤ 3 := by rw [hcl9.1]; exact cd1_b
      refine lv_istore (lv' := [(6, .int (iI (r11))), (5, .int (iI (r8))), (0, .ref (sc)), (1, .ref (x 0)), (2, .ref (b 0)), (3, .ref (ob 0)), (4, .int (iI (i)))]) hx hb dL_law_763 hl (by decide) rfl (fun ls hl => ?_)
      refine lv_aload_n hx hb dL_law_765 rfl (lv_at hl 4 rfl) ?_
      have hPc := fl_P (S' := [mdW cI b u13]) hP [13] rfl
      have hKc := hK.sub (tys' := [(cI, FieldType.int)]) [0] rfl
      refine wr_calli (va_runV (As := []) (rest := []) ⟨hx, hb, hml, hown, hts⟩ (c_X5_thrown l D cI cO cC cL b u13 ) (cwV 0 hts gL_law_X5_thrown rfl rfl rfl (by decide +kernel) ⟨Nat.le_of_ble_eq_true rfl, Nat.le_of_ble_eq_true rfl⟩) ⟨pcR_blind, va_recv hKc hPc (ci := 5) (q0 := 0) rfl rfl, pcR_of hPc hKc⟩ rfl rfl hl.1 rfl (lv_room (Nat.le_of_ble_eq_true rfl)) dL_law_766 ⟨(by show cells + 1 + 0 ≤ 1139; omega), (by show slots + 6 + 0 ≤ 14922; omega)⟩) (fun r14 hr14 => ?_)
      subst hr14
      refine lv_iload hx hb dL_law_769 (lv_at hl 1 rfl) ?_
      refine wi_icmp_eq (tgt := 776) hx hb dL_law_771 (by decide) (by omega) (fun c_771 => ?_) (fun c_771 => ?_)
      · skip
        refine lv_iload hx hb dL_law_776 (lv_at hl 1 rfl) ?_
        refine wi_if_ne (tgt := 793) hx hb dL_law_778 (by decide) (by omega) (fun c_778 => ?_) (fun c_778 => ?_)
        · skip
          refine lv_goto (tgt := 1705) hx hb dL_law_793 (by decide) ?_
          exact kk u10 u13 _ _ (hLI) hP hD hS ls (lv_sub hl [2, 3, 4, 5, 6] rfl)
        · skip
          refine lv_aload_n hx hb dL_law_781 rfl (lv_at hl 5 rfl) ?_
          refine wi_iconst hx hb dL_law_782 ?_
          refine wi_lald hx hb hK hP 98 3 rfl rfl dL_law_783 ?_
          refine lv_iload hx hb dL_law_784 (lv_at hl 0 rfl) ?_
          refine lv_i2l (v := iL (r11)) hx hb dL_law_786 rfl ?_
          refine wi_lcmp0 hx hb (congrFun (hf9 (by omega)) 0) dL_law_787 ?_
          refine wi_if_eq (tgt := 793) hx hb dL_law_788 (by decide) (by omega) (fun c_788 => ?_) (fun c_788 => ?_)
          · skip
            refine lv_goto (tgt := 1705) hx hb dL_law_793 (by decide) ?_
            exact kk u10 u13 _ _ (hLI) hP hD hS ls (lv_sub hl [2, 3, 4, 5, 6] rfl)
          · skip
            exfalso; omega
      · skip
        exfalso; omega
set_option maxHeartbeats 4000000 in
set_option maxRecDepth 100000 in
theorem lc_pass (hl9 : l.stackTraces = false) (hx : p.tables.exec = Jvm.exec) (hb : c.code = cL_law) (hlocks : meth.locks = false) (hown : s.vm.findClass RL = some m.cls) (hml : c.maxLocals = 9) (hts : ∀ w ∈ wsL_law, w.before args s = true) (hK : va_K D vwCl [(cI, FieldType.int), (cO, FieldType.object "PromisedCounters$State"), (cC, FieldType.char), (cL, FieldType.long)] s) (hA : ∀ q : Nat, H0.size ≤ q → A q)
    (hgR : ∀ j : Int, R32 (g j)) (hi : 0 ≤ i ∧ i + 5 ≤ (n9 : Int)) (hn9 : n9 ≤ 2560) (hcells : cells + 1 ≤ 1139) (hslots : slots + 6 ≤ 14922) (hκ : κ 0 0 = μ 0 0) (hln : ln 0 0 = μ 0 1) (hM : RelM σ (μ 0 0) ss (μ 0 1) (β 1) μ) (hG : GI σ (μ 0 0) ss (μ 0 1) (β 1)) (hZ : ZP A s H0) (hX : va_X sc n9 (rI g) s H0) (hbl : sc < H0.size) (hsc : ¬ A sc) (hP : va_P D vwCl (fl [mnW x a sv o rd bu ln, stW cI a σ, svO cO sv (saF sa) κ, stW cI (sa 0) (ss 0), stW cI (sa 1) (ss 1), stW cI (sa 2) (ss 2), stW cI (sa 3) (ss 3), stW cI (sa 4) (ss 4), stW cI (sa 5) (ss 5), ocW cI o φ, rdW rd ρ, bfW cC bu β, ouW cL ob f, mdW cI b μ]) H) (hD : va_D A (fl [mnW x a sv o rd bu ln, stW cI a σ, svO cO sv (saF sa) κ, stW cI (sa 0) (ss 0), stW cI (sa 1) (ss 1), stW cI (sa 2) (ss 2), stW cI (sa 3) (ss 3), stW cI (sa 4) (ss 4), stW cI (sa 5) (ss 5), ocW cI o φ, rdW rd ρ, bfW cC bu β, ouW cL ob f, mdW cI b μ])) (hS : va_S A H0 H locs) (hl : lv_has ls 9 [(0, .ref (sc)), (1, .ref (x 0)), (2, .ref (b 0)), (3, .ref (ob 0)), (4, .int (iI (i)))])
    (kk : ∀ (u : LwS) (μ : Nat → Int → Int) (H : Heap) (locs : List Loc), LI u μ → va_P D vwCl (lawW cI cO cC cL x a sv o rd bu ob b u μ) H → va_D A (lawW cI cO cC cL x a sv o rd bu ob b u μ) → va_S A H0 H locs → ∀ ls : Array Slot, lv_has ls 9 [(0, .ref (sc)), (1, .ref (x 0)), (2, .ref (b 0)), (3, .ref (ob 0)), (4, .int (iI (i)))] → W p l e ({ frames := 13, cells := 1139, slots := 14922, locals := 478 } : Room) s m args below meth c H locs (cells + 1) (slots + 6) Q (F0 m 1705 ls [])) : W p l e ({ frames := 13, cells := 1139, slots := 14922, locals := 478 } : Room) s m args below meth c H locs cells slots Q (F0 m 796 ls []) := by
  refine lv_aload_n hx hb dL_law_796 rfl (lv_at hl 1 rfl) ?_
  refine lv_aload_n hx hb dL_law_797 rfl (lv_at hl 0 rfl) ?_
  refine lv_iload hx hb dL_law_798 (lv_at hl 4 rfl) ?_
  refine wi_iconst hx hb dL_law_800 ?_
  refine wi_iadd hx hb dL_law_801 ?_
  refine wi_sld hx hb hX hbl hsc hS (i := (i + 1)) (by omega) (by omega) dL_law_802 ?_
  refine lv_aload_n hx hb dL_law_803 rfl (lv_at hl 3 rfl) ?_
  have hPc := fl_P (S' := [mnW x a sv o rd bu ln, stW cI a σ, svO cO sv (saF sa) κ, stW cI (sa 0) (ss 0), stW cI (sa 1) (ss 1), stW cI (sa 2) (ss 2), stW cI (sa 3) (ss 3), stW cI (sa 4) (ss 4), stW cI (sa 5) (ss 5), ocW cI o φ, rdW rd ρ, bfW cC bu β, ouW cL ob f]) hP [0, 1, 2, 3, 4, 5, 6, 7, 8, 9, 10, 11, 12] rfl
  have hDc := fl_D (S' := [mnW x a sv o rd bu ln, stW cI a σ, svO cO sv (saF sa) κ, stW cI (sa 0) (ss 0), stW cI (sa 1) (ss 1), stW cI (sa 2) (ss 2), stW cI (sa 3) (ss 3), stW cI (sa 4) (ss 4), stW cI (sa 5) (ss 5), ocW cI o φ, rdW rd ρ, bfW cC bu β, ouW cL ob f]) hD [0, 1, 2, 3, 4, 5, 6, 7, 8, 9, 10, 11, 12] (by decide) rfl
  have hFc := fl_free (SC := [mnW x a sv o rd bu ln, stW cI a σ, svO cO sv (saF sa) κ, stW cI (sa 0) (ss 0), stW cI (sa 1) (ss 1), stW cI (sa 2) (ss 2), stW cI (sa 3) (ss 3), stW cI (sa 4) (ss 4), stW cI (sa 5) (ss 5), ocW cI o φ, rdW rd ρ, bfW cC bu β, ouW cL ob f]) hD hS hA [0, 1, 2, 3, 4, 5, 6, 7, 8, 9, 10, 11, 12] rfl
  refine wq_calli (vx_runSW (As := [.ref (x 0), .int (iI ((g (i + 1)))), .ref (ob 0)]) (rest := []) ⟨hx, hb, hml, hown, hts⟩ (lk_pass l hl9 D cI cO cC cL H.size x a sv o rd bu ob ln σ κ φ ρ β sa ss f ((g (i + 1))) (hgR _) (by rw [hκ, hln]; exact hG)) (vx_cwSW 3 hts gL_law_L_pass rfl rfl rfl (by decide +kernel) ⟨Nat.le_of_ble_eq_true rfl, Nat.le_of_ble_eq_true rfl⟩) ⟨pcWX_blind, pcWX_of hPc hK hDc (hZ.kept hS.2.1) hFc⟩ rfl rfl hl.1 rfl (lv_room (Nat.le_of_ble_eq_true rfl)) dL_law_804 ⟨(by show cells + 0 + 1 ≤ 1139; omega), (by show slots + 0 + 6 ≤ 14922; omega)⟩) hS (fun q _ h => hFc q h) hFc (fun r1 u3 t9 H1 locs ht9 hvm hcl2 hB hz1 hk1 hS => ?_)
  obtain ⟨hP1, hK1, hD1⟩ := hB
  rw [ht9] at hP1
  obtain ⟨hP, hD⟩ := fl_join (SR := [mdW cI b μ]) (S1 := [mnW x a sv o rd bu (LwS.ln u3), stW cI a (LwS.σ u3), svO cO sv (saF (LwS.sa u3)) (LwS.κ u3), stW cI (LwS.sa u3 0) (LwS.ss u3 0), stW cI (LwS.sa u3 1) (LwS.ss u3 1), stW cI (LwS.sa u3 2) (LwS.ss u3 2), stW cI (LwS.sa u3 3) (LwS.ss u3 3), stW cI (LwS.sa u3 4) (LwS.ss u3 4), stW cI (LwS.sa u3 5) (LwS.ss u3 5), ocW cI o (LwS.φ u3), rdW rd (LwS.ρ u3), bfW cC bu (LwS.β u3), ouW cL ob (LwS.f u3)]) hP hD [0, 1, 2, 3, 4, 5, 6, 7, 8, 9, 10, 11, 12] [13] rfl rfl (by decide) (by decide) hk1 hFc hP1 hD1
  generalize H1 = H at hP hS ⊢
  have hP := fl_P (S' := [mnW x a sv o rd bu (LwS.ln u3), stW cI a (LwS.σ u3), svO cO sv (saF (LwS.sa u3)) (LwS.κ u3), stW cI (LwS.sa u3 0) (LwS.ss u3 0), stW cI (LwS.sa u3 1) (LwS.ss u3 1), stW cI (LwS.sa u3 2) (LwS.ss u3 2), stW cI (LwS.sa u3 3) (LwS.ss u3 3), stW cI (LwS.sa u3 4) (LwS.ss u3 4), stW cI (LwS.sa u3 5) (LwS.ss u3 5), ocW cI o (LwS.φ u3), rdW rd (LwS.ρ u3), bfW cC bu (LwS.β u3), ouW cL ob (LwS.f u3), mdW cI b μ]) hP [1, 2, 3, 4, 5, 6, 7, 8, 9, 10, 11, 12, 13, 0] rfl
  have hD := fl_D (S' := [mnW x a sv o rd bu (LwS.ln u3), stW cI a (LwS.σ u3), svO cO sv (saF (LwS.sa u3)) (LwS.κ u3), stW cI (LwS.sa u3 0) (LwS.ss u3 0), stW cI (LwS.sa u3 1) (LwS.ss u3 1), stW cI (LwS.sa u3 2) (LwS.ss u3 2), stW cI (LwS.sa u3 3) (LwS.ss u3 3), stW cI (LwS.sa u3 4) (LwS.ss u3 4), stW cI (LwS.sa u3 5) (LwS.ss u3 5), ocW cI o (LwS.φ u3), rdW rd (LwS.ρ u3), bfW cC bu (LwS.β u3), ouW cL ob (LwS.f u3), mdW cI b μ]) hD [1, 2, 3, 4, 5, 6, 7, 8, 9, 10, 11, 12, 13, 0] (by decide) rfl
  rw [hκ, hln] at hcl2
  refine lv_istore (lv' := [(5, .int (iI (r1))), (0, .ref (sc)), (1, .ref (x 0)), (2, .ref (b 0)), (3, .ref (ob 0)), (4, .int (iI (i)))]) hx hb dL_law_807 hl (by decide) rfl (fun ls hl => ?_)
  refine lv_aload_n hx hb dL_law_809 rfl (lv_at hl 3 rfl) ?_
  refine lv_aload_n hx hb dL_law_810 rfl (lv_at hl 1 rfl) ?_
  refine lv_iload hx hb dL_law_811 (lv_at hl 5 rfl) ?_
  refine wi_iconst hx hb dL_law_813 ?_
  refine wi_iadd hx hb dL_law_814 ?_
  refine wi_sld hx hb hX hbl hsc hS (i := (i + 1)) (by omega) (by omega) dL_law_815 ?_
  have hPc := fl_P (S' := [mdW cI b μ]) hP [13] rfl
  have hKc := hK.sub (tys' := [(cI, FieldType.int)]) [0] rfl
  have hDc := fl_D (S' := [mdW cI b μ]) hD [13] (by decide) rfl
  have hFc := fl_free (SC := [mdW cI b μ]) hD hS hA [13] rfl
  refine wq_calli (va_runV (As := [.int (iI ((g (i + 1))))]) (rest := []) ⟨hx, hb, hml, hown, hts⟩ (c_X5_pass l D cI cO cC cL H.size b μ σ ss (β 1) ((g (i + 1))) (hgR _) (hM) (hG)) (cwV 1 hts gL_law_X5_pass rfl rfl rfl (by decide +kernel) ⟨Nat.le_of_ble_eq_true rfl, Nat.le_of_ble_eq_true rfl⟩) ⟨pcW_blind, va_recv hKc hPc (ci := 5) (q0 := 0) rfl rfl, pcW_of hPc hKc hDc⟩ rfl rfl hl.1 rfl (lv_room (Nat.le_of_ble_eq_true rfl)) dL_law_816 ⟨(by show cells + 1 + 0 ≤ 1139; omega), (by show slots + 6 + 0 ≤ 14922; omega)⟩) hS (fun q _ h => hFc q h) hFc (fun r4 u6 t9 H1 locs ht9 hvm hcl5 hB hz1 hk1 hS => ?_)
  obtain ⟨hP1, hK1, hD1⟩ := hB
  rw [ht9] at hP1
  obtain ⟨hP, hD⟩ := fl_join (SR := [mnW x a sv o rd bu (LwS.ln u3), stW cI a (LwS.σ u3), svO cO sv (saF (LwS.sa u3)) (LwS.κ u3), stW cI (LwS.sa u3 0) (LwS.ss u3 0), stW cI (LwS.sa u3 1) (LwS.ss u3 1), stW cI (LwS.sa u3 2) (LwS.ss u3 2), stW cI (LwS.sa u3 3) (LwS.ss u3 3), stW cI (LwS.sa u3 4) (LwS.ss u3 4), stW cI (LwS.sa u3 5) (LwS.ss u3 5), ocW cI o (LwS.φ u3), rdW rd (LwS.ρ u3), bfW cC bu (LwS.β u3), ouW cL ob (LwS.f u3)]) (S1 := [mdW cI b u6]) hP hD [13] [0, 1, 2, 3, 4, 5, 6, 7, 8, 9, 10, 11, 12] rfl rfl (by decide) (by decide) hk1 hFc hP1 hD1
  generalize H1 = H at hP hS ⊢
  have hP := fl_P (S' := [mnW x a sv o rd bu (LwS.ln u3), stW cI a (LwS.σ u3), svO cO sv (saF (LwS.sa u3)) (LwS.κ u3), stW cI (LwS.sa u3 0) (LwS.ss u3 0), stW cI (LwS.sa u3 1) (LwS.ss u3 1), stW cI (LwS.sa u3 2) (LwS.ss u3 2), stW cI (LwS.sa u3 3) (LwS.ss u3 3), stW cI (LwS.sa u3 4) (LwS.ss u3 4), stW cI (LwS.sa u3 5) (LwS.ss u3 5), ocW cI o (LwS.φ u3), rdW rd (LwS.ρ u3), bfW cC bu (LwS.β u3), ouW cL ob (LwS.f u3), mdW cI b u6]) hP [0, 1, 2, 3, 4, 5, 6, 7, 8, 9, 10, 11, 12, 13] rfl
  have hD := fl_D (S' := [mnW x a sv o rd bu (LwS.ln u3), stW cI a (LwS.σ u3), svO cO sv (saF (LwS.sa u3)) (LwS.κ u3), stW cI (LwS.sa u3 0) (LwS.ss u3 0), stW cI (LwS.sa u3 1) (LwS.ss u3 1), stW cI (LwS.sa u3 2) (LwS.ss u3 2), stW cI (LwS.sa u3 3) (LwS.ss u3 3), stW cI (LwS.sa u3 4) (LwS.ss u3 4), stW cI (LwS.sa u3 5) (LwS.ss u3 5), ocW cI o (LwS.φ u3), rdW rd (LwS.ρ u3), bfW cC bu (LwS.β u3), ouW cL ob (LwS.f u3), mdW cI b u6]) hD [0, 1, 2, 3, 4, 5, 6, 7, 8, 9, 10, 11, 12, 13] (by decide) rfl
  obtain ⟨he9, hf9, hLI⟩ := LI.step hcl2 hcl5 hG (fun h0 => by obtain ⟨a1, a2⟩ := cd2_0 h0; exact hG.push (hG.1.pas a1.1 a2))
  have hrg : 0 ≤ r1 ∧ r1 ≤ 3 := by rw [hcl2.1]; exact cd2_b
  refine lv_istore (lv' := [(6, .int (iI (r4))), (5, .int (iI (r1))), (0, .ref (sc)), (1, .ref (x 0)), (2, .ref (b 0)), (3, .ref (ob 0)), (4, .int (iI (i)))]) hx hb dL_law_819 hl (by decide) rfl (fun ls hl => ?_)
  refine lv_aload_n hx hb dL_law_821 rfl (lv_at hl 4 rfl) ?_
  have hPc := fl_P (S' := [mdW cI b u6]) hP [13] rfl
  have hKc := hK.sub (tys' := [(cI, FieldType.int)]) [0] rfl
  refine wr_calli (va_runV (As := []) (rest := []) ⟨hx, hb, hml, hown, hts⟩ (c_X5_thrown l D cI cO cC cL b u6 ) (cwV 0 hts gL_law_X5_thrown rfl rfl rfl (by decide +kernel) ⟨Nat.le_of_ble_eq_true rfl, Nat.le_of_ble_eq_true rfl⟩) ⟨pcR_blind, va_recv hKc hPc (ci := 5) (q0 := 0) rfl rfl, pcR_of hPc hKc⟩ rfl rfl hl.1 rfl (lv_room (Nat.le_of_ble_eq_true rfl)) dL_law_822 ⟨(by show cells + 1 + 0 ≤ 1139; omega), (by show slots + 6 + 0 ≤ 14922; omega)⟩) (fun r7 hr7 => ?_)
  subst hr7
  refine lv_iload hx hb dL_law_825 (lv_at hl 1 rfl) ?_
  refine wi_icmp_eq (tgt := 832) hx hb dL_law_827 (by decide) (by omega) (fun c_827 => ?_) (fun c_827 => ?_)
  · skip
    refine lv_iload hx hb dL_law_832 (lv_at hl 1 rfl) ?_
    refine wi_if_ne (tgt := 849) hx hb dL_law_834 (by decide) (by omega) (fun c_834 => ?_) (fun c_834 => ?_)
    · skip
      refine lv_goto (tgt := 1705) hx hb dL_law_849 (by decide) ?_
      exact kk u3 u6 _ _ (hLI) hP hD hS ls (lv_sub hl [2, 3, 4, 5, 6] rfl)
    · skip
      refine lv_aload_n hx hb dL_law_837 rfl (lv_at hl 5 rfl) ?_
      refine wi_iconst hx hb dL_law_838 ?_
      refine wi_lald hx hb hK hP 98 3 rfl rfl dL_law_839 ?_
      refine lv_iload hx hb dL_law_840 (lv_at hl 0 rfl) ?_
      refine lv_i2l (v := iL (r4)) hx hb dL_law_842 rfl ?_
      refine wi_lcmp0 hx hb (congrFun (hf9 (by omega)) 0) dL_law_843 ?_
      refine wi_if_eq (tgt := 849) hx hb dL_law_844 (by decide) (by omega) (fun c_844 => ?_) (fun c_844 => ?_)
      · skip
        refine lv_goto (tgt := 1705) hx hb dL_law_849 (by decide) ?_
        exact kk u3 u6 _ _ (hLI) hP hD hS ls (lv_sub hl [2, 3, 4, 5, 6] rfl)
      · skip
        exfalso; omega
  · skip
    exfalso; omega
set_option maxHeartbeats 4000000 in
set_option maxRecDepth 100000 in
theorem lc_append (hl9 : l.stackTraces = false) (hx : p.tables.exec = Jvm.exec) (hb : c.code = cL_law) (hlocks : meth.locks = false) (hown : s.vm.findClass RL = some m.cls) (hml : c.maxLocals = 9) (hts : ∀ w ∈ wsL_law, w.before args s = true) (hK : va_K D vwCl [(cI, FieldType.int), (cO, FieldType.object "PromisedCounters$State"), (cC, FieldType.char), (cL, FieldType.long)] s) (hA : ∀ q : Nat, H0.size ≤ q → A q)
    (hgR : ∀ j : Int, R32 (g j)) (hi : 0 ≤ i ∧ i + 5 ≤ (n9 : Int)) (hn9 : n9 ≤ 2560) (hcells : cells + 1 ≤ 1139) (hslots : slots + 6 ≤ 14922) (hκ : κ 0 0 = μ 0 0) (hln : ln 0 0 = μ 0 1) (hM : RelM σ (μ 0 0) ss (μ 0 1) (β 1) μ) (hG : GI σ (μ 0 0) ss (μ 0 1) (β 1)) (hZ : ZP A s H0) (hX : va_X sc n9 (rI g) s H0) (hbl : sc < H0.size) (hsc : ¬ A sc) (hP : va_P D vwCl (fl [mnW x a sv o rd bu ln, stW cI a σ, svO cO sv (saF sa) κ, stW cI (sa 0) (ss 0), stW cI (sa 1) (ss 1), stW cI (sa 2) (ss 2), stW cI (sa 3) (ss 3), stW cI (sa 4) (ss 4), stW cI (sa 5) (ss 5), ocW cI o φ, rdW rd ρ, bfW cC bu β, ouW cL ob f, mdW cI b μ]) H) (hD : va_D A (fl [mnW x a sv o rd bu ln, stW cI a σ, svO cO sv (saF sa) κ, stW cI (sa 0) (ss 0), stW cI (sa 1) (ss 1), stW cI (sa 2) (ss 2), stW cI (sa 3) (ss 3), stW cI (sa 4) (ss 4), stW cI (sa 5) (ss 5), ocW cI o φ, rdW rd ρ, bfW cC bu β, ouW cL ob f, mdW cI b μ])) (hS : va_S A H0 H locs) (hl : lv_has ls 9 [(0, .ref (sc)), (1, .ref (x 0)), (2, .ref (b 0)), (3, .ref (ob 0)), (4, .int (iI (i)))])
    (kk : ∀ (u : LwS) (μ : Nat → Int → Int) (H : Heap) (locs : List Loc), LI u μ → va_P D vwCl (lawW cI cO cC cL x a sv o rd bu ob b u μ) H → va_D A (lawW cI cO cC cL x a sv o rd bu ob b u μ) → va_S A H0 H locs → ∀ ls : Array Slot, lv_has ls 9 [(0, .ref (sc)), (1, .ref (x 0)), (2, .ref (b 0)), (3, .ref (ob 0)), (4, .int (iI (i)))] → W p l e ({ frames := 13, cells := 1139, slots := 14922, locals := 478 } : Room) s m args below meth c H locs (cells + 1) (slots + 6) Q (F0 m 1705 ls [])) : W p l e ({ frames := 13, cells := 1139, slots := 14922, locals := 478 } : Room) s m args below meth c H locs cells slots Q (F0 m 852 ls []) := by
  refine lv_aload_n hx hb dL_law_852 rfl (lv_at hl 1 rfl) ?_
  refine lv_aload_n hx hb dL_law_853 rfl (lv_at hl 0 rfl) ?_
  refine lv_iload hx hb dL_law_854 (lv_at hl 4 rfl) ?_
  refine wi_iconst hx hb dL_law_856 ?_
  refine wi_iadd hx hb dL_law_857 ?_
  refine wi_sld hx hb hX hbl hsc hS (i := (i + 1)) (by omega) (by omega) dL_law_858 ?_
  refine lv_aload_n hx hb dL_law_859 rfl (lv_at hl 3 rfl) ?_
  have hPc := fl_P (S' := [mnW x a sv o rd bu ln, stW cI a σ, svO cO sv (saF sa) κ, stW cI (sa 0) (ss 0), stW cI (sa 1) (ss 1), stW cI (sa 2) (ss 2), stW cI (sa 3) (ss 3), stW cI (sa 4) (ss 4), stW cI (sa 5) (ss 5), ocW cI o φ, rdW rd ρ, bfW cC bu β, ouW cL ob f]) hP [0, 1, 2, 3, 4, 5, 6, 7, 8, 9, 10, 11, 12] rfl
  have hDc := fl_D (S' := [mnW x a sv o rd bu ln, stW cI a σ, svO cO sv (saF sa) κ, stW cI (sa 0) (ss 0), stW cI (sa 1) (ss 1), stW cI (sa 2) (ss 2), stW cI (sa 3) (ss 3), stW cI (sa 4) (ss 4), stW cI (sa 5) (ss 5), ocW cI o φ, rdW rd ρ, bfW cC bu β, ouW cL ob f]) hD [0, 1, 2, 3, 4, 5, 6, 7, 8, 9, 10, 11, 12] (by decide) rfl
  have hFc := fl_free (SC := [mnW x a sv o rd bu ln, stW cI a σ, svO cO sv (saF sa) κ, stW cI (sa 0) (ss 0), stW cI (sa 1) (ss 1), stW cI (sa 2) (ss 2), stW cI (sa 3) (ss 3), stW cI (sa 4) (ss 4), stW cI (sa 5) (ss 5), ocW cI o φ, rdW rd ρ, bfW cC bu β, ouW cL ob f]) hD hS hA [0, 1, 2, 3, 4, 5, 6, 7, 8, 9, 10, 11, 12] rfl
  refine wq_calli (vx_runSW (As := [.ref (x 0), .int (iI ((g (i + 1)))), .ref (ob 0)]) (rest := []) ⟨hx, hb, hml, hown, hts⟩ (lk_append l hl9 D cI cO cC cL H.size x a sv o rd bu ob ln σ κ φ ρ β sa ss f ((g (i + 1))) (hgR _) (by rw [hκ, hln]; exact hG)) (vx_cwSW 3 hts gL_law_L_append rfl rfl rfl (by decide +kernel) ⟨Nat.le_of_ble_eq_true rfl, Nat.le_of_ble_eq_true rfl⟩) ⟨pcWX_blind, pcWX_of hPc hK hDc (hZ.kept hS.2.1) hFc⟩ rfl rfl hl.1 rfl (lv_room (Nat.le_of_ble_eq_true rfl)) dL_law_860 ⟨(by show cells + 0 + 1 ≤ 1139; omega), (by show slots + 0 + 6 ≤ 14922; omega)⟩) hS (fun q _ h => hFc q h) hFc (fun r1 u3 t9 H1 locs ht9 hvm hcl2 hB hz1 hk1 hS => ?_)
  obtain ⟨hP1, hK1, hD1⟩ := hB
  rw [ht9] at hP1
  obtain ⟨hP, hD⟩ := fl_join (SR := [mdW cI b μ]) (S1 := [mnW x a sv o rd bu (LwS.ln u3), stW cI a (LwS.σ u3), svO cO sv (saF (LwS.sa u3)) (LwS.κ u3), stW cI (LwS.sa u3 0) (LwS.ss u3 0), stW cI (LwS.sa u3 1) (LwS.ss u3 1), stW cI (LwS.sa u3 2) (LwS.ss u3 2), stW cI (LwS.sa u3 3) (LwS.ss u3 3), stW cI (LwS.sa u3 4) (LwS.ss u3 4), stW cI (LwS.sa u3 5) (LwS.ss u3 5), ocW cI o (LwS.φ u3), rdW rd (LwS.ρ u3), bfW cC bu (LwS.β u3), ouW cL ob (LwS.f u3)]) hP hD [0, 1, 2, 3, 4, 5, 6, 7, 8, 9, 10, 11, 12] [13] rfl rfl (by decide) (by decide) hk1 hFc hP1 hD1
  generalize H1 = H at hP hS ⊢
  have hP := fl_P (S' := [mnW x a sv o rd bu (LwS.ln u3), stW cI a (LwS.σ u3), svO cO sv (saF (LwS.sa u3)) (LwS.κ u3), stW cI (LwS.sa u3 0) (LwS.ss u3 0), stW cI (LwS.sa u3 1) (LwS.ss u3 1), stW cI (LwS.sa u3 2) (LwS.ss u3 2), stW cI (LwS.sa u3 3) (LwS.ss u3 3), stW cI (LwS.sa u3 4) (LwS.ss u3 4), stW cI (LwS.sa u3 5) (LwS.ss u3 5), ocW cI o (LwS.φ u3), rdW rd (LwS.ρ u3), bfW cC bu (LwS.β u3), ouW cL ob (LwS.f u3), mdW cI b μ]) hP [1, 2, 3, 4, 5, 6, 7, 8, 9, 10, 11, 12, 13, 0] rfl
  have hD := fl_D (S' := [mnW x a sv o rd bu (LwS.ln u3), stW cI a (LwS.σ u3), svO cO sv (saF (LwS.sa u3)) (LwS.κ u3), stW cI (LwS.sa u3 0) (LwS.ss u3 0), stW cI (LwS.sa u3 1) (LwS.ss u3 1), stW cI (LwS.sa u3 2) (LwS.ss u3 2), stW cI (LwS.sa u3 3) (LwS.ss u3 3), stW cI (LwS.sa u3 4) (LwS.ss u3 4), stW cI (LwS.sa u3 5) (LwS.ss u3 5), ocW cI o (LwS.φ u3), rdW rd (LwS.ρ u3), bfW cC bu (LwS.β u3), ouW cL ob (LwS.f u3), mdW cI b μ]) hD [1, 2, 3, 4, 5, 6, 7, 8, 9, 10, 11, 12, 13, 0] (by decide) rfl
  rw [hκ, hln] at hcl2
  refine lv_istore (lv' := [(5, .int (iI (r1))), (0, .ref (sc)), (1, .ref (x 0)), (2, .ref (b 0)), (3, .ref (ob 0)), (4, .int (iI (i)))]) hx hb dL_law_863 hl (by decide) rfl (fun ls hl => ?_)
  refine lv_aload_n hx hb dL_law_865 rfl (lv_at hl 3 rfl) ?_
  refine lv_aload_n hx hb dL_law_866 rfl (lv_at hl 1 rfl) ?_
  refine lv_iload hx hb dL_law_867 (lv_at hl 5 rfl) ?_
  refine wi_iconst hx hb dL_law_869 ?_
  refine wi_iadd hx hb dL_law_870 ?_
  refine wi_sld hx hb hX hbl hsc hS (i := (i + 1)) (by omega) (by omega) dL_law_871 ?_
  have hPc := fl_P (S' := [mdW cI b μ]) hP [13] rfl
  have hKc := hK.sub (tys' := [(cI, FieldType.int)]) [0] rfl
  have hDc := fl_D (S' := [mdW cI b μ]) hD [13] (by decide) rfl
  have hFc := fl_free (SC := [mdW cI b μ]) hD hS hA [13] rfl
  refine wq_calli (va_runV (As := [.int (iI ((g (i + 1))))]) (rest := []) ⟨hx, hb, hml, hown, hts⟩ (c_X5_append l D cI cO cC cL H.size b μ σ ss (β 1) ((g (i + 1))) (hgR _) (hM) (hG)) (cwV 1 hts gL_law_X5_append rfl rfl rfl (by decide +kernel) ⟨Nat.le_of_ble_eq_true rfl, Nat.le_of_ble_eq_true rfl⟩) ⟨pcW_blind, va_recv hKc hPc (ci := 5) (q0 := 0) rfl rfl, pcW_of hPc hKc hDc⟩ rfl rfl hl.1 rfl (lv_room (Nat.le_of_ble_eq_true rfl)) dL_law_872 ⟨(by show cells + 1 + 0 ≤ 1139; omega), (by show slots + 6 + 0 ≤ 14922; omega)⟩) hS (fun q _ h => hFc q h) hFc (fun r4 u6 t9 H1 locs ht9 hvm hcl5 hB hz1 hk1 hS => ?_)
  obtain ⟨hP1, hK1, hD1⟩ := hB
  rw [ht9] at hP1
  obtain ⟨hP, hD⟩ := fl_join (SR := [mnW x a sv o rd bu (LwS.ln u3), stW cI a (LwS.σ u3), svO cO sv (saF (LwS.sa u3)) (LwS.κ u3), stW cI (LwS.sa u3 0) (LwS.ss u3 0), stW cI (LwS.sa u3 1) (LwS.ss u3 1), stW cI (LwS.sa u3 2) (LwS.ss u3 2), stW cI (LwS.sa u3 3) (LwS.ss u3 3), stW cI (LwS.sa u3 4) (LwS.ss u3 4), stW cI (LwS.sa u3 5) (LwS.ss u3 5), ocW cI o (LwS.φ u3), rdW rd (LwS.ρ u3), bfW cC bu (LwS.β u3), ouW cL ob (LwS.f u3)]) (S1 := [mdW cI b u6]) hP hD [13] [0, 1, 2, 3, 4, 5, 6, 7, 8, 9, 10, 11, 12] rfl rfl (by decide) (by decide) hk1 hFc hP1 hD1
  generalize H1 = H at hP hS ⊢
  have hP := fl_P (S' := [mnW x a sv o rd bu (LwS.ln u3), stW cI a (LwS.σ u3), svO cO sv (saF (LwS.sa u3)) (LwS.κ u3), stW cI (LwS.sa u3 0) (LwS.ss u3 0), stW cI (LwS.sa u3 1) (LwS.ss u3 1), stW cI (LwS.sa u3 2) (LwS.ss u3 2), stW cI (LwS.sa u3 3) (LwS.ss u3 3), stW cI (LwS.sa u3 4) (LwS.ss u3 4), stW cI (LwS.sa u3 5) (LwS.ss u3 5), ocW cI o (LwS.φ u3), rdW rd (LwS.ρ u3), bfW cC bu (LwS.β u3), ouW cL ob (LwS.f u3), mdW cI b u6]) hP [0, 1, 2, 3, 4, 5, 6, 7, 8, 9, 10, 11, 12, 13] rfl
  have hD := fl_D (S' := [mnW x a sv o rd bu (LwS.ln u3), stW cI a (LwS.σ u3), svO cO sv (saF (LwS.sa u3)) (LwS.κ u3), stW cI (LwS.sa u3 0) (LwS.ss u3 0), stW cI (LwS.sa u3 1) (LwS.ss u3 1), stW cI (LwS.sa u3 2) (LwS.ss u3 2), stW cI (LwS.sa u3 3) (LwS.ss u3 3), stW cI (LwS.sa u3 4) (LwS.ss u3 4), stW cI (LwS.sa u3 5) (LwS.ss u3 5), ocW cI o (LwS.φ u3), rdW rd (LwS.ρ u3), bfW cC bu (LwS.β u3), ouW cL ob (LwS.f u3), mdW cI b u6]) hD [0, 1, 2, 3, 4, 5, 6, 7, 8, 9, 10, 11, 12, 13] (by decide) rfl
  obtain ⟨he9, hf9, hLI⟩ := LI.step hcl2 hcl5 hG (fun h0 => by obtain ⟨a1, a2⟩ := cd2_0 h0; exact hG.app a1 (by have h8 := hG.2.2.2.1; omega))
  have hrg : 0 ≤ r1 ∧ r1 ≤ 3 := by rw [hcl2.1]; exact cd2_b
  refine lv_istore (lv' := [(6, .int (iI (r4))), (5, .int (iI (r1))), (0, .ref (sc)), (1, .ref (x 0)), (2, .ref (b 0)), (3, .ref (ob 0)), (4, .int (iI (i)))]) hx hb dL_law_875 hl (by decide) rfl (fun ls hl => ?_)
  refine lv_aload_n hx hb dL_law_877 rfl (lv_at hl 4 rfl) ?_
  have hPc := fl_P (S' := [mdW cI b u6]) hP [13] rfl
  have hKc := hK.sub (tys' := [(cI, FieldType.int)]) [0] rfl
  refine wr_calli (va_runV (As := []) (rest := []) ⟨hx, hb, hml, hown, hts⟩ (c_X5_thrown l D cI cO cC cL b u6 ) (cwV 0 hts gL_law_X5_thrown rfl rfl rfl (by decide +kernel) ⟨Nat.le_of_ble_eq_true rfl, Nat.le_of_ble_eq_true rfl⟩) ⟨pcR_blind, va_recv hKc hPc (ci := 5) (q0 := 0) rfl rfl, pcR_of hPc hKc⟩ rfl rfl hl.1 rfl (lv_room (Nat.le_of_ble_eq_true rfl)) dL_law_878 ⟨(by show cells + 1 + 0 ≤ 1139; omega), (by show slots + 6 + 0 ≤ 14922; omega)⟩) (fun r7 hr7 => ?_)
  subst hr7
  refine lv_iload hx hb dL_law_881 (lv_at hl 1 rfl) ?_
  refine wi_icmp_eq (tgt := 888) hx hb dL_law_883 (by decide) (by omega) (fun c_883 => ?_) (fun c_883 => ?_)
  · skip
    refine lv_iload hx hb dL_law_888 (lv_at hl 1 rfl) ?_
    refine wi_if_ne (tgt := 905) hx hb dL_law_890 (by decide) (by omega) (fun c_890 => ?_) (fun c_890 => ?_)
    · skip
      refine lv_goto (tgt := 1705) hx hb dL_law_905 (by decide) ?_
      exact kk u3 u6 _ _ (hLI) hP hD hS ls (lv_sub hl [2, 3, 4, 5, 6] rfl)
    · skip
      refine lv_aload_n hx hb dL_law_893 rfl (lv_at hl 5 rfl) ?_
      refine wi_iconst hx hb dL_law_894 ?_
      refine wi_lald hx hb hK hP 98 3 rfl rfl dL_law_895 ?_
      refine lv_iload hx hb dL_law_896 (lv_at hl 0 rfl) ?_
      refine lv_i2l (v := iL (r4)) hx hb dL_law_898 rfl ?_
      refine wi_lcmp0 hx hb (congrFun (hf9 (by omega)) 0) dL_law_899 ?_
      refine wi_if_eq (tgt := 905) hx hb dL_law_900 (by decide) (by omega) (fun c_900 => ?_) (fun c_900 => ?_)
      · skip
        refine lv_goto (tgt := 1705) hx hb dL_law_905 (by decide) ?_
        exact kk u3 u6 _ _ (hLI) hP hD hS ls (lv_sub hl [2, 3, 4, 5, 6] rfl)
      · skip
        exfalso; omega
  · skip
    exfalso; omega
set_option maxHeartbeats 4000000 in
set_option maxRecDepth 100000 in
theorem lc_promiseAll (hl9 : l.stackTraces = false) (hx : p.tables.exec = Jvm.exec) (hb : c.code = cL_law) (hlocks : meth.locks = false) (hown : s.vm.findClass RL = some m.cls) (hml : c.maxLocals = 9) (hts : ∀ w ∈ wsL_law, w.before args s = true) (hK : va_K D vwCl [(cI, FieldType.int), (cO, FieldType.object "PromisedCounters$State"), (cC, FieldType.char), (cL, FieldType.long)] s) (hA : ∀ q : Nat, H0.size ≤ q → A q)
    (hgR : ∀ j : Int, R32 (g j)) (hi : 0 ≤ i ∧ i + 5 ≤ (n9 : Int)) (hn9 : n9 ≤ 2560) (hcells : cells + 1 ≤ 1139) (hslots : slots + 6 ≤ 14922) (hκ : κ 0 0 = μ 0 0) (hln : ln 0 0 = μ 0 1) (hM : RelM σ (μ 0 0) ss (μ 0 1) (β 1) μ) (hG : GI σ (μ 0 0) ss (μ 0 1) (β 1)) (hZ : ZP A s H0) (hX : va_X sc n9 (rI g) s H0) (hbl : sc < H0.size) (hsc : ¬ A sc) (hP : va_P D vwCl (fl [mnW x a sv o rd bu ln, stW cI a σ, svO cO sv (saF sa) κ, stW cI (sa 0) (ss 0), stW cI (sa 1) (ss 1), stW cI (sa 2) (ss 2), stW cI (sa 3) (ss 3), stW cI (sa 4) (ss 4), stW cI (sa 5) (ss 5), ocW cI o φ, rdW rd ρ, bfW cC bu β, ouW cL ob f, mdW cI b μ]) H) (hD : va_D A (fl [mnW x a sv o rd bu ln, stW cI a σ, svO cO sv (saF sa) κ, stW cI (sa 0) (ss 0), stW cI (sa 1) (ss 1), stW cI (sa 2) (ss 2), stW cI (sa 3) (ss 3), stW cI (sa 4) (ss 4), stW cI (sa 5) (ss 5), ocW cI o φ, rdW rd ρ, bfW cC bu β, ouW cL ob f, mdW cI b μ])) (hS : va_S A H0 H locs) (hl : lv_has ls 9 [(0, .ref (sc)), (1, .ref (x 0)), (2, .ref (b 0)), (3, .ref (ob 0)), (4, .int (iI (i)))])
    (kk : ∀ (u : LwS) (μ : Nat → Int → Int) (H : Heap) (locs : List Loc), LI u μ → va_P D vwCl (lawW cI cO cC cL x a sv o rd bu ob b u μ) H → va_D A (lawW cI cO cC cL x a sv o rd bu ob b u μ) → va_S A H0 H locs → ∀ ls : Array Slot, lv_has ls 9 [(0, .ref (sc)), (1, .ref (x 0)), (2, .ref (b 0)), (3, .ref (ob 0)), (4, .int (iI (i)))] → W p l e ({ frames := 13, cells := 1139, slots := 14922, locals := 478 } : Room) s m args below meth c H locs (cells + 1) (slots + 6) Q (F0 m 1705 ls [])) : W p l e ({ frames := 13, cells := 1139, slots := 14922, locals := 478 } : Room) s m args below meth c H locs cells slots Q (F0 m 934 ls []) := by
  obtain ⟨ρ9, hρ9, hf39⟩ := rd_any rd ρ
  rw [hρ9] at hP hD
  obtain ⟨cd, hcd9⟩ : ∃ cd : Int, (cd = 0 ∧ VAL (β 1) (ln 0 0) (uI (ρ9 0) 0 0)) ∨ (cd = 1 ∧ ¬ VAL (β 1) (ln 0 0) (uI (ρ9 0) 0 0)) := (Classical.em (VAL (β 1) (ln 0 0) (uI (ρ9 0) 0 0))).elim (fun q => ⟨0, Or.inl ⟨rfl, q⟩⟩) (fun q => ⟨1, Or.inr ⟨rfl, q⟩⟩)
  have hcd8 := hcd9
  rw [hln] at hcd8
  have hv9 : VAL (β 1) (μ 0 1) (uI (endR (β 1) (μ 0 1 - 0).toNat (uI (ρ9 0) 0 0) 0) 0 0) ↔ VAL (β 1) (μ 0 1) (uI (ρ9 0) 0 0) := VAL_ag (uI_s _ _ _) (uI_s _ _ _)
  have hcd7 : (cd = 0 ∧ VAL (β 1) (μ 0 1) (uI (endR (β 1) (μ 0 1 - 0).toNat (uI (ρ9 0) 0 0) 0) 0 0)) ∨ (cd = 1 ∧ ¬ VAL (β 1) (μ 0 1) (uI (endR (β 1) (μ 0 1 - 0).toNat (uI (ρ9 0) 0 0) 0) 0 0)) := hcd8.imp (fun q => ⟨q.1, hv9.mpr q.2⟩) (fun q => ⟨q.1, fun z => q.2 (hv9.mp z)⟩)
  refine lv_aload_n hx hb dL_law_934 rfl (lv_at hl 1 rfl) ?_
  refine lv_aload_n hx hb dL_law_935 rfl (lv_at hl 3 rfl) ?_
  have hPc := fl_P (S' := [mnW x a sv o rd bu ln, stW cI a σ, svO cO sv (saF sa) κ, stW cI (sa 0) (ss 0), stW cI (sa 1) (ss 1), stW cI (sa 2) (ss 2), stW cI (sa 3) (ss 3), stW cI (sa 4) (ss 4), stW cI (sa 5) (ss 5), ocW cI o φ, rdW rd ρ9, bfW cC bu β, ouW cL ob f]) hP [0, 1, 2, 3, 4, 5, 6, 7, 8, 9, 10, 11, 12] rfl
  have hDc := fl_D (S' := [mnW x a sv o rd bu ln, stW cI a σ, svO cO sv (saF sa) κ, stW cI (sa 0) (ss 0), stW cI (sa 1) (ss 1), stW cI (sa 2) (ss 2), stW cI (sa 3) (ss 3), stW cI (sa 4) (ss 4), stW cI (sa 5) (ss 5), ocW cI o φ, rdW rd ρ9, bfW cC bu β, ouW cL ob f]) hD [0, 1, 2, 3, 4, 5, 6, 7, 8, 9, 10, 11, 12] (by decide) rfl
  have hFc := fl_free (SC := [mnW x a sv o rd bu ln, stW cI a σ, svO cO sv (saF sa) κ, stW cI (sa 0) (ss 0), stW cI (sa 1) (ss 1), stW cI (sa 2) (ss 2), stW cI (sa 3) (ss 3), stW cI (sa 4) (ss 4), stW cI (sa 5) (ss 5), ocW cI o φ, rdW rd ρ9, bfW cC bu β, ouW cL ob f]) hD hS hA [0, 1, 2, 3, 4, 5, 6, 7, 8, 9, 10, 11, 12] rfl
  refine wq_calli (vx_runSW (As := [.ref (x 0), .ref (ob 0)]) (rest := []) ⟨hx, hb, hml, hown, hts⟩ (lk_promiseAll l hl9 D cI cO cC cL H.size x a sv o rd bu ob ln σ κ φ ρ9 β sa ss f cd (hf39) (hcd9) (by rw [hκ, hln]; exact hG)) (vx_cwSW 2 hts gL_law_L_promiseAll rfl rfl rfl (by decide +kernel) ⟨Nat.le_of_ble_eq_true rfl, Nat.le_of_ble_eq_true rfl⟩) ⟨pcWX_blind, pcWX_of hPc hK hDc (hZ.kept hS.2.1) hFc⟩ rfl rfl hl.1 rfl (lv_room (Nat.le_of_ble_eq_true rfl)) dL_law_936 ⟨(by show cells + 0 + 1 ≤ 1139; omega), (by show slots + 0 + 6 ≤ 14922; omega)⟩) hS (fun q _ h => hFc q h) hFc (fun r1 u3 t9 H1 locs ht9 hvm hcl2 hB hz1 hk1 hS => ?_)
  obtain ⟨hP1, hK1, hD1⟩ := hB
  rw [ht9] at hP1
  obtain ⟨hP, hD⟩ := fl_join (SR := [mdW cI b μ]) (S1 := [mnW x a sv o rd bu (LwS.ln u3), stW cI a (LwS.σ u3), svO cO sv (saF (LwS.sa u3)) (LwS.κ u3), stW cI (LwS.sa u3 0) (LwS.ss u3 0), stW cI (LwS.sa u3 1) (LwS.ss u3 1), stW cI (LwS.sa u3 2) (LwS.ss u3 2), stW cI (LwS.sa u3 3) (LwS.ss u3 3), stW cI (LwS.sa u3 4) (LwS.ss u3 4), stW cI (LwS.sa u3 5) (LwS.ss u3 5), ocW cI o (LwS.φ u3), rdW rd (LwS.ρ u3), bfW cC bu (LwS.β u3), ouW cL ob (LwS.f u3)]) hP hD [0, 1, 2, 3, 4, 5, 6, 7, 8, 9, 10, 11, 12] [13] rfl rfl (by decide) (by decide) hk1 hFc hP1 hD1
  generalize H1 = H at hP hS ⊢
  have hP := fl_P (S' := [mnW x a sv o rd bu (LwS.ln u3), stW cI a (LwS.σ u3), svO cO sv (saF (LwS.sa u3)) (LwS.κ u3), stW cI (LwS.sa u3 0) (LwS.ss u3 0), stW cI (LwS.sa u3 1) (LwS.ss u3 1), stW cI (LwS.sa u3 2) (LwS.ss u3 2), stW cI (LwS.sa u3 3) (LwS.ss u3 3), stW cI (LwS.sa u3 4) (LwS.ss u3 4), stW cI (LwS.sa u3 5) (LwS.ss u3 5), ocW cI o (LwS.φ u3), rdW rd (LwS.ρ u3), bfW cC bu (LwS.β u3), ouW cL ob (LwS.f u3), mdW cI b μ]) hP [1, 2, 3, 4, 5, 6, 7, 8, 9, 10, 11, 12, 13, 0] rfl
  have hD := fl_D (S' := [mnW x a sv o rd bu (LwS.ln u3), stW cI a (LwS.σ u3), svO cO sv (saF (LwS.sa u3)) (LwS.κ u3), stW cI (LwS.sa u3 0) (LwS.ss u3 0), stW cI (LwS.sa u3 1) (LwS.ss u3 1), stW cI (LwS.sa u3 2) (LwS.ss u3 2), stW cI (LwS.sa u3 3) (LwS.ss u3 3), stW cI (LwS.sa u3 4) (LwS.ss u3 4), stW cI (LwS.sa u3 5) (LwS.ss u3 5), ocW cI o (LwS.φ u3), rdW rd (LwS.ρ u3), bfW cC bu (LwS.β u3), ouW cL ob (LwS.f u3), mdW cI b μ]) hD [1, 2, 3, 4, 5, 6, 7, 8, 9, 10, 11, 12, 13, 0] (by decide) rfl
  rw [hκ, hln] at hcl2
  refine lv_istore (lv' := [(5, .int (iI (r1))), (0, .ref (sc)), (1, .ref (x 0)), (2, .ref (b 0)), (3, .ref (ob 0)), (4, .int (iI (i)))]) hx hb dL_law_939 hl (by decide) rfl (fun ls hl => ?_)
  refine lv_aload_n hx hb dL_law_941 rfl (lv_at hl 3 rfl) ?_
  have hPc := fl_P (S' := [mdW cI b μ]) hP [13] rfl
  have hKc := hK.sub (tys' := [(cI, FieldType.int)]) [0] rfl
  have hDc := fl_D (S' := [mdW cI b μ]) hD [13] (by decide) rfl
  have hFc := fl_free (SC := [mdW cI b μ]) hD hS hA [13] rfl
  refine wq_calli (va_runV (As := []) (rest := []) ⟨hx, hb, hml, hown, hts⟩ (c_X5_promiseAll l D cI cO cC cL H.size b μ σ ss (β 1) (uI (endR (β 1) (μ 0 1 - 0).toNat (uI (ρ9 0) 0 0) 0) 0 0) cd (hM) (hG) (uI_s _ _ _) (hcd7)) (cwV 0 hts gL_law_X5_promiseAll rfl rfl rfl (by decide +kernel) ⟨Nat.le_of_ble_eq_true rfl, Nat.le_of_ble_eq_true rfl⟩) ⟨pcW_blind, va_recv hKc hPc (ci := 5) (q0 := 0) rfl rfl, pcW_of hPc hKc hDc⟩ rfl rfl hl.1 rfl (lv_room (Nat.le_of_ble_eq_true rfl)) dL_law_942 ⟨(by show cells + 1 + 0 ≤ 1139; omega), (by show slots + 6 + 0 ≤ 14922; omega)⟩) hS (fun q _ h => hFc q h) hFc (fun r4 u6 t9 H1 locs ht9 hvm hcl5 hB hz1 hk1 hS => ?_)
  obtain ⟨hP1, hK1, hD1⟩ := hB
  rw [ht9] at hP1
  obtain ⟨hP, hD⟩ := fl_join (SR := [mnW x a sv o rd bu (LwS.ln u3), stW cI a (LwS.σ u3), svO cO sv (saF (LwS.sa u3)) (LwS.κ u3), stW cI (LwS.sa u3 0) (LwS.ss u3 0), stW cI (LwS.sa u3 1) (LwS.ss u3 1), stW cI (LwS.sa u3 2) (LwS.ss u3 2), stW cI (LwS.sa u3 3) (LwS.ss u3 3), stW cI (LwS.sa u3 4) (LwS.ss u3 4), stW cI (LwS.sa u3 5) (LwS.ss u3 5), ocW cI o (LwS.φ u3), rdW rd (LwS.ρ u3), bfW cC bu (LwS.β u3), ouW cL ob (LwS.f u3)]) (S1 := [mdW cI b u6]) hP hD [13] [0, 1, 2, 3, 4, 5, 6, 7, 8, 9, 10, 11, 12] rfl rfl (by decide) (by decide) hk1 hFc hP1 hD1
  generalize H1 = H at hP hS ⊢
  have hP := fl_P (S' := [mnW x a sv o rd bu (LwS.ln u3), stW cI a (LwS.σ u3), svO cO sv (saF (LwS.sa u3)) (LwS.κ u3), stW cI (LwS.sa u3 0) (LwS.ss u3 0), stW cI (LwS.sa u3 1) (LwS.ss u3 1), stW cI (LwS.sa u3 2) (LwS.ss u3 2), stW cI (LwS.sa u3 3) (LwS.ss u3 3), stW cI (LwS.sa u3 4) (LwS.ss u3 4), stW cI (LwS.sa u3 5) (LwS.ss u3 5), ocW cI o (LwS.φ u3), rdW rd (LwS.ρ u3), bfW cC bu (LwS.β u3), ouW cL ob (LwS.f u3), mdW cI b u6]) hP [0, 1, 2, 3, 4, 5, 6, 7, 8, 9, 10, 11, 12, 13] rfl
  have hD := fl_D (S' := [mnW x a sv o rd bu (LwS.ln u3), stW cI a (LwS.σ u3), svO cO sv (saF (LwS.sa u3)) (LwS.κ u3), stW cI (LwS.sa u3 0) (LwS.ss u3 0), stW cI (LwS.sa u3 1) (LwS.ss u3 1), stW cI (LwS.sa u3 2) (LwS.ss u3 2), stW cI (LwS.sa u3 3) (LwS.ss u3 3), stW cI (LwS.sa u3 4) (LwS.ss u3 4), stW cI (LwS.sa u3 5) (LwS.ss u3 5), ocW cI o (LwS.φ u3), rdW rd (LwS.ρ u3), bfW cC bu (LwS.β u3), ouW cL ob (LwS.f u3), mdW cI b u6]) hD [0, 1, 2, 3, 4, 5, 6, 7, 8, 9, 10, 11, 12, 13] (by decide) rfl
  obtain ⟨he9, hf9, hLI⟩ := LI.step hcl2 hcl5 hG (fun h0 => hcd7.elim (fun q9 => (hG.push (hG.1.prs _ (q9.2.po hG.2.2.2.1.1 (uI_s _ _ _)))).clear) (fun q9 => absurd (q9.1.symm.trans h0) (by decide)))
  have hrg : 0 ≤ r1 ∧ r1 ≤ 3 := by have h8 := hcl2.1; rcases hcd9 with ⟨q9, _⟩ | ⟨q9, _⟩ <;> omega
  refine lv_istore (lv' := [(6, .int (iI (r4))), (5, .int (iI (r1))), (0, .ref (sc)), (1, .ref (x 0)), (2, .ref (b 0)), (3, .ref (ob 0)), (4, .int (iI (i)))]) hx hb dL_law_945 hl (by decide) rfl (fun ls hl => ?_)
  refine lv_aload_n hx hb dL_law_947 rfl (lv_at hl 4 rfl) ?_
  have hPc := fl_P (S' := [mdW cI b u6]) hP [13] rfl
  have hKc := hK.sub (tys' := [(cI, FieldType.int)]) [0] rfl
  refine wr_calli (va_runV (As := []) (rest := []) ⟨hx, hb, hml, hown, hts⟩ (c_X5_thrown l D cI cO cC cL b u6 ) (cwV 0 hts gL_law_X5_thrown rfl rfl rfl (by decide +kernel) ⟨Nat.le_of_ble_eq_true rfl, Nat.le_of_ble_eq_true rfl⟩) ⟨pcR_blind, va_recv hKc hPc (ci := 5) (q0 := 0) rfl rfl, pcR_of hPc hKc⟩ rfl rfl hl.1 rfl (lv_room (Nat.le_of_ble_eq_true rfl)) dL_law_948 ⟨(by show cells + 1 + 0 ≤ 1139; omega), (by show slots + 6 + 0 ≤ 14922; omega)⟩) (fun r7 hr7 => ?_)
  subst hr7
  refine lv_iload hx hb dL_law_951 (lv_at hl 1 rfl) ?_
  refine wi_icmp_eq (tgt := 958) hx hb dL_law_953 (by decide) (by omega) (fun c_953 => ?_) (fun c_953 => ?_)
  · skip
    refine lv_iload hx hb dL_law_958 (lv_at hl 1 rfl) ?_
    refine wi_if_ne (tgt := 975) hx hb dL_law_960 (by decide) (by omega) (fun c_960 => ?_) (fun c_960 => ?_)
    · skip
      refine lv_goto (tgt := 1705) hx hb dL_law_975 (by decide) ?_
      exact kk u3 u6 _ _ (hLI) hP hD hS ls (lv_sub hl [2, 3, 4, 5, 6] rfl)
    · skip
      refine lv_aload_n hx hb dL_law_963 rfl (lv_at hl 5 rfl) ?_
      refine wi_iconst hx hb dL_law_964 ?_
      refine wi_lald hx hb hK hP 98 3 rfl rfl dL_law_965 ?_
      refine lv_iload hx hb dL_law_966 (lv_at hl 0 rfl) ?_
      refine lv_i2l (v := iL (r4)) hx hb dL_law_968 rfl ?_
      refine wi_lcmp0 hx hb (congrFun (hf9 (by omega)) 0) dL_law_969 ?_
      refine wi_if_eq (tgt := 975) hx hb dL_law_970 (by decide) (by omega) (fun c_970 => ?_) (fun c_970 => ?_)
      · skip
        refine lv_goto (tgt := 1705) hx hb dL_law_975 (by decide) ?_
        exact kk u3 u6 _ _ (hLI) hP hD hS ls (lv_sub hl [2, 3, 4, 5, 6] rfl)
      · skip
        exfalso; omega
  · skip
    exfalso; omega
set_option maxHeartbeats 4000000 in
set_option maxRecDepth 100000 in
theorem lc_undo (hl9 : l.stackTraces = false) (hx : p.tables.exec = Jvm.exec) (hb : c.code = cL_law) (hlocks : meth.locks = false) (hown : s.vm.findClass RL = some m.cls) (hml : c.maxLocals = 9) (hts : ∀ w ∈ wsL_law, w.before args s = true) (hK : va_K D vwCl [(cI, FieldType.int), (cO, FieldType.object "PromisedCounters$State"), (cC, FieldType.char), (cL, FieldType.long)] s) (hA : ∀ q : Nat, H0.size ≤ q → A q)
    (hgR : ∀ j : Int, R32 (g j)) (hi : 0 ≤ i ∧ i + 5 ≤ (n9 : Int)) (hn9 : n9 ≤ 2560) (hcells : cells + 1 ≤ 1139) (hslots : slots + 6 ≤ 14922) (hκ : κ 0 0 = μ 0 0) (hln : ln 0 0 = μ 0 1) (hM : RelM σ (μ 0 0) ss (μ 0 1) (β 1) μ) (hG : GI σ (μ 0 0) ss (μ 0 1) (β 1)) (hZ : ZP A s H0) (hX : va_X sc n9 (rI g) s H0) (hbl : sc < H0.size) (hsc : ¬ A sc) (hP : va_P D vwCl (fl [mnW x a sv o rd bu ln, stW cI a σ, svO cO sv (saF sa) κ, stW cI (sa 0) (ss 0), stW cI (sa 1) (ss 1), stW cI (sa 2) (ss 2), stW cI (sa 3) (ss 3), stW cI (sa 4) (ss 4), stW cI (sa 5) (ss 5), ocW cI o φ, rdW rd ρ, bfW cC bu β, ouW cL ob f, mdW cI b μ]) H) (hD : va_D A (fl [mnW x a sv o rd bu ln, stW cI a σ, svO cO sv (saF sa) κ, stW cI (sa 0) (ss 0), stW cI (sa 1) (ss 1), stW cI (sa 2) (ss 2), stW cI (sa 3) (ss 3), stW cI (sa 4) (ss 4), stW cI (sa 5) (ss 5), ocW cI o φ, rdW rd ρ, bfW cC bu β, ouW cL ob f, mdW cI b μ])) (hS : va_S A H0 H locs) (hl : lv_has ls 9 [(0, .ref (sc)), (1, .ref (x 0)), (2, .ref (b 0)), (3, .ref (ob 0)), (4, .int (iI (i)))])
    (kk : ∀ (u : LwS) (μ : Nat → Int → Int) (H : Heap) (locs : List Loc), LI u μ → va_P D vwCl (lawW cI cO cC cL x a sv o rd bu ob b u μ) H → va_D A (lawW cI cO cC cL x a sv o rd bu ob b u μ) → va_S A H0 H locs → ∀ ls : Array Slot, lv_has ls 9 [(0, .ref (sc)), (1, .ref (x 0)), (2, .ref (b 0)), (3, .ref (ob 0)), (4, .int (iI (i)))] → W p l e ({ frames := 13, cells := 1139, slots := 14922, locals := 478 } : Room) s m args below meth c H locs (cells + 1) (slots + 6) Q (F0 m 1705 ls [])) : W p l e ({ frames := 13, cells := 1139, slots := 14922, locals := 478 } : Room) s m args below meth c H locs cells slots Q (F0 m 978 ls []) := by
  refine lv_aload_n hx hb dL_law_978 rfl (lv_at hl 1 rfl) ?_
  refine lv_aload_n hx hb dL_law_979 rfl (lv_at hl 3 rfl) ?_
  have hPc := fl_P (S' := [mnW x a sv o rd bu ln, stW cI a σ, svO cO sv (saF sa) κ, stW cI (sa 0) (ss 0), stW cI (sa 1) (ss 1), stW cI (sa 2) (ss 2), stW cI (sa 3) (ss 3), stW cI (sa 4) (ss 4), stW cI (sa 5) (ss 5), ocW cI o φ, rdW rd ρ, bfW cC bu β, ouW cL ob f]) hP [0, 1, 2, 3, 4, 5, 6, 7, 8, 9, 10, 11, 12] rfl
  have hDc := fl_D (S' := [mnW x a sv o rd bu ln, stW cI a σ, svO cO sv (saF sa) κ, stW cI (sa 0) (ss 0), stW cI (sa 1) (ss 1), stW cI (sa 2) (ss 2), stW cI (sa 3) (ss 3), stW cI (sa 4) (ss 4), stW cI (sa 5) (ss 5), ocW cI o φ, rdW rd ρ, bfW cC bu β, ouW cL ob f]) hD [0, 1, 2, 3, 4, 5, 6, 7, 8, 9, 10, 11, 12] (by decide) rfl
  have hFc := fl_free (SC := [mnW x a sv o rd bu ln, stW cI a σ, svO cO sv (saF sa) κ, stW cI (sa 0) (ss 0), stW cI (sa 1) (ss 1), stW cI (sa 2) (ss 2), stW cI (sa 3) (ss 3), stW cI (sa 4) (ss 4), stW cI (sa 5) (ss 5), ocW cI o φ, rdW rd ρ, bfW cC bu β, ouW cL ob f]) hD hS hA [0, 1, 2, 3, 4, 5, 6, 7, 8, 9, 10, 11, 12] rfl
  refine wq_calli (vx_runSW (As := [.ref (x 0), .ref (ob 0)]) (rest := []) ⟨hx, hb, hml, hown, hts⟩ (lk_undo l hl9 D cI cO cC cL H.size x a sv o rd bu ob ln σ κ φ ρ β sa ss f (by rw [hκ, hln]; exact hG)) (vx_cwSW 2 hts gL_law_L_undo rfl rfl rfl (by decide +kernel) ⟨Nat.le_of_ble_eq_true rfl, Nat.le_of_ble_eq_true rfl⟩) ⟨pcWX_blind, pcWX_of hPc hK hDc (hZ.kept hS.2.1) hFc⟩ rfl rfl hl.1 rfl (lv_room (Nat.le_of_ble_eq_true rfl)) dL_law_980 ⟨(by show cells + 0 + 1 ≤ 1139; omega), (by show slots + 0 + 6 ≤ 14922; omega)⟩) hS (fun q _ h => hFc q h) hFc (fun r1 u3 t9 H1 locs ht9 hvm hcl2 hB hz1 hk1 hS => ?_)
  obtain ⟨hP1, hK1, hD1⟩ := hB
  rw [ht9] at hP1
  obtain ⟨hP, hD⟩ := fl_join (SR := [mdW cI b μ]) (S1 := [mnW x a sv o rd bu (LwS.ln u3), stW cI a (LwS.σ u3), svO cO sv (saF (LwS.sa u3)) (LwS.κ u3), stW cI (LwS.sa u3 0) (LwS.ss u3 0), stW cI (LwS.sa u3 1) (LwS.ss u3 1), stW cI (LwS.sa u3 2) (LwS.ss u3 2), stW cI (LwS.sa u3 3) (LwS.ss u3 3), stW cI (LwS.sa u3 4) (LwS.ss u3 4), stW cI (LwS.sa u3 5) (LwS.ss u3 5), ocW cI o (LwS.φ u3), rdW rd (LwS.ρ u3), bfW cC bu (LwS.β u3), ouW cL ob (LwS.f u3)]) hP hD [0, 1, 2, 3, 4, 5, 6, 7, 8, 9, 10, 11, 12] [13] rfl rfl (by decide) (by decide) hk1 hFc hP1 hD1
  generalize H1 = H at hP hS ⊢
  have hP := fl_P (S' := [mnW x a sv o rd bu (LwS.ln u3), stW cI a (LwS.σ u3), svO cO sv (saF (LwS.sa u3)) (LwS.κ u3), stW cI (LwS.sa u3 0) (LwS.ss u3 0), stW cI (LwS.sa u3 1) (LwS.ss u3 1), stW cI (LwS.sa u3 2) (LwS.ss u3 2), stW cI (LwS.sa u3 3) (LwS.ss u3 3), stW cI (LwS.sa u3 4) (LwS.ss u3 4), stW cI (LwS.sa u3 5) (LwS.ss u3 5), ocW cI o (LwS.φ u3), rdW rd (LwS.ρ u3), bfW cC bu (LwS.β u3), ouW cL ob (LwS.f u3), mdW cI b μ]) hP [1, 2, 3, 4, 5, 6, 7, 8, 9, 10, 11, 12, 13, 0] rfl
  have hD := fl_D (S' := [mnW x a sv o rd bu (LwS.ln u3), stW cI a (LwS.σ u3), svO cO sv (saF (LwS.sa u3)) (LwS.κ u3), stW cI (LwS.sa u3 0) (LwS.ss u3 0), stW cI (LwS.sa u3 1) (LwS.ss u3 1), stW cI (LwS.sa u3 2) (LwS.ss u3 2), stW cI (LwS.sa u3 3) (LwS.ss u3 3), stW cI (LwS.sa u3 4) (LwS.ss u3 4), stW cI (LwS.sa u3 5) (LwS.ss u3 5), ocW cI o (LwS.φ u3), rdW rd (LwS.ρ u3), bfW cC bu (LwS.β u3), ouW cL ob (LwS.f u3), mdW cI b μ]) hD [1, 2, 3, 4, 5, 6, 7, 8, 9, 10, 11, 12, 13, 0] (by decide) rfl
  rw [hκ, hln] at hcl2
  refine lv_istore (lv' := [(5, .int (iI (r1))), (0, .ref (sc)), (1, .ref (x 0)), (2, .ref (b 0)), (3, .ref (ob 0)), (4, .int (iI (i)))]) hx hb dL_law_983 hl (by decide) rfl (fun ls hl => ?_)
  refine lv_aload_n hx hb dL_law_985 rfl (lv_at hl 3 rfl) ?_
  have hPc := fl_P (S' := [mdW cI b μ]) hP [13] rfl
  have hKc := hK.sub (tys' := [(cI, FieldType.int)]) [0] rfl
  have hDc := fl_D (S' := [mdW cI b μ]) hD [13] (by decide) rfl
  have hFc := fl_free (SC := [mdW cI b μ]) hD hS hA [13] rfl
  refine wq_calli (va_runV (As := []) (rest := []) ⟨hx, hb, hml, hown, hts⟩ (c_X5_undo l D cI cO cC cL H.size b μ σ ss (β 1) (hM) (hG)) (cwV 0 hts gL_law_X5_undo rfl rfl rfl (by decide +kernel) ⟨Nat.le_of_ble_eq_true rfl, Nat.le_of_ble_eq_true rfl⟩) ⟨pcW_blind, va_recv hKc hPc (ci := 5) (q0 := 0) rfl rfl, pcW_of hPc hKc hDc⟩ rfl rfl hl.1 rfl (lv_room (Nat.le_of_ble_eq_true rfl)) dL_law_986 ⟨(by show cells + 1 + 0 ≤ 1139; omega), (by show slots + 6 + 0 ≤ 14922; omega)⟩) hS (fun q _ h => hFc q h) hFc (fun r4 u6 t9 H1 locs ht9 hvm hcl5 hB hz1 hk1 hS => ?_)
  obtain ⟨hP1, hK1, hD1⟩ := hB
  rw [ht9] at hP1
  obtain ⟨hP, hD⟩ := fl_join (SR := [mnW x a sv o rd bu (LwS.ln u3), stW cI a (LwS.σ u3), svO cO sv (saF (LwS.sa u3)) (LwS.κ u3), stW cI (LwS.sa u3 0) (LwS.ss u3 0), stW cI (LwS.sa u3 1) (LwS.ss u3 1), stW cI (LwS.sa u3 2) (LwS.ss u3 2), stW cI (LwS.sa u3 3) (LwS.ss u3 3), stW cI (LwS.sa u3 4) (LwS.ss u3 4), stW cI (LwS.sa u3 5) (LwS.ss u3 5), ocW cI o (LwS.φ u3), rdW rd (LwS.ρ u3), bfW cC bu (LwS.β u3), ouW cL ob (LwS.f u3)]) (S1 := [mdW cI b u6]) hP hD [13] [0, 1, 2, 3, 4, 5, 6, 7, 8, 9, 10, 11, 12] rfl rfl (by decide) (by decide) hk1 hFc hP1 hD1
  generalize H1 = H at hP hS ⊢
  have hP := fl_P (S' := [mnW x a sv o rd bu (LwS.ln u3), stW cI a (LwS.σ u3), svO cO sv (saF (LwS.sa u3)) (LwS.κ u3), stW cI (LwS.sa u3 0) (LwS.ss u3 0), stW cI (LwS.sa u3 1) (LwS.ss u3 1), stW cI (LwS.sa u3 2) (LwS.ss u3 2), stW cI (LwS.sa u3 3) (LwS.ss u3 3), stW cI (LwS.sa u3 4) (LwS.ss u3 4), stW cI (LwS.sa u3 5) (LwS.ss u3 5), ocW cI o (LwS.φ u3), rdW rd (LwS.ρ u3), bfW cC bu (LwS.β u3), ouW cL ob (LwS.f u3), mdW cI b u6]) hP [0, 1, 2, 3, 4, 5, 6, 7, 8, 9, 10, 11, 12, 13] rfl
  have hD := fl_D (S' := [mnW x a sv o rd bu (LwS.ln u3), stW cI a (LwS.σ u3), svO cO sv (saF (LwS.sa u3)) (LwS.κ u3), stW cI (LwS.sa u3 0) (LwS.ss u3 0), stW cI (LwS.sa u3 1) (LwS.ss u3 1), stW cI (LwS.sa u3 2) (LwS.ss u3 2), stW cI (LwS.sa u3 3) (LwS.ss u3 3), stW cI (LwS.sa u3 4) (LwS.ss u3 4), stW cI (LwS.sa u3 5) (LwS.ss u3 5), ocW cI o (LwS.φ u3), rdW rd (LwS.ρ u3), bfW cC bu (LwS.β u3), ouW cL ob (LwS.f u3), mdW cI b u6]) hD [0, 1, 2, 3, 4, 5, 6, 7, 8, 9, 10, 11, 12, 13] (by decide) rfl
  obtain ⟨he9, hf9, hLI⟩ := LI.step hcl2 hcl5 hG (fun h0 => by obtain a1 := cd1_0 h0; exact hG.undo a1)
  have hrg : 0 ≤ r1 ∧ r1 ≤ 3 := by rw [hcl2.1]; exact cd1_b
  refine lv_istore (lv' := [(6, .int (iI (r4))), (5, .int (iI (r1))), (0, .ref (sc)), (1, .ref (x 0)), (2, .ref (b 0)), (3, .ref (ob 0)), (4, .int (iI (i)))]) hx hb dL_law_989 hl (by decide) rfl (fun ls hl => ?_)
  refine lv_aload_n hx hb dL_law_991 rfl (lv_at hl 4 rfl) ?_
  have hPc := fl_P (S' := [mdW cI b u6]) hP [13] rfl
  have hKc := hK.sub (tys' := [(cI, FieldType.int)]) [0] rfl
  refine wr_calli (va_runV (As := []) (rest := []) ⟨hx, hb, hml, hown, hts⟩ (c_X5_thrown l D cI cO cC cL b u6 ) (cwV 0 hts gL_law_X5_thrown rfl rfl rfl (by decide +kernel) ⟨Nat.le_of_ble_eq_true rfl, Nat.le_of_ble_eq_true rfl⟩) ⟨pcR_blind, va_recv hKc hPc (ci := 5) (q0 := 0) rfl rfl, pcR_of hPc hKc⟩ rfl rfl hl.1 rfl (lv_room (Nat.le_of_ble_eq_true rfl)) dL_law_992 ⟨(by show cells + 1 + 0 ≤ 1139; omega), (by show slots + 6 + 0 ≤ 14922; omega)⟩) (fun r7 hr7 => ?_)
  subst hr7
  refine lv_iload hx hb dL_law_995 (lv_at hl 1 rfl) ?_
  refine wi_icmp_eq (tgt := 1002) hx hb dL_law_997 (by decide) (by omega) (fun c_997 => ?_) (fun c_997 => ?_)
  · skip
    refine lv_iload hx hb dL_law_1002 (lv_at hl 1 rfl) ?_
    refine wi_if_ne (tgt := 1019) hx hb dL_law_1004 (by decide) (by omega) (fun c_1004 => ?_) (fun c_1004 => ?_)
    · skip
      refine lv_goto (tgt := 1705) hx hb dL_law_1019 (by decide) ?_
      exact kk u3 u6 _ _ (hLI) hP hD hS ls (lv_sub hl [2, 3, 4, 5, 6] rfl)
    · skip
      refine lv_aload_n hx hb dL_law_1007 rfl (lv_at hl 5 rfl) ?_
      refine wi_iconst hx hb dL_law_1008 ?_
      refine wi_lald hx hb hK hP 98 3 rfl rfl dL_law_1009 ?_
      refine lv_iload hx hb dL_law_1010 (lv_at hl 0 rfl) ?_
      refine lv_i2l (v := iL (r4)) hx hb dL_law_1012 rfl ?_
      refine wi_lcmp0 hx hb (congrFun (hf9 (by omega)) 0) dL_law_1013 ?_
      refine wi_if_eq (tgt := 1019) hx hb dL_law_1014 (by decide) (by omega) (fun c_1014 => ?_) (fun c_1014 => ?_)
      · skip
        refine lv_goto (tgt := 1705) hx hb dL_law_1019 (by decide) ?_
        exact kk u3 u6 _ _ (hLI) hP hD hS ls (lv_sub hl [2, 3, 4, 5, 6] rfl)
      · skip
        exfalso; omega
  · skip
    exfalso; omega
end LAWC
