section LAWC
variable {p : Program} {l : Launch} {e : Env} {s : State} {m : MethodId} {args : Array Value} {below : List Frame} {meth : Method} {c : Code} {H : Heap} {locs : List Loc} {cells slots : Nat} {Q : State → Prop}
variable {D : va_G} {cI cO cC cL : ClassId} {x a sv o rd bu ob b : Nat → Nat} {ln σ κ φ ρ β μ : Nat → Int → Int} {sa : Nat → Nat → Nat} {ss : Nat → Nat → Int → Int} {f : Nat → Int64} {sc n9 : Nat} {g : Int → Int} {A : Nat → Prop} {H0 : Heap} {ls : Array Slot} {i : Int}
set_option maxHeartbeats 4000000 in
set_option maxRecDepth 100000 in
theorem lc_counter (hl9 : l.stackTraces = false) (hx : p.tables.exec = Jvm.exec) (hb : c.code = cL_law) (hlocks : meth.locks = false) (hown : s.vm.findClass RL = some m.cls) (hml : c.maxLocals = 9) (hts : ∀ w ∈ wsL_law, w.before args s = true) (hK : va_K D vwCl [(cI, FieldType.int), (cO, FieldType.object "PromisedCounters$State"), (cC, FieldType.char), (cL, FieldType.long)] s) (hA : ∀ q : Nat, H0.size ≤ q → A q)
    (hgR : ∀ j : Int, R32 (g j)) (hi : 0 ≤ i ∧ i + 5 ≤ (n9 : Int)) (hn9 : n9 ≤ 2560) (hcells : cells + 1 ≤ 1139) (hslots : slots + 6 ≤ 14922) (hκ : κ 0 0 = μ 0 0) (hln : ln 0 0 = μ 0 1) (hM : RelM σ (μ 0 0) ss (μ 0 1) (β 1) μ) (hG : GI σ (μ 0 0) ss (μ 0 1) (β 1)) (hZ : ZP A s H0) (hX : va_X sc n9 (rI g) s H0) (hbl : sc < H0.size) (hsc : ¬ A sc) (hP : va_P D vwCl (fl [mnW x a sv o rd bu ln, stW cI a σ, svO cO sv (saF sa) κ, stW cI (sa 0) (ss 0), stW cI (sa 1) (ss 1), stW cI (sa 2) (ss 2), stW cI (sa 3) (ss 3), stW cI (sa 4) (ss 4), stW cI (sa 5) (ss 5), ocW cI o φ, rdW rd ρ, bfW cC bu β, ouW cL ob f, mdW cI b μ]) H) (hD : va_D A (fl [mnW x a sv o rd bu ln, stW cI a σ, svO cO sv (saF sa) κ, stW cI (sa 0) (ss 0), stW cI (sa 1) (ss 1), stW cI (sa 2) (ss 2), stW cI (sa 3) (ss 3), stW cI (sa 4) (ss 4), stW cI (sa 5) (ss 5), ocW cI o φ, rdW rd ρ, bfW cC bu β, ouW cL ob f, mdW cI b μ])) (hS : va_S A H0 H locs) (hl : lv_has ls 9 [(0, .ref (sc)), (1, .ref (x 0)), (2, .ref (b 0)), (3, .ref (ob 0)), (4, .int (iI (i)))])
    (kk : ∀ (u : LwS) (μ : Nat → Int → Int) (H : Heap) (locs : List Loc), LI u μ → va_P D vwCl (lawW cI cO cC cL x a sv o rd bu ob b u μ) H → va_D A (lawW cI cO cC cL x a sv o rd bu ob b u μ) → va_S A H0 H locs → ∀ ls : Array Slot, lv_has ls 9 [(0, .ref (sc)), (1, .ref (x 0)), (2, .ref (b 0)), (3, .ref (ob 0)), (4, .int (iI (i)))] → W p l e ({ frames := 13, cells := 1139, slots := 14922, locals := 478 } : Room) s m args below meth c H locs (cells + 1) (slots + 6) Q (F0 m 1705 ls [])) : W p l e ({ frames := 13, cells := 1139, slots := 14922, locals := 478 } : Room) s m args below meth c H locs cells slots Q (F0 m 1022 ls []) := by
  refine lv_aload_n hx hb dL_law_1022 rfl (lv_at hl 1 rfl) ?_
  refine lv_aload_n hx hb dL_law_1023 rfl (lv_at hl 0 rfl) ?_
  refine lv_iload hx hb dL_law_1024 (lv_at hl 4 rfl) ?_
  refine wi_iconst hx hb dL_law_1026 ?_
  refine wi_iadd hx hb dL_law_1027 ?_
  refine wi_sld hx hb hX hbl hsc hS (i := (i + 1)) (by omega) (by omega) dL_law_1028 ?_
  refine lv_aload_n hx hb dL_law_1029 rfl (lv_at hl 0 rfl) ?_
  refine lv_iload hx hb dL_law_1030 (lv_at hl 4 rfl) ?_
  refine wi_iconst hx hb dL_law_1032 ?_
  refine wi_iadd hx hb dL_law_1033 ?_
  refine wi_sld hx hb hX hbl hsc hS (i := (i + 2)) (by omega) (by omega) dL_law_1034 ?_
  refine lv_aload_n hx hb dL_law_1035 rfl (lv_at hl 3 rfl) ?_
  have hPc := fl_P (S' := [mnW x a sv o rd bu ln, stW cI a σ, svO cO sv (saF sa) κ, stW cI (sa 0) (ss 0), stW cI (sa 1) (ss 1), stW cI (sa 2) (ss 2), stW cI (sa 3) (ss 3), stW cI (sa 4) (ss 4), stW cI (sa 5) (ss 5), ocW cI o φ, rdW rd ρ, bfW cC bu β, ouW cL ob f]) hP [0, 1, 2, 3, 4, 5, 6, 7, 8, 9, 10, 11, 12] rfl
  have hDc := fl_D (S' := [mnW x a sv o rd bu ln, stW cI a σ, svO cO sv (saF sa) κ, stW cI (sa 0) (ss 0), stW cI (sa 1) (ss 1), stW cI (sa 2) (ss 2), stW cI (sa 3) (ss 3), stW cI (sa 4) (ss 4), stW cI (sa 5) (ss 5), ocW cI o φ, rdW rd ρ, bfW cC bu β, ouW cL ob f]) hD [0, 1, 2, 3, 4, 5, 6, 7, 8, 9, 10, 11, 12] (by decide) rfl
  have hFc := fl_free (SC := [mnW x a sv o rd bu ln, stW cI a σ, svO cO sv (saF sa) κ, stW cI (sa 0) (ss 0), stW cI (sa 1) (ss 1), stW cI (sa 2) (ss 2), stW cI (sa 3) (ss 3), stW cI (sa 4) (ss 4), stW cI (sa 5) (ss 5), ocW cI o φ, rdW rd ρ, bfW cC bu β, ouW cL ob f]) hD hS hA [0, 1, 2, 3, 4, 5, 6, 7, 8, 9, 10, 11, 12] rfl
  refine wq_calli (vx_runSW (As := [.ref (x 0), .int (iI ((g (i + 1)))), .int (iI ((g (i + 2)))), .ref (ob 0)]) (rest := []) ⟨hx, hb, hml, hown, hts⟩ (lk_counter l hl9 D cI cO cC cL H.size x a sv o rd bu ob ln σ κ φ ρ β sa ss f ((g (i + 1))) ((g (i + 2))) (hgR _) (hgR _) (by rw [hκ, hln]; exact hG)) (vx_cwSW 4 hts gL_law_L_counter rfl rfl rfl (by decide +kernel) ⟨Nat.le_of_ble_eq_true rfl, Nat.le_of_ble_eq_true rfl⟩) ⟨pcWX_blind, pcWX_of hPc hK hDc (hZ.kept hS.2.1) hFc⟩ rfl rfl hl.1 rfl (lv_room (Nat.le_of_ble_eq_true rfl)) dL_law_1036 ⟨(by show cells + 0 + 1 ≤ 1139; omega), (by show slots + 0 + 6 ≤ 14922; omega)⟩) hS (fun q _ h => hFc q h) hFc (fun r1 u3 t9 H1 locs ht9 hvm hcl2 hB hz1 hk1 hS => ?_)
  obtain ⟨hP1, hK1, hD1⟩ := hB
  rw [ht9] at hP1
  obtain ⟨hP, hD⟩ := fl_join (SR := [mdW cI b μ]) (S1 := [mnW x a sv o rd bu (LwS.ln u3), stW cI a (LwS.σ u3), svO cO sv (saF (LwS.sa u3)) (LwS.κ u3), stW cI (LwS.sa u3 0) (LwS.ss u3 0), stW cI (LwS.sa u3 1) (LwS.ss u3 1), stW cI (LwS.sa u3 2) (LwS.ss u3 2), stW cI (LwS.sa u3 3) (LwS.ss u3 3), stW cI (LwS.sa u3 4) (LwS.ss u3 4), stW cI (LwS.sa u3 5) (LwS.ss u3 5), ocW cI o (LwS.φ u3), rdW rd (LwS.ρ u3), bfW cC bu (LwS.β u3), ouW cL ob (LwS.f u3)]) hP hD [0, 1, 2, 3, 4, 5, 6, 7, 8, 9, 10, 11, 12] [13] rfl rfl (by decide) (by decide) hk1 hFc hP1 hD1
  generalize H1 = H at hP hS ⊢
  have hP := fl_P (S' := [mnW x a sv o rd bu (LwS.ln u3), stW cI a (LwS.σ u3), svO cO sv (saF (LwS.sa u3)) (LwS.κ u3), stW cI (LwS.sa u3 0) (LwS.ss u3 0), stW cI (LwS.sa u3 1) (LwS.ss u3 1), stW cI (LwS.sa u3 2) (LwS.ss u3 2), stW cI (LwS.sa u3 3) (LwS.ss u3 3), stW cI (LwS.sa u3 4) (LwS.ss u3 4), stW cI (LwS.sa u3 5) (LwS.ss u3 5), ocW cI o (LwS.φ u3), rdW rd (LwS.ρ u3), bfW cC bu (LwS.β u3), ouW cL ob (LwS.f u3), mdW cI b μ]) hP [1, 2, 3, 4, 5, 6, 7, 8, 9, 10, 11, 12, 13, 0] rfl
  have hD := fl_D (S' := [mnW x a sv o rd bu (LwS.ln u3), stW cI a (LwS.σ u3), svO cO sv (saF (LwS.sa u3)) (LwS.κ u3), stW cI (LwS.sa u3 0) (LwS.ss u3 0), stW cI (LwS.sa u3 1) (LwS.ss u3 1), stW cI (LwS.sa u3 2) (LwS.ss u3 2), stW cI (LwS.sa u3 3) (LwS.ss u3 3), stW cI (LwS.sa u3 4) (LwS.ss u3 4), stW cI (LwS.sa u3 5) (LwS.ss u3 5), ocW cI o (LwS.φ u3), rdW rd (LwS.ρ u3), bfW cC bu (LwS.β u3), ouW cL ob (LwS.f u3), mdW cI b μ]) hD [1, 2, 3, 4, 5, 6, 7, 8, 9, 10, 11, 12, 13, 0] (by decide) rfl
  rw [hκ, hln] at hcl2
  refine lv_istore (lv' := [(5, .int (iI (r1))), (0, .ref (sc)), (1, .ref (x 0)), (2, .ref (b 0)), (3, .ref (ob 0)), (4, .int (iI (i)))]) hx hb dL_law_1039 hl (by decide) rfl (fun ls hl => ?_)
  refine lv_aload_n hx hb dL_law_1041 rfl (lv_at hl 3 rfl) ?_
  refine lv_aload_n hx hb dL_law_1042 rfl (lv_at hl 1 rfl) ?_
  refine lv_iload hx hb dL_law_1043 (lv_at hl 5 rfl) ?_
  refine wi_iconst hx hb dL_law_1045 ?_
  refine wi_iadd hx hb dL_law_1046 ?_
  refine wi_sld hx hb hX hbl hsc hS (i := (i + 1)) (by omega) (by omega) dL_law_1047 ?_
  refine lv_aload_n hx hb dL_law_1048 rfl (lv_at hl 1 rfl) ?_
  refine lv_iload hx hb dL_law_1049 (lv_at hl 5 rfl) ?_
  refine wi_iconst hx hb dL_law_1051 ?_
  refine wi_iadd hx hb dL_law_1052 ?_
  refine wi_sld hx hb hX hbl hsc hS (i := (i + 2)) (by omega) (by omega) dL_law_1053 ?_
  have hPc := fl_P (S' := [mdW cI b μ]) hP [13] rfl
  have hKc := hK.sub (tys' := [(cI, FieldType.int)]) [0] rfl
  have hDc := fl_D (S' := [mdW cI b μ]) hD [13] (by decide) rfl
  have hFc := fl_free (SC := [mdW cI b μ]) hD hS hA [13] rfl
  refine wq_calli (va_runV (As := [.int (iI ((g (i + 1)))), .int (iI ((g (i + 2))))]) (rest := []) ⟨hx, hb, hml, hown, hts⟩ (c_X5_counter l D cI cO cC cL H.size b μ σ ss (β 1) ((g (i + 1))) ((g (i + 2))) (hgR _) (hgR _) (hM) (hG)) (cwV 2 hts gL_law_X5_counter rfl rfl rfl (by decide +kernel) ⟨Nat.le_of_ble_eq_true rfl, Nat.le_of_ble_eq_true rfl⟩) ⟨pcW_blind, va_recv hKc hPc (ci := 5) (q0 := 0) rfl rfl, pcW_of hPc hKc hDc⟩ rfl rfl hl.1 rfl (lv_room (Nat.le_of_ble_eq_true rfl)) dL_law_1054 ⟨(by show cells + 1 + 0 ≤ 1139; omega), (by show slots + 6 + 0 ≤ 14922; omega)⟩) hS (fun q _ h => hFc q h) hFc (fun r4 u6 t9 H1 locs ht9 hvm hcl5 hB hz1 hk1 hS => ?_)
  obtain ⟨hP1, hK1, hD1⟩ := hB
  rw [ht9] at hP1
  obtain ⟨hP, hD⟩ := fl_join (SR := [mnW x a sv o rd bu (LwS.ln u3), stW cI a (LwS.σ u3), svO cO sv (saF (LwS.sa u3)) (LwS.κ u3), stW cI (LwS.sa u3 0) (LwS.ss u3 0), stW cI (LwS.sa u3 1) (LwS.ss u3 1), stW cI (LwS.sa u3 2) (LwS.ss u3 2), stW cI (LwS.sa u3 3) (LwS.ss u3 3), stW cI (LwS.sa u3 4) (LwS.ss u3 4), stW cI (LwS.sa u3 5) (LwS.ss u3 5), ocW cI o (LwS.φ u3), rdW rd (LwS.ρ u3), bfW cC bu (LwS.β u3), ouW cL ob (LwS.f u3)]) (S1 := [mdW cI b u6]) hP hD [13] [0, 1, 2, 3, 4, 5, 6, 7, 8, 9, 10, 11, 12] rfl rfl (by decide) (by decide) hk1 hFc hP1 hD1
  generalize H1 = H at hP hS ⊢
  have hP := fl_P (S' := [mnW x a sv o rd bu (LwS.ln u3), stW cI a (LwS.σ u3), svO cO sv (saF (LwS.sa u3)) (LwS.κ u3), stW cI (LwS.sa u3 0) (LwS.ss u3 0), stW cI (LwS.sa u3 1) (LwS.ss u3 1), stW cI (LwS.sa u3 2) (LwS.ss u3 2), stW cI (LwS.sa u3 3) (LwS.ss u3 3), stW cI (LwS.sa u3 4) (LwS.ss u3 4), stW cI (LwS.sa u3 5) (LwS.ss u3 5), ocW cI o (LwS.φ u3), rdW rd (LwS.ρ u3), bfW cC bu (LwS.β u3), ouW cL ob (LwS.f u3), mdW cI b u6]) hP [0, 1, 2, 3, 4, 5, 6, 7, 8, 9, 10, 11, 12, 13] rfl
  have hD := fl_D (S' := [mnW x a sv o rd bu (LwS.ln u3), stW cI a (LwS.σ u3), svO cO sv (saF (LwS.sa u3)) (LwS.κ u3), stW cI (LwS.sa u3 0) (LwS.ss u3 0), stW cI (LwS.sa u3 1) (LwS.ss u3 1), stW cI (LwS.sa u3 2) (LwS.ss u3 2), stW cI (LwS.sa u3 3) (LwS.ss u3 3), stW cI (LwS.sa u3 4) (LwS.ss u3 4), stW cI (LwS.sa u3 5) (LwS.ss u3 5), ocW cI o (LwS.φ u3), rdW rd (LwS.ρ u3), bfW cC bu (LwS.β u3), ouW cL ob (LwS.f u3), mdW cI b u6]) hD [0, 1, 2, 3, 4, 5, 6, 7, 8, 9, 10, 11, 12, 13] (by decide) rfl
  obtain ⟨he9, hf9, hLI⟩ := LI.step hcl2 hcl5 hG (fun _ => hG)
  have hrg : 0 ≤ r1 ∧ r1 ≤ 3 := by rw [hcl2.1]; exact cd2_b
  refine lv_istore (lv' := [(6, .int (iI (r4))), (5, .int (iI (r1))), (0, .ref (sc)), (1, .ref (x 0)), (2, .ref (b 0)), (3, .ref (ob 0)), (4, .int (iI (i)))]) hx hb dL_law_1057 hl (by decide) rfl (fun ls hl => ?_)
  refine lv_aload_n hx hb dL_law_1059 rfl (lv_at hl 4 rfl) ?_
  have hPc := fl_P (S' := [mdW cI b u6]) hP [13] rfl
  have hKc := hK.sub (tys' := [(cI, FieldType.int)]) [0] rfl
  refine wr_calli (va_runV (As := []) (rest := []) ⟨hx, hb, hml, hown, hts⟩ (c_X5_thrown l D cI cO cC cL b u6 ) (cwV 0 hts gL_law_X5_thrown rfl rfl rfl (by decide +kernel) ⟨Nat.le_of_ble_eq_true rfl, Nat.le_of_ble_eq_true rfl⟩) ⟨pcR_blind, va_recv hKc hPc (ci := 5) (q0 := 0) rfl rfl, pcR_of hPc hKc⟩ rfl rfl hl.1 rfl (lv_room (Nat.le_of_ble_eq_true rfl)) dL_law_1060 ⟨(by show cells + 1 + 0 ≤ 1139; omega), (by show slots + 6 + 0 ≤ 14922; omega)⟩) (fun r7 hr7 => ?_)
  subst hr7
  refine lv_iload hx hb dL_law_1063 (lv_at hl 1 rfl) ?_
  refine wi_icmp_eq (tgt := 1070) hx hb dL_law_1065 (by decide) (by omega) (fun c_1065 => ?_) (fun c_1065 => ?_)
  · skip
    refine lv_iload hx hb dL_law_1070 (lv_at hl 1 rfl) ?_
    refine wi_if_ne (tgt := 1087) hx hb dL_law_1072 (by decide) (by omega) (fun c_1072 => ?_) (fun c_1072 => ?_)
    · skip
      refine lv_goto (tgt := 1705) hx hb dL_law_1087 (by decide) ?_
      exact kk u3 u6 _ _ (hLI) hP hD hS ls (lv_sub hl [2, 3, 4, 5, 6] rfl)
    · skip
      refine lv_aload_n hx hb dL_law_1075 rfl (lv_at hl 5 rfl) ?_
      refine wi_iconst hx hb dL_law_1076 ?_
      refine wi_lald hx hb hK hP 98 3 rfl rfl dL_law_1077 ?_
      refine lv_iload hx hb dL_law_1078 (lv_at hl 0 rfl) ?_
      refine lv_i2l (v := iL (r4)) hx hb dL_law_1080 rfl ?_
      refine wi_lcmp0 hx hb (congrFun (hf9 (by omega)) 0) dL_law_1081 ?_
      refine wi_if_eq (tgt := 1087) hx hb dL_law_1082 (by decide) (by omega) (fun c_1082 => ?_) (fun c_1082 => ?_)
      · skip
        refine lv_goto (tgt := 1705) hx hb dL_law_1087 (by decide) ?_
        exact kk u3 u6 _ _ (hLI) hP hD hS ls (lv_sub hl [2, 3, 4, 5, 6] rfl)
      · skip
        exfalso; omega
  · skip
    exfalso; omega
set_option maxHeartbeats 4000000 in
set_option maxRecDepth 100000 in
theorem lc_promiseOf (hl9 : l.stackTraces = false) (hx : p.tables.exec = Jvm.exec) (hb : c.code = cL_law) (hlocks : meth.locks = false) (hown : s.vm.findClass RL = some m.cls) (hml : c.maxLocals = 9) (hts : ∀ w ∈ wsL_law, w.before args s = true) (hK : va_K D vwCl [(cI, FieldType.int), (cO, FieldType.object "PromisedCounters$State"), (cC, FieldType.char), (cL, FieldType.long)] s) (hA : ∀ q : Nat, H0.size ≤ q → A q)
    (hgR : ∀ j : Int, R32 (g j)) (hi : 0 ≤ i ∧ i + 5 ≤ (n9 : Int)) (hn9 : n9 ≤ 2560) (hcells : cells + 1 ≤ 1139) (hslots : slots + 6 ≤ 14922) (hκ : κ 0 0 = μ 0 0) (hln : ln 0 0 = μ 0 1) (hM : RelM σ (μ 0 0) ss (μ 0 1) (β 1) μ) (hG : GI σ (μ 0 0) ss (μ 0 1) (β 1)) (hZ : ZP A s H0) (hX : va_X sc n9 (rI g) s H0) (hbl : sc < H0.size) (hsc : ¬ A sc) (hP : va_P D vwCl (fl [mnW x a sv o rd bu ln, stW cI a σ, svO cO sv (saF sa) κ, stW cI (sa 0) (ss 0), stW cI (sa 1) (ss 1), stW cI (sa 2) (ss 2), stW cI (sa 3) (ss 3), stW cI (sa 4) (ss 4), stW cI (sa 5) (ss 5), ocW cI o φ, rdW rd ρ, bfW cC bu β, ouW cL ob f, mdW cI b μ]) H) (hD : va_D A (fl [mnW x a sv o rd bu ln, stW cI a σ, svO cO sv (saF sa) κ, stW cI (sa 0) (ss 0), stW cI (sa 1) (ss 1), stW cI (sa 2) (ss 2), stW cI (sa 3) (ss 3), stW cI (sa 4) (ss 4), stW cI (sa 5) (ss 5), ocW cI o φ, rdW rd ρ, bfW cC bu β, ouW cL ob f, mdW cI b μ])) (hS : va_S A H0 H locs) (hl : lv_has ls 9 [(0, .ref (sc)), (1, .ref (x 0)), (2, .ref (b 0)), (3, .ref (ob 0)), (4, .int (iI (i)))])
    (kk : ∀ (u : LwS) (μ : Nat → Int → Int) (H : Heap) (locs : List Loc), LI u μ → va_P D vwCl (lawW cI cO cC cL x a sv o rd bu ob b u μ) H → va_D A (lawW cI cO cC cL x a sv o rd bu ob b u μ) → va_S A H0 H locs → ∀ ls : Array Slot, lv_has ls 9 [(0, .ref (sc)), (1, .ref (x 0)), (2, .ref (b 0)), (3, .ref (ob 0)), (4, .int (iI (i)))] → W p l e ({ frames := 13, cells := 1139, slots := 14922, locals := 478 } : Room) s m args below meth c H locs (cells + 1) (slots + 6) Q (F0 m 1705 ls [])) : W p l e ({ frames := 13, cells := 1139, slots := 14922, locals := 478 } : Room) s m args below meth c H locs cells slots Q (F0 m 1090 ls []) := by
  refine lv_aload_n hx hb dL_law_1090 rfl (lv_at hl 1 rfl) ?_
  refine lv_aload_n hx hb dL_law_1091 rfl (lv_at hl 0 rfl) ?_
  refine lv_iload hx hb dL_law_1092 (lv_at hl 4 rfl) ?_
  refine wi_iconst hx hb dL_law_1094 ?_
  refine wi_iadd hx hb dL_law_1095 ?_
  refine wi_sld hx hb hX hbl hsc hS (i := (i + 1)) (by omega) (by omega) dL_law_1096 ?_
  refine lv_aload_n hx hb dL_law_1097 rfl (lv_at hl 0 rfl) ?_
  refine lv_iload hx hb dL_law_1098 (lv_at hl 4 rfl) ?_
  refine wi_iconst hx hb dL_law_1100 ?_
  refine wi_iadd hx hb dL_law_1101 ?_
  refine wi_sld hx hb hX hbl hsc hS (i := (i + 2)) (by omega) (by omega) dL_law_1102 ?_
  refine lv_aload_n hx hb dL_law_1103 rfl (lv_at hl 3 rfl) ?_
  have hPc := fl_P (S' := [mnW x a sv o rd bu ln, stW cI a σ, svO cO sv (saF sa) κ, stW cI (sa 0) (ss 0), stW cI (sa 1) (ss 1), stW cI (sa 2) (ss 2), stW cI (sa 3) (ss 3), stW cI (sa 4) (ss 4), stW cI (sa 5) (ss 5), ocW cI o φ, rdW rd ρ, bfW cC bu β, ouW cL ob f]) hP [0, 1, 2, 3, 4, 5, 6, 7, 8, 9, 10, 11, 12] rfl
  have hDc := fl_D (S' := [mnW x a sv o rd bu ln, stW cI a σ, svO cO sv (saF sa) κ, stW cI (sa 0) (ss 0), stW cI (sa 1) (ss 1), stW cI (sa 2) (ss 2), stW cI (sa 3) (ss 3), stW cI (sa 4) (ss 4), stW cI (sa 5) (ss 5), ocW cI o φ, rdW rd ρ, bfW cC bu β, ouW cL ob f]) hD [0, 1, 2, 3, 4, 5, 6, 7, 8, 9, 10, 11, 12] (by decide) rfl
  have hFc := fl_free (SC := [mnW x a sv o rd bu ln, stW cI a σ, svO cO sv (saF sa) κ, stW cI (sa 0) (ss 0), stW cI (sa 1) (ss 1), stW cI (sa 2) (ss 2), stW cI (sa 3) (ss 3), stW cI (sa 4) (ss 4), stW cI (sa 5) (ss 5), ocW cI o φ, rdW rd ρ, bfW cC bu β, ouW cL ob f]) hD hS hA [0, 1, 2, 3, 4, 5, 6, 7, 8, 9, 10, 11, 12] rfl
  refine wq_calli (vx_runSW (As := [.ref (x 0), .int (iI ((g (i + 1)))), .int (iI ((g (i + 2)))), .ref (ob 0)]) (rest := []) ⟨hx, hb, hml, hown, hts⟩ (lk_promiseOf l hl9 D cI cO cC cL H.size x a sv o rd bu ob ln σ κ φ ρ β sa ss f ((g (i + 1))) ((g (i + 2))) (hgR _) (hgR _) (by rw [hκ, hln]; exact hG)) (vx_cwSW 4 hts gL_law_L_promiseOf rfl rfl rfl (by decide +kernel) ⟨Nat.le_of_ble_eq_true rfl, Nat.le_of_ble_eq_true rfl⟩) ⟨pcWX_blind, pcWX_of hPc hK hDc (hZ.kept hS.2.1) hFc⟩ rfl rfl hl.1 rfl (lv_room (Nat.le_of_ble_eq_true rfl)) dL_law_1104 ⟨(by show cells + 0 + 1 ≤ 1139; omega), (by show slots + 0 + 6 ≤ 14922; omega)⟩) hS (fun q _ h => hFc q h) hFc (fun r1 u3 t9 H1 locs ht9 hvm hcl2 hB hz1 hk1 hS => ?_)
  obtain ⟨hP1, hK1, hD1⟩ := hB
  rw [ht9] at hP1
  obtain ⟨hP, hD⟩ := fl_join (SR := [mdW cI b μ]) (S1 := [mnW x a sv o rd bu (LwS.ln u3), stW cI a (LwS.σ u3), svO cO sv (saF (LwS.sa u3)) (LwS.κ u3), stW cI (LwS.sa u3 0) (LwS.ss u3 0), stW cI (LwS.sa u3 1) (LwS.ss u3 1), stW cI (LwS.sa u3 2) (LwS.ss u3 2), stW cI (LwS.sa u3 3) (LwS.ss u3 3), stW cI (LwS.sa u3 4) (LwS.ss u3 4), stW cI (LwS.sa u3 5) (LwS.ss u3 5), ocW cI o (LwS.φ u3), rdW rd (LwS.ρ u3), bfW cC bu (LwS.β u3), ouW cL ob (LwS.f u3)]) hP hD [0, 1, 2, 3, 4, 5, 6, 7, 8, 9, 10, 11, 12] [13] rfl rfl (by decide) (by decide) hk1 hFc hP1 hD1
  generalize H1 = H at hP hS ⊢
  have hP := fl_P (S' := [mnW x a sv o rd bu (LwS.ln u3), stW cI a (LwS.σ u3), svO cO sv (saF (LwS.sa u3)) (LwS.κ u3), stW cI (LwS.sa u3 0) (LwS.ss u3 0), stW cI (LwS.sa u3 1) (LwS.ss u3 1), stW cI (LwS.sa u3 2) (LwS.ss u3 2), stW cI (LwS.sa u3 3) (LwS.ss u3 3), stW cI (LwS.sa u3 4) (LwS.ss u3 4), stW cI (LwS.sa u3 5) (LwS.ss u3 5), ocW cI o (LwS.φ u3), rdW rd (LwS.ρ u3), bfW cC bu (LwS.β u3), ouW cL ob (LwS.f u3), mdW cI b μ]) hP [1, 2, 3, 4, 5, 6, 7, 8, 9, 10, 11, 12, 13, 0] rfl
  have hD := fl_D (S' := [mnW x a sv o rd bu (LwS.ln u3), stW cI a (LwS.σ u3), svO cO sv (saF (LwS.sa u3)) (LwS.κ u3), stW cI (LwS.sa u3 0) (LwS.ss u3 0), stW cI (LwS.sa u3 1) (LwS.ss u3 1), stW cI (LwS.sa u3 2) (LwS.ss u3 2), stW cI (LwS.sa u3 3) (LwS.ss u3 3), stW cI (LwS.sa u3 4) (LwS.ss u3 4), stW cI (LwS.sa u3 5) (LwS.ss u3 5), ocW cI o (LwS.φ u3), rdW rd (LwS.ρ u3), bfW cC bu (LwS.β u3), ouW cL ob (LwS.f u3), mdW cI b μ]) hD [1, 2, 3, 4, 5, 6, 7, 8, 9, 10, 11, 12, 13, 0] (by decide) rfl
  rw [hκ, hln] at hcl2
  refine lv_istore (lv' := [(5, .int (iI (r1))), (0, .ref (sc)), (1, .ref (x 0)), (2, .ref (b 0)), (3, .ref (ob 0)), (4, .int (iI (i)))]) hx hb dL_law_1107 hl (by decide) rfl (fun ls hl => ?_)
  refine lv_aload_n hx hb dL_law_1109 rfl (lv_at hl 3 rfl) ?_
  refine lv_aload_n hx hb dL_law_1110 rfl (lv_at hl 1 rfl) ?_
  refine lv_iload hx hb dL_law_1111 (lv_at hl 5 rfl) ?_
  refine wi_iconst hx hb dL_law_1113 ?_
  refine wi_iadd hx hb dL_law_1114 ?_
  refine wi_sld hx hb hX hbl hsc hS (i := (i + 1)) (by omega) (by omega) dL_law_1115 ?_
  refine lv_aload_n hx hb dL_law_1116 rfl (lv_at hl 1 rfl) ?_
  refine lv_iload hx hb dL_law_1117 (lv_at hl 5 rfl) ?_
  refine wi_iconst hx hb dL_law_1119 ?_
  refine wi_iadd hx hb dL_law_1120 ?_
  refine wi_sld hx hb hX hbl hsc hS (i := (i + 2)) (by omega) (by omega) dL_law_1121 ?_
  have hPc := fl_P (S' := [mdW cI b μ]) hP [13] rfl
  have hKc := hK.sub (tys' := [(cI, FieldType.int)]) [0] rfl
  have hDc := fl_D (S' := [mdW cI b μ]) hD [13] (by decide) rfl
  have hFc := fl_free (SC := [mdW cI b μ]) hD hS hA [13] rfl
  refine wq_calli (va_runV (As := [.int (iI ((g (i + 1)))), .int (iI ((g (i + 2))))]) (rest := []) ⟨hx, hb, hml, hown, hts⟩ (c_X5_promiseOf l D cI cO cC cL H.size b μ σ ss (β 1) ((g (i + 1))) ((g (i + 2))) (hgR _) (hgR _) (hM) (hG)) (cwV 2 hts gL_law_X5_promiseOf rfl rfl rfl (by decide +kernel) ⟨Nat.le_of_ble_eq_true rfl, Nat.le_of_ble_eq_true rfl⟩) ⟨pcW_blind, va_recv hKc hPc (ci := 5) (q0 := 0) rfl rfl, pcW_of hPc hKc hDc⟩ rfl rfl hl.1 rfl (lv_room (Nat.le_of_ble_eq_true rfl)) dL_law_1122 ⟨(by show cells + 1 + 0 ≤ 1139; omega), (by show slots + 6 + 0 ≤ 14922; omega)⟩) hS (fun q _ h => hFc q h) hFc (fun r4 u6 t9 H1 locs ht9 hvm hcl5 hB hz1 hk1 hS => ?_)
  obtain ⟨hP1, hK1, hD1⟩ := hB
  rw [ht9] at hP1
  obtain ⟨hP, hD⟩ := fl_join (SR := [mnW x a sv o rd bu (LwS.ln u3), stW cI a (LwS.σ u3), svO cO sv (saF (LwS.sa u3)) (LwS.κ u3), stW cI (LwS.sa u3 0) (LwS.ss u3 0), stW cI (LwS.sa u3 1) (LwS.ss u3 1), stW cI (LwS.sa u3 2) (LwS.ss u3 2), stW cI (LwS.sa u3 3) (LwS.ss u3 3), stW cI (LwS.sa u3 4) (LwS.ss u3 4), stW cI (LwS.sa u3 5) (LwS.ss u3 5), ocW cI o (LwS.φ u3), rdW rd (LwS.ρ u3), bfW cC bu (LwS.β u3), ouW cL ob (LwS.f u3)]) (S1 := [mdW cI b u6]) hP hD [13] [0, 1, 2, 3, 4, 5, 6, 7, 8, 9, 10, 11, 12] rfl rfl (by decide) (by decide) hk1 hFc hP1 hD1
  generalize H1 = H at hP hS ⊢
  have hP := fl_P (S' := [mnW x a sv o rd bu (LwS.ln u3), stW cI a (LwS.σ u3), svO cO sv (saF (LwS.sa u3)) (LwS.κ u3), stW cI (LwS.sa u3 0) (LwS.ss u3 0), stW cI (LwS.sa u3 1) (LwS.ss u3 1), stW cI (LwS.sa u3 2) (LwS.ss u3 2), stW cI (LwS.sa u3 3) (LwS.ss u3 3), stW cI (LwS.sa u3 4) (LwS.ss u3 4), stW cI (LwS.sa u3 5) (LwS.ss u3 5), ocW cI o (LwS.φ u3), rdW rd (LwS.ρ u3), bfW cC bu (LwS.β u3), ouW cL ob (LwS.f u3), mdW cI b u6]) hP [0, 1, 2, 3, 4, 5, 6, 7, 8, 9, 10, 11, 12, 13] rfl
  have hD := fl_D (S' := [mnW x a sv o rd bu (LwS.ln u3), stW cI a (LwS.σ u3), svO cO sv (saF (LwS.sa u3)) (LwS.κ u3), stW cI (LwS.sa u3 0) (LwS.ss u3 0), stW cI (LwS.sa u3 1) (LwS.ss u3 1), stW cI (LwS.sa u3 2) (LwS.ss u3 2), stW cI (LwS.sa u3 3) (LwS.ss u3 3), stW cI (LwS.sa u3 4) (LwS.ss u3 4), stW cI (LwS.sa u3 5) (LwS.ss u3 5), ocW cI o (LwS.φ u3), rdW rd (LwS.ρ u3), bfW cC bu (LwS.β u3), ouW cL ob (LwS.f u3), mdW cI b u6]) hD [0, 1, 2, 3, 4, 5, 6, 7, 8, 9, 10, 11, 12, 13] (by decide) rfl
  obtain ⟨he9, hf9, hLI⟩ := LI.step hcl2 hcl5 hG (fun _ => hG)
  have hrg : 0 ≤ r1 ∧ r1 ≤ 3 := by rw [hcl2.1]; exact cd2_b
  refine lv_istore (lv' := [(6, .int (iI (r4))), (5, .int (iI (r1))), (0, .ref (sc)), (1, .ref (x 0)), (2, .ref (b 0)), (3, .ref (ob 0)), (4, .int (iI (i)))]) hx hb dL_law_1125 hl (by decide) rfl (fun ls hl => ?_)
  refine lv_aload_n hx hb dL_law_1127 rfl (lv_at hl 4 rfl) ?_
  have hPc := fl_P (S' := [mdW cI b u6]) hP [13] rfl
  have hKc := hK.sub (tys' := [(cI, FieldType.int)]) [0] rfl
  refine wr_calli (va_runV (As := []) (rest := []) ⟨hx, hb, hml, hown, hts⟩ (c_X5_thrown l D cI cO cC cL b u6 ) (cwV 0 hts gL_law_X5_thrown rfl rfl rfl (by decide +kernel) ⟨Nat.le_of_ble_eq_true rfl, Nat.le_of_ble_eq_true rfl⟩) ⟨pcR_blind, va_recv hKc hPc (ci := 5) (q0 := 0) rfl rfl, pcR_of hPc hKc⟩ rfl rfl hl.1 rfl (lv_room (Nat.le_of_ble_eq_true rfl)) dL_law_1128 ⟨(by show cells + 1 + 0 ≤ 1139; omega), (by show slots + 6 + 0 ≤ 14922; omega)⟩) (fun r7 hr7 => ?_)
  subst hr7
  refine lv_iload hx hb dL_law_1131 (lv_at hl 1 rfl) ?_
  refine wi_icmp_eq (tgt := 1138) hx hb dL_law_1133 (by decide) (by omega) (fun c_1133 => ?_) (fun c_1133 => ?_)
  · skip
    refine lv_iload hx hb dL_law_1138 (lv_at hl 1 rfl) ?_
    refine wi_if_ne (tgt := 1155) hx hb dL_law_1140 (by decide) (by omega) (fun c_1140 => ?_) (fun c_1140 => ?_)
    · skip
      refine lv_goto (tgt := 1705) hx hb dL_law_1155 (by decide) ?_
      exact kk u3 u6 _ _ (hLI) hP hD hS ls (lv_sub hl [2, 3, 4, 5, 6] rfl)
    · skip
      refine lv_aload_n hx hb dL_law_1143 rfl (lv_at hl 5 rfl) ?_
      refine wi_iconst hx hb dL_law_1144 ?_
      refine wi_lald hx hb hK hP 98 3 rfl rfl dL_law_1145 ?_
      refine lv_iload hx hb dL_law_1146 (lv_at hl 0 rfl) ?_
      refine lv_i2l (v := iL (r4)) hx hb dL_law_1148 rfl ?_
      refine wi_lcmp0 hx hb (congrFun (hf9 (by omega)) 0) dL_law_1149 ?_
      refine wi_if_eq (tgt := 1155) hx hb dL_law_1150 (by decide) (by omega) (fun c_1150 => ?_) (fun c_1150 => ?_)
      · skip
        refine lv_goto (tgt := 1705) hx hb dL_law_1155 (by decide) ?_
        exact kk u3 u6 _ _ (hLI) hP hD hS ls (lv_sub hl [2, 3, 4, 5, 6] rfl)
      · skip
        exfalso; omega
  · skip
    exfalso; omega
set_option maxHeartbeats 4000000 in
set_option maxRecDepth 100000 in
theorem lc_owner (hl9 : l.stackTraces = false) (hx : p.tables.exec = Jvm.exec) (hb : c.code = cL_law) (hlocks : meth.locks = false) (hown : s.vm.findClass RL = some m.cls) (hml : c.maxLocals = 9) (hts : ∀ w ∈ wsL_law, w.before args s = true) (hK : va_K D vwCl [(cI, FieldType.int), (cO, FieldType.object "PromisedCounters$State"), (cC, FieldType.char), (cL, FieldType.long)] s) (hA : ∀ q : Nat, H0.size ≤ q → A q)
    (hgR : ∀ j : Int, R32 (g j)) (hi : 0 ≤ i ∧ i + 5 ≤ (n9 : Int)) (hn9 : n9 ≤ 2560) (hcells : cells + 1 ≤ 1139) (hslots : slots + 6 ≤ 14922) (hκ : κ 0 0 = μ 0 0) (hln : ln 0 0 = μ 0 1) (hM : RelM σ (μ 0 0) ss (μ 0 1) (β 1) μ) (hG : GI σ (μ 0 0) ss (μ 0 1) (β 1)) (hZ : ZP A s H0) (hX : va_X sc n9 (rI g) s H0) (hbl : sc < H0.size) (hsc : ¬ A sc) (hP : va_P D vwCl (fl [mnW x a sv o rd bu ln, stW cI a σ, svO cO sv (saF sa) κ, stW cI (sa 0) (ss 0), stW cI (sa 1) (ss 1), stW cI (sa 2) (ss 2), stW cI (sa 3) (ss 3), stW cI (sa 4) (ss 4), stW cI (sa 5) (ss 5), ocW cI o φ, rdW rd ρ, bfW cC bu β, ouW cL ob f, mdW cI b μ]) H) (hD : va_D A (fl [mnW x a sv o rd bu ln, stW cI a σ, svO cO sv (saF sa) κ, stW cI (sa 0) (ss 0), stW cI (sa 1) (ss 1), stW cI (sa 2) (ss 2), stW cI (sa 3) (ss 3), stW cI (sa 4) (ss 4), stW cI (sa 5) (ss 5), ocW cI o φ, rdW rd ρ, bfW cC bu β, ouW cL ob f, mdW cI b μ])) (hS : va_S A H0 H locs) (hl : lv_has ls 9 [(0, .ref (sc)), (1, .ref (x 0)), (2, .ref (b 0)), (3, .ref (ob 0)), (4, .int (iI (i)))])
    (kk : ∀ (u : LwS) (μ : Nat → Int → Int) (H : Heap) (locs : List Loc), LI u μ → va_P D vwCl (lawW cI cO cC cL x a sv o rd bu ob b u μ) H → va_D A (lawW cI cO cC cL x a sv o rd bu ob b u μ) → va_S A H0 H locs → ∀ ls : Array Slot, lv_has ls 9 [(0, .ref (sc)), (1, .ref (x 0)), (2, .ref (b 0)), (3, .ref (ob 0)), (4, .int (iI (i)))] → W p l e ({ frames := 13, cells := 1139, slots := 14922, locals := 478 } : Room) s m args below meth c H locs (cells + 1) (slots + 6) Q (F0 m 1705 ls [])) : W p l e ({ frames := 13, cells := 1139, slots := 14922, locals := 478 } : Room) s m args below meth c H locs cells slots Q (F0 m 1158 ls []) := by
  refine lv_aload_n hx hb dL_law_1158 rfl (lv_at hl 1 rfl) ?_
  refine lv_aload_n hx hb dL_law_1159 rfl (lv_at hl 0 rfl) ?_
  refine lv_iload hx hb dL_law_1160 (lv_at hl 4 rfl) ?_
  refine wi_iconst hx hb dL_law_1162 ?_
  refine wi_iadd hx hb dL_law_1163 ?_
  refine wi_sld hx hb hX hbl hsc hS (i := (i + 1)) (by omega) (by omega) dL_law_1164 ?_
  refine lv_aload_n hx hb dL_law_1165 rfl (lv_at hl 0 rfl) ?_
  refine lv_iload hx hb dL_law_1166 (lv_at hl 4 rfl) ?_
  refine wi_iconst hx hb dL_law_1168 ?_
  refine wi_iadd hx hb dL_law_1169 ?_
  refine wi_sld hx hb hX hbl hsc hS (i := (i + 2)) (by omega) (by omega) dL_law_1170 ?_
  refine lv_aload_n hx hb dL_law_1171 rfl (lv_at hl 3 rfl) ?_
  have hPc := fl_P (S' := [mnW x a sv o rd bu ln, stW cI a σ, svO cO sv (saF sa) κ, stW cI (sa 0) (ss 0), stW cI (sa 1) (ss 1), stW cI (sa 2) (ss 2), stW cI (sa 3) (ss 3), stW cI (sa 4) (ss 4), stW cI (sa 5) (ss 5), ocW cI o φ, rdW rd ρ, bfW cC bu β, ouW cL ob f]) hP [0, 1, 2, 3, 4, 5, 6, 7, 8, 9, 10, 11, 12] rfl
  have hDc := fl_D (S' := [mnW x a sv o rd bu ln, stW cI a σ, svO cO sv (saF sa) κ, stW cI (sa 0) (ss 0), stW cI (sa 1) (ss 1), stW cI (sa 2) (ss 2), stW cI (sa 3) (ss 3), stW cI (sa 4) (ss 4), stW cI (sa 5) (ss 5), ocW cI o φ, rdW rd ρ, bfW cC bu β, ouW cL ob f]) hD [0, 1, 2, 3, 4, 5, 6, 7, 8, 9, 10, 11, 12] (by decide) rfl
  have hFc := fl_free (SC := [mnW x a sv o rd bu ln, stW cI a σ, svO cO sv (saF sa) κ, stW cI (sa 0) (ss 0), stW cI (sa 1) (ss 1), stW cI (sa 2) (ss 2), stW cI (sa 3) (ss 3), stW cI (sa 4) (ss 4), stW cI (sa 5) (ss 5), ocW cI o φ, rdW rd ρ, bfW cC bu β, ouW cL ob f]) hD hS hA [0, 1, 2, 3, 4, 5, 6, 7, 8, 9, 10, 11, 12] rfl
  refine wq_calli (vx_runSW (As := [.ref (x 0), .int (iI ((g (i + 1)))), .int (iI ((g (i + 2)))), .ref (ob 0)]) (rest := []) ⟨hx, hb, hml, hown, hts⟩ (lk_owner l hl9 D cI cO cC cL H.size x a sv o rd bu ob ln σ κ φ ρ β sa ss f ((g (i + 1))) ((g (i + 2))) (hgR _) (hgR _) (by rw [hκ, hln]; exact hG)) (vx_cwSW 4 hts gL_law_L_owner rfl rfl rfl (by decide +kernel) ⟨Nat.le_of_ble_eq_true rfl, Nat.le_of_ble_eq_true rfl⟩) ⟨pcWX_blind, pcWX_of hPc hK hDc (hZ.kept hS.2.1) hFc⟩ rfl rfl hl.1 rfl (lv_room (Nat.le_of_ble_eq_true rfl)) dL_law_1172 ⟨(by show cells + 0 + 1 ≤ 1139; omega), (by show slots + 0 + 6 ≤ 14922; omega)⟩) hS (fun q _ h => hFc q h) hFc (fun r1 u3 t9 H1 locs ht9 hvm hcl2 hB hz1 hk1 hS => ?_)
  obtain ⟨hP1, hK1, hD1⟩ := hB
  rw [ht9] at hP1
  obtain ⟨hP, hD⟩ := fl_join (SR := [mdW cI b μ]) (S1 := [mnW x a sv o rd bu (LwS.ln u3), stW cI a (LwS.σ u3), svO cO sv (saF (LwS.sa u3)) (LwS.κ u3), stW cI (LwS.sa u3 0) (LwS.ss u3 0), stW cI (LwS.sa u3 1) (LwS.ss u3 1), stW cI (LwS.sa u3 2) (LwS.ss u3 2), stW cI (LwS.sa u3 3) (LwS.ss u3 3), stW cI (LwS.sa u3 4) (LwS.ss u3 4), stW cI (LwS.sa u3 5) (LwS.ss u3 5), ocW cI o (LwS.φ u3), rdW rd (LwS.ρ u3), bfW cC bu (LwS.β u3), ouW cL ob (LwS.f u3)]) hP hD [0, 1, 2, 3, 4, 5, 6, 7, 8, 9, 10, 11, 12] [13] rfl rfl (by decide) (by decide) hk1 hFc hP1 hD1
  generalize H1 = H at hP hS ⊢
  have hP := fl_P (S' := [mnW x a sv o rd bu (LwS.ln u3), stW cI a (LwS.σ u3), svO cO sv (saF (LwS.sa u3)) (LwS.κ u3), stW cI (LwS.sa u3 0) (LwS.ss u3 0), stW cI (LwS.sa u3 1) (LwS.ss u3 1), stW cI (LwS.sa u3 2) (LwS.ss u3 2), stW cI (LwS.sa u3 3) (LwS.ss u3 3), stW cI (LwS.sa u3 4) (LwS.ss u3 4), stW cI (LwS.sa u3 5) (LwS.ss u3 5), ocW cI o (LwS.φ u3), rdW rd (LwS.ρ u3), bfW cC bu (LwS.β u3), ouW cL ob (LwS.f u3), mdW cI b μ]) hP [1, 2, 3, 4, 5, 6, 7, 8, 9, 10, 11, 12, 13, 0] rfl
  have hD := fl_D (S' := [mnW x a sv o rd bu (LwS.ln u3), stW cI a (LwS.σ u3), svO cO sv (saF (LwS.sa u3)) (LwS.κ u3), stW cI (LwS.sa u3 0) (LwS.ss u3 0), stW cI (LwS.sa u3 1) (LwS.ss u3 1), stW cI (LwS.sa u3 2) (LwS.ss u3 2), stW cI (LwS.sa u3 3) (LwS.ss u3 3), stW cI (LwS.sa u3 4) (LwS.ss u3 4), stW cI (LwS.sa u3 5) (LwS.ss u3 5), ocW cI o (LwS.φ u3), rdW rd (LwS.ρ u3), bfW cC bu (LwS.β u3), ouW cL ob (LwS.f u3), mdW cI b μ]) hD [1, 2, 3, 4, 5, 6, 7, 8, 9, 10, 11, 12, 13, 0] (by decide) rfl
  rw [hκ, hln] at hcl2
  refine lv_istore (lv' := [(5, .int (iI (r1))), (0, .ref (sc)), (1, .ref (x 0)), (2, .ref (b 0)), (3, .ref (ob 0)), (4, .int (iI (i)))]) hx hb dL_law_1175 hl (by decide) rfl (fun ls hl => ?_)
  refine lv_aload_n hx hb dL_law_1177 rfl (lv_at hl 3 rfl) ?_
  refine lv_aload_n hx hb dL_law_1178 rfl (lv_at hl 1 rfl) ?_
  refine lv_iload hx hb dL_law_1179 (lv_at hl 5 rfl) ?_
  refine wi_iconst hx hb dL_law_1181 ?_
  refine wi_iadd hx hb dL_law_1182 ?_
  refine wi_sld hx hb hX hbl hsc hS (i := (i + 1)) (by omega) (by omega) dL_law_1183 ?_
  refine lv_aload_n hx hb dL_law_1184 rfl (lv_at hl 1 rfl) ?_
  refine lv_iload hx hb dL_law_1185 (lv_at hl 5 rfl) ?_
  refine wi_iconst hx hb dL_law_1187 ?_
  refine wi_iadd hx hb dL_law_1188 ?_
  refine wi_sld hx hb hX hbl hsc hS (i := (i + 2)) (by omega) (by omega) dL_law_1189 ?_
  have hPc := fl_P (S' := [mdW cI b μ]) hP [13] rfl
  have hKc := hK.sub (tys' := [(cI, FieldType.int)]) [0] rfl
  have hDc := fl_D (S' := [mdW cI b μ]) hD [13] (by decide) rfl
  have hFc := fl_free (SC := [mdW cI b μ]) hD hS hA [13] rfl
  refine wq_calli (va_runV (As := [.int (iI ((g (i + 1)))), .int (iI ((g (i + 2))))]) (rest := []) ⟨hx, hb, hml, hown, hts⟩ (c_X5_owner l D cI cO cC cL H.size b μ σ ss (β 1) ((g (i + 1))) ((g (i + 2))) (hgR _) (hgR _) (hM) (hG)) (cwV 2 hts gL_law_X5_owner rfl rfl rfl (by decide +kernel) ⟨Nat.le_of_ble_eq_true rfl, Nat.le_of_ble_eq_true rfl⟩) ⟨pcW_blind, va_recv hKc hPc (ci := 5) (q0 := 0) rfl rfl, pcW_of hPc hKc hDc⟩ rfl rfl hl.1 rfl (lv_room (Nat.le_of_ble_eq_true rfl)) dL_law_1190 ⟨(by show cells + 1 + 0 ≤ 1139; omega), (by show slots + 6 + 0 ≤ 14922; omega)⟩) hS (fun q _ h => hFc q h) hFc (fun r4 u6 t9 H1 locs ht9 hvm hcl5 hB hz1 hk1 hS => ?_)
  obtain ⟨hP1, hK1, hD1⟩ := hB
  rw [ht9] at hP1
  obtain ⟨hP, hD⟩ := fl_join (SR := [mnW x a sv o rd bu (LwS.ln u3), stW cI a (LwS.σ u3), svO cO sv (saF (LwS.sa u3)) (LwS.κ u3), stW cI (LwS.sa u3 0) (LwS.ss u3 0), stW cI (LwS.sa u3 1) (LwS.ss u3 1), stW cI (LwS.sa u3 2) (LwS.ss u3 2), stW cI (LwS.sa u3 3) (LwS.ss u3 3), stW cI (LwS.sa u3 4) (LwS.ss u3 4), stW cI (LwS.sa u3 5) (LwS.ss u3 5), ocW cI o (LwS.φ u3), rdW rd (LwS.ρ u3), bfW cC bu (LwS.β u3), ouW cL ob (LwS.f u3)]) (S1 := [mdW cI b u6]) hP hD [13] [0, 1, 2, 3, 4, 5, 6, 7, 8, 9, 10, 11, 12] rfl rfl (by decide) (by decide) hk1 hFc hP1 hD1
  generalize H1 = H at hP hS ⊢
  have hP := fl_P (S' := [mnW x a sv o rd bu (LwS.ln u3), stW cI a (LwS.σ u3), svO cO sv (saF (LwS.sa u3)) (LwS.κ u3), stW cI (LwS.sa u3 0) (LwS.ss u3 0), stW cI (LwS.sa u3 1) (LwS.ss u3 1), stW cI (LwS.sa u3 2) (LwS.ss u3 2), stW cI (LwS.sa u3 3) (LwS.ss u3 3), stW cI (LwS.sa u3 4) (LwS.ss u3 4), stW cI (LwS.sa u3 5) (LwS.ss u3 5), ocW cI o (LwS.φ u3), rdW rd (LwS.ρ u3), bfW cC bu (LwS.β u3), ouW cL ob (LwS.f u3), mdW cI b u6]) hP [0, 1, 2, 3, 4, 5, 6, 7, 8, 9, 10, 11, 12, 13] rfl
  have hD := fl_D (S' := [mnW x a sv o rd bu (LwS.ln u3), stW cI a (LwS.σ u3), svO cO sv (saF (LwS.sa u3)) (LwS.κ u3), stW cI (LwS.sa u3 0) (LwS.ss u3 0), stW cI (LwS.sa u3 1) (LwS.ss u3 1), stW cI (LwS.sa u3 2) (LwS.ss u3 2), stW cI (LwS.sa u3 3) (LwS.ss u3 3), stW cI (LwS.sa u3 4) (LwS.ss u3 4), stW cI (LwS.sa u3 5) (LwS.ss u3 5), ocW cI o (LwS.φ u3), rdW rd (LwS.ρ u3), bfW cC bu (LwS.β u3), ouW cL ob (LwS.f u3), mdW cI b u6]) hD [0, 1, 2, 3, 4, 5, 6, 7, 8, 9, 10, 11, 12, 13] (by decide) rfl
  obtain ⟨he9, hf9, hLI⟩ := LI.step hcl2 hcl5 hG (fun _ => hG)
  have hrg : 0 ≤ r1 ∧ r1 ≤ 3 := by rw [hcl2.1]; exact cd2_b
  refine lv_istore (lv' := [(6, .int (iI (r4))), (5, .int (iI (r1))), (0, .ref (sc)), (1, .ref (x 0)), (2, .ref (b 0)), (3, .ref (ob 0)), (4, .int (iI (i)))]) hx hb dL_law_1193 hl (by decide) rfl (fun ls hl => ?_)
  refine lv_aload_n hx hb dL_law_1195 rfl (lv_at hl 4 rfl) ?_
  have hPc := fl_P (S' := [mdW cI b u6]) hP [13] rfl
  have hKc := hK.sub (tys' := [(cI, FieldType.int)]) [0] rfl
  refine wr_calli (va_runV (As := []) (rest := []) ⟨hx, hb, hml, hown, hts⟩ (c_X5_thrown l D cI cO cC cL b u6 ) (cwV 0 hts gL_law_X5_thrown rfl rfl rfl (by decide +kernel) ⟨Nat.le_of_ble_eq_true rfl, Nat.le_of_ble_eq_true rfl⟩) ⟨pcR_blind, va_recv hKc hPc (ci := 5) (q0 := 0) rfl rfl, pcR_of hPc hKc⟩ rfl rfl hl.1 rfl (lv_room (Nat.le_of_ble_eq_true rfl)) dL_law_1196 ⟨(by show cells + 1 + 0 ≤ 1139; omega), (by show slots + 6 + 0 ≤ 14922; omega)⟩) (fun r7 hr7 => ?_)
  subst hr7
  refine lv_iload hx hb dL_law_1199 (lv_at hl 1 rfl) ?_
  refine wi_icmp_eq (tgt := 1206) hx hb dL_law_1201 (by decide) (by omega) (fun c_1201 => ?_) (fun c_1201 => ?_)
  · skip
    refine lv_iload hx hb dL_law_1206 (lv_at hl 1 rfl) ?_
    refine wi_if_ne (tgt := 1223) hx hb dL_law_1208 (by decide) (by omega) (fun c_1208 => ?_) (fun c_1208 => ?_)
    · skip
      refine lv_goto (tgt := 1705) hx hb dL_law_1223 (by decide) ?_
      exact kk u3 u6 _ _ (hLI) hP hD hS ls (lv_sub hl [2, 3, 4, 5, 6] rfl)
    · skip
      refine lv_aload_n hx hb dL_law_1211 rfl (lv_at hl 5 rfl) ?_
      refine wi_iconst hx hb dL_law_1212 ?_
      refine wi_lald hx hb hK hP 98 3 rfl rfl dL_law_1213 ?_
      refine lv_iload hx hb dL_law_1214 (lv_at hl 0 rfl) ?_
      refine lv_i2l (v := iL (r4)) hx hb dL_law_1216 rfl ?_
      refine wi_lcmp0 hx hb (congrFun (hf9 (by omega)) 0) dL_law_1217 ?_
      refine wi_if_eq (tgt := 1223) hx hb dL_law_1218 (by decide) (by omega) (fun c_1218 => ?_) (fun c_1218 => ?_)
      · skip
        refine lv_goto (tgt := 1705) hx hb dL_law_1223 (by decide) ?_
        exact kk u3 u6 _ _ (hLI) hP hD hS ls (lv_sub hl [2, 3, 4, 5, 6] rfl)
      · skip
        exfalso; omega
  · skip
    exfalso; omega
set_option maxHeartbeats 4000000 in
set_option maxRecDepth 100000 in
theorem lc_count (hl9 : l.stackTraces = false) (hx : p.tables.exec = Jvm.exec) (hb : c.code = cL_law) (hlocks : meth.locks = false) (hown : s.vm.findClass RL = some m.cls) (hml : c.maxLocals = 9) (hts : ∀ w ∈ wsL_law, w.before args s = true) (hK : va_K D vwCl [(cI, FieldType.int), (cO, FieldType.object "PromisedCounters$State"), (cC, FieldType.char), (cL, FieldType.long)] s) (hA : ∀ q : Nat, H0.size ≤ q → A q)
    (hgR : ∀ j : Int, R32 (g j)) (hi : 0 ≤ i ∧ i + 5 ≤ (n9 : Int)) (hn9 : n9 ≤ 2560) (hcells : cells + 1 ≤ 1139) (hslots : slots + 6 ≤ 14922) (hκ : κ 0 0 = μ 0 0) (hln : ln 0 0 = μ 0 1) (hM : RelM σ (μ 0 0) ss (μ 0 1) (β 1) μ) (hG : GI σ (μ 0 0) ss (μ 0 1) (β 1)) (hZ : ZP A s H0) (hX : va_X sc n9 (rI g) s H0) (hbl : sc < H0.size) (hsc : ¬ A sc) (hP : va_P D vwCl (fl [mnW x a sv o rd bu ln, stW cI a σ, svO cO sv (saF sa) κ, stW cI (sa 0) (ss 0), stW cI (sa 1) (ss 1), stW cI (sa 2) (ss 2), stW cI (sa 3) (ss 3), stW cI (sa 4) (ss 4), stW cI (sa 5) (ss 5), ocW cI o φ, rdW rd ρ, bfW cC bu β, ouW cL ob f, mdW cI b μ]) H) (hD : va_D A (fl [mnW x a sv o rd bu ln, stW cI a σ, svO cO sv (saF sa) κ, stW cI (sa 0) (ss 0), stW cI (sa 1) (ss 1), stW cI (sa 2) (ss 2), stW cI (sa 3) (ss 3), stW cI (sa 4) (ss 4), stW cI (sa 5) (ss 5), ocW cI o φ, rdW rd ρ, bfW cC bu β, ouW cL ob f, mdW cI b μ])) (hS : va_S A H0 H locs) (hl : lv_has ls 9 [(0, .ref (sc)), (1, .ref (x 0)), (2, .ref (b 0)), (3, .ref (ob 0)), (4, .int (iI (i)))])
    (kk : ∀ (u : LwS) (μ : Nat → Int → Int) (H : Heap) (locs : List Loc), LI u μ → va_P D vwCl (lawW cI cO cC cL x a sv o rd bu ob b u μ) H → va_D A (lawW cI cO cC cL x a sv o rd bu ob b u μ) → va_S A H0 H locs → ∀ ls : Array Slot, lv_has ls 9 [(0, .ref (sc)), (1, .ref (x 0)), (2, .ref (b 0)), (3, .ref (ob 0)), (4, .int (iI (i)))] → W p l e ({ frames := 13, cells := 1139, slots := 14922, locals := 478 } : Room) s m args below meth c H locs (cells + 1) (slots + 6) Q (F0 m 1705 ls [])) : W p l e ({ frames := 13, cells := 1139, slots := 14922, locals := 478 } : Room) s m args below meth c H locs cells slots Q (F0 m 1226 ls []) := by
  refine lv_aload_n hx hb dL_law_1226 rfl (lv_at hl 1 rfl) ?_
  refine lv_aload_n hx hb dL_law_1227 rfl (lv_at hl 0 rfl) ?_
  refine lv_iload hx hb dL_law_1228 (lv_at hl 4 rfl) ?_
  refine wi_iconst hx hb dL_law_1230 ?_
  refine wi_iadd hx hb dL_law_1231 ?_
  refine wi_sld hx hb hX hbl hsc hS (i := (i + 1)) (by omega) (by omega) dL_law_1232 ?_
  refine lv_aload_n hx hb dL_law_1233 rfl (lv_at hl 3 rfl) ?_
  have hPc := fl_P (S' := [mnW x a sv o rd bu ln, stW cI a σ, svO cO sv (saF sa) κ, stW cI (sa 0) (ss 0), stW cI (sa 1) (ss 1), stW cI (sa 2) (ss 2), stW cI (sa 3) (ss 3), stW cI (sa 4) (ss 4), stW cI (sa 5) (ss 5), ocW cI o φ, rdW rd ρ, bfW cC bu β, ouW cL ob f]) hP [0, 1, 2, 3, 4, 5, 6, 7, 8, 9, 10, 11, 12] rfl
  have hDc := fl_D (S' := [mnW x a sv o rd bu ln, stW cI a σ, svO cO sv (saF sa) κ, stW cI (sa 0) (ss 0), stW cI (sa 1) (ss 1), stW cI (sa 2) (ss 2), stW cI (sa 3) (ss 3), stW cI (sa 4) (ss 4), stW cI (sa 5) (ss 5), ocW cI o φ, rdW rd ρ, bfW cC bu β, ouW cL ob f]) hD [0, 1, 2, 3, 4, 5, 6, 7, 8, 9, 10, 11, 12] (by decide) rfl
  have hFc := fl_free (SC := [mnW x a sv o rd bu ln, stW cI a σ, svO cO sv (saF sa) κ, stW cI (sa 0) (ss 0), stW cI (sa 1) (ss 1), stW cI (sa 2) (ss 2), stW cI (sa 3) (ss 3), stW cI (sa 4) (ss 4), stW cI (sa 5) (ss 5), ocW cI o φ, rdW rd ρ, bfW cC bu β, ouW cL ob f]) hD hS hA [0, 1, 2, 3, 4, 5, 6, 7, 8, 9, 10, 11, 12] rfl
  refine wq_calli (vx_runSW (As := [.ref (x 0), .int (iI ((g (i + 1)))), .ref (ob 0)]) (rest := []) ⟨hx, hb, hml, hown, hts⟩ (lk_count l hl9 D cI cO cC cL H.size x a sv o rd bu ob ln σ κ φ ρ β sa ss f ((g (i + 1))) (hgR _) (by rw [hκ, hln]; exact hG)) (vx_cwSW 3 hts gL_law_L_count rfl rfl rfl (by decide +kernel) ⟨Nat.le_of_ble_eq_true rfl, Nat.le_of_ble_eq_true rfl⟩) ⟨pcWX_blind, pcWX_of hPc hK hDc (hZ.kept hS.2.1) hFc⟩ rfl rfl hl.1 rfl (lv_room (Nat.le_of_ble_eq_true rfl)) dL_law_1234 ⟨(by show cells + 0 + 1 ≤ 1139; omega), (by show slots + 0 + 6 ≤ 14922; omega)⟩) hS (fun q _ h => hFc q h) hFc (fun r1 u3 t9 H1 locs ht9 hvm hcl2 hB hz1 hk1 hS => ?_)
  obtain ⟨hP1, hK1, hD1⟩ := hB
  rw [ht9] at hP1
  obtain ⟨hP, hD⟩ := fl_join (SR := [mdW cI b μ]) (S1 := [mnW x a sv o rd bu (LwS.ln u3), stW cI a (LwS.σ u3), svO cO sv (saF (LwS.sa u3)) (LwS.κ u3), stW cI (LwS.sa u3 0) (LwS.ss u3 0), stW cI (LwS.sa u3 1) (LwS.ss u3 1), stW cI (LwS.sa u3 2) (LwS.ss u3 2), stW cI (LwS.sa u3 3) (LwS.ss u3 3), stW cI (LwS.sa u3 4) (LwS.ss u3 4), stW cI (LwS.sa u3 5) (LwS.ss u3 5), ocW cI o (LwS.φ u3), rdW rd (LwS.ρ u3), bfW cC bu (LwS.β u3), ouW cL ob (LwS.f u3)]) hP hD [0, 1, 2, 3, 4, 5, 6, 7, 8, 9, 10, 11, 12] [13] rfl rfl (by decide) (by decide) hk1 hFc hP1 hD1
  generalize H1 = H at hP hS ⊢
  have hP := fl_P (S' := [mnW x a sv o rd bu (LwS.ln u3), stW cI a (LwS.σ u3), svO cO sv (saF (LwS.sa u3)) (LwS.κ u3), stW cI (LwS.sa u3 0) (LwS.ss u3 0), stW cI (LwS.sa u3 1) (LwS.ss u3 1), stW cI (LwS.sa u3 2) (LwS.ss u3 2), stW cI (LwS.sa u3 3) (LwS.ss u3 3), stW cI (LwS.sa u3 4) (LwS.ss u3 4), stW cI (LwS.sa u3 5) (LwS.ss u3 5), ocW cI o (LwS.φ u3), rdW rd (LwS.ρ u3), bfW cC bu (LwS.β u3), ouW cL ob (LwS.f u3), mdW cI b μ]) hP [1, 2, 3, 4, 5, 6, 7, 8, 9, 10, 11, 12, 13, 0] rfl
  have hD := fl_D (S' := [mnW x a sv o rd bu (LwS.ln u3), stW cI a (LwS.σ u3), svO cO sv (saF (LwS.sa u3)) (LwS.κ u3), stW cI (LwS.sa u3 0) (LwS.ss u3 0), stW cI (LwS.sa u3 1) (LwS.ss u3 1), stW cI (LwS.sa u3 2) (LwS.ss u3 2), stW cI (LwS.sa u3 3) (LwS.ss u3 3), stW cI (LwS.sa u3 4) (LwS.ss u3 4), stW cI (LwS.sa u3 5) (LwS.ss u3 5), ocW cI o (LwS.φ u3), rdW rd (LwS.ρ u3), bfW cC bu (LwS.β u3), ouW cL ob (LwS.f u3), mdW cI b μ]) hD [1, 2, 3, 4, 5, 6, 7, 8, 9, 10, 11, 12, 13, 0] (by decide) rfl
  rw [hκ, hln] at hcl2
  refine lv_istore (lv' := [(5, .int (iI (r1))), (0, .ref (sc)), (1, .ref (x 0)), (2, .ref (b 0)), (3, .ref (ob 0)), (4, .int (iI (i)))]) hx hb dL_law_1237 hl (by decide) rfl (fun ls hl => ?_)
  refine lv_aload_n hx hb dL_law_1239 rfl (lv_at hl 3 rfl) ?_
  refine lv_aload_n hx hb dL_law_1240 rfl (lv_at hl 1 rfl) ?_
  refine lv_iload hx hb dL_law_1241 (lv_at hl 5 rfl) ?_
  refine wi_iconst hx hb dL_law_1243 ?_
  refine wi_iadd hx hb dL_law_1244 ?_
  refine wi_sld hx hb hX hbl hsc hS (i := (i + 1)) (by omega) (by omega) dL_law_1245 ?_
  have hPc := fl_P (S' := [mdW cI b μ]) hP [13] rfl
  have hKc := hK.sub (tys' := [(cI, FieldType.int)]) [0] rfl
  have hDc := fl_D (S' := [mdW cI b μ]) hD [13] (by decide) rfl
  have hFc := fl_free (SC := [mdW cI b μ]) hD hS hA [13] rfl
  refine wq_calli (va_runV (As := [.int (iI ((g (i + 1))))]) (rest := []) ⟨hx, hb, hml, hown, hts⟩ (c_X5_count l D cI cO cC cL H.size b μ σ ss (β 1) ((g (i + 1))) (hgR _) (hM) (hG)) (cwV 1 hts gL_law_X5_count rfl rfl rfl (by decide +kernel) ⟨Nat.le_of_ble_eq_true rfl, Nat.le_of_ble_eq_true rfl⟩) ⟨pcW_blind, va_recv hKc hPc (ci := 5) (q0 := 0) rfl rfl, pcW_of hPc hKc hDc⟩ rfl rfl hl.1 rfl (lv_room (Nat.le_of_ble_eq_true rfl)) dL_law_1246 ⟨(by show cells + 1 + 0 ≤ 1139; omega), (by show slots + 6 + 0 ≤ 14922; omega)⟩) hS (fun q _ h => hFc q h) hFc (fun r4 u6 t9 H1 locs ht9 hvm hcl5 hB hz1 hk1 hS => ?_)
  obtain ⟨hP1, hK1, hD1⟩ := hB
  rw [ht9] at hP1
  obtain ⟨hP, hD⟩ := fl_join (SR := [mnW x a sv o rd bu (LwS.ln u3), stW cI a (LwS.σ u3), svO cO sv (saF (LwS.sa u3)) (LwS.κ u3), stW cI (LwS.sa u3 0) (LwS.ss u3 0), stW cI (LwS.sa u3 1) (LwS.ss u3 1), stW cI (LwS.sa u3 2) (LwS.ss u3 2), stW cI (LwS.sa u3 3) (LwS.ss u3 3), stW cI (LwS.sa u3 4) (LwS.ss u3 4), stW cI (LwS.sa u3 5) (LwS.ss u3 5), ocW cI o (LwS.φ u3), rdW rd (LwS.ρ u3), bfW cC bu (LwS.β u3), ouW cL ob (LwS.f u3)]) (S1 := [mdW cI b u6]) hP hD [13] [0, 1, 2, 3, 4, 5, 6, 7, 8, 9, 10, 11, 12] rfl rfl (by decide) (by decide) hk1 hFc hP1 hD1
  generalize H1 = H at hP hS ⊢
  have hP := fl_P (S' := [mnW x a sv o rd bu (LwS.ln u3), stW cI a (LwS.σ u3), svO cO sv (saF (LwS.sa u3)) (LwS.κ u3), stW cI (LwS.sa u3 0) (LwS.ss u3 0), stW cI (LwS.sa u3 1) (LwS.ss u3 1), stW cI (LwS.sa u3 2) (LwS.ss u3 2), stW cI (LwS.sa u3 3) (LwS.ss u3 3), stW cI (LwS.sa u3 4) (LwS.ss u3 4), stW cI (LwS.sa u3 5) (LwS.ss u3 5), ocW cI o (LwS.φ u3), rdW rd (LwS.ρ u3), bfW cC bu (LwS.β u3), ouW cL ob (LwS.f u3), mdW cI b u6]) hP [0, 1, 2, 3, 4, 5, 6, 7, 8, 9, 10, 11, 12, 13] rfl
  have hD := fl_D (S' := [mnW x a sv o rd bu (LwS.ln u3), stW cI a (LwS.σ u3), svO cO sv (saF (LwS.sa u3)) (LwS.κ u3), stW cI (LwS.sa u3 0) (LwS.ss u3 0), stW cI (LwS.sa u3 1) (LwS.ss u3 1), stW cI (LwS.sa u3 2) (LwS.ss u3 2), stW cI (LwS.sa u3 3) (LwS.ss u3 3), stW cI (LwS.sa u3 4) (LwS.ss u3 4), stW cI (LwS.sa u3 5) (LwS.ss u3 5), ocW cI o (LwS.φ u3), rdW rd (LwS.ρ u3), bfW cC bu (LwS.β u3), ouW cL ob (LwS.f u3), mdW cI b u6]) hD [0, 1, 2, 3, 4, 5, 6, 7, 8, 9, 10, 11, 12, 13] (by decide) rfl
  obtain ⟨he9, hf9, hLI⟩ := LI.step hcl2 hcl5 hG (fun _ => hG)
  have hrg : 0 ≤ r1 ∧ r1 ≤ 3 := by rw [hcl2.1]; exact cd1_b
  refine lv_istore (lv' := [(6, .int (iI (r4))), (5, .int (iI (r1))), (0, .ref (sc)), (1, .ref (x 0)), (2, .ref (b 0)), (3, .ref (ob 0)), (4, .int (iI (i)))]) hx hb dL_law_1249 hl (by decide) rfl (fun ls hl => ?_)
  refine lv_aload_n hx hb dL_law_1251 rfl (lv_at hl 4 rfl) ?_
  have hPc := fl_P (S' := [mdW cI b u6]) hP [13] rfl
  have hKc := hK.sub (tys' := [(cI, FieldType.int)]) [0] rfl
  refine wr_calli (va_runV (As := []) (rest := []) ⟨hx, hb, hml, hown, hts⟩ (c_X5_thrown l D cI cO cC cL b u6 ) (cwV 0 hts gL_law_X5_thrown rfl rfl rfl (by decide +kernel) ⟨Nat.le_of_ble_eq_true rfl, Nat.le_of_ble_eq_true rfl⟩) ⟨pcR_blind, va_recv hKc hPc (ci := 5) (q0 := 0) rfl rfl, pcR_of hPc hKc⟩ rfl rfl hl.1 rfl (lv_room (Nat.le_of_ble_eq_true rfl)) dL_law_1252 ⟨(by show cells + 1 + 0 ≤ 1139; omega), (by show slots + 6 + 0 ≤ 14922; omega)⟩) (fun r7 hr7 => ?_)
  subst hr7
  refine lv_iload hx hb dL_law_1255 (lv_at hl 1 rfl) ?_
  refine wi_icmp_eq (tgt := 1262) hx hb dL_law_1257 (by decide) (by omega) (fun c_1257 => ?_) (fun c_1257 => ?_)
  · skip
    refine lv_iload hx hb dL_law_1262 (lv_at hl 1 rfl) ?_
    refine wi_if_ne (tgt := 1279) hx hb dL_law_1264 (by decide) (by omega) (fun c_1264 => ?_) (fun c_1264 => ?_)
    · skip
      refine lv_goto (tgt := 1705) hx hb dL_law_1279 (by decide) ?_
      exact kk u3 u6 _ _ (hLI) hP hD hS ls (lv_sub hl [2, 3, 4, 5, 6] rfl)
    · skip
      refine lv_aload_n hx hb dL_law_1267 rfl (lv_at hl 5 rfl) ?_
      refine wi_iconst hx hb dL_law_1268 ?_
      refine wi_lald hx hb hK hP 98 3 rfl rfl dL_law_1269 ?_
      refine lv_iload hx hb dL_law_1270 (lv_at hl 0 rfl) ?_
      refine lv_i2l (v := iL (r4)) hx hb dL_law_1272 rfl ?_
      refine wi_lcmp0 hx hb (congrFun (hf9 (by omega)) 0) dL_law_1273 ?_
      refine wi_if_eq (tgt := 1279) hx hb dL_law_1274 (by decide) (by omega) (fun c_1274 => ?_) (fun c_1274 => ?_)
      · skip
        refine lv_goto (tgt := 1705) hx hb dL_law_1279 (by decide) ?_
        exact kk u3 u6 _ _ (hLI) hP hD hS ls (lv_sub hl [2, 3, 4, 5, 6] rfl)
      · skip
        exfalso; omega
  · skip
    exfalso; omega
set_option maxHeartbeats 4000000 in
set_option maxRecDepth 100000 in
theorem lc_setting (hl9 : l.stackTraces = false) (hx : p.tables.exec = Jvm.exec) (hb : c.code = cL_law) (hlocks : meth.locks = false) (hown : s.vm.findClass RL = some m.cls) (hml : c.maxLocals = 9) (hts : ∀ w ∈ wsL_law, w.before args s = true) (hK : va_K D vwCl [(cI, FieldType.int), (cO, FieldType.object "PromisedCounters$State"), (cC, FieldType.char), (cL, FieldType.long)] s) (hA : ∀ q : Nat, H0.size ≤ q → A q)
    (hgR : ∀ j : Int, R32 (g j)) (hi : 0 ≤ i ∧ i + 5 ≤ (n9 : Int)) (hn9 : n9 ≤ 2560) (hcells : cells + 1 ≤ 1139) (hslots : slots + 6 ≤ 14922) (hκ : κ 0 0 = μ 0 0) (hln : ln 0 0 = μ 0 1) (hM : RelM σ (μ 0 0) ss (μ 0 1) (β 1) μ) (hG : GI σ (μ 0 0) ss (μ 0 1) (β 1)) (hZ : ZP A s H0) (hX : va_X sc n9 (rI g) s H0) (hbl : sc < H0.size) (hsc : ¬ A sc) (hP : va_P D vwCl (fl [mnW x a sv o rd bu ln, stW cI a σ, svO cO sv (saF sa) κ, stW cI (sa 0) (ss 0), stW cI (sa 1) (ss 1), stW cI (sa 2) (ss 2), stW cI (sa 3) (ss 3), stW cI (sa 4) (ss 4), stW cI (sa 5) (ss 5), ocW cI o φ, rdW rd ρ, bfW cC bu β, ouW cL ob f, mdW cI b μ]) H) (hD : va_D A (fl [mnW x a sv o rd bu ln, stW cI a σ, svO cO sv (saF sa) κ, stW cI (sa 0) (ss 0), stW cI (sa 1) (ss 1), stW cI (sa 2) (ss 2), stW cI (sa 3) (ss 3), stW cI (sa 4) (ss 4), stW cI (sa 5) (ss 5), ocW cI o φ, rdW rd ρ, bfW cC bu β, ouW cL ob f, mdW cI b μ])) (hS : va_S A H0 H locs) (hl : lv_has ls 9 [(0, .ref (sc)), (1, .ref (x 0)), (2, .ref (b 0)), (3, .ref (ob 0)), (4, .int (iI (i)))])
    (kk : ∀ (u : LwS) (μ : Nat → Int → Int) (H : Heap) (locs : List Loc), LI u μ → va_P D vwCl (lawW cI cO cC cL x a sv o rd bu ob b u μ) H → va_D A (lawW cI cO cC cL x a sv o rd bu ob b u μ) → va_S A H0 H locs → ∀ ls : Array Slot, lv_has ls 9 [(0, .ref (sc)), (1, .ref (x 0)), (2, .ref (b 0)), (3, .ref (ob 0)), (4, .int (iI (i)))] → W p l e ({ frames := 13, cells := 1139, slots := 14922, locals := 478 } : Room) s m args below meth c H locs (cells + 1) (slots + 6) Q (F0 m 1705 ls [])) : W p l e ({ frames := 13, cells := 1139, slots := 14922, locals := 478 } : Room) s m args below meth c H locs cells slots Q (F0 m 1282 ls []) := by
  refine lv_aload_n hx hb dL_law_1282 rfl (lv_at hl 1 rfl) ?_
  refine lv_aload_n hx hb dL_law_1283 rfl (lv_at hl 0 rfl) ?_
  refine lv_iload hx hb dL_law_1284 (lv_at hl 4 rfl) ?_
  refine wi_iconst hx hb dL_law_1286 ?_
  refine wi_iadd hx hb dL_law_1287 ?_
  refine wi_sld hx hb hX hbl hsc hS (i := (i + 1)) (by omega) (by omega) dL_law_1288 ?_
  refine lv_aload_n hx hb dL_law_1289 rfl (lv_at hl 3 rfl) ?_
  have hPc := fl_P (S' := [mnW x a sv o rd bu ln, stW cI a σ, svO cO sv (saF sa) κ, stW cI (sa 0) (ss 0), stW cI (sa 1) (ss 1), stW cI (sa 2) (ss 2), stW cI (sa 3) (ss 3), stW cI (sa 4) (ss 4), stW cI (sa 5) (ss 5), ocW cI o φ, rdW rd ρ, bfW cC bu β, ouW cL ob f]) hP [0, 1, 2, 3, 4, 5, 6, 7, 8, 9, 10, 11, 12] rfl
  have hDc := fl_D (S' := [mnW x a sv o rd bu ln, stW cI a σ, svO cO sv (saF sa) κ, stW cI (sa 0) (ss 0), stW cI (sa 1) (ss 1), stW cI (sa 2) (ss 2), stW cI (sa 3) (ss 3), stW cI (sa 4) (ss 4), stW cI (sa 5) (ss 5), ocW cI o φ, rdW rd ρ, bfW cC bu β, ouW cL ob f]) hD [0, 1, 2, 3, 4, 5, 6, 7, 8, 9, 10, 11, 12] (by decide) rfl
  have hFc := fl_free (SC := [mnW x a sv o rd bu ln, stW cI a σ, svO cO sv (saF sa) κ, stW cI (sa 0) (ss 0), stW cI (sa 1) (ss 1), stW cI (sa 2) (ss 2), stW cI (sa 3) (ss 3), stW cI (sa 4) (ss 4), stW cI (sa 5) (ss 5), ocW cI o φ, rdW rd ρ, bfW cC bu β, ouW cL ob f]) hD hS hA [0, 1, 2, 3, 4, 5, 6, 7, 8, 9, 10, 11, 12] rfl
  refine wq_calli (vx_runSW (As := [.ref (x 0), .int (iI ((g (i + 1)))), .ref (ob 0)]) (rest := []) ⟨hx, hb, hml, hown, hts⟩ (lk_setting l hl9 D cI cO cC cL H.size x a sv o rd bu ob ln σ κ φ ρ β sa ss f ((g (i + 1))) (hgR _) (by rw [hκ, hln]; exact hG)) (vx_cwSW 3 hts gL_law_L_setting rfl rfl rfl (by decide +kernel) ⟨Nat.le_of_ble_eq_true rfl, Nat.le_of_ble_eq_true rfl⟩) ⟨pcWX_blind, pcWX_of hPc hK hDc (hZ.kept hS.2.1) hFc⟩ rfl rfl hl.1 rfl (lv_room (Nat.le_of_ble_eq_true rfl)) dL_law_1290 ⟨(by show cells + 0 + 1 ≤ 1139; omega), (by show slots + 0 + 6 ≤ 14922; omega)⟩) hS (fun q _ h => hFc q h) hFc (fun r1 u3 t9 H1 locs ht9 hvm hcl2 hB hz1 hk1 hS => ?_)
  obtain ⟨hP1, hK1, hD1⟩ := hB
  rw [ht9] at hP1
  obtain ⟨hP, hD⟩ := fl_join (SR := [mdW cI b μ]) (S1 := [mnW x a sv o rd bu (LwS.ln u3), stW cI a (LwS.σ u3), svO cO sv (saF (LwS.sa u3)) (LwS.κ u3), stW cI (LwS.sa u3 0) (LwS.ss u3 0), stW cI (LwS.sa u3 1) (LwS.ss u3 1), stW cI (LwS.sa u3 2) (LwS.ss u3 2), stW cI (LwS.sa u3 3) (LwS.ss u3 3), stW cI (LwS.sa u3 4) (LwS.ss u3 4), stW cI (LwS.sa u3 5) (LwS.ss u3 5), ocW cI o (LwS.φ u3), rdW rd (LwS.ρ u3), bfW cC bu (LwS.β u3), ouW cL ob (LwS.f u3)]) hP hD [0, 1, 2, 3, 4, 5, 6, 7, 8, 9, 10, 11, 12] [13] rfl rfl (by decide) (by decide) hk1 hFc hP1 hD1
  generalize H1 = H at hP hS ⊢
  have hP := fl_P (S' := [mnW x a sv o rd bu (LwS.ln u3), stW cI a (LwS.σ u3), svO cO sv (saF (LwS.sa u3)) (LwS.κ u3), stW cI (LwS.sa u3 0) (LwS.ss u3 0), stW cI (LwS.sa u3 1) (LwS.ss u3 1), stW cI (LwS.sa u3 2) (LwS.ss u3 2), stW cI (LwS.sa u3 3) (LwS.ss u3 3), stW cI (LwS.sa u3 4) (LwS.ss u3 4), stW cI (LwS.sa u3 5) (LwS.ss u3 5), ocW cI o (LwS.φ u3), rdW rd (LwS.ρ u3), bfW cC bu (LwS.β u3), ouW cL ob (LwS.f u3), mdW cI b μ]) hP [1, 2, 3, 4, 5, 6, 7, 8, 9, 10, 11, 12, 13, 0] rfl
  have hD := fl_D (S' := [mnW x a sv o rd bu (LwS.ln u3), stW cI a (LwS.σ u3), svO cO sv (saF (LwS.sa u3)) (LwS.κ u3), stW cI (LwS.sa u3 0) (LwS.ss u3 0), stW cI (LwS.sa u3 1) (LwS.ss u3 1), stW cI (LwS.sa u3 2) (LwS.ss u3 2), stW cI (LwS.sa u3 3) (LwS.ss u3 3), stW cI (LwS.sa u3 4) (LwS.ss u3 4), stW cI (LwS.sa u3 5) (LwS.ss u3 5), ocW cI o (LwS.φ u3), rdW rd (LwS.ρ u3), bfW cC bu (LwS.β u3), ouW cL ob (LwS.f u3), mdW cI b μ]) hD [1, 2, 3, 4, 5, 6, 7, 8, 9, 10, 11, 12, 13, 0] (by decide) rfl
  rw [hκ, hln] at hcl2
  refine lv_istore (lv' := [(5, .int (iI (r1))), (0, .ref (sc)), (1, .ref (x 0)), (2, .ref (b 0)), (3, .ref (ob 0)), (4, .int (iI (i)))]) hx hb dL_law_1293 hl (by decide) rfl (fun ls hl => ?_)
  refine lv_aload_n hx hb dL_law_1295 rfl (lv_at hl 3 rfl) ?_
  refine lv_aload_n hx hb dL_law_1296 rfl (lv_at hl 1 rfl) ?_
  refine lv_iload hx hb dL_law_1297 (lv_at hl 5 rfl) ?_
  refine wi_iconst hx hb dL_law_1299 ?_
  refine wi_iadd hx hb dL_law_1300 ?_
  refine wi_sld hx hb hX hbl hsc hS (i := (i + 1)) (by omega) (by omega) dL_law_1301 ?_
  have hPc := fl_P (S' := [mdW cI b μ]) hP [13] rfl
  have hKc := hK.sub (tys' := [(cI, FieldType.int)]) [0] rfl
  have hDc := fl_D (S' := [mdW cI b μ]) hD [13] (by decide) rfl
  have hFc := fl_free (SC := [mdW cI b μ]) hD hS hA [13] rfl
  refine wq_calli (va_runV (As := [.int (iI ((g (i + 1))))]) (rest := []) ⟨hx, hb, hml, hown, hts⟩ (c_X5_setting l D cI cO cC cL H.size b μ σ ss (β 1) ((g (i + 1))) (hgR _) (hM) (hG)) (cwV 1 hts gL_law_X5_setting rfl rfl rfl (by decide +kernel) ⟨Nat.le_of_ble_eq_true rfl, Nat.le_of_ble_eq_true rfl⟩) ⟨pcW_blind, va_recv hKc hPc (ci := 5) (q0 := 0) rfl rfl, pcW_of hPc hKc hDc⟩ rfl rfl hl.1 rfl (lv_room (Nat.le_of_ble_eq_true rfl)) dL_law_1302 ⟨(by show cells + 1 + 0 ≤ 1139; omega), (by show slots + 6 + 0 ≤ 14922; omega)⟩) hS (fun q _ h => hFc q h) hFc (fun r4 u6 t9 H1 locs ht9 hvm hcl5 hB hz1 hk1 hS => ?_)
  obtain ⟨hP1, hK1, hD1⟩ := hB
  rw [ht9] at hP1
  obtain ⟨hP, hD⟩ := fl_join (SR := [mnW x a sv o rd bu (LwS.ln u3), stW cI a (LwS.σ u3), svO cO sv (saF (LwS.sa u3)) (LwS.κ u3), stW cI (LwS.sa u3 0) (LwS.ss u3 0), stW cI (LwS.sa u3 1) (LwS.ss u3 1), stW cI (LwS.sa u3 2) (LwS.ss u3 2), stW cI (LwS.sa u3 3) (LwS.ss u3 3), stW cI (LwS.sa u3 4) (LwS.ss u3 4), stW cI (LwS.sa u3 5) (LwS.ss u3 5), ocW cI o (LwS.φ u3), rdW rd (LwS.ρ u3), bfW cC bu (LwS.β u3), ouW cL ob (LwS.f u3)]) (S1 := [mdW cI b u6]) hP hD [13] [0, 1, 2, 3, 4, 5, 6, 7, 8, 9, 10, 11, 12] rfl rfl (by decide) (by decide) hk1 hFc hP1 hD1
  generalize H1 = H at hP hS ⊢
  have hP := fl_P (S' := [mnW x a sv o rd bu (LwS.ln u3), stW cI a (LwS.σ u3), svO cO sv (saF (LwS.sa u3)) (LwS.κ u3), stW cI (LwS.sa u3 0) (LwS.ss u3 0), stW cI (LwS.sa u3 1) (LwS.ss u3 1), stW cI (LwS.sa u3 2) (LwS.ss u3 2), stW cI (LwS.sa u3 3) (LwS.ss u3 3), stW cI (LwS.sa u3 4) (LwS.ss u3 4), stW cI (LwS.sa u3 5) (LwS.ss u3 5), ocW cI o (LwS.φ u3), rdW rd (LwS.ρ u3), bfW cC bu (LwS.β u3), ouW cL ob (LwS.f u3), mdW cI b u6]) hP [0, 1, 2, 3, 4, 5, 6, 7, 8, 9, 10, 11, 12, 13] rfl
  have hD := fl_D (S' := [mnW x a sv o rd bu (LwS.ln u3), stW cI a (LwS.σ u3), svO cO sv (saF (LwS.sa u3)) (LwS.κ u3), stW cI (LwS.sa u3 0) (LwS.ss u3 0), stW cI (LwS.sa u3 1) (LwS.ss u3 1), stW cI (LwS.sa u3 2) (LwS.ss u3 2), stW cI (LwS.sa u3 3) (LwS.ss u3 3), stW cI (LwS.sa u3 4) (LwS.ss u3 4), stW cI (LwS.sa u3 5) (LwS.ss u3 5), ocW cI o (LwS.φ u3), rdW rd (LwS.ρ u3), bfW cC bu (LwS.β u3), ouW cL ob (LwS.f u3), mdW cI b u6]) hD [0, 1, 2, 3, 4, 5, 6, 7, 8, 9, 10, 11, 12, 13] (by decide) rfl
  obtain ⟨he9, hf9, hLI⟩ := LI.step hcl2 hcl5 hG (fun _ => hG)
  have hrg : 0 ≤ r1 ∧ r1 ≤ 3 := by rw [hcl2.1]; exact cd1_b
  refine lv_istore (lv' := [(6, .int (iI (r4))), (5, .int (iI (r1))), (0, .ref (sc)), (1, .ref (x 0)), (2, .ref (b 0)), (3, .ref (ob 0)), (4, .int (iI (i)))]) hx hb dL_law_1305 hl (by decide) rfl (fun ls hl => ?_)
  refine lv_aload_n hx hb dL_law_1307 rfl (lv_at hl 4 rfl) ?_
  have hPc := fl_P (S' := [mdW cI b u6]) hP [13] rfl
  have hKc := hK.sub (tys' := [(cI, FieldType.int)]) [0] rfl
  refine wr_calli (va_runV (As := []) (rest := []) ⟨hx, hb, hml, hown, hts⟩ (c_X5_thrown l D cI cO cC cL b u6 ) (cwV 0 hts gL_law_X5_thrown rfl rfl rfl (by decide +kernel) ⟨Nat.le_of_ble_eq_true rfl, Nat.le_of_ble_eq_true rfl⟩) ⟨pcR_blind, va_recv hKc hPc (ci := 5) (q0 := 0) rfl rfl, pcR_of hPc hKc⟩ rfl rfl hl.1 rfl (lv_room (Nat.le_of_ble_eq_true rfl)) dL_law_1308 ⟨(by show cells + 1 + 0 ≤ 1139; omega), (by show slots + 6 + 0 ≤ 14922; omega)⟩) (fun r7 hr7 => ?_)
  subst hr7
  refine lv_iload hx hb dL_law_1311 (lv_at hl 1 rfl) ?_
  refine wi_icmp_eq (tgt := 1318) hx hb dL_law_1313 (by decide) (by omega) (fun c_1313 => ?_) (fun c_1313 => ?_)
  · skip
    refine lv_iload hx hb dL_law_1318 (lv_at hl 1 rfl) ?_
    refine wi_if_ne (tgt := 1335) hx hb dL_law_1320 (by decide) (by omega) (fun c_1320 => ?_) (fun c_1320 => ?_)
    · skip
      refine lv_goto (tgt := 1705) hx hb dL_law_1335 (by decide) ?_
      exact kk u3 u6 _ _ (hLI) hP hD hS ls (lv_sub hl [2, 3, 4, 5, 6] rfl)
    · skip
      refine lv_aload_n hx hb dL_law_1323 rfl (lv_at hl 5 rfl) ?_
      refine wi_iconst hx hb dL_law_1324 ?_
      refine wi_lald hx hb hK hP 98 3 rfl rfl dL_law_1325 ?_
      refine lv_iload hx hb dL_law_1326 (lv_at hl 0 rfl) ?_
      refine lv_i2l (v := iL (r4)) hx hb dL_law_1328 rfl ?_
      refine wi_lcmp0 hx hb (congrFun (hf9 (by omega)) 0) dL_law_1329 ?_
      refine wi_if_eq (tgt := 1335) hx hb dL_law_1330 (by decide) (by omega) (fun c_1330 => ?_) (fun c_1330 => ?_)
      · skip
        refine lv_goto (tgt := 1705) hx hb dL_law_1335 (by decide) ?_
        exact kk u3 u6 _ _ (hLI) hP hD hS ls (lv_sub hl [2, 3, 4, 5, 6] rfl)
      · skip
        exfalso; omega
  · skip
    exfalso; omega
set_option maxHeartbeats 4000000 in
set_option maxRecDepth 100000 in
theorem lc_whyNot (hl9 : l.stackTraces = false) (hx : p.tables.exec = Jvm.exec) (hb : c.code = cL_law) (hlocks : meth.locks = false) (hown : s.vm.findClass RL = some m.cls) (hml : c.maxLocals = 9) (hts : ∀ w ∈ wsL_law, w.before args s = true) (hK : va_K D vwCl [(cI, FieldType.int), (cO, FieldType.object "PromisedCounters$State"), (cC, FieldType.char), (cL, FieldType.long)] s) (hA : ∀ q : Nat, H0.size ≤ q → A q)
    (hgR : ∀ j : Int, R32 (g j)) (hi : 0 ≤ i ∧ i + 5 ≤ (n9 : Int)) (hn9 : n9 ≤ 2560) (hcells : cells + 1 ≤ 1139) (hslots : slots + 6 ≤ 14922) (hκ : κ 0 0 = μ 0 0) (hln : ln 0 0 = μ 0 1) (hM : RelM σ (μ 0 0) ss (μ 0 1) (β 1) μ) (hG : GI σ (μ 0 0) ss (μ 0 1) (β 1)) (hZ : ZP A s H0) (hX : va_X sc n9 (rI g) s H0) (hbl : sc < H0.size) (hsc : ¬ A sc) (hP : va_P D vwCl (fl [mnW x a sv o rd bu ln, stW cI a σ, svO cO sv (saF sa) κ, stW cI (sa 0) (ss 0), stW cI (sa 1) (ss 1), stW cI (sa 2) (ss 2), stW cI (sa 3) (ss 3), stW cI (sa 4) (ss 4), stW cI (sa 5) (ss 5), ocW cI o φ, rdW rd ρ, bfW cC bu β, ouW cL ob f, mdW cI b μ]) H) (hD : va_D A (fl [mnW x a sv o rd bu ln, stW cI a σ, svO cO sv (saF sa) κ, stW cI (sa 0) (ss 0), stW cI (sa 1) (ss 1), stW cI (sa 2) (ss 2), stW cI (sa 3) (ss 3), stW cI (sa 4) (ss 4), stW cI (sa 5) (ss 5), ocW cI o φ, rdW rd ρ, bfW cC bu β, ouW cL ob f, mdW cI b μ])) (hS : va_S A H0 H locs) (hl : lv_has ls 9 [(0, .ref (sc)), (1, .ref (x 0)), (2, .ref (b 0)), (3, .ref (ob 0)), (4, .int (iI (i)))])
    (kk : ∀ (u : LwS) (μ : Nat → Int → Int) (H : Heap) (locs : List Loc), LI u μ → va_P D vwCl (lawW cI cO cC cL x a sv o rd bu ob b u μ) H → va_D A (lawW cI cO cC cL x a sv o rd bu ob b u μ) → va_S A H0 H locs → ∀ ls : Array Slot, lv_has ls 9 [(0, .ref (sc)), (1, .ref (x 0)), (2, .ref (b 0)), (3, .ref (ob 0)), (4, .int (iI (i)))] → W p l e ({ frames := 13, cells := 1139, slots := 14922, locals := 478 } : Room) s m args below meth c H locs (cells + 1) (slots + 6) Q (F0 m 1705 ls [])) : W p l e ({ frames := 13, cells := 1139, slots := 14922, locals := 478 } : Room) s m args below meth c H locs cells slots Q (F0 m 1338 ls []) := by
  refine lv_aload_n hx hb dL_law_1338 rfl (lv_at hl 1 rfl) ?_
  refine lv_aload_n hx hb dL_law_1339 rfl (lv_at hl 0 rfl) ?_
  refine lv_iload hx hb dL_law_1340 (lv_at hl 4 rfl) ?_
  refine wi_iconst hx hb dL_law_1342 ?_
  refine wi_iadd hx hb dL_law_1343 ?_
  refine wi_sld hx hb hX hbl hsc hS (i := (i + 1)) (by omega) (by omega) dL_law_1344 ?_
  refine lv_aload_n hx hb dL_law_1345 rfl (lv_at hl 0 rfl) ?_
  refine lv_iload hx hb dL_law_1346 (lv_at hl 4 rfl) ?_
  refine wi_iconst hx hb dL_law_1348 ?_
  refine wi_iadd hx hb dL_law_1349 ?_
  refine wi_sld hx hb hX hbl hsc hS (i := (i + 2)) (by omega) (by omega) dL_law_1350 ?_
  refine lv_aload_n hx hb dL_law_1351 rfl (lv_at hl 0 rfl) ?_
  refine lv_iload hx hb dL_law_1352 (lv_at hl 4 rfl) ?_
  refine wi_iconst hx hb dL_law_1354 ?_
  refine wi_iadd hx hb dL_law_1355 ?_
  refine wi_sld hx hb hX hbl hsc hS (i := (i + 3)) (by omega) (by omega) dL_law_1356 ?_
  refine lv_aload_n hx hb dL_law_1357 rfl (lv_at hl 3 rfl) ?_
  have hPc := fl_P (S' := [mnW x a sv o rd bu ln, stW cI a σ, svO cO sv (saF sa) κ, stW cI (sa 0) (ss 0), stW cI (sa 1) (ss 1), stW cI (sa 2) (ss 2), stW cI (sa 3) (ss 3), stW cI (sa 4) (ss 4), stW cI (sa 5) (ss 5), ocW cI o φ, rdW rd ρ, bfW cC bu β, ouW cL ob f]) hP [0, 1, 2, 3, 4, 5, 6, 7, 8, 9, 10, 11, 12] rfl
  have hDc := fl_D (S' := [mnW x a sv o rd bu ln, stW cI a σ, svO cO sv (saF sa) κ, stW cI (sa 0) (ss 0), stW cI (sa 1) (ss 1), stW cI (sa 2) (ss 2), stW cI (sa 3) (ss 3), stW cI (sa 4) (ss 4), stW cI (sa 5) (ss 5), ocW cI o φ, rdW rd ρ, bfW cC bu β, ouW cL ob f]) hD [0, 1, 2, 3, 4, 5, 6, 7, 8, 9, 10, 11, 12] (by decide) rfl
  have hFc := fl_free (SC := [mnW x a sv o rd bu ln, stW cI a σ, svO cO sv (saF sa) κ, stW cI (sa 0) (ss 0), stW cI (sa 1) (ss 1), stW cI (sa 2) (ss 2), stW cI (sa 3) (ss 3), stW cI (sa 4) (ss 4), stW cI (sa 5) (ss 5), ocW cI o φ, rdW rd ρ, bfW cC bu β, ouW cL ob f]) hD hS hA [0, 1, 2, 3, 4, 5, 6, 7, 8, 9, 10, 11, 12] rfl
  refine wq_calli (vx_runSW (As := [.ref (x 0), .int (iI ((g (i + 1)))), .int (iI ((g (i + 2)))), .int (iI ((g (i + 3)))), .ref (ob 0)]) (rest := []) ⟨hx, hb, hml, hown, hts⟩ (lk_whyNot l hl9 D cI cO cC cL H.size x a sv o rd bu ob ln σ κ φ ρ β sa ss f ((g (i + 1))) ((g (i + 2))) ((g (i + 3))) (hgR _) (hgR _) (hgR _) (by rw [hκ, hln]; exact hG)) (vx_cwSW 5 hts gL_law_L_whyNot rfl rfl rfl (by decide +kernel) ⟨Nat.le_of_ble_eq_true rfl, Nat.le_of_ble_eq_true rfl⟩) ⟨pcWX_blind, pcWX_of hPc hK hDc (hZ.kept hS.2.1) hFc⟩ rfl rfl hl.1 rfl (lv_room (Nat.le_of_ble_eq_true rfl)) dL_law_1358 ⟨(by show cells + 0 + 1 ≤ 1139; omega), (by show slots + 0 + 6 ≤ 14922; omega)⟩) hS (fun q _ h => hFc q h) hFc (fun r1 u3 t9 H1 locs ht9 hvm hcl2 hB hz1 hk1 hS => ?_)
  obtain ⟨hP1, hK1, hD1⟩ := hB
  rw [ht9] at hP1
  obtain ⟨hP, hD⟩ := fl_join (SR := [mdW cI b μ]) (S1 := [mnW x a sv o rd bu (LwS.ln u3), stW cI a (LwS.σ u3), svO cO sv (saF (LwS.sa u3)) (LwS.κ u3), stW cI (LwS.sa u3 0) (LwS.ss u3 0), stW cI (LwS.sa u3 1) (LwS.ss u3 1), stW cI (LwS.sa u3 2) (LwS.ss u3 2), stW cI (LwS.sa u3 3) (LwS.ss u3 3), stW cI (LwS.sa u3 4) (LwS.ss u3 4), stW cI (LwS.sa u3 5) (LwS.ss u3 5), ocW cI o (LwS.φ u3), rdW rd (LwS.ρ u3), bfW cC bu (LwS.β u3), ouW cL ob (LwS.f u3)]) hP hD [0, 1, 2, 3, 4, 5, 6, 7, 8, 9, 10, 11, 12] [13] rfl rfl (by decide) (by decide) hk1 hFc hP1 hD1
  generalize H1 = H at hP hS ⊢
  have hP := fl_P (S' := [mnW x a sv o rd bu (LwS.ln u3), stW cI a (LwS.σ u3), svO cO sv (saF (LwS.sa u3)) (LwS.κ u3), stW cI (LwS.sa u3 0) (LwS.ss u3 0), stW cI (LwS.sa u3 1) (LwS.ss u3 1), stW cI (LwS.sa u3 2) (LwS.ss u3 2), stW cI (LwS.sa u3 3) (LwS.ss u3 3), stW cI (LwS.sa u3 4) (LwS.ss u3 4), stW cI (LwS.sa u3 5) (LwS.ss u3 5), ocW cI o (LwS.φ u3), rdW rd (LwS.ρ u3), bfW cC bu (LwS.β u3), ouW cL ob (LwS.f u3), mdW cI b μ]) hP [1, 2, 3, 4, 5, 6, 7, 8, 9, 10, 11, 12, 13, 0] rfl
  have hD := fl_D (S' := [mnW x a sv o rd bu (LwS.ln u3), stW cI a (LwS.σ u3), svO cO sv (saF (LwS.sa u3)) (LwS.κ u3), stW cI (LwS.sa u3 0) (LwS.ss u3 0), stW cI (LwS.sa u3 1) (LwS.ss u3 1), stW cI (LwS.sa u3 2) (LwS.ss u3 2), stW cI (LwS.sa u3 3) (LwS.ss u3 3), stW cI (LwS.sa u3 4) (LwS.ss u3 4), stW cI (LwS.sa u3 5) (LwS.ss u3 5), ocW cI o (LwS.φ u3), rdW rd (LwS.ρ u3), bfW cC bu (LwS.β u3), ouW cL ob (LwS.f u3), mdW cI b μ]) hD [1, 2, 3, 4, 5, 6, 7, 8, 9, 10, 11, 12, 13, 0] (by decide) rfl
  rw [hκ, hln] at hcl2
  refine lv_istore (lv' := [(5, .int (iI (r1))), (0, .ref (sc)), (1, .ref (x 0)), (2, .ref (b 0)), (3, .ref (ob 0)), (4, .int (iI (i)))]) hx hb dL_law_1361 hl (by decide) rfl (fun ls hl => ?_)
  refine lv_aload_n hx hb dL_law_1363 rfl (lv_at hl 3 rfl) ?_
  refine lv_aload_n hx hb dL_law_1364 rfl (lv_at hl 1 rfl) ?_
  refine lv_iload hx hb dL_law_1365 (lv_at hl 5 rfl) ?_
  refine wi_iconst hx hb dL_law_1367 ?_
  refine wi_iadd hx hb dL_law_1368 ?_
  refine wi_sld hx hb hX hbl hsc hS (i := (i + 1)) (by omega) (by omega) dL_law_1369 ?_
  refine lv_aload_n hx hb dL_law_1370 rfl (lv_at hl 1 rfl) ?_
  refine lv_iload hx hb dL_law_1371 (lv_at hl 5 rfl) ?_
  refine wi_iconst hx hb dL_law_1373 ?_
  refine wi_iadd hx hb dL_law_1374 ?_
  refine wi_sld hx hb hX hbl hsc hS (i := (i + 2)) (by omega) (by omega) dL_law_1375 ?_
  refine lv_aload_n hx hb dL_law_1376 rfl (lv_at hl 1 rfl) ?_
  refine lv_iload hx hb dL_law_1377 (lv_at hl 5 rfl) ?_
  refine wi_iconst hx hb dL_law_1379 ?_
  refine wi_iadd hx hb dL_law_1380 ?_
  refine wi_sld hx hb hX hbl hsc hS (i := (i + 3)) (by omega) (by omega) dL_law_1381 ?_
  have hPc := fl_P (S' := [mdW cI b μ]) hP [13] rfl
  have hKc := hK.sub (tys' := [(cI, FieldType.int)]) [0] rfl
  have hDc := fl_D (S' := [mdW cI b μ]) hD [13] (by decide) rfl
  have hFc := fl_free (SC := [mdW cI b μ]) hD hS hA [13] rfl
  refine wq_calli (va_runV (As := [.int (iI ((g (i + 1)))), .int (iI ((g (i + 2)))), .int (iI ((g (i + 3))))]) (rest := []) ⟨hx, hb, hml, hown, hts⟩ (c_X5_whyNot l D cI cO cC cL H.size b μ σ ss (β 1) ((g (i + 1))) ((g (i + 2))) ((g (i + 3))) (hgR _) (hgR _) (hgR _) (hM) (hG)) (cwV 3 hts gL_law_X5_whyNot rfl rfl rfl (by decide +kernel) ⟨Nat.le_of_ble_eq_true rfl, Nat.le_of_ble_eq_true rfl⟩) ⟨pcW_blind, va_recv hKc hPc (ci := 5) (q0 := 0) rfl rfl, pcW_of hPc hKc hDc⟩ rfl rfl hl.1 rfl (lv_room (Nat.le_of_ble_eq_true rfl)) dL_law_1382 ⟨(by show cells + 1 + 0 ≤ 1139; omega), (by show slots + 6 + 0 ≤ 14922; omega)⟩) hS (fun q _ h => hFc q h) hFc (fun r4 u6 t9 H1 locs ht9 hvm hcl5 hB hz1 hk1 hS => ?_)
  obtain ⟨hP1, hK1, hD1⟩ := hB
  rw [ht9] at hP1
  obtain ⟨hP, hD⟩ := fl_join (SR := [mnW x a sv o rd bu (LwS.ln u3), stW cI a (LwS.σ u3), svO cO sv (saF (LwS.sa u3)) (LwS.κ u3), stW cI (LwS.sa u3 0) (LwS.ss u3 0), stW cI (LwS.sa u3 1) (LwS.ss u3 1), stW cI (LwS.sa u3 2) (LwS.ss u3 2), stW cI (LwS.sa u3 3) (LwS.ss u3 3), stW cI (LwS.sa u3 4) (LwS.ss u3 4), stW cI (LwS.sa u3 5) (LwS.ss u3 5), ocW cI o (LwS.φ u3), rdW rd (LwS.ρ u3), bfW cC bu (LwS.β u3), ouW cL ob (LwS.f u3)]) (S1 := [mdW cI b u6]) hP hD [13] [0, 1, 2, 3, 4, 5, 6, 7, 8, 9, 10, 11, 12] rfl rfl (by decide) (by decide) hk1 hFc hP1 hD1
  generalize H1 = H at hP hS ⊢
  have hP := fl_P (S' := [mnW x a sv o rd bu (LwS.ln u3), stW cI a (LwS.σ u3), svO cO sv (saF (LwS.sa u3)) (LwS.κ u3), stW cI (LwS.sa u3 0) (LwS.ss u3 0), stW cI (LwS.sa u3 1) (LwS.ss u3 1), stW cI (LwS.sa u3 2) (LwS.ss u3 2), stW cI (LwS.sa u3 3) (LwS.ss u3 3), stW cI (LwS.sa u3 4) (LwS.ss u3 4), stW cI (LwS.sa u3 5) (LwS.ss u3 5), ocW cI o (LwS.φ u3), rdW rd (LwS.ρ u3), bfW cC bu (LwS.β u3), ouW cL ob (LwS.f u3), mdW cI b u6]) hP [0, 1, 2, 3, 4, 5, 6, 7, 8, 9, 10, 11, 12, 13] rfl
  have hD := fl_D (S' := [mnW x a sv o rd bu (LwS.ln u3), stW cI a (LwS.σ u3), svO cO sv (saF (LwS.sa u3)) (LwS.κ u3), stW cI (LwS.sa u3 0) (LwS.ss u3 0), stW cI (LwS.sa u3 1) (LwS.ss u3 1), stW cI (LwS.sa u3 2) (LwS.ss u3 2), stW cI (LwS.sa u3 3) (LwS.ss u3 3), stW cI (LwS.sa u3 4) (LwS.ss u3 4), stW cI (LwS.sa u3 5) (LwS.ss u3 5), ocW cI o (LwS.φ u3), rdW rd (LwS.ρ u3), bfW cC bu (LwS.β u3), ouW cL ob (LwS.f u3), mdW cI b u6]) hD [0, 1, 2, 3, 4, 5, 6, 7, 8, 9, 10, 11, 12, 13] (by decide) rfl
  obtain ⟨he9, hf9, hLI⟩ := LI.step hcl2 hcl5 hG (fun _ => hG)
  have hrg : 0 ≤ r1 ∧ r1 ≤ 3 := by rw [hcl2.1]; exact cd2_b
  refine lv_istore (lv' := [(6, .int (iI (r4))), (5, .int (iI (r1))), (0, .ref (sc)), (1, .ref (x 0)), (2, .ref (b 0)), (3, .ref (ob 0)), (4, .int (iI (i)))]) hx hb dL_law_1385 hl (by decide) rfl (fun ls hl => ?_)
  refine lv_aload_n hx hb dL_law_1387 rfl (lv_at hl 4 rfl) ?_
  have hPc := fl_P (S' := [mdW cI b u6]) hP [13] rfl
  have hKc := hK.sub (tys' := [(cI, FieldType.int)]) [0] rfl
  refine wr_calli (va_runV (As := []) (rest := []) ⟨hx, hb, hml, hown, hts⟩ (c_X5_thrown l D cI cO cC cL b u6 ) (cwV 0 hts gL_law_X5_thrown rfl rfl rfl (by decide +kernel) ⟨Nat.le_of_ble_eq_true rfl, Nat.le_of_ble_eq_true rfl⟩) ⟨pcR_blind, va_recv hKc hPc (ci := 5) (q0 := 0) rfl rfl, pcR_of hPc hKc⟩ rfl rfl hl.1 rfl (lv_room (Nat.le_of_ble_eq_true rfl)) dL_law_1388 ⟨(by show cells + 1 + 0 ≤ 1139; omega), (by show slots + 6 + 0 ≤ 14922; omega)⟩) (fun r7 hr7 => ?_)
  subst hr7
  refine lv_iload hx hb dL_law_1391 (lv_at hl 1 rfl) ?_
  refine wi_icmp_eq (tgt := 1398) hx hb dL_law_1393 (by decide) (by omega) (fun c_1393 => ?_) (fun c_1393 => ?_)
  · skip
    refine lv_iload hx hb dL_law_1398 (lv_at hl 1 rfl) ?_
    refine wi_if_ne (tgt := 1415) hx hb dL_law_1400 (by decide) (by omega) (fun c_1400 => ?_) (fun c_1400 => ?_)
    · skip
      refine lv_goto (tgt := 1705) hx hb dL_law_1415 (by decide) ?_
      exact kk u3 u6 _ _ (hLI) hP hD hS ls (lv_sub hl [2, 3, 4, 5, 6] rfl)
    · skip
      refine lv_aload_n hx hb dL_law_1403 rfl (lv_at hl 5 rfl) ?_
      refine wi_iconst hx hb dL_law_1404 ?_
      refine wi_lald hx hb hK hP 98 3 rfl rfl dL_law_1405 ?_
      refine lv_iload hx hb dL_law_1406 (lv_at hl 0 rfl) ?_
      refine lv_i2l (v := iL (r4)) hx hb dL_law_1408 rfl ?_
      refine wi_lcmp0 hx hb (congrFun (hf9 (by omega)) 0) dL_law_1409 ?_
      refine wi_if_eq (tgt := 1415) hx hb dL_law_1410 (by decide) (by omega) (fun c_1410 => ?_) (fun c_1410 => ?_)
      · skip
        refine lv_goto (tgt := 1705) hx hb dL_law_1415 (by decide) ?_
        exact kk u3 u6 _ _ (hLI) hP hD hS ls (lv_sub hl [2, 3, 4, 5, 6] rfl)
      · skip
        exfalso; omega
  · skip
    exfalso; omega
end LAWC
