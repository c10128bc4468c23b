section LAWC
variable {p : Program} {l : Launch} {e : Env} {s : State} {m : MethodId} {args : Array Value} {below : List Frame} {meth : Method} {c : Code} {H : Heap} {locs : List Loc} {cells slots : Nat} {Q : State → Prop}
variable {D : va_G} {cI cO cC cL : ClassId} {x a sv o rd bu ob b : Nat → Nat} {ln σ κ φ ρ β μ : Nat → Int → Int} {sa : Nat → Nat → Nat} {ss : Nat → Nat → Int → Int} {f : Nat → Int64} {sc n9 : Nat} {g : Int → Int} {A : Nat → Prop} {H0 : Heap} {ls : Array Slot} {i : Int}
set_option maxHeartbeats 4000000 in
set_option maxRecDepth 100000 in
theorem lc_clearBuffer (hl9 : l.stackTraces = false) (hx : p.tables.exec = Jvm.exec) (hb : c.code = cL_law) (hlocks : meth.locks = false) (hown : s.vm.findClass RL = some m.cls) (hml : c.maxLocals = 9) (hts : ∀ w ∈ wsL_law, w.before args s = true) (hK : va_K D vwCl [(cI, FieldType.int), (cO, FieldType.object "PromisedCounters$State"), (cC, FieldType.char), (cL, FieldType.long)] s) (hA : ∀ q : Nat, H0.size ≤ q → A q)
    (hgR : ∀ j : Int, R32 (g j)) (hi : 0 ≤ i ∧ i + 5 ≤ (n9 : Int)) (hn9 : n9 ≤ 2560) (hcells : cells + 1 ≤ 1139) (hslots : slots + 6 ≤ 14922) (hκ : κ 0 0 = μ 0 0) (hln : ln 0 0 = μ 0 1) (hM : RelM σ (μ 0 0) ss (μ 0 1) (β 1) μ) (hG : GI σ (μ 0 0) ss (μ 0 1) (β 1)) (hZ : ZP A s H0) (hX : va_X sc n9 (rI g) s H0) (hbl : sc < H0.size) (hsc : ¬ A sc) (hP : va_P D vwCl (fl [mnW x a sv o rd bu ln, stW cI a σ, svO cO sv (saF sa) κ, stW cI (sa 0) (ss 0), stW cI (sa 1) (ss 1), stW cI (sa 2) (ss 2), stW cI (sa 3) (ss 3), stW cI (sa 4) (ss 4), stW cI (sa 5) (ss 5), ocW cI o φ, rdW rd ρ, bfW cC bu β, ouW cL ob f, mdW cI b μ]) H) (hD : va_D A (fl [mnW x a sv o rd bu ln, stW cI a σ, svO cO sv (saF sa) κ, stW cI (sa 0) (ss 0), stW cI (sa 1) (ss 1), stW cI (sa 2) (ss 2), stW cI (sa 3) (ss 3), stW cI (sa 4) (ss 4), stW cI (sa 5) (ss 5), ocW cI o φ, rdW rd ρ, bfW cC bu β, ouW cL ob f, mdW cI b μ])) (hS : va_S A H0 H locs) (hl : lv_has ls 9 [(0, .ref (sc)), (1, .ref (x 0)), (2, .ref (b 0)), (3, .ref (ob 0)), (4, .int (iI (i)))])
    (kk : ∀ (u : LwS) (μ : Nat → Int → Int) (H : Heap) (locs : List Loc), LI u μ → va_P D vwCl (lawW cI cO cC cL x a sv o rd bu ob b u μ) H → va_D A (lawW cI cO cC cL x a sv o rd bu ob b u μ) → va_S A H0 H locs → ∀ ls : Array Slot, lv_has ls 9 [(0, .ref (sc)), (1, .ref (x 0)), (2, .ref (b 0)), (3, .ref (ob 0)), (4, .int (iI (i)))] → W p l e ({ frames := 13, cells := 1139, slots := 14922, locals := 478 } : Room) s m args below meth c H locs (cells + 1) (slots + 6) Q (F0 m 1705 ls [])) : W p l e ({ frames := 13, cells := 1139, slots := 14922, locals := 478 } : Room) s m args below meth c H locs cells slots Q (F0 m 908 ls []) := by
  refine lv_aload_n hx hb dL_law_908 rfl (lv_at hl 1 rfl) ?_
  have hPc := fl_P (S' := [mnW x a sv o rd bu ln]) hP [0] rfl
  have hKc := hK.sub (tys' := [(cI, FieldType.int), (cO, FieldType.object "PromisedCounters$State"), (cC, FieldType.char)]) [0, 1, 2] rfl
  have hDc := fl_D (S' := [mnW x a sv o rd bu ln]) hD [0] (by decide) rfl
  have hFc := fl_free (SC := [mnW x a sv o rd bu ln]) hD hS hA [0] rfl
  refine wq_calli (va_runV (As := []) (rest := []) ⟨hx, hb, hml, hown, hts⟩ (c_X4_clearBuffer l D cI cO cC cL H.size x a sv o rd bu ln ) (cwV 0 hts gL_law_X4_clearBuffer rfl rfl rfl (by decide +kernel) ⟨Nat.le_of_ble_eq_true rfl, Nat.le_of_ble_eq_true rfl⟩) ⟨pcW_blind, va_recv hKc hPc (ci := 4) (q0 := 0) rfl rfl, pcW_of hPc hKc hDc⟩ rfl rfl hl.1 rfl (lv_room (Nat.le_of_ble_eq_true rfl)) dL_law_909 ⟨(by show cells + 0 + 0 ≤ 1139; omega), (by show slots + 0 + 0 ≤ 14922; omega)⟩) hS (fun q _ h => hFc q h) hFc (fun r1 u3 t9 H1 locs ht9 hvm hcl2 hB hz1 hk1 hS => ?_)
  obtain ⟨hP1, hK1, hD1⟩ := hB
  rw [ht9] at hP1
  obtain ⟨hP, hD⟩ := fl_join (SR := [stW cI a σ, svO cO sv (saF sa) κ, stW cI (sa 0) (ss 0), stW cI (sa 1) (ss 1), stW cI (sa 2) (ss 2), stW cI (sa 3) (ss 3), stW cI (sa 4) (ss 4), stW cI (sa 5) (ss 5), ocW cI o φ, rdW rd ρ, bfW cC bu β, ouW cL ob f, mdW cI b μ]) (S1 := [mnW x a sv o rd bu (sU ln 0 0 0)]) hP hD [0] [1, 2, 3, 4, 5, 6, 7, 8, 9, 10, 11, 12, 13] rfl rfl (by decide) (by decide) hk1 hFc hP1 hD1
  generalize H1 = H at hP hS ⊢
  have hP := fl_P (S' := [mnW x a sv o rd bu (sU ln 0 0 0), stW cI a σ, svO cO sv (saF sa) κ, stW cI (sa 0) (ss 0), stW cI (sa 1) (ss 1), stW cI (sa 2) (ss 2), stW cI (sa 3) (ss 3), stW cI (sa 4) (ss 4), stW cI (sa 5) (ss 5), ocW cI o φ, rdW rd ρ, bfW cC bu β, ouW cL ob f, mdW cI b μ]) hP [13, 0, 1, 2, 3, 4, 5, 6, 7, 8, 9, 10, 11, 12] rfl
  have hD := fl_D (S' := [mnW x a sv o rd bu (sU ln 0 0 0), stW cI a σ, svO cO sv (saF sa) κ, stW cI (sa 0) (ss 0), stW cI (sa 1) (ss 1), stW cI (sa 2) (ss 2), stW cI (sa 3) (ss 3), stW cI (sa 4) (ss 4), stW cI (sa 5) (ss 5), ocW cI o φ, rdW rd ρ, bfW cC bu β, ouW cL ob f, mdW cI b μ]) hD [13, 0, 1, 2, 3, 4, 5, 6, 7, 8, 9, 10, 11, 12] (by decide) rfl
  refine lv_aload_n hx hb dL_law_912 rfl (lv_at hl 2 rfl) ?_
  have hPc := fl_P (S' := [mdW cI b μ]) hP [13] rfl
  have hKc := hK.sub (tys' := [(cI, FieldType.int)]) [0] rfl
  have hDc := fl_D (S' := [mdW cI b μ]) hD [13] (by decide) rfl
  have hFc := fl_free (SC := [mdW cI b μ]) hD hS hA [13] rfl
  refine wq_calli (va_runV (As := []) (rest := [.int (iI (r1))]) ⟨hx, hb, hml, hown, hts⟩ (c_X5_clearBuffer l D cI cO cC cL H.size b μ σ ss (β 1) (hM) (hG)) (cwV 0 hts gL_law_X5_clearBuffer rfl rfl rfl (by decide +kernel) ⟨Nat.le_of_ble_eq_true rfl, Nat.le_of_ble_eq_true rfl⟩) ⟨pcW_blind, va_recv hKc hPc (ci := 5) (q0 := 0) rfl rfl, pcW_of hPc hKc hDc⟩ rfl rfl hl.1 rfl (lv_room (Nat.le_of_ble_eq_true rfl)) dL_law_913 ⟨(by show cells + 0 + 0 ≤ 1139; omega), (by show slots + 0 + 0 ≤ 14922; omega)⟩) hS (fun q _ h => hFc q h) hFc (fun r4 u6 t9 H1 locs ht9 hvm hcl5 hB hz1 hk1 hS => ?_)
  obtain ⟨hP1, hK1, hD1⟩ := hB
  rw [ht9] at hP1
  obtain ⟨hP, hD⟩ := fl_join (SR := [mnW x a sv o rd bu (sU ln 0 0 0), stW cI a σ, svO cO sv (saF sa) κ, stW cI (sa 0) (ss 0), stW cI (sa 1) (ss 1), stW cI (sa 2) (ss 2), stW cI (sa 3) (ss 3), stW cI (sa 4) (ss 4), stW cI (sa 5) (ss 5), ocW cI o φ, rdW rd ρ, bfW cC bu β, ouW cL ob f]) (S1 := [mdW cI b u6]) hP hD [13] [0, 1, 2, 3, 4, 5, 6, 7, 8, 9, 10, 11, 12] rfl rfl (by decide) (by decide) hk1 hFc hP1 hD1
  generalize H1 = H at hP hS ⊢
  have hP := fl_P (S' := [mnW x a sv o rd bu (sU ln 0 0 0), stW cI a σ, svO cO sv (saF sa) κ, stW cI (sa 0) (ss 0), stW cI (sa 1) (ss 1), stW cI (sa 2) (ss 2), stW cI (sa 3) (ss 3), stW cI (sa 4) (ss 4), stW cI (sa 5) (ss 5), ocW cI o φ, rdW rd ρ, bfW cC bu β, ouW cL ob f, mdW cI b u6]) hP [0, 1, 2, 3, 4, 5, 6, 7, 8, 9, 10, 11, 12, 13] rfl
  have hD := fl_D (S' := [mnW x a sv o rd bu (sU ln 0 0 0), stW cI a σ, svO cO sv (saF sa) κ, stW cI (sa 0) (ss 0), stW cI (sa 1) (ss 1), stW cI (sa 2) (ss 2), stW cI (sa 3) (ss 3), stW cI (sa 4) (ss 4), stW cI (sa 5) (ss 5), ocW cI o φ, rdW rd ρ, bfW cC bu β, ouW cL ob f, mdW cI b u6]) hD [0, 1, 2, 3, 4, 5, 6, 7, 8, 9, 10, 11, 12, 13] (by decide) rfl
  have hbd := hG.2.2.2.1
  have he2 := hcl5.1
  refine wi_icmp_eq (tgt := 1705) hx hb dL_law_916 (by decide) (by omega) (fun c_916 => ?_) (fun c_916 => ?_)
  · skip
    refine W.widen (k := cells + 1) (n := slots + 6) (by omega) (by omega) ?_
    exact kk ⟨(sU ln 0 0 0), σ, κ, sa, ss, φ, ρ, β, f⟩ u6 _ _ (LI.of (u := ⟨(sU ln 0 0 0), σ, κ, sa, ss, φ, ρ, β, f⟩) (s := σ) (k := μ 0 0) (n := 0) (q := ss) (b := β 1) ⟨rfl, hκ, rfl, rfl, rfl⟩ hcl5.2 hG.clear) hP hD hS ls (lv_sub hl [0, 1, 2, 3, 4] rfl)
  · skip
    exfalso; omega
set_option maxHeartbeats 4000000 in
set_option maxRecDepth 100000 in
theorem lc_firstError (hl9 : l.stackTraces = false) (hx : p.tables.exec = Jvm.exec) (hb : c.code = cL_law) (hlocks : meth.locks = false) (hown : s.vm.findClass RL = some m.cls) (hml : c.maxLocals = 9) (hts : ∀ w ∈ wsL_law, w.before args s = true) (hK : va_K D vwCl [(cI, FieldType.int), (cO, FieldType.object "PromisedCounters$State"), (cC, FieldType.char), (cL, FieldType.long)] s) (hA : ∀ q : Nat, H0.size ≤ q → A q)
    (hgR : ∀ j : Int, R32 (g j)) (hi : 0 ≤ i ∧ i + 5 ≤ (n9 : Int)) (hn9 : n9 ≤ 2560) (hcells : cells + 1 ≤ 1139) (hslots : slots + 6 ≤ 14922) (hκ : κ 0 0 = μ 0 0) (hln : ln 0 0 = μ 0 1) (hM : RelM σ (μ 0 0) ss (μ 0 1) (β 1) μ) (hG : GI σ (μ 0 0) ss (μ 0 1) (β 1)) (hZ : ZP A s H0) (hX : va_X sc n9 (rI g) s H0) (hbl : sc < H0.size) (hsc : ¬ A sc) (hP : va_P D vwCl (fl [mnW x a sv o rd bu ln, stW cI a σ, svO cO sv (saF sa) κ, stW cI (sa 0) (ss 0), stW cI (sa 1) (ss 1), stW cI (sa 2) (ss 2), stW cI (sa 3) (ss 3), stW cI (sa 4) (ss 4), stW cI (sa 5) (ss 5), ocW cI o φ, rdW rd ρ, bfW cC bu β, ouW cL ob f, mdW cI b μ]) H) (hD : va_D A (fl [mnW x a sv o rd bu ln, stW cI a σ, svO cO sv (saF sa) κ, stW cI (sa 0) (ss 0), stW cI (sa 1) (ss 1), stW cI (sa 2) (ss 2), stW cI (sa 3) (ss 3), stW cI (sa 4) (ss 4), stW cI (sa 5) (ss 5), ocW cI o φ, rdW rd ρ, bfW cC bu β, ouW cL ob f, mdW cI b μ])) (hS : va_S A H0 H locs) (hl : lv_has ls 9 [(0, .ref (sc)), (1, .ref (x 0)), (2, .ref (b 0)), (3, .ref (ob 0)), (4, .int (iI (i)))])
    (kk : ∀ (u : LwS) (μ : Nat → Int → Int) (H : Heap) (locs : List Loc), LI u μ → va_P D vwCl (lawW cI cO cC cL x a sv o rd bu ob b u μ) H → va_D A (lawW cI cO cC cL x a sv o rd bu ob b u μ) → va_S A H0 H locs → ∀ ls : Array Slot, lv_has ls 9 [(0, .ref (sc)), (1, .ref (x 0)), (2, .ref (b 0)), (3, .ref (ob 0)), (4, .int (iI (i)))] → W p l e ({ frames := 13, cells := 1139, slots := 14922, locals := 478 } : Room) s m args below meth c H locs (cells + 1) (slots + 6) Q (F0 m 1705 ls [])) : W p l e ({ frames := 13, cells := 1139, slots := 14922, locals := 478 } : Room) s m args below meth c H locs cells slots Q (F0 m 921 ls []) := by
  obtain ⟨ρ9, hρ9, hf39⟩ := rd_any rd ρ
  rw [hρ9] at hP hD
  refine lv_aload_n hx hb dL_law_921 rfl (lv_at hl 1 rfl) ?_
  have hPc := fl_P (S' := [mnW x a sv o rd bu ln, rdW rd ρ9, bfW cC bu β]) hP [0, 10, 11] rfl
  have hKc := hK.sub (tys' := [(cI, FieldType.int), (cO, FieldType.object "PromisedCounters$State"), (cC, FieldType.char)]) [0, 1, 2] rfl
  have hDc := fl_D (S' := [mnW x a sv o rd bu ln, rdW rd ρ9, bfW cC bu β]) hD [0, 10, 11] (by decide) rfl
  have hFc := fl_free (SC := [mnW x a sv o rd bu ln, rdW rd ρ9, bfW cC bu β]) hD hS hA [0, 10, 11] rfl
  refine wq_calli (va_runV (As := []) (rest := []) ⟨hx, hb, hml, hown, hts⟩ (c_X4_firstError l D cI cO cC cL H.size x a sv o rd bu ln ρ9 β (by have h8 := hG.2.2.2.1; omega) (by rw [hln]; exact hG.2.2.2.2) (hf39)) (cwV 0 hts gL_law_X4_firstError rfl rfl rfl (by decide +kernel) ⟨Nat.le_of_ble_eq_true rfl, Nat.le_of_ble_eq_true rfl⟩) ⟨pcW_blind, va_recv hKc hPc (ci := 4) (q0 := 0) rfl rfl, pcW_of hPc hKc hDc⟩ rfl rfl hl.1 rfl (lv_room (Nat.le_of_ble_eq_true rfl)) dL_law_922 ⟨(by show cells + 0 + 0 ≤ 1139; omega), (by show slots + 0 + 0 ≤ 14922; omega)⟩) hS (fun q _ h => hFc q h) hFc (fun r1 u3 t9 H1 locs ht9 hvm hcl2 hB hz1 hk1 hS => ?_)
  obtain ⟨hP1, hK1, hD1⟩ := hB
  rw [ht9] at hP1
  obtain ⟨hP, hD⟩ := fl_join (SR := [stW cI a σ, svO cO sv (saF sa) κ, stW cI (sa 0) (ss 0), stW cI (sa 1) (ss 1), stW cI (sa 2) (ss 2), stW cI (sa 3) (ss 3), stW cI (sa 4) (ss 4), stW cI (sa 5) (ss 5), ocW cI o φ, ouW cL ob f, mdW cI b μ]) (S1 := [mnW x a sv o rd bu ln, rdW rd (sR ρ9 0 u3), bfW cC bu β]) hP hD [0, 10, 11] [1, 2, 3, 4, 5, 6, 7, 8, 9, 12, 13] rfl rfl (by decide) (by decide) hk1 hFc hP1 hD1
  generalize H1 = H at hP hS ⊢
  have hP := fl_P (S' := [mnW x a sv o rd bu ln, stW cI a σ, svO cO sv (saF sa) κ, stW cI (sa 0) (ss 0), stW cI (sa 1) (ss 1), stW cI (sa 2) (ss 2), stW cI (sa 3) (ss 3), stW cI (sa 4) (ss 4), stW cI (sa 5) (ss 5), ocW cI o φ, rdW rd (sR ρ9 0 u3), bfW cC bu β, ouW cL ob f, mdW cI b μ]) hP [11, 0, 1, 2, 3, 4, 5, 6, 7, 8, 12, 13, 9, 10] rfl
  have hD := fl_D (S' := [mnW x a sv o rd bu ln, stW cI a σ, svO cO sv (saF sa) κ, stW cI (sa 0) (ss 0), stW cI (sa 1) (ss 1), stW cI (sa 2) (ss 2), stW cI (sa 3) (ss 3), stW cI (sa 4) (ss 4), stW cI (sa 5) (ss 5), ocW cI o φ, rdW rd (sR ρ9 0 u3), bfW cC bu β, ouW cL ob f, mdW cI b μ]) hD [11, 0, 1, 2, 3, 4, 5, 6, 7, 8, 12, 13, 9, 10] (by decide) rfl
  refine lv_aload_n hx hb dL_law_925 rfl (lv_at hl 2 rfl) ?_
  have hPc := fl_P (S' := [mdW cI b μ]) hP [13] rfl
  have hKc := hK.sub (tys' := [(cI, FieldType.int)]) [0] rfl
  have hDc := fl_D (S' := [mdW cI b μ]) hD [13] (by decide) rfl
  have hFc := fl_free (SC := [mdW cI b μ]) hD hS hA [13] rfl
  refine wq_calli (va_runV (As := []) (rest := [.int (iI (r1))]) ⟨hx, hb, hml, hown, hts⟩ (c_X5_firstError l D cI cO cC cL H.size b μ σ ss (β 1) (uI (ρ9 0) 0 0) (hM) (hG) (uI_s _ _ _)) (cwV 0 hts gL_law_X5_firstError rfl rfl rfl (by decide +kernel) ⟨Nat.le_of_ble_eq_true rfl, Nat.le_of_ble_eq_true rfl⟩) ⟨pcW_blind, va_recv hKc hPc (ci := 5) (q0 := 0) rfl rfl, pcW_of hPc hKc hDc⟩ rfl rfl hl.1 rfl (lv_room (Nat.le_of_ble_eq_true rfl)) dL_law_926 ⟨(by show cells + 0 + 0 ≤ 1139; omega), (by show slots + 0 + 0 ≤ 14922; omega)⟩) hS (fun q _ h => hFc q h) hFc (fun r4 u6 t9 H1 locs ht9 hvm hcl5 hB hz1 hk1 hS => ?_)
  obtain ⟨hP1, hK1, hD1⟩ := hB
  rw [ht9] at hP1
  obtain ⟨hP, hD⟩ := fl_join (SR := [mnW x a sv o rd bu ln, stW cI a σ, svO cO sv (saF sa) κ, stW cI (sa 0) (ss 0), stW cI (sa 1) (ss 1), stW cI (sa 2) (ss 2), stW cI (sa 3) (ss 3), stW cI (sa 4) (ss 4), stW cI (sa 5) (ss 5), ocW cI o φ, rdW rd (sR ρ9 0 u3), bfW cC bu β, ouW cL ob f]) (S1 := [mdW cI b u6]) hP hD [13] [0, 1, 2, 3, 4, 5, 6, 7, 8, 9, 10, 11, 12] rfl rfl (by decide) (by decide) hk1 hFc hP1 hD1
  generalize H1 = H at hP hS ⊢
  have hP := fl_P (S' := [mnW x a sv o rd bu ln, stW cI a σ, svO cO sv (saF sa) κ, stW cI (sa 0) (ss 0), stW cI (sa 1) (ss 1), stW cI (sa 2) (ss 2), stW cI (sa 3) (ss 3), stW cI (sa 4) (ss 4), stW cI (sa 5) (ss 5), ocW cI o φ, rdW rd (sR ρ9 0 u3), bfW cC bu β, ouW cL ob f, mdW cI b u6]) hP [0, 1, 2, 3, 4, 5, 6, 7, 8, 9, 10, 11, 12, 13] rfl
  have hD := fl_D (S' := [mnW x a sv o rd bu ln, stW cI a σ, svO cO sv (saF sa) κ, stW cI (sa 0) (ss 0), stW cI (sa 1) (ss 1), stW cI (sa 2) (ss 2), stW cI (sa 3) (ss 3), stW cI (sa 4) (ss 4), stW cI (sa 5) (ss 5), ocW cI o φ, rdW rd (sR ρ9 0 u3), bfW cC bu β, ouW cL ob f, mdW cI b u6]) hD [0, 1, 2, 3, 4, 5, 6, 7, 8, 9, 10, 11, 12, 13] (by decide) rfl
  have he1 := hcl2.1
  rw [hln] at he1
  have he2 := (hcl5.2.2 rfl).1
  have hle9 := feR_le (β 1) (μ 0 1 - 0).toNat (uI (ρ9 0) 0 0) 0
  have hge9 := feR_ge (β 1) (μ 0 1 - 0).toNat (uI (ρ9 0) 0 0) 0
  have hbd := hG.2.2.2.1
  refine wi_icmp_eq (tgt := 1705) hx hb dL_law_929 (by decide) (by omega) (fun c_929 => ?_) (fun c_929 => ?_)
  · skip
    refine W.widen (k := cells + 1) (n := slots + 6) (by omega) (by omega) ?_
    exact kk ⟨ln, σ, κ, sa, ss, φ, (sR ρ9 0 u3), β, f⟩ u6 _ _ (LI.of (u := ⟨ln, σ, κ, sa, ss, φ, (sR ρ9 0 u3), β, f⟩) (s := σ) (k := μ 0 0) (n := μ 0 1) (q := ss) (b := β 1) ⟨rfl, hκ, rfl, hln, rfl⟩ (hcl5.2.2 rfl).2 hG) hP hD hS ls (lv_sub hl [0, 1, 2, 3, 4] rfl)
  · skip
    exfalso; omega
set_option maxHeartbeats 4000000 in
set_option maxRecDepth 100000 in
theorem lc_canBe (hl9 : l.stackTraces = false) (hx : p.tables.exec = Jvm.exec) (hb : c.code = cL_law) (hlocks : meth.locks = false) (hown : s.vm.findClass RL = some m.cls) (hml : c.maxLocals = 9) (hts : ∀ w ∈ wsL_law, w.before args s = true) (hK : va_K D vwCl [(cI, FieldType.int), (cO, FieldType.object "PromisedCounters$State"), (cC, FieldType.char), (cL, FieldType.long)] s) (hA : ∀ q : Nat, H0.size ≤ q → A q)
    (hgR : ∀ j : Int, R32 (g j)) (hi : 0 ≤ i ∧ i + 5 ≤ (n9 : Int)) (hn9 : n9 ≤ 2560) (hcells : cells + 1 ≤ 1139) (hslots : slots + 6 ≤ 14922) (hκ : κ 0 0 = μ 0 0) (hln : ln 0 0 = μ 0 1) (hM : RelM σ (μ 0 0) ss (μ 0 1) (β 1) μ) (hG : GI σ (μ 0 0) ss (μ 0 1) (β 1)) (hZ : ZP A s H0) (hX : va_X sc n9 (rI g) s H0) (hbl : sc < H0.size) (hsc : ¬ A sc) (hP : va_P D vwCl (fl [mnW x a sv o rd bu ln, stW cI a σ, svO cO sv (saF sa) κ, stW cI (sa 0) (ss 0), stW cI (sa 1) (ss 1), stW cI (sa 2) (ss 2), stW cI (sa 3) (ss 3), stW cI (sa 4) (ss 4), stW cI (sa 5) (ss 5), ocW cI o φ, rdW rd ρ, bfW cC bu β, ouW cL ob f, mdW cI b μ]) H) (hD : va_D A (fl [mnW x a sv o rd bu ln, stW cI a σ, svO cO sv (saF sa) κ, stW cI (sa 0) (ss 0), stW cI (sa 1) (ss 1), stW cI (sa 2) (ss 2), stW cI (sa 3) (ss 3), stW cI (sa 4) (ss 4), stW cI (sa 5) (ss 5), ocW cI o φ, rdW rd ρ, bfW cC bu β, ouW cL ob f, mdW cI b μ])) (hS : va_S A H0 H locs) (hl : lv_has ls 9 [(0, .ref (sc)), (1, .ref (x 0)), (2, .ref (b 0)), (3, .ref (ob 0)), (4, .int (iI (i)))])
    (kk : ∀ (u : LwS) (μ : Nat → Int → Int) (H : Heap) (locs : List Loc), LI u μ → va_P D vwCl (lawW cI cO cC cL x a sv o rd bu ob b u μ) H → va_D A (lawW cI cO cC cL x a sv o rd bu ob b u μ) → va_S A H0 H locs → ∀ ls : Array Slot, lv_has ls 9 [(0, .ref (sc)), (1, .ref (x 0)), (2, .ref (b 0)), (3, .ref (ob 0)), (4, .int (iI (i)))] → W p l e ({ frames := 13, cells := 1139, slots := 14922, locals := 478 } : Room) s m args below meth c H locs (cells + 1) (slots + 6) Q (F0 m 1705 ls [])) : W p l e ({ frames := 13, cells := 1139, slots := 14922, locals := 478 } : Room) s m args below meth c H locs cells slots Q (F0 m 1418 ls []) := by
  refine lv_aload_n hx hb dL_law_1418 rfl (lv_at hl 1 rfl) ?_
  refine lv_aload_n hx hb dL_law_1419 rfl (lv_at hl 0 rfl) ?_
  refine lv_iload hx hb dL_law_1420 (lv_at hl 4 rfl) ?_
  refine wi_iconst hx hb dL_law_1422 ?_
  refine wi_iadd hx hb dL_law_1423 ?_
  refine wi_sld hx hb hX hbl hsc hS (i := (i + 1)) (by omega) (by omega) dL_law_1424 ?_
  refine lv_aload_n hx hb dL_law_1425 rfl (lv_at hl 0 rfl) ?_
  refine lv_iload hx hb dL_law_1426 (lv_at hl 4 rfl) ?_
  refine wi_iconst hx hb dL_law_1428 ?_
  refine wi_iadd hx hb dL_law_1429 ?_
  refine wi_sld hx hb hX hbl hsc hS (i := (i + 2)) (by omega) (by omega) dL_law_1430 ?_
  refine lv_aload_n hx hb dL_law_1431 rfl (lv_at hl 3 rfl) ?_
  have hPc := fl_P (S' := [mnW x a sv o rd bu ln, stW cI a σ, svO cO sv (saF sa) κ, stW cI (sa 0) (ss 0), stW cI (sa 1) (ss 1), stW cI (sa 2) (ss 2), stW cI (sa 3) (ss 3), stW cI (sa 4) (ss 4), stW cI (sa 5) (ss 5), ocW cI o φ, rdW rd ρ, bfW cC bu β, ouW cL ob f]) hP [0, 1, 2, 3, 4, 5, 6, 7, 8, 9, 10, 11, 12] rfl
  have hDc := fl_D (S' := [mnW x a sv o rd bu ln, stW cI a σ, svO cO sv (saF sa) κ, stW cI (sa 0) (ss 0), stW cI (sa 1) (ss 1), stW cI (sa 2) (ss 2), stW cI (sa 3) (ss 3), stW cI (sa 4) (ss 4), stW cI (sa 5) (ss 5), ocW cI o φ, rdW rd ρ, bfW cC bu β, ouW cL ob f]) hD [0, 1, 2, 3, 4, 5, 6, 7, 8, 9, 10, 11, 12] (by decide) rfl
  have hFc := fl_free (SC := [mnW x a sv o rd bu ln, stW cI a σ, svO cO sv (saF sa) κ, stW cI (sa 0) (ss 0), stW cI (sa 1) (ss 1), stW cI (sa 2) (ss 2), stW cI (sa 3) (ss 3), stW cI (sa 4) (ss 4), stW cI (sa 5) (ss 5), ocW cI o φ, rdW rd ρ, bfW cC bu β, ouW cL ob f]) hD hS hA [0, 1, 2, 3, 4, 5, 6, 7, 8, 9, 10, 11, 12] rfl
  refine wq_calli (vx_runSW (As := [.ref (x 0), .int (iI ((g (i + 1)))), .int (iI ((g (i + 2)))), .ref (ob 0)]) (rest := []) ⟨hx, hb, hml, hown, hts⟩ (lk_canBe l hl9 D cI cO cC cL H.size x a sv o rd bu ob ln σ κ φ ρ β sa ss f ((g (i + 1))) ((g (i + 2))) (hgR _) (hgR _) (by rw [hκ, hln]; exact hG)) (vx_cwSW 4 hts gL_law_L_canBe rfl rfl rfl (by decide +kernel) ⟨Nat.le_of_ble_eq_true rfl, Nat.le_of_ble_eq_true rfl⟩) ⟨pcWX_blind, pcWX_of hPc hK hDc (hZ.kept hS.2.1) hFc⟩ rfl rfl hl.1 rfl (lv_room (Nat.le_of_ble_eq_true rfl)) dL_law_1432 ⟨(by show cells + 0 + 1 ≤ 1139; omega), (by show slots + 0 + 6 ≤ 14922; omega)⟩) hS (fun q _ h => hFc q h) hFc (fun r1 u3 t9 H1 locs ht9 hvm hcl2 hB hz1 hk1 hS => ?_)
  obtain ⟨hP1, hK1, hD1⟩ := hB
  rw [ht9] at hP1
  obtain ⟨hP, hD⟩ := fl_join (SR := [mdW cI b μ]) (S1 := [mnW x a sv o rd bu (LwS.ln u3), stW cI a (LwS.σ u3), svO cO sv (saF (LwS.sa u3)) (LwS.κ u3), stW cI (LwS.sa u3 0) (LwS.ss u3 0), stW cI (LwS.sa u3 1) (LwS.ss u3 1), stW cI (LwS.sa u3 2) (LwS.ss u3 2), stW cI (LwS.sa u3 3) (LwS.ss u3 3), stW cI (LwS.sa u3 4) (LwS.ss u3 4), stW cI (LwS.sa u3 5) (LwS.ss u3 5), ocW cI o (LwS.φ u3), rdW rd (LwS.ρ u3), bfW cC bu (LwS.β u3), ouW cL ob (LwS.f u3)]) hP hD [0, 1, 2, 3, 4, 5, 6, 7, 8, 9, 10, 11, 12] [13] rfl rfl (by decide) (by decide) hk1 hFc hP1 hD1
  generalize H1 = H at hP hS ⊢
  have hP := fl_P (S' := [mnW x a sv o rd bu (LwS.ln u3), stW cI a (LwS.σ u3), svO cO sv (saF (LwS.sa u3)) (LwS.κ u3), stW cI (LwS.sa u3 0) (LwS.ss u3 0), stW cI (LwS.sa u3 1) (LwS.ss u3 1), stW cI (LwS.sa u3 2) (LwS.ss u3 2), stW cI (LwS.sa u3 3) (LwS.ss u3 3), stW cI (LwS.sa u3 4) (LwS.ss u3 4), stW cI (LwS.sa u3 5) (LwS.ss u3 5), ocW cI o (LwS.φ u3), rdW rd (LwS.ρ u3), bfW cC bu (LwS.β u3), ouW cL ob (LwS.f u3), mdW cI b μ]) hP [1, 2, 3, 4, 5, 6, 7, 8, 9, 10, 11, 12, 13, 0] rfl
  have hD := fl_D (S' := [mnW x a sv o rd bu (LwS.ln u3), stW cI a (LwS.σ u3), svO cO sv (saF (LwS.sa u3)) (LwS.κ u3), stW cI (LwS.sa u3 0) (LwS.ss u3 0), stW cI (LwS.sa u3 1) (LwS.ss u3 1), stW cI (LwS.sa u3 2) (LwS.ss u3 2), stW cI (LwS.sa u3 3) (LwS.ss u3 3), stW cI (LwS.sa u3 4) (LwS.ss u3 4), stW cI (LwS.sa u3 5) (LwS.ss u3 5), ocW cI o (LwS.φ u3), rdW rd (LwS.ρ u3), bfW cC bu (LwS.β u3), ouW cL ob (LwS.f u3), mdW cI b μ]) hD [1, 2, 3, 4, 5, 6, 7, 8, 9, 10, 11, 12, 13, 0] (by decide) rfl
  rw [hκ, hln] at hcl2
  refine lv_istore (lv' := [(5, .int (iI (r1))), (0, .ref (sc)), (1, .ref (x 0)), (2, .ref (b 0)), (3, .ref (ob 0)), (4, .int (iI (i)))]) hx hb dL_law_1435 hl (by decide) rfl (fun ls hl => ?_)
  refine lv_aload_n hx hb dL_law_1437 rfl (lv_at hl 3 rfl) ?_
  refine lv_aload_n hx hb dL_law_1438 rfl (lv_at hl 1 rfl) ?_
  refine lv_iload hx hb dL_law_1439 (lv_at hl 5 rfl) ?_
  refine wi_iconst hx hb dL_law_1441 ?_
  refine wi_iadd hx hb dL_law_1442 ?_
  refine wi_sld hx hb hX hbl hsc hS (i := (i + 1)) (by omega) (by omega) dL_law_1443 ?_
  refine lv_aload_n hx hb dL_law_1444 rfl (lv_at hl 1 rfl) ?_
  refine lv_iload hx hb dL_law_1445 (lv_at hl 5 rfl) ?_
  refine wi_iconst hx hb dL_law_1447 ?_
  refine wi_iadd hx hb dL_law_1448 ?_
  refine wi_sld hx hb hX hbl hsc hS (i := (i + 2)) (by omega) (by omega) dL_law_1449 ?_
  have hPc := fl_P (S' := [mdW cI b μ]) hP [13] rfl
  have hKc := hK.sub (tys' := [(cI, FieldType.int)]) [0] rfl
  have hDc := fl_D (S' := [mdW cI b μ]) hD [13] (by decide) rfl
  have hFc := fl_free (SC := [mdW cI b μ]) hD hS hA [13] rfl
  refine wq_calli (va_runV (As := [.int (iI ((g (i + 1)))), .int (iI ((g (i + 2))))]) (rest := []) ⟨hx, hb, hml, hown, hts⟩ (c_X5_canBe l D cI cO cC cL H.size b μ σ ss (β 1) ((g (i + 1))) ((g (i + 2))) (hgR _) (hgR _) (hM) (hG)) (cwV 2 hts gL_law_X5_canBe rfl rfl rfl (by decide +kernel) ⟨Nat.le_of_ble_eq_true rfl, Nat.le_of_ble_eq_true rfl⟩) ⟨pcW_blind, va_recv hKc hPc (ci := 5) (q0 := 0) rfl rfl, pcW_of hPc hKc hDc⟩ rfl rfl hl.1 rfl (lv_room (Nat.le_of_ble_eq_true rfl)) dL_law_1450 ⟨(by show cells + 1 + 0 ≤ 1139; omega), (by show slots + 6 + 0 ≤ 14922; omega)⟩) hS (fun q _ h => hFc q h) hFc (fun r4 u6 t9 H1 locs ht9 hvm hcl5 hB hz1 hk1 hS => ?_)
  obtain ⟨hP1, hK1, hD1⟩ := hB
  rw [ht9] at hP1
  obtain ⟨hP, hD⟩ := fl_join (SR := [mnW x a sv o rd bu (LwS.ln u3), stW cI a (LwS.σ u3), svO cO sv (saF (LwS.sa u3)) (LwS.κ u3), stW cI (LwS.sa u3 0) (LwS.ss u3 0), stW cI (LwS.sa u3 1) (LwS.ss u3 1), stW cI (LwS.sa u3 2) (LwS.ss u3 2), stW cI (LwS.sa u3 3) (LwS.ss u3 3), stW cI (LwS.sa u3 4) (LwS.ss u3 4), stW cI (LwS.sa u3 5) (LwS.ss u3 5), ocW cI o (LwS.φ u3), rdW rd (LwS.ρ u3), bfW cC bu (LwS.β u3), ouW cL ob (LwS.f u3)]) (S1 := [mdW cI b u6]) hP hD [13] [0, 1, 2, 3, 4, 5, 6, 7, 8, 9, 10, 11, 12] rfl rfl (by decide) (by decide) hk1 hFc hP1 hD1
  generalize H1 = H at hP hS ⊢
  have hP := fl_P (S' := [mnW x a sv o rd bu (LwS.ln u3), stW cI a (LwS.σ u3), svO cO sv (saF (LwS.sa u3)) (LwS.κ u3), stW cI (LwS.sa u3 0) (LwS.ss u3 0), stW cI (LwS.sa u3 1) (LwS.ss u3 1), stW cI (LwS.sa u3 2) (LwS.ss u3 2), stW cI (LwS.sa u3 3) (LwS.ss u3 3), stW cI (LwS.sa u3 4) (LwS.ss u3 4), stW cI (LwS.sa u3 5) (LwS.ss u3 5), ocW cI o (LwS.φ u3), rdW rd (LwS.ρ u3), bfW cC bu (LwS.β u3), ouW cL ob (LwS.f u3), mdW cI b u6]) hP [0, 1, 2, 3, 4, 5, 6, 7, 8, 9, 10, 11, 12, 13] rfl
  have hD := fl_D (S' := [mnW x a sv o rd bu (LwS.ln u3), stW cI a (LwS.σ u3), svO cO sv (saF (LwS.sa u3)) (LwS.κ u3), stW cI (LwS.sa u3 0) (LwS.ss u3 0), stW cI (LwS.sa u3 1) (LwS.ss u3 1), stW cI (LwS.sa u3 2) (LwS.ss u3 2), stW cI (LwS.sa u3 3) (LwS.ss u3 3), stW cI (LwS.sa u3 4) (LwS.ss u3 4), stW cI (LwS.sa u3 5) (LwS.ss u3 5), ocW cI o (LwS.φ u3), rdW rd (LwS.ρ u3), bfW cC bu (LwS.β u3), ouW cL ob (LwS.f u3), mdW cI b u6]) hD [0, 1, 2, 3, 4, 5, 6, 7, 8, 9, 10, 11, 12, 13] (by decide) rfl
  obtain ⟨he9, hf9, hLI⟩ := LI.step hcl2 hcl5 hG (fun _ => hG)
  have hrg : 0 ≤ r1 ∧ r1 ≤ 3 := by rw [hcl2.1]; exact cd1_b
  refine lv_istore (lv' := [(6, .int (iI (r4))), (5, .int (iI (r1))), (0, .ref (sc)), (1, .ref (x 0)), (2, .ref (b 0)), (3, .ref (ob 0)), (4, .int (iI (i)))]) hx hb dL_law_1453 hl (by decide) rfl (fun ls hl => ?_)
  refine lv_aload_n hx hb dL_law_1455 rfl (lv_at hl 4 rfl) ?_
  have hPc := fl_P (S' := [mdW cI b u6]) hP [13] rfl
  have hKc := hK.sub (tys' := [(cI, FieldType.int)]) [0] rfl
  refine wr_calli (va_runV (As := []) (rest := []) ⟨hx, hb, hml, hown, hts⟩ (c_X5_thrown l D cI cO cC cL b u6 ) (cwV 0 hts gL_law_X5_thrown rfl rfl rfl (by decide +kernel) ⟨Nat.le_of_ble_eq_true rfl, Nat.le_of_ble_eq_true rfl⟩) ⟨pcR_blind, va_recv hKc hPc (ci := 5) (q0 := 0) rfl rfl, pcR_of hPc hKc⟩ rfl rfl hl.1 rfl (lv_room (Nat.le_of_ble_eq_true rfl)) dL_law_1456 ⟨(by show cells + 1 + 0 ≤ 1139; omega), (by show slots + 6 + 0 ≤ 14922; omega)⟩) (fun r7 hr7 => ?_)
  subst hr7
  refine lv_iload hx hb dL_law_1459 (lv_at hl 1 rfl) ?_
  refine wi_icmp_eq (tgt := 1466) hx hb dL_law_1461 (by decide) (by omega) (fun c_1461 => ?_) (fun c_1461 => ?_)
  · skip
    refine lv_iload hx hb dL_law_1466 (lv_at hl 1 rfl) ?_
    refine wi_if_ne (tgt := 1483) hx hb dL_law_1468 (by decide) (by omega) (fun c_1468 => ?_) (fun c_1468 => ?_)
    · skip
      refine lv_goto (tgt := 1705) hx hb dL_law_1483 (by decide) ?_
      exact kk u3 u6 _ _ (hLI) hP hD hS ls (lv_sub hl [2, 3, 4, 5, 6] rfl)
    · skip
      refine lv_aload_n hx hb dL_law_1471 rfl (lv_at hl 5 rfl) ?_
      refine wi_iconst hx hb dL_law_1472 ?_
      refine wi_lald hx hb hK hP 98 3 rfl rfl dL_law_1473 ?_
      refine lv_iload hx hb dL_law_1474 (lv_at hl 0 rfl) ?_
      refine lv_i2l (v := iL (r4)) hx hb dL_law_1476 rfl ?_
      refine wi_lcmp0 hx hb (congrFun (hf9 (by omega)) 0) dL_law_1477 ?_
      refine wi_if_eq (tgt := 1483) hx hb dL_law_1478 (by decide) (by omega) (fun c_1478 => ?_) (fun c_1478 => ?_)
      · skip
        refine lv_goto (tgt := 1705) hx hb dL_law_1483 (by decide) ?_
        exact kk u3 u6 _ _ (hLI) hP hD hS ls (lv_sub hl [2, 3, 4, 5, 6] rfl)
      · skip
        exfalso; omega
  · skip
    exfalso; omega
set_option maxHeartbeats 4000000 in
set_option maxRecDepth 100000 in
theorem lc_mostFor (hl9 : l.stackTraces = false) (hx : p.tables.exec = Jvm.exec) (hb : c.code = cL_law) (hlocks : meth.locks = false) (hown : s.vm.findClass RL = some m.cls) (hml : c.maxLocals = 9) (hts : ∀ w ∈ wsL_law, w.before args s = true) (hK : va_K D vwCl [(cI, FieldType.int), (cO, FieldType.object "PromisedCounters$State"), (cC, FieldType.char), (cL, FieldType.long)] s) (hA : ∀ q : Nat, H0.size ≤ q → A q)
    (hgR : ∀ j : Int, R32 (g j)) (hi : 0 ≤ i ∧ i + 5 ≤ (n9 : Int)) (hn9 : n9 ≤ 2560) (hcells : cells + 1 ≤ 1139) (hslots : slots + 6 ≤ 14922) (hκ : κ 0 0 = μ 0 0) (hln : ln 0 0 = μ 0 1) (hM : RelM σ (μ 0 0) ss (μ 0 1) (β 1) μ) (hG : GI σ (μ 0 0) ss (μ 0 1) (β 1)) (hZ : ZP A s H0) (hX : va_X sc n9 (rI g) s H0) (hbl : sc < H0.size) (hsc : ¬ A sc) (hP : va_P D vwCl (fl [mnW x a sv o rd bu ln, stW cI a σ, svO cO sv (saF sa) κ, stW cI (sa 0) (ss 0), stW cI (sa 1) (ss 1), stW cI (sa 2) (ss 2), stW cI (sa 3) (ss 3), stW cI (sa 4) (ss 4), stW cI (sa 5) (ss 5), ocW cI o φ, rdW rd ρ, bfW cC bu β, ouW cL ob f, mdW cI b μ]) H) (hD : va_D A (fl [mnW x a sv o rd bu ln, stW cI a σ, svO cO sv (saF sa) κ, stW cI (sa 0) (ss 0), stW cI (sa 1) (ss 1), stW cI (sa 2) (ss 2), stW cI (sa 3) (ss 3), stW cI (sa 4) (ss 4), stW cI (sa 5) (ss 5), ocW cI o φ, rdW rd ρ, bfW cC bu β, ouW cL ob f, mdW cI b μ])) (hS : va_S A H0 H locs) (hl : lv_has ls 9 [(0, .ref (sc)), (1, .ref (x 0)), (2, .ref (b 0)), (3, .ref (ob 0)), (4, .int (iI (i)))])
    (kk : ∀ (u : LwS) (μ : Nat → Int → Int) (H : Heap) (locs : List Loc), LI u μ → va_P D vwCl (lawW cI cO cC cL x a sv o rd bu ob b u μ) H → va_D A (lawW cI cO cC cL x a sv o rd bu ob b u μ) → va_S A H0 H locs → ∀ ls : Array Slot, lv_has ls 9 [(0, .ref (sc)), (1, .ref (x 0)), (2, .ref (b 0)), (3, .ref (ob 0)), (4, .int (iI (i)))] → W p l e ({ frames := 13, cells := 1139, slots := 14922, locals := 478 } : Room) s m args below meth c H locs (cells + 1) (slots + 6) Q (F0 m 1705 ls [])) : W p l e ({ frames := 13, cells := 1139, slots := 14922, locals := 478 } : Room) s m args below meth c H locs cells slots Q (F0 m 1486 ls []) := by
  refine lv_aload_n hx hb dL_law_1486 rfl (lv_at hl 1 rfl) ?_
  refine lv_aload_n hx hb dL_law_1487 rfl (lv_at hl 0 rfl) ?_
  refine lv_iload hx hb dL_law_1488 (lv_at hl 4 rfl) ?_
  refine wi_iconst hx hb dL_law_1490 ?_
  refine wi_iadd hx hb dL_law_1491 ?_
  refine wi_sld hx hb hX hbl hsc hS (i := (i + 1)) (by omega) (by omega) dL_law_1492 ?_
  refine lv_aload_n hx hb dL_law_1493 rfl (lv_at hl 0 rfl) ?_
  refine lv_iload hx hb dL_law_1494 (lv_at hl 4 rfl) ?_
  refine wi_iconst hx hb dL_law_1496 ?_
  refine wi_iadd hx hb dL_law_1497 ?_
  refine wi_sld hx hb hX hbl hsc hS (i := (i + 2)) (by omega) (by omega) dL_law_1498 ?_
  refine lv_aload_n hx hb dL_law_1499 rfl (lv_at hl 0 rfl) ?_
  refine lv_iload hx hb dL_law_1500 (lv_at hl 4 rfl) ?_
  refine wi_iconst hx hb dL_law_1502 ?_
  refine wi_iadd hx hb dL_law_1503 ?_
  refine wi_sld hx hb hX hbl hsc hS (i := (i + 3)) (by omega) (by omega) dL_law_1504 ?_
  refine wi_if_eq (tgt := 1512) hx hb dL_law_1505 (by decide) (hgR _) (fun c_1505 => ?_) (fun c_1505 => ?_)
  · skip
    refine wi_iconst hx hb dL_law_1512 ?_
    refine lv_aload_n hx hb dL_law_1513 rfl (lv_at hl 3 rfl) ?_
    have hPc := fl_P (S' := [mnW x a sv o rd bu ln, stW cI a σ, svO cO sv (saF sa) κ, stW cI (sa 0) (ss 0), stW cI (sa 1) (ss 1), stW cI (sa 2) (ss 2), stW cI (sa 3) (ss 3), stW cI (sa 4) (ss 4), stW cI (sa 5) (ss 5), ocW cI o φ, rdW rd ρ, bfW cC bu β, ouW cL ob f]) hP [0, 1, 2, 3, 4, 5, 6, 7, 8, 9, 10, 11, 12] rfl
    have hDc := fl_D (S' := [mnW x a sv o rd bu ln, stW cI a σ, svO cO sv (saF sa) κ, stW cI (sa 0) (ss 0), stW cI (sa 1) (ss 1), stW cI (sa 2) (ss 2), stW cI (sa 3) (ss 3), stW cI (sa 4) (ss 4), stW cI (sa 5) (ss 5), ocW cI o φ, rdW rd ρ, bfW cC bu β, ouW cL ob f]) hD [0, 1, 2, 3, 4, 5, 6, 7, 8, 9, 10, 11, 12] (by decide) rfl
    have hFc := fl_free (SC := [mnW x a sv o rd bu ln, stW cI a σ, svO cO sv (saF sa) κ, stW cI (sa 0) (ss 0), stW cI (sa 1) (ss 1), stW cI (sa 2) (ss 2), stW cI (sa 3) (ss 3), stW cI (sa 4) (ss 4), stW cI (sa 5) (ss 5), ocW cI o φ, rdW rd ρ, bfW cC bu β, ouW cL ob f]) hD hS hA [0, 1, 2, 3, 4, 5, 6, 7, 8, 9, 10, 11, 12] rfl
    refine wq_calli (vx_runSW (As := [.ref (x 0), .int (iI ((g (i + 1)))), .int (iI ((g (i + 2)))), .int (iI (0)), .ref (ob 0)]) (rest := []) ⟨hx, hb, hml, hown, hts⟩ (lk_mostFor l hl9 D cI cO cC cL H.size x a sv o rd bu ob ln σ κ φ ρ β sa ss f ((g (i + 1))) ((g (i + 2))) (0) (hgR _) (hgR _) (by omega) (by rw [hκ, hln]; exact hG)) (vx_cwSW 5 hts gL_law_L_mostFor rfl rfl rfl (by decide +kernel) ⟨Nat.le_of_ble_eq_true rfl, Nat.le_of_ble_eq_true rfl⟩) ⟨pcWX_blind, pcWX_of hPc hK hDc (hZ.kept hS.2.1) hFc⟩ rfl rfl hl.1 rfl (lv_room (Nat.le_of_ble_eq_true rfl)) dL_law_1514 ⟨(by show cells + 0 + 1 ≤ 1139; omega), (by show slots + 0 + 6 ≤ 14922; omega)⟩) hS (fun q _ h => hFc q h) hFc (fun r1 u3 t9 H1 locs ht9 hvm hcl2 hB hz1 hk1 hS => ?_)
    obtain ⟨hP1, hK1, hD1⟩ := hB
    rw [ht9] at hP1
    obtain ⟨hP, hD⟩ := fl_join (SR := [mdW cI b μ]) (S1 := [mnW x a sv o rd bu (LwS.ln u3), stW cI a (LwS.σ u3), svO cO sv (saF (LwS.sa u3)) (LwS.κ u3), stW cI (LwS.sa u3 0) (LwS.ss u3 0), stW cI (LwS.sa u3 1) (LwS.ss u3 1), stW cI (LwS.sa u3 2) (LwS.ss u3 2), stW cI (LwS.sa u3 3) (LwS.ss u3 3), stW cI (LwS.sa u3 4) (LwS.ss u3 4), stW cI (LwS.sa u3 5) (LwS.ss u3 5), ocW cI o (LwS.φ u3), rdW rd (LwS.ρ u3), bfW cC bu (LwS.β u3), ouW cL ob (LwS.f u3)]) hP hD [0, 1, 2, 3, 4, 5, 6, 7, 8, 9, 10, 11, 12] [13] rfl rfl (by decide) (by decide) hk1 hFc hP1 hD1
    generalize H1 = H at hP hS ⊢
    have hP := fl_P (S' := [mnW x a sv o rd bu (LwS.ln u3), stW cI a (LwS.σ u3), svO cO sv (saF (LwS.sa u3)) (LwS.κ u3), stW cI (LwS.sa u3 0) (LwS.ss u3 0), stW cI (LwS.sa u3 1) (LwS.ss u3 1), stW cI (LwS.sa u3 2) (LwS.ss u3 2), stW cI (LwS.sa u3 3) (LwS.ss u3 3), stW cI (LwS.sa u3 4) (LwS.ss u3 4), stW cI (LwS.sa u3 5) (LwS.ss u3 5), ocW cI o (LwS.φ u3), rdW rd (LwS.ρ u3), bfW cC bu (LwS.β u3), ouW cL ob (LwS.f u3), mdW cI b μ]) hP [1, 2, 3, 4, 5, 6, 7, 8, 9, 10, 11, 12, 13, 0] rfl
    have hD := fl_D (S' := [mnW x a sv o rd bu (LwS.ln u3), stW cI a (LwS.σ u3), svO cO sv (saF (LwS.sa u3)) (LwS.κ u3), stW cI (LwS.sa u3 0) (LwS.ss u3 0), stW cI (LwS.sa u3 1) (LwS.ss u3 1), stW cI (LwS.sa u3 2) (LwS.ss u3 2), stW cI (LwS.sa u3 3) (LwS.ss u3 3), stW cI (LwS.sa u3 4) (LwS.ss u3 4), stW cI (LwS.sa u3 5) (LwS.ss u3 5), ocW cI o (LwS.φ u3), rdW rd (LwS.ρ u3), bfW cC bu (LwS.β u3), ouW cL ob (LwS.f u3), mdW cI b μ]) hD [1, 2, 3, 4, 5, 6, 7, 8, 9, 10, 11, 12, 13, 0] (by decide) rfl
    rw [hκ, hln] at hcl2
    refine lv_istore (lv' := [(5, .int (iI (r1))), (0, .ref (sc)), (1, .ref (x 0)), (2, .ref (b 0)), (3, .ref (ob 0)), (4, .int (iI (i)))]) hx hb dL_law_1517 hl (by decide) rfl (fun ls hl => ?_)
    refine lv_aload_n hx hb dL_law_1519 rfl (lv_at hl 3 rfl) ?_
    refine lv_aload_n hx hb dL_law_1520 rfl (lv_at hl 1 rfl) ?_
    refine lv_iload hx hb dL_law_1521 (lv_at hl 5 rfl) ?_
    refine wi_iconst hx hb dL_law_1523 ?_
    refine wi_iadd hx hb dL_law_1524 ?_
    refine wi_sld hx hb hX hbl hsc hS (i := (i + 1)) (by omega) (by omega) dL_law_1525 ?_
    refine lv_aload_n hx hb dL_law_1526 rfl (lv_at hl 1 rfl) ?_
    refine lv_iload hx hb dL_law_1527 (lv_at hl 5 rfl) ?_
    refine wi_iconst hx hb dL_law_1529 ?_
    refine wi_iadd hx hb dL_law_1530 ?_
    refine wi_sld hx hb hX hbl hsc hS (i := (i + 2)) (by omega) (by omega) dL_law_1531 ?_
    refine lv_aload_n hx hb dL_law_1532 rfl (lv_at hl 1 rfl) ?_
    refine lv_iload hx hb dL_law_1533 (lv_at hl 5 rfl) ?_
    refine wi_iconst hx hb dL_law_1535 ?_
    refine wi_iadd hx hb dL_law_1536 ?_
    refine wi_sld hx hb hX hbl hsc hS (i := (i + 3)) (by omega) (by omega) dL_law_1537 ?_
    refine wi_if_eq (tgt := 1545) hx hb dL_law_1538 (by decide) (hgR _) (fun c_1538 => ?_) (fun c_1538 => ?_)
    · skip
      refine wi_iconst hx hb dL_law_1545 ?_
      have hPc := fl_P (S' := [mdW cI b μ]) hP [13] rfl
      have hKc := hK.sub (tys' := [(cI, FieldType.int)]) [0] rfl
      have hDc := fl_D (S' := [mdW cI b μ]) hD [13] (by decide) rfl
      have hFc := fl_free (SC := [mdW cI b μ]) hD hS hA [13] rfl
      refine wq_calli (va_runV (As := [.int (iI ((g (i + 1)))), .int (iI ((g (i + 2)))), .int (iI (0))]) (rest := []) ⟨hx, hb, hml, hown, hts⟩ (c_X5_mostFor l D cI cO cC cL H.size b μ σ ss (β 1) ((g (i + 1))) ((g (i + 2))) (0) (hgR _) (hgR _) (by omega) (hM) (hG)) (cwV 3 hts gL_law_X5_mostFor rfl rfl rfl (by decide +kernel) ⟨Nat.le_of_ble_eq_true rfl, Nat.le_of_ble_eq_true rfl⟩) ⟨pcW_blind, va_recv hKc hPc (ci := 5) (q0 := 0) rfl rfl, pcW_of hPc hKc hDc⟩ rfl rfl hl.1 rfl (lv_room (Nat.le_of_ble_eq_true rfl)) dL_law_1546 ⟨(by show cells + 1 + 0 ≤ 1139; omega), (by show slots + 6 + 0 ≤ 14922; omega)⟩) hS (fun q _ h => hFc q h) hFc (fun r4 u6 t9 H1 locs ht9 hvm hcl5 hB hz1 hk1 hS => ?_)
      obtain ⟨hP1, hK1, hD1⟩ := hB
      rw [ht9] at hP1
      obtain ⟨hP, hD⟩ := fl_join (SR := [mnW x a sv o rd bu (LwS.ln u3), stW cI a (LwS.σ u3), svO cO sv (saF (LwS.sa u3)) (LwS.κ u3), stW cI (LwS.sa u3 0) (LwS.ss u3 0), stW cI (LwS.sa u3 1) (LwS.ss u3 1), stW cI (LwS.sa u3 2) (LwS.ss u3 2), stW cI (LwS.sa u3 3) (LwS.ss u3 3), stW cI (LwS.sa u3 4) (LwS.ss u3 4), stW cI (LwS.sa u3 5) (LwS.ss u3 5), ocW cI o (LwS.φ u3), rdW rd (LwS.ρ u3), bfW cC bu (LwS.β u3), ouW cL ob (LwS.f u3)]) (S1 := [mdW cI b u6]) hP hD [13] [0, 1, 2, 3, 4, 5, 6, 7, 8, 9, 10, 11, 12] rfl rfl (by decide) (by decide) hk1 hFc hP1 hD1
      generalize H1 = H at hP hS ⊢
      have hP := fl_P (S' := [mnW x a sv o rd bu (LwS.ln u3), stW cI a (LwS.σ u3), svO cO sv (saF (LwS.sa u3)) (LwS.κ u3), stW cI (LwS.sa u3 0) (LwS.ss u3 0), stW cI (LwS.sa u3 1) (LwS.ss u3 1), stW cI (LwS.sa u3 2) (LwS.ss u3 2), stW cI (LwS.sa u3 3) (LwS.ss u3 3), stW cI (LwS.sa u3 4) (LwS.ss u3 4), stW cI (LwS.sa u3 5) (LwS.ss u3 5), ocW cI o (LwS.φ u3), rdW rd (LwS.ρ u3), bfW cC bu (LwS.β u3), ouW cL ob (LwS.f u3), mdW cI b u6]) hP [0, 1, 2, 3, 4, 5, 6, 7, 8, 9, 10, 11, 12, 13] rfl
      have hD := fl_D (S' := [mnW x a sv o rd bu (LwS.ln u3), stW cI a (LwS.σ u3), svO cO sv (saF (LwS.sa u3)) (LwS.κ u3), stW cI (LwS.sa u3 0) (LwS.ss u3 0), stW cI (LwS.sa u3 1) (LwS.ss u3 1), stW cI (LwS.sa u3 2) (LwS.ss u3 2), stW cI (LwS.sa u3 3) (LwS.ss u3 3), stW cI (LwS.sa u3 4) (LwS.ss u3 4), stW cI (LwS.sa u3 5) (LwS.ss u3 5), ocW cI o (LwS.φ u3), rdW rd (LwS.ρ u3), bfW cC bu (LwS.β u3), ouW cL ob (LwS.f u3), mdW cI b u6]) hD [0, 1, 2, 3, 4, 5, 6, 7, 8, 9, 10, 11, 12, 13] (by decide) rfl
      obtain ⟨he9, hf9, hLI⟩ := LI.step hcl2 hcl5 hG (fun _ => hG)
      have hrg : 0 ≤ r1 ∧ r1 ≤ 3 := by rw [hcl2.1]; exact cd1_b
      refine lv_istore (lv' := [(6, .int (iI (r4))), (5, .int (iI (r1))), (0, .ref (sc)), (1, .ref (x 0)), (2, .ref (b 0)), (3, .ref (ob 0)), (4, .int (iI (i)))]) hx hb dL_law_1549 hl (by decide) rfl (fun ls hl => ?_)
      refine lv_aload_n hx hb dL_law_1551 rfl (lv_at hl 4 rfl) ?_
      have hPc := fl_P (S' := [mdW cI b u6]) hP [13] rfl
      have hKc := hK.sub (tys' := [(cI, FieldType.int)]) [0] rfl
      refine wr_calli (va_runV (As := []) (rest := []) ⟨hx, hb, hml, hown, hts⟩ (c_X5_thrown l D cI cO cC cL b u6 ) (cwV 0 hts gL_law_X5_thrown rfl rfl rfl (by decide +kernel) ⟨Nat.le_of_ble_eq_true rfl, Nat.le_of_ble_eq_true rfl⟩) ⟨pcR_blind, va_recv hKc hPc (ci := 5) (q0 := 0) rfl rfl, pcR_of hPc hKc⟩ rfl rfl hl.1 rfl (lv_room (Nat.le_of_ble_eq_true rfl)) dL_law_1552 ⟨(by show cells + 1 + 0 ≤ 1139; omega), (by show slots + 6 + 0 ≤ 14922; omega)⟩) (fun r7 hr7 => ?_)
      subst hr7
      refine lv_iload hx hb dL_law_1555 (lv_at hl 1 rfl) ?_
      refine wi_icmp_eq (tgt := 1562) hx hb dL_law_1557 (by decide) (by omega) (fun c_1557 => ?_) (fun c_1557 => ?_)
      · skip
        refine lv_iload hx hb dL_law_1562 (lv_at hl 1 rfl) ?_
        refine wi_if_ne (tgt := 1579) hx hb dL_law_1564 (by decide) (by omega) (fun c_1564 => ?_) (fun c_1564 => ?_)
        · skip
          refine lv_goto (tgt := 1705) hx hb dL_law_1579 (by decide) ?_
          exact kk u3 u6 _ _ (hLI) hP hD hS ls (lv_sub hl [2, 3, 4, 5, 6] rfl)
        · skip
          refine lv_aload_n hx hb dL_law_1567 rfl (lv_at hl 5 rfl) ?_
          refine wi_iconst hx hb dL_law_1568 ?_
          refine wi_lald hx hb hK hP 98 3 rfl rfl dL_law_1569 ?_
          refine lv_iload hx hb dL_law_1570 (lv_at hl 0 rfl) ?_
          refine lv_i2l (v := iL (r4)) hx hb dL_law_1572 rfl ?_
          refine wi_lcmp0 hx hb (congrFun (hf9 (by omega)) 0) dL_law_1573 ?_
          refine wi_if_eq (tgt := 1579) hx hb dL_law_1574 (by decide) (by omega) (fun c_1574 => ?_) (fun c_1574 => ?_)
          · skip
            refine lv_goto (tgt := 1705) hx hb dL_law_1579 (by decide) ?_
            exact kk u3 u6 _ _ (hLI) hP hD hS ls (lv_sub hl [2, 3, 4, 5, 6] rfl)
          · skip
            exfalso; omega
      · skip
        exfalso; omega
    · skip
      exfalso; omega
  · skip
    refine wi_iconst hx hb dL_law_1508 ?_
    refine lv_goto (tgt := 1513) hx hb dL_law_1509 (by decide) ?_
    refine lv_aload_n hx hb dL_law_1513 rfl (lv_at hl 3 rfl) ?_
    have hPc := fl_P (S' := [mnW x a sv o rd bu ln, stW cI a σ, svO cO sv (saF sa) κ, stW cI (sa 0) (ss 0), stW cI (sa 1) (ss 1), stW cI (sa 2) (ss 2), stW cI (sa 3) (ss 3), stW cI (sa 4) (ss 4), stW cI (sa 5) (ss 5), ocW cI o φ, rdW rd ρ, bfW cC bu β, ouW cL ob f]) hP [0, 1, 2, 3, 4, 5, 6, 7, 8, 9, 10, 11, 12] rfl
    have hDc := fl_D (S' := [mnW x a sv o rd bu ln, stW cI a σ, svO cO sv (saF sa) κ, stW cI (sa 0) (ss 0), stW cI (sa 1) (ss 1), stW cI (sa 2) (ss 2), stW cI (sa 3) (ss 3), stW cI (sa 4) (ss 4), stW cI (sa 5) (ss 5), ocW cI o φ, rdW rd ρ, bfW cC bu β, ouW cL ob f]) hD [0, 1, 2, 3, 4, 5, 6, 7, 8, 9, 10, 11, 12] (by decide) rfl
    have hFc := fl_free (SC := [mnW x a sv o rd bu ln, stW cI a σ, svO cO sv (saF sa) κ, stW cI (sa 0) (ss 0), stW cI (sa 1) (ss 1), stW cI (sa 2) (ss 2), stW cI (sa 3) (ss 3), stW cI (sa 4) (ss 4), stW cI (sa 5) (ss 5), ocW cI o φ, rdW rd ρ, bfW cC bu β, ouW cL ob f]) hD hS hA [0, 1, 2, 3, 4, 5, 6, 7, 8, 9, 10, 11, 12] rfl
    refine wq_calli (vx_runSW (As := [.ref (x 0), .int (iI ((g (i + 1)))), .int (iI ((g (i + 2)))), .int (iI (1)), .ref (ob 0)]) (rest := []) ⟨hx, hb, hml, hown, hts⟩ (lk_mostFor l hl9 D cI cO cC cL H.size x a sv o rd bu ob ln σ κ φ ρ β sa ss f ((g (i + 1))) ((g (i + 2))) (1) (hgR _) (hgR _) (by omega) (by rw [hκ, hln]; exact hG)) (vx_cwSW 5 hts gL_law_L_mostFor rfl rfl rfl (by decide +kernel) ⟨Nat.le_of_ble_eq_true rfl, Nat.le_of_ble_eq_true rfl⟩) ⟨pcWX_blind, pcWX_of hPc hK hDc (hZ.kept hS.2.1) hFc⟩ rfl rfl hl.1 rfl (lv_room (Nat.le_of_ble_eq_true rfl)) dL_law_1514 ⟨(by show cells + 0 + 1 ≤ 1139; omega), (by show slots + 0 + 6 ≤ 14922; omega)⟩) hS (fun q _ h => hFc q h) hFc (fun r8 u10 t9 H1 locs ht9 hvm hcl9 hB hz1 hk1 hS => ?_)
    obtain ⟨hP1, hK1, hD1⟩ := hB
    rw [ht9] at hP1
    obtain ⟨hP, hD⟩ := fl_join (SR := [mdW cI b μ]) (S1 := [mnW x a sv o rd bu (LwS.ln u10), stW cI a (LwS.σ u10), svO cO sv (saF (LwS.sa u10)) (LwS.κ u10), stW cI (LwS.sa u10 0) (LwS.ss u10 0), stW cI (LwS.sa u10 1) (LwS.ss u10 1), stW cI (LwS.sa u10 2) (LwS.ss u10 2), stW cI (LwS.sa u10 3) (LwS.ss u10 3), stW cI (LwS.sa u10 4) (LwS.ss u10 4), stW cI (LwS.sa u10 5) (LwS.ss u10 5), ocW cI o (LwS.φ u10), rdW rd (LwS.ρ u10), bfW cC bu (LwS.β u10), ouW cL ob (LwS.f u10)]) hP hD [0, 1, 2, 3, 4, 5, 6, 7, 8, 9, 10, 11, 12] [13] rfl rfl (by decide) (by decide) hk1 hFc hP1 hD1
    generalize H1 = H at hP hS ⊢
    have hP := fl_P (S' := [mnW x a sv o rd bu (LwS.ln u10), stW cI a (LwS.σ u10), svO cO sv (saF (LwS.sa u10)) (LwS.κ u10), stW cI (LwS.sa u10 0) (LwS.ss u10 0), stW cI (LwS.sa u10 1) (LwS.ss u10 1), stW cI (LwS.sa u10 2) (LwS.ss u10 2), stW cI (LwS.sa u10 3) (LwS.ss u10 3), stW cI (LwS.sa u10 4) (LwS.ss u10 4), stW cI (LwS.sa u10 5) (LwS.ss u10 5), ocW cI o (LwS.φ u10), rdW rd (LwS.ρ u10), bfW cC bu (LwS.β u10), ouW cL ob (LwS.f u10), mdW cI b μ]) hP [1, 2, 3, 4, 5, 6, 7, 8, 9, 10, 11, 12, 13, 0] rfl
    have hD := fl_D (S' := [mnW x a sv o rd bu (LwS.ln u10), stW cI a (LwS.σ u10), svO cO sv (saF (LwS.sa u10)) (LwS.κ u10), stW cI (LwS.sa u10 0) (LwS.ss u10 0), stW cI (LwS.sa u10 1) (LwS.ss u10 1), stW cI (LwS.sa u10 2) (LwS.ss u10 2), stW cI (LwS.sa u10 3) (LwS.ss u10 3), stW cI (LwS.sa u10 4) (LwS.ss u10 4), stW cI (LwS.sa u10 5) (LwS.ss u10 5), ocW cI o (LwS.φ u10), rdW rd (LwS.ρ u10), bfW cC bu (LwS.β u10), ouW cL ob (LwS.f u10), mdW cI b μ]) hD [1, 2, 3, 4, 5, 6, 7, 8, 9, 10, 11, 12, 13, 0] (by decide) rfl
    rw [hκ, hln] at hcl9
    refine lv_istore (lv' := [(5, .int (iI (r8))), (0, .ref (sc)), (1, .ref (x 0)), (2, .ref (b 0)), (3, .ref (ob 0)), (4, .int (iI (i)))]) hx hb dL_law_1517 hl (by decide) rfl (fun ls hl => ?_)
    refine lv_aload_n hx hb dL_law_1519 rfl (lv_at hl 3 rfl) ?_
    refine lv_aload_n hx hb dL_law_1520 rfl (lv_at hl 1 rfl) ?_
    refine lv_iload hx hb dL_law_1521 (lv_at hl 5 rfl) ?_
    refine wi_iconst hx hb dL_law_1523 ?_
    refine wi_iadd hx hb dL_law_1524 ?_
    refine wi_sld hx hb hX hbl hsc hS (i := (i + 1)) (by omega) (by omega) dL_law_1525 ?_
    refine lv_aload_n hx hb dL_law_1526 rfl (lv_at hl 1 rfl) ?_
    refine lv_iload hx hb dL_law_1527 (lv_at hl 5 rfl) ?_
    refine wi_iconst hx hb dL_law_1529 ?_
    refine wi_iadd hx hb dL_law_1530 ?_
    refine wi_sld hx hb hX hbl hsc hS (i := (i + 2)) (by omega) (by omega) dL_law_1531 ?_
    refine lv_aload_n hx hb dL_law_1532 rfl (lv_at hl 1 rfl) ?_
    refine lv_iload hx hb dL_law_1533 (lv_at hl 5 rfl) ?_
    refine wi_iconst hx hb dL_law_1535 ?_
    refine wi_iadd hx hb dL_law_1536 ?_
    refine wi_sld hx hb hX hbl hsc hS (i := (i + 3)) (by omega) (by omega) dL_law_1537 ?_
    refine wi_if_eq (tgt := 1545) hx hb dL_law_1538 (by decide) (hgR _) (fun c_1538 => ?_) (fun c_1538 => ?_)
    · skip
      exfalso; omega
    · skip
      refine wi_iconst hx hb dL_law_1541 ?_
      refine lv_goto (tgt := 1546) hx hb dL_law_1542 (by decide) ?_
      have hPc := fl_P (S' := [mdW cI b μ]) hP [13] rfl
      have hKc := hK.sub (tys' := [(cI, FieldType.int)]) [0] rfl
      have hDc := fl_D (S' := [mdW cI b μ]) hD [13] (by decide) rfl
      have hFc := fl_free (SC := [mdW cI b μ]) hD hS hA [13] rfl
      refine wq_calli (va_runV (As := [.int (iI ((g (i + 1)))), .int (iI ((g (i + 2)))), .int (iI (1))]) (rest := []) ⟨hx, hb, hml, hown, hts⟩ (c_X5_mostFor l D cI cO cC cL H.size b μ σ ss (β 1) ((g (i + 1))) ((g (i + 2))) (1) (hgR _) (hgR _) (by omega) (hM) (hG)) (cwV 3 hts gL_law_X5_mostFor rfl rfl rfl (by decide +kernel) ⟨Nat.le_of_ble_eq_true rfl, Nat.le_of_ble_eq_true rfl⟩) ⟨pcW_blind, va_recv hKc hPc (ci := 5) (q0 := 0) rfl rfl, pcW_of hPc hKc hDc⟩ rfl rfl hl.1 rfl (lv_room (Nat.le_of_ble_eq_true rfl)) dL_law_1546 ⟨(by show cells + 1 + 0 ≤ 1139; omega), (by show slots + 6 + 0 ≤ 14922; omega)⟩) hS (fun q _ h => hFc q h) hFc (fun r11 u13 t9 H1 locs ht9 hvm hcl12 hB hz1 hk1 hS => ?_)
      obtain ⟨hP1, hK1, hD1⟩ := hB
      rw [ht9] at hP1
      obtain ⟨hP, hD⟩ := fl_join (SR := [mnW x a sv o rd bu (LwS.ln u10), stW cI a (LwS.σ u10), svO cO sv (saF (LwS.sa u10)) (LwS.κ u10), stW cI (LwS.sa u10 0) (LwS.ss u10 0), stW cI (LwS.sa u10 1) (LwS.ss u10 1), stW cI (LwS.sa u10 2) (LwS.ss u10 2), stW cI (LwS.sa u10 3) (LwS.ss u10 3), stW cI (LwS.sa u10 4) (LwS.ss u10 4), stW cI (LwS.sa u10 5) (LwS.ss u10 5), ocW cI o (LwS.φ u10), rdW rd (LwS.ρ u10), bfW cC bu (LwS.β u10), ouW cL ob (LwS.f u10)]) (S1 := [mdW cI b u13]) hP hD [13] [0, 1, 2, 3, 4, 5, 6, 7, 8, 9, 10, 11, 12] rfl rfl (by decide) (by decide) hk1 hFc hP1 hD1
      generalize H1 = H at hP hS ⊢
      have hP := fl_P (S' := [mnW x a sv o rd bu (LwS.ln u10), stW cI a (LwS.σ u10), svO cO sv (saF (LwS.sa u10)) (LwS.κ u10), stW cI (LwS.sa u10 0) (LwS.ss u10 0), stW cI (LwS.sa u10 1) (LwS.ss u10 1), stW cI (LwS.sa u10 2) (LwS.ss u10 2), stW cI (LwS.sa u10 3) (LwS.ss u10 3), stW cI (LwS.sa u10 4) (LwS.ss u10 4), stW cI (LwS.sa u10 5) (LwS.ss u10 5), ocW cI o (LwS.φ u10), rdW rd (LwS.ρ u10), bfW cC bu (LwS.β u10), ouW cL ob (LwS.f u10), mdW cI b u13]) hP [0, 1, 2, 3, 4, 5, 6, 7, 8, 9, 10, 11, 12, 13] rfl
      have hD := fl_D (S' := [mnW x a sv o rd bu (LwS.ln u10), stW cI a (LwS.σ u10), svO cO sv (saF (LwS.sa u10)) (LwS.κ u10), stW cI (LwS.sa u10 0) (LwS.ss u10 0), stW cI (LwS.sa u10 1) (LwS.ss u10 1), stW cI (LwS.sa u10 2) (LwS.ss u10 2), stW cI (LwS.sa u10 3) (LwS.ss u10 3), stW cI (LwS.sa u10 4) (LwS.ss u10 4), stW cI (LwS.sa u10 5) (LwS.ss u10 5), ocW cI o (LwS.φ u10), rdW rd (LwS.ρ u10), bfW cC bu (LwS.β u10), ouW cL ob (LwS.f u10), mdW cI b u13]) hD [0, 1, 2, 3, 4, 5, 6, 7, 8, 9, 10, 11, 12, 13] (by decide) rfl
      obtain ⟨he9, hf9, hLI⟩ := LI.step hcl9 hcl12 hG (fun _ => hG)
      have hrg : 0 ≤ r8 ∧ r8 ≤ 3 := by rw [hcl9.1]; exact cd1_b
      refine lv_istore (lv' := [(6, .int (iI (r11))), (5, .int (iI (r8))), (0, .ref (sc)), (1, .ref (x 0)), (2, .ref (b 0)), (3, .ref (ob 0)), (4, .int (iI (i)))]) hx hb dL_law_1549 hl (by decide) rfl (fun ls hl => ?_)
      refine lv_aload_n hx hb dL_law_1551 rfl (lv_at hl 4 rfl) ?_
      have hPc := fl_P (S' := [mdW cI b u13]) hP [13] rfl
      have hKc := hK.sub (tys' := [(cI, FieldType.int)]) [0] rfl
      refine wr_calli (va_runV (As := []) (rest := []) ⟨hx, hb, hml, hown, hts⟩ (c_X5_thrown l D cI cO cC cL b u13 ) (cwV 0 hts gL_law_X5_thrown rfl rfl rfl (by decide +kernel) ⟨Nat.le_of_ble_eq_true rfl, Nat.le_of_ble_eq_true rfl⟩) ⟨pcR_blind, va_recv hKc hPc (ci := 5) (q0 := 0) rfl rfl, pcR_of hPc hKc⟩ rfl rfl hl.1 rfl (lv_room (Nat.le_of_ble_eq_true rfl)) dL_law_1552 ⟨(by show cells + 1 + 0 ≤ 1139; omega), (by show slots + 6 + 0 ≤ 14922; omega)⟩) (fun r14 hr14 => ?_)
      subst hr14
      refine lv_iload hx hb dL_law_1555 (lv_at hl 1 rfl) ?_
      refine wi_icmp_eq (tgt := 1562) hx hb dL_law_1557 (by decide) (by omega) (fun c_1557 => ?_) (fun c_1557 => ?_)
      · skip
        refine lv_iload hx hb dL_law_1562 (lv_at hl 1 rfl) ?_
        refine wi_if_ne (tgt := 1579) hx hb dL_law_1564 (by decide) (by omega) (fun c_1564 => ?_) (fun c_1564 => ?_)
        · skip
          refine lv_goto (tgt := 1705) hx hb dL_law_1579 (by decide) ?_
          exact kk u10 u13 _ _ (hLI) hP hD hS ls (lv_sub hl [2, 3, 4, 5, 6] rfl)
        · skip
          refine lv_aload_n hx hb dL_law_1567 rfl (lv_at hl 5 rfl) ?_
          refine wi_iconst hx hb dL_law_1568 ?_
          refine wi_lald hx hb hK hP 98 3 rfl rfl dL_law_1569 ?_
          refine lv_iload hx hb dL_law_1570 (lv_at hl 0 rfl) ?_
          refine lv_i2l (v := iL (r11)) hx hb dL_law_1572 rfl ?_
          refine wi_lcmp0 hx hb (congrFun (hf9 (by omega)) 0) dL_law_1573 ?_
          refine wi_if_eq (tgt := 1579) hx hb dL_law_1574 (by decide) (by omega) (fun c_1574 => ?_) (fun c_1574 => ?_)
          · skip
            refine lv_goto (tgt := 1705) hx hb dL_law_1579 (by decide) ?_
            exact kk u10 u13 _ _ (hLI) hP hD hS ls (lv_sub hl [2, 3, 4, 5, 6] rfl)
          · skip
            exfalso; omega
      · skip
        exfalso; omega
set_option maxHeartbeats 4000000 in
set_option maxRecDepth 100000 in
theorem lc_ifPassed (hl9 : l.stackTraces = false) (hx : p.tables.exec = Jvm.exec) (hb : c.code = cL_law) (hlocks : meth.locks = false) (hown : s.vm.findClass RL = some m.cls) (hml : c.maxLocals = 9) (hts : ∀ w ∈ wsL_law, w.before args s = true) (hK : va_K D vwCl [(cI, FieldType.int), (cO, FieldType.object "PromisedCounters$State"), (cC, FieldType.char), (cL, FieldType.long)] s) (hA : ∀ q : Nat, H0.size ≤ q → A q)
    (hgR : ∀ j : Int, R32 (g j)) (hi : 0 ≤ i ∧ i + 5 ≤ (n9 : Int)) (hn9 : n9 ≤ 2560) (hcells : cells + 1 ≤ 1139) (hslots : slots + 6 ≤ 14922) (hκ : κ 0 0 = μ 0 0) (hln : ln 0 0 = μ 0 1) (hM : RelM σ (μ 0 0) ss (μ 0 1) (β 1) μ) (hG : GI σ (μ 0 0) ss (μ 0 1) (β 1)) (hZ : ZP A s H0) (hX : va_X sc n9 (rI g) s H0) (hbl : sc < H0.size) (hsc : ¬ A sc) (hP : va_P D vwCl (fl [mnW x a sv o rd bu ln, stW cI a σ, svO cO sv (saF sa) κ, stW cI (sa 0) (ss 0), stW cI (sa 1) (ss 1), stW cI (sa 2) (ss 2), stW cI (sa 3) (ss 3), stW cI (sa 4) (ss 4), stW cI (sa 5) (ss 5), ocW cI o φ, rdW rd ρ, bfW cC bu β, ouW cL ob f, mdW cI b μ]) H) (hD : va_D A (fl [mnW x a sv o rd bu ln, stW cI a σ, svO cO sv (saF sa) κ, stW cI (sa 0) (ss 0), stW cI (sa 1) (ss 1), stW cI (sa 2) (ss 2), stW cI (sa 3) (ss 3), stW cI (sa 4) (ss 4), stW cI (sa 5) (ss 5), ocW cI o φ, rdW rd ρ, bfW cC bu β, ouW cL ob f, mdW cI b μ])) (hS : va_S A H0 H locs) (hl : lv_has ls 9 [(0, .ref (sc)), (1, .ref (x 0)), (2, .ref (b 0)), (3, .ref (ob 0)), (4, .int (iI (i)))])
    (kk : ∀ (u : LwS) (μ : Nat → Int → Int) (H : Heap) (locs : List Loc), LI u μ → va_P D vwCl (lawW cI cO cC cL x a sv o rd bu ob b u μ) H → va_D A (lawW cI cO cC cL x a sv o rd bu ob b u μ) → va_S A H0 H locs → ∀ ls : Array Slot, lv_has ls 9 [(0, .ref (sc)), (1, .ref (x 0)), (2, .ref (b 0)), (3, .ref (ob 0)), (4, .int (iI (i)))] → W p l e ({ frames := 13, cells := 1139, slots := 14922, locals := 478 } : Room) s m args below meth c H locs (cells + 1) (slots + 6) Q (F0 m 1705 ls [])) : W p l e ({ frames := 13, cells := 1139, slots := 14922, locals := 478 } : Room) s m args below meth c H locs cells slots Q (F0 m 1582 ls []) := by
  refine lv_aload_n hx hb dL_law_1582 rfl (lv_at hl 1 rfl) ?_
  refine lv_aload_n hx hb dL_law_1583 rfl (lv_at hl 0 rfl) ?_
  refine lv_iload hx hb dL_law_1584 (lv_at hl 4 rfl) ?_
  refine wi_iconst hx hb dL_law_1586 ?_
  refine wi_iadd hx hb dL_law_1587 ?_
  refine wi_sld hx hb hX hbl hsc hS (i := (i + 1)) (by omega) (by omega) dL_law_1588 ?_
  refine lv_aload_n hx hb dL_law_1589 rfl (lv_at hl 0 rfl) ?_
  refine lv_iload hx hb dL_law_1590 (lv_at hl 4 rfl) ?_
  refine wi_iconst hx hb dL_law_1592 ?_
  refine wi_iadd hx hb dL_law_1593 ?_
  refine wi_sld hx hb hX hbl hsc hS (i := (i + 2)) (by omega) (by omega) dL_law_1594 ?_
  refine lv_aload_n hx hb dL_law_1595 rfl (lv_at hl 3 rfl) ?_
  have hPc := fl_P (S' := [mnW x a sv o rd bu ln, stW cI a σ, svO cO sv (saF sa) κ, stW cI (sa 0) (ss 0), stW cI (sa 1) (ss 1), stW cI (sa 2) (ss 2), stW cI (sa 3) (ss 3), stW cI (sa 4) (ss 4), stW cI (sa 5) (ss 5), ocW cI o φ, rdW rd ρ, bfW cC bu β, ouW cL ob f]) hP [0, 1, 2, 3, 4, 5, 6, 7, 8, 9, 10, 11, 12] rfl
  have hDc := fl_D (S' := [mnW x a sv o rd bu ln, stW cI a σ, svO cO sv (saF sa) κ, stW cI (sa 0) (ss 0), stW cI (sa 1) (ss 1), stW cI (sa 2) (ss 2), stW cI (sa 3) (ss 3), stW cI (sa 4) (ss 4), stW cI (sa 5) (ss 5), ocW cI o φ, rdW rd ρ, bfW cC bu β, ouW cL ob f]) hD [0, 1, 2, 3, 4, 5, 6, 7, 8, 9, 10, 11, 12] (by decide) rfl
  have hFc := fl_free (SC := [mnW x a sv o rd bu ln, stW cI a σ, svO cO sv (saF sa) κ, stW cI (sa 0) (ss 0), stW cI (sa 1) (ss 1), stW cI (sa 2) (ss 2), stW cI (sa 3) (ss 3), stW cI (sa 4) (ss 4), stW cI (sa 5) (ss 5), ocW cI o φ, rdW rd ρ, bfW cC bu β, ouW cL ob f]) hD hS hA [0, 1, 2, 3, 4, 5, 6, 7, 8, 9, 10, 11, 12] rfl
  refine wq_calli (vx_runSW (As := [.ref (x 0), .int (iI ((g (i + 1)))), .int (iI ((g (i + 2)))), .ref (ob 0)]) (rest := []) ⟨hx, hb, hml, hown, hts⟩ (lk_ifPassed l hl9 D cI cO cC cL H.size x a sv o rd bu ob ln σ κ φ ρ β sa ss f ((g (i + 1))) ((g (i + 2))) (hgR _) (hgR _) (by rw [hκ, hln]; exact hG)) (vx_cwSW 4 hts gL_law_L_ifPassed rfl rfl rfl (by decide +kernel) ⟨Nat.le_of_ble_eq_true rfl, Nat.le_of_ble_eq_true rfl⟩) ⟨pcWX_blind, pcWX_of hPc hK hDc (hZ.kept hS.2.1) hFc⟩ rfl rfl hl.1 rfl (lv_room (Nat.le_of_ble_eq_true rfl)) dL_law_1596 ⟨(by show cells + 0 + 1 ≤ 1139; omega), (by show slots + 0 + 6 ≤ 14922; omega)⟩) hS (fun q _ h => hFc q h) hFc (fun r1 u3 t9 H1 locs ht9 hvm hcl2 hB hz1 hk1 hS => ?_)
  obtain ⟨hP1, hK1, hD1⟩ := hB
  rw [ht9] at hP1
  obtain ⟨hP, hD⟩ := fl_join (SR := [mdW cI b μ]) (S1 := [mnW x a sv o rd bu (LwS.ln u3), stW cI a (LwS.σ u3), svO cO sv (saF (LwS.sa u3)) (LwS.κ u3), stW cI (LwS.sa u3 0) (LwS.ss u3 0), stW cI (LwS.sa u3 1) (LwS.ss u3 1), stW cI (LwS.sa u3 2) (LwS.ss u3 2), stW cI (LwS.sa u3 3) (LwS.ss u3 3), stW cI (LwS.sa u3 4) (LwS.ss u3 4), stW cI (LwS.sa u3 5) (LwS.ss u3 5), ocW cI o (LwS.φ u3), rdW rd (LwS.ρ u3), bfW cC bu (LwS.β u3), ouW cL ob (LwS.f u3)]) hP hD [0, 1, 2, 3, 4, 5, 6, 7, 8, 9, 10, 11, 12] [13] rfl rfl (by decide) (by decide) hk1 hFc hP1 hD1
  generalize H1 = H at hP hS ⊢
  have hP := fl_P (S' := [mnW x a sv o rd bu (LwS.ln u3), stW cI a (LwS.σ u3), svO cO sv (saF (LwS.sa u3)) (LwS.κ u3), stW cI (LwS.sa u3 0) (LwS.ss u3 0), stW cI (LwS.sa u3 1) (LwS.ss u3 1), stW cI (LwS.sa u3 2) (LwS.ss u3 2), stW cI (LwS.sa u3 3) (LwS.ss u3 3), stW cI (LwS.sa u3 4) (LwS.ss u3 4), stW cI (LwS.sa u3 5) (LwS.ss u3 5), ocW cI o (LwS.φ u3), rdW rd (LwS.ρ u3), bfW cC bu (LwS.β u3), ouW cL ob (LwS.f u3), mdW cI b μ]) hP [1, 2, 3, 4, 5, 6, 7, 8, 9, 10, 11, 12, 13, 0] rfl
  have hD := fl_D (S' := [mnW x a sv o rd bu (LwS.ln u3), stW cI a (LwS.σ u3), svO cO sv (saF (LwS.sa u3)) (LwS.κ u3), stW cI (LwS.sa u3 0) (LwS.ss u3 0), stW cI (LwS.sa u3 1) (LwS.ss u3 1), stW cI (LwS.sa u3 2) (LwS.ss u3 2), stW cI (LwS.sa u3 3) (LwS.ss u3 3), stW cI (LwS.sa u3 4) (LwS.ss u3 4), stW cI (LwS.sa u3 5) (LwS.ss u3 5), ocW cI o (LwS.φ u3), rdW rd (LwS.ρ u3), bfW cC bu (LwS.β u3), ouW cL ob (LwS.f u3), mdW cI b μ]) hD [1, 2, 3, 4, 5, 6, 7, 8, 9, 10, 11, 12, 13, 0] (by decide) rfl
  rw [hκ, hln] at hcl2
  refine lv_istore (lv' := [(5, .int (iI (r1))), (0, .ref (sc)), (1, .ref (x 0)), (2, .ref (b 0)), (3, .ref (ob 0)), (4, .int (iI (i)))]) hx hb dL_law_1599 hl (by decide) rfl (fun ls hl => ?_)
  refine lv_aload_n hx hb dL_law_1601 rfl (lv_at hl 3 rfl) ?_
  refine lv_aload_n hx hb dL_law_1602 rfl (lv_at hl 1 rfl) ?_
  refine lv_iload hx hb dL_law_1603 (lv_at hl 5 rfl) ?_
  refine wi_iconst hx hb dL_law_1605 ?_
  refine wi_iadd hx hb dL_law_1606 ?_
  refine wi_sld hx hb hX hbl hsc hS (i := (i + 1)) (by omega) (by omega) dL_law_1607 ?_
  refine lv_aload_n hx hb dL_law_1608 rfl (lv_at hl 1 rfl) ?_
  refine lv_iload hx hb dL_law_1609 (lv_at hl 5 rfl) ?_
  refine wi_iconst hx hb dL_law_1611 ?_
  refine wi_iadd hx hb dL_law_1612 ?_
  refine wi_sld hx hb hX hbl hsc hS (i := (i + 2)) (by omega) (by omega) dL_law_1613 ?_
  have hPc := fl_P (S' := [mdW cI b μ]) hP [13] rfl
  have hKc := hK.sub (tys' := [(cI, FieldType.int)]) [0] rfl
  have hDc := fl_D (S' := [mdW cI b μ]) hD [13] (by decide) rfl
  have hFc := fl_free (SC := [mdW cI b μ]) hD hS hA [13] rfl
  refine wq_calli (va_runV (As := [.int (iI ((g (i + 1)))), .int (iI ((g (i + 2))))]) (rest := []) ⟨hx, hb, hml, hown, hts⟩ (c_X5_ifPassed l D cI cO cC cL H.size b μ σ ss (β 1) ((g (i + 1))) ((g (i + 2))) (hgR _) (hgR _) (hM) (hG)) (cwV 2 hts gL_law_X5_ifPassed rfl rfl rfl (by decide +kernel) ⟨Nat.le_of_ble_eq_true rfl, Nat.le_of_ble_eq_true rfl⟩) ⟨pcW_blind, va_recv hKc hPc (ci := 5) (q0 := 0) rfl rfl, pcW_of hPc hKc hDc⟩ rfl rfl hl.1 rfl (lv_room (Nat.le_of_ble_eq_true rfl)) dL_law_1614 ⟨(by show cells + 1 + 0 ≤ 1139; omega), (by show slots + 6 + 0 ≤ 14922; omega)⟩) hS (fun q _ h => hFc q h) hFc (fun r4 u6 t9 H1 locs ht9 hvm hcl5 hB hz1 hk1 hS => ?_)
  obtain ⟨hP1, hK1, hD1⟩ := hB
  rw [ht9] at hP1
  obtain ⟨hP, hD⟩ := fl_join (SR := [mnW x a sv o rd bu (LwS.ln u3), stW cI a (LwS.σ u3), svO cO sv (saF (LwS.sa u3)) (LwS.κ u3), stW cI (LwS.sa u3 0) (LwS.ss u3 0), stW cI (LwS.sa u3 1) (LwS.ss u3 1), stW cI (LwS.sa u3 2) (LwS.ss u3 2), stW cI (LwS.sa u3 3) (LwS.ss u3 3), stW cI (LwS.sa u3 4) (LwS.ss u3 4), stW cI (LwS.sa u3 5) (LwS.ss u3 5), ocW cI o (LwS.φ u3), rdW rd (LwS.ρ u3), bfW cC bu (LwS.β u3), ouW cL ob (LwS.f u3)]) (S1 := [mdW cI b u6]) hP hD [13] [0, 1, 2, 3, 4, 5, 6, 7, 8, 9, 10, 11, 12] rfl rfl (by decide) (by decide) hk1 hFc hP1 hD1
  generalize H1 = H at hP hS ⊢
  have hP := fl_P (S' := [mnW x a sv o rd bu (LwS.ln u3), stW cI a (LwS.σ u3), svO cO sv (saF (LwS.sa u3)) (LwS.κ u3), stW cI (LwS.sa u3 0) (LwS.ss u3 0), stW cI (LwS.sa u3 1) (LwS.ss u3 1), stW cI (LwS.sa u3 2) (LwS.ss u3 2), stW cI (LwS.sa u3 3) (LwS.ss u3 3), stW cI (LwS.sa u3 4) (LwS.ss u3 4), stW cI (LwS.sa u3 5) (LwS.ss u3 5), ocW cI o (LwS.φ u3), rdW rd (LwS.ρ u3), bfW cC bu (LwS.β u3), ouW cL ob (LwS.f u3), mdW cI b u6]) hP [0, 1, 2, 3, 4, 5, 6, 7, 8, 9, 10, 11, 12, 13] rfl
  have hD := fl_D (S' := [mnW x a sv o rd bu (LwS.ln u3), stW cI a (LwS.σ u3), svO cO sv (saF (LwS.sa u3)) (LwS.κ u3), stW cI (LwS.sa u3 0) (LwS.ss u3 0), stW cI (LwS.sa u3 1) (LwS.ss u3 1), stW cI (LwS.sa u3 2) (LwS.ss u3 2), stW cI (LwS.sa u3 3) (LwS.ss u3 3), stW cI (LwS.sa u3 4) (LwS.ss u3 4), stW cI (LwS.sa u3 5) (LwS.ss u3 5), ocW cI o (LwS.φ u3), rdW rd (LwS.ρ u3), bfW cC bu (LwS.β u3), ouW cL ob (LwS.f u3), mdW cI b u6]) hD [0, 1, 2, 3, 4, 5, 6, 7, 8, 9, 10, 11, 12, 13] (by decide) rfl
  obtain ⟨he9, hf9, hLI⟩ := LI.step hcl2 hcl5 hG (fun _ => hG)
  have hrg : 0 ≤ r1 ∧ r1 ≤ 3 := by rw [hcl2.1]; exact cd1_b
  refine lv_istore (lv' := [(6, .int (iI (r4))), (5, .int (iI (r1))), (0, .ref (sc)), (1, .ref (x 0)), (2, .ref (b 0)), (3, .ref (ob 0)), (4, .int (iI (i)))]) hx hb dL_law_1617 hl (by decide) rfl (fun ls hl => ?_)
  refine lv_aload_n hx hb dL_law_1619 rfl (lv_at hl 4 rfl) ?_
  have hPc := fl_P (S' := [mdW cI b u6]) hP [13] rfl
  have hKc := hK.sub (tys' := [(cI, FieldType.int)]) [0] rfl
  refine wr_calli (va_runV (As := []) (rest := []) ⟨hx, hb, hml, hown, hts⟩ (c_X5_thrown l D cI cO cC cL b u6 ) (cwV 0 hts gL_law_X5_thrown rfl rfl rfl (by decide +kernel) ⟨Nat.le_of_ble_eq_true rfl, Nat.le_of_ble_eq_true rfl⟩) ⟨pcR_blind, va_recv hKc hPc (ci := 5) (q0 := 0) rfl rfl, pcR_of hPc hKc⟩ rfl rfl hl.1 rfl (lv_room (Nat.le_of_ble_eq_true rfl)) dL_law_1620 ⟨(by show cells + 1 + 0 ≤ 1139; omega), (by show slots + 6 + 0 ≤ 14922; omega)⟩) (fun r7 hr7 => ?_)
  subst hr7
  refine lv_iload hx hb dL_law_1623 (lv_at hl 1 rfl) ?_
  refine wi_icmp_eq (tgt := 1630) hx hb dL_law_1625 (by decide) (by omega) (fun c_1625 => ?_) (fun c_1625 => ?_)
  · skip
    refine lv_iload hx hb dL_law_1630 (lv_at hl 1 rfl) ?_
    refine wi_if_ne (tgt := 1647) hx hb dL_law_1632 (by decide) (by omega) (fun c_1632 => ?_) (fun c_1632 => ?_)
    · skip
      refine lv_goto (tgt := 1705) hx hb dL_law_1647 (by decide) ?_
      exact kk u3 u6 _ _ (hLI) hP hD hS ls (lv_sub hl [2, 3, 4, 5, 6] rfl)
    · skip
      refine lv_aload_n hx hb dL_law_1635 rfl (lv_at hl 5 rfl) ?_
      refine wi_iconst hx hb dL_law_1636 ?_
      refine wi_lald hx hb hK hP 98 3 rfl rfl dL_law_1637 ?_
      refine lv_iload hx hb dL_law_1638 (lv_at hl 0 rfl) ?_
      refine lv_i2l (v := iL (r4)) hx hb dL_law_1640 rfl ?_
      refine wi_lcmp0 hx hb (congrFun (hf9 (by omega)) 0) dL_law_1641 ?_
      refine wi_if_eq (tgt := 1647) hx hb dL_law_1642 (by decide) (by omega) (fun c_1642 => ?_) (fun c_1642 => ?_)
      · skip
        refine lv_goto (tgt := 1705) hx hb dL_law_1647 (by decide) ?_
        exact kk u3 u6 _ _ (hLI) hP hD hS ls (lv_sub hl [2, 3, 4, 5, 6] rfl)
      · skip
        exfalso; omega
  · skip
    exfalso; omega
set_option maxHeartbeats 4000000 in
set_option maxRecDepth 100000 in
theorem lc_heldShare (hl9 : l.stackTraces = false) (hx : p.tables.exec = Jvm.exec) (hb : c.code = cL_law) (hlocks : meth.locks = false) (hown : s.vm.findClass RL = some m.cls) (hml : c.maxLocals = 9) (hts : ∀ w ∈ wsL_law, w.before args s = true) (hK : va_K D vwCl [(cI, FieldType.int), (cO, FieldType.object "PromisedCounters$State"), (cC, FieldType.char), (cL, FieldType.long)] s) (hA : ∀ q : Nat, H0.size ≤ q → A q)
    (hgR : ∀ j : Int, R32 (g j)) (hi : 0 ≤ i ∧ i + 5 ≤ (n9 : Int)) (hn9 : n9 ≤ 2560) (hcells : cells + 1 ≤ 1139) (hslots : slots + 6 ≤ 14922) (hκ : κ 0 0 = μ 0 0) (hln : ln 0 0 = μ 0 1) (hM : RelM σ (μ 0 0) ss (μ 0 1) (β 1) μ) (hG : GI σ (μ 0 0) ss (μ 0 1) (β 1)) (hZ : ZP A s H0) (hX : va_X sc n9 (rI g) s H0) (hbl : sc < H0.size) (hsc : ¬ A sc) (hP : va_P D vwCl (fl [mnW x a sv o rd bu ln, stW cI a σ, svO cO sv (saF sa) κ, stW cI (sa 0) (ss 0), stW cI (sa 1) (ss 1), stW cI (sa 2) (ss 2), stW cI (sa 3) (ss 3), stW cI (sa 4) (ss 4), stW cI (sa 5) (ss 5), ocW cI o φ, rdW rd ρ, bfW cC bu β, ouW cL ob f, mdW cI b μ]) H) (hD : va_D A (fl [mnW x a sv o rd bu ln, stW cI a σ, svO cO sv (saF sa) κ, stW cI (sa 0) (ss 0), stW cI (sa 1) (ss 1), stW cI (sa 2) (ss 2), stW cI (sa 3) (ss 3), stW cI (sa 4) (ss 4), stW cI (sa 5) (ss 5), ocW cI o φ, rdW rd ρ, bfW cC bu β, ouW cL ob f, mdW cI b μ])) (hS : va_S A H0 H locs) (hl : lv_has ls 9 [(0, .ref (sc)), (1, .ref (x 0)), (2, .ref (b 0)), (3, .ref (ob 0)), (4, .int (iI (i)))])
    (kk : ∀ (u : LwS) (μ : Nat → Int → Int) (H : Heap) (locs : List Loc), LI u μ → va_P D vwCl (lawW cI cO cC cL x a sv o rd bu ob b u μ) H → va_D A (lawW cI cO cC cL x a sv o rd bu ob b u μ) → va_S A H0 H locs → ∀ ls : Array Slot, lv_has ls 9 [(0, .ref (sc)), (1, .ref (x 0)), (2, .ref (b 0)), (3, .ref (ob 0)), (4, .int (iI (i)))] → W p l e ({ frames := 13, cells := 1139, slots := 14922, locals := 478 } : Room) s m args below meth c H locs (cells + 1) (slots + 6) Q (F0 m 1705 ls [])) : W p l e ({ frames := 13, cells := 1139, slots := 14922, locals := 478 } : Room) s m args below meth c H locs cells slots Q (F0 m 1650 ls []) := by
  refine lv_aload_n hx hb dL_law_1650 rfl (lv_at hl 1 rfl) ?_
  have hPc := fl_P (S' := [mnW x a sv o rd bu ln, stW cI a σ]) hP [0, 1] rfl
  have hKc := hK.sub (tys' := [(cI, FieldType.int), (cO, FieldType.object "PromisedCounters$State"), (cC, FieldType.char)]) [0, 1, 2] rfl
  refine wr_calld (va_runV (As := []) (rest := []) ⟨hx, hb, hml, hown, hts⟩ (c_X4_heldShare l D cI cO cC cL x a sv o rd bu ln σ (hG.1)) (cwV 0 hts gL_law_X4_heldShare rfl rfl rfl (by decide +kernel) ⟨Nat.le_of_ble_eq_true rfl, Nat.le_of_ble_eq_true rfl⟩) ⟨pcR_blind, va_recv hKc hPc (ci := 4) (q0 := 0) rfl rfl, pcR_of hPc hKc⟩ rfl rfl hl.1 rfl (lv_room (Nat.le_of_ble_eq_true rfl)) dL_law_1651 ⟨(by show cells + 0 + 0 ≤ 1139; omega), (by show slots + 0 + 0 ≤ 14922; omega)⟩) (fun r1 hr1 => ?_)
  subst hr1
  refine lv_dstore (lv' := [(5, .double ((shrS σ))), (0, .ref (sc)), (1, .ref (x 0)), (2, .ref (b 0)), (3, .ref (ob 0)), (4, .int (iI (i)))]) hx hb dL_law_1654 hl (by decide) rfl (fun ls hl => ?_)
  refine lv_aload_n hx hb dL_law_1656 rfl (lv_at hl 3 rfl) ?_
  have hPc := fl_P (S' := [mdW cI b μ]) hP [13] rfl
  have hKc := hK.sub (tys' := [(cI, FieldType.int)]) [0] rfl
  have hDc := fl_D (S' := [mdW cI b μ]) hD [13] (by decide) rfl
  have hFc := fl_free (SC := [mdW cI b μ]) hD hS hA [13] rfl
  refine va_calld (va_runV (As := []) (rest := []) ⟨hx, hb, hml, hown, hts⟩ (c_X5_heldShare l D cI cO cC cL H.size b μ σ ss (β 1) (hM) (hG)) (cwV 0 hts gL_law_X5_heldShare rfl rfl rfl (by decide +kernel) ⟨Nat.le_of_ble_eq_true rfl, Nat.le_of_ble_eq_true rfl⟩) ⟨pcW_blind, va_recv hKc hPc (ci := 5) (q0 := 0) rfl rfl, pcW_of hPc hKc hDc⟩ rfl rfl hl.1 rfl (lv_room (Nat.le_of_ble_eq_true rfl)) dL_law_1657 ⟨(by show cells + 0 + 0 ≤ 1139; omega), (by show slots + 0 + 0 ≤ 14922; omega)⟩) hS (fun q _ h => hFc q h) hFc (fun r2 u4 t9 H1 locs ht9 hvm hcl3 hB hz1 hk1 hS => ?_)
  obtain ⟨hP1, hK1, hD1⟩ := hB
  rw [ht9] at hP1
  obtain ⟨hP, hD⟩ := fl_join (SR := [mnW x a sv o rd bu ln, stW cI a σ, svO cO sv (saF sa) κ, stW cI (sa 0) (ss 0), stW cI (sa 1) (ss 1), stW cI (sa 2) (ss 2), stW cI (sa 3) (ss 3), stW cI (sa 4) (ss 4), stW cI (sa 5) (ss 5), ocW cI o φ, rdW rd ρ, bfW cC bu β, ouW cL ob f]) (S1 := [mdW cI b u4]) hP hD [13] [0, 1, 2, 3, 4, 5, 6, 7, 8, 9, 10, 11, 12] rfl rfl (by decide) (by decide) hk1 hFc hP1 hD1
  generalize H1 = H at hP hS ⊢
  have hP := fl_P (S' := [mnW x a sv o rd bu ln, stW cI a σ, svO cO sv (saF sa) κ, stW cI (sa 0) (ss 0), stW cI (sa 1) (ss 1), stW cI (sa 2) (ss 2), stW cI (sa 3) (ss 3), stW cI (sa 4) (ss 4), stW cI (sa 5) (ss 5), ocW cI o φ, rdW rd ρ, bfW cC bu β, ouW cL ob f, mdW cI b u4]) hP [0, 1, 2, 3, 4, 5, 6, 7, 8, 9, 10, 11, 12, 13] rfl
  have hD := fl_D (S' := [mnW x a sv o rd bu ln, stW cI a σ, svO cO sv (saF sa) κ, stW cI (sa 0) (ss 0), stW cI (sa 1) (ss 1), stW cI (sa 2) (ss 2), stW cI (sa 3) (ss 3), stW cI (sa 4) (ss 4), stW cI (sa 5) (ss 5), ocW cI o φ, rdW rd ρ, bfW cC bu β, ouW cL ob f, mdW cI b u4]) hD [0, 1, 2, 3, 4, 5, 6, 7, 8, 9, 10, 11, 12, 13] (by decide) rfl
  obtain ⟨he2, hM2⟩ := hcl3
  subst he2
  obtain ⟨z, hzr, hzv⟩ := iI_of (Op.cmpValue (FP.dcmp (shrS σ) (shrS σ)) .l)
  refine lv_dstore (lv' := [(7, .double ((shrS σ))), (5, .double ((shrS σ))), (0, .ref (sc)), (1, .ref (x 0)), (2, .ref (b 0)), (3, .ref (ob 0)), (4, .int (iI (i)))]) hx hb dL_law_1660 hl (by decide) rfl (fun ls hl => ?_)
  refine lv_dload hx hb dL_law_1662 (lv_at hl 1 rfl) ?_
  refine lv_dload hx hb dL_law_1664 (lv_at hl 0 rfl) ?_
  refine wi_dcmp hx hb hzv dL_law_1666 ?_
  refine wi_if_eq (tgt := 1688) hx hb dL_law_1667 (by decide) (by omega) (fun c_1667 => ?_) (fun c_1667 => ?_)
  · skip
    refine lv_goto (tgt := 1705) hx hb dL_law_1688 (by decide) ?_
    refine W.widen (k := cells + 1) (n := slots + 6) (by omega) (by omega) ?_
    exact kk ⟨ln, σ, κ, sa, ss, φ, ρ, β, f⟩ u4 _ _ (LI.of (u := ⟨ln, σ, κ, sa, ss, φ, ρ, β, f⟩) (s := σ) (k := μ 0 0) (n := μ 0 1) (q := ss) (b := β 1) ⟨rfl, hκ, rfl, hln, rfl⟩ hM2 hG) hP hD hS ls (lv_sub hl [2, 3, 4, 5, 6] rfl)
  · skip
    refine lv_dload hx hb dL_law_1670 (lv_at hl 1 rfl) ?_
    refine lv_dload hx hb dL_law_1672 (lv_at hl 1 rfl) ?_
    refine wi_dcmp hx hb hzv dL_law_1674 ?_
    refine wi_if_eq (tgt := 1686) hx hb dL_law_1675 (by decide) (by omega) (fun c_1675 => ?_) (fun c_1675 => ?_)
    · skip
      exfalso; omega
    · skip
      refine lv_dload hx hb dL_law_1678 (lv_at hl 0 rfl) ?_
      refine lv_dload hx hb dL_law_1680 (lv_at hl 0 rfl) ?_
      refine wi_dcmp hx hb hzv dL_law_1682 ?_
      refine wi_if_ne (tgt := 1688) hx hb dL_law_1683 (by decide) (by omega) (fun c_1683 => ?_) (fun c_1683 => ?_)
      · skip
        refine lv_goto (tgt := 1705) hx hb dL_law_1688 (by decide) ?_
        refine W.widen (k := cells + 1) (n := slots + 6) (by omega) (by omega) ?_
        exact kk ⟨ln, σ, κ, sa, ss, φ, ρ, β, f⟩ u4 _ _ (LI.of (u := ⟨ln, σ, κ, sa, ss, φ, ρ, β, f⟩) (s := σ) (k := μ 0 0) (n := μ 0 1) (q := ss) (b := β 1) ⟨rfl, hκ, rfl, hln, rfl⟩ hM2 hG) hP hD hS ls (lv_sub hl [2, 3, 4, 5, 6] rfl)
      · skip
        exfalso; omega
set_option maxHeartbeats 4000000 in
set_option maxRecDepth 100000 in
theorem lc_digest (hl9 : l.stackTraces = false) (hx : p.tables.exec = Jvm.exec) (hb : c.code = cL_law) (hlocks : meth.locks = false) (hown : s.vm.findClass RL = some m.cls) (hml : c.maxLocals = 9) (hts : ∀ w ∈ wsL_law, w.before args s = true) (hK : va_K D vwCl [(cI, FieldType.int), (cO, FieldType.object "PromisedCounters$State"), (cC, FieldType.char), (cL, FieldType.long)] s) (hA : ∀ q : Nat, H0.size ≤ q → A q)
    (hgR : ∀ j : Int, R32 (g j)) (hi : 0 ≤ i ∧ i + 5 ≤ (n9 : Int)) (hn9 : n9 ≤ 2560) (hcells : cells + 1 ≤ 1139) (hslots : slots + 6 ≤ 14922) (hκ : κ 0 0 = μ 0 0) (hln : ln 0 0 = μ 0 1) (hM : RelM σ (μ 0 0) ss (μ 0 1) (β 1) μ) (hG : GI σ (μ 0 0) ss (μ 0 1) (β 1)) (hZ : ZP A s H0) (hX : va_X sc n9 (rI g) s H0) (hbl : sc < H0.size) (hsc : ¬ A sc) (hP : va_P D vwCl (fl [mnW x a sv o rd bu ln, stW cI a σ, svO cO sv (saF sa) κ, stW cI (sa 0) (ss 0), stW cI (sa 1) (ss 1), stW cI (sa 2) (ss 2), stW cI (sa 3) (ss 3), stW cI (sa 4) (ss 4), stW cI (sa 5) (ss 5), ocW cI o φ, rdW rd ρ, bfW cC bu β, ouW cL ob f, mdW cI b μ]) H) (hD : va_D A (fl [mnW x a sv o rd bu ln, stW cI a σ, svO cO sv (saF sa) κ, stW cI (sa 0) (ss 0), stW cI (sa 1) (ss 1), stW cI (sa 2) (ss 2), stW cI (sa 3) (ss 3), stW cI (sa 4) (ss 4), stW cI (sa 5) (ss 5), ocW cI o φ, rdW rd ρ, bfW cC bu β, ouW cL ob f, mdW cI b μ])) (hS : va_S A H0 H locs) (hl : lv_has ls 9 [(0, .ref (sc)), (1, .ref (x 0)), (2, .ref (b 0)), (3, .ref (ob 0)), (4, .int (iI (i)))])
    (kk : ∀ (u : LwS) (μ : Nat → Int → Int) (H : Heap) (locs : List Loc), LI u μ → va_P D vwCl (lawW cI cO cC cL x a sv o rd bu ob b u μ) H → va_D A (lawW cI cO cC cL x a sv o rd bu ob b u μ) → va_S A H0 H locs → ∀ ls : Array Slot, lv_has ls 9 [(0, .ref (sc)), (1, .ref (x 0)), (2, .ref (b 0)), (3, .ref (ob 0)), (4, .int (iI (i)))] → W p l e ({ frames := 13, cells := 1139, slots := 14922, locals := 478 } : Room) s m args below meth c H locs (cells + 1) (slots + 6) Q (F0 m 1705 ls [])) : W p l e ({ frames := 13, cells := 1139, slots := 14922, locals := 478 } : Room) s m args below meth c H locs cells slots Q (F0 m 1691 ls []) := by
  refine lv_aload_n hx hb dL_law_1691 rfl (lv_at hl 1 rfl) ?_
  have hPc := fl_P (S' := [mnW x a sv o rd bu ln, stW cI a σ, svO cO sv (saF sa) κ, ocW cI o φ, bfW cC bu β]) hP [0, 1, 2, 9, 11] rfl
  have hKc := hK.sub (tys' := [(cI, FieldType.int), (cO, FieldType.object "PromisedCounters$State"), (cC, FieldType.char)]) [0, 1, 2] rfl
  have hDc := fl_D (S' := [mnW x a sv o rd bu ln, stW cI a σ, svO cO sv (saF sa) κ, ocW cI o φ, bfW cC bu β]) hD [0, 1, 2, 9, 11] (by decide) rfl
  have hFc := fl_free (SC := [mnW x a sv o rd bu ln, stW cI a σ, svO cO sv (saF sa) κ, ocW cI o φ, bfW cC bu β]) hD hS hA [0, 1, 2, 9, 11] rfl
  refine va_calll (va_runV (As := []) (rest := []) ⟨hx, hb, hml, hown, hts⟩ (c_X4_digest l D cI cO cC cL H.size x a sv o rd bu ln σ κ φ β (saF sa) (by have h8 := hG.2.2.2.1; omega) (by rw [hln]; exact hG.2.2.2.2) (hG.1)) (cwV 0 hts gL_law_X4_digest rfl rfl rfl (by decide +kernel) ⟨Nat.le_of_ble_eq_true rfl, Nat.le_of_ble_eq_true rfl⟩) ⟨pcW_blind, va_recv hKc hPc (ci := 4) (q0 := 0) rfl rfl, pcW_of hPc hKc hDc⟩ rfl rfl hl.1 rfl (lv_room (Nat.le_of_ble_eq_true rfl)) dL_law_1692 ⟨(by show cells + 0 + 0 ≤ 1139; omega), (by show slots + 0 + 0 ≤ 14922; omega)⟩) hS (fun q _ h => hFc q h) hFc (fun r1 u3 t9 H1 locs ht9 hvm hcl2 hB hz1 hk1 hS => ?_)
  obtain ⟨hP1, hK1, hD1⟩ := hB
  rw [ht9] at hP1
  obtain ⟨hP, hD⟩ := fl_join (SR := [stW cI (sa 0) (ss 0), stW cI (sa 1) (ss 1), stW cI (sa 2) (ss 2), stW cI (sa 3) (ss 3), stW cI (sa 4) (ss 4), stW cI (sa 5) (ss 5), rdW rd ρ, ouW cL ob f, mdW cI b μ]) (S1 := [mnW x a sv o rd bu ln, stW cI a σ, svO cO sv (saF sa) κ, ocW cI o u3, bfW cC bu β]) hP hD [0, 1, 2, 9, 11] [3, 4, 5, 6, 7, 8, 10, 12, 13] rfl rfl (by decide) (by decide) hk1 hFc hP1 hD1
  generalize H1 = H at hP hS ⊢
  have hP := fl_P (S' := [mnW x a sv o rd bu ln, stW cI a σ, svO cO sv (saF sa) κ, stW cI (sa 0) (ss 0), stW cI (sa 1) (ss 1), stW cI (sa 2) (ss 2), stW cI (sa 3) (ss 3), stW cI (sa 4) (ss 4), stW cI (sa 5) (ss 5), ocW cI o u3, rdW rd ρ, bfW cC bu β, ouW cL ob f, mdW cI b μ]) hP [9, 10, 11, 0, 1, 2, 3, 4, 5, 12, 6, 13, 7, 8] rfl
  have hD := fl_D (S' := [mnW x a sv o rd bu ln, stW cI a σ, svO cO sv (saF sa) κ, stW cI (sa 0) (ss 0), stW cI (sa 1) (ss 1), stW cI (sa 2) (ss 2), stW cI (sa 3) (ss 3), stW cI (sa 4) (ss 4), stW cI (sa 5) (ss 5), ocW cI o u3, rdW rd ρ, bfW cC bu β, ouW cL ob f, mdW cI b μ]) hD [9, 10, 11, 0, 1, 2, 3, 4, 5, 12, 6, 13, 7, 8] (by decide) rfl
  refine lv_aload_n hx hb dL_law_1695 rfl (lv_at hl 2 rfl) ?_
  have hPc := fl_P (S' := [mdW cI b μ]) hP [13] rfl
  have hKc := hK.sub (tys' := [(cI, FieldType.int)]) [0] rfl
  have hDc := fl_D (S' := [mdW cI b μ]) hD [13] (by decide) rfl
  have hFc := fl_free (SC := [mdW cI b μ]) hD hS hA [13] rfl
  refine va_calll (va_runV (As := []) (rest := [.long (r1)]) ⟨hx, hb, hml, hown, hts⟩ (c_X5_digest l D cI cO cC cL H.size b μ σ ss (β 1) (hM) (hG)) (cwV 0 hts gL_law_X5_digest rfl rfl rfl (by decide +kernel) ⟨Nat.le_of_ble_eq_true rfl, Nat.le_of_ble_eq_true rfl⟩) ⟨pcW_blind, va_recv hKc hPc (ci := 5) (q0 := 0) rfl rfl, pcW_of hPc hKc hDc⟩ rfl rfl hl.1 rfl (lv_room (Nat.le_of_ble_eq_true rfl)) dL_law_1696 ⟨(by show cells + 0 + 0 ≤ 1139; omega), (by show slots + 0 + 0 ≤ 14922; omega)⟩) hS (fun q _ h => hFc q h) hFc (fun r4 u6 t9 H1 locs ht9 hvm hcl5 hB hz1 hk1 hS => ?_)
  obtain ⟨hP1, hK1, hD1⟩ := hB
  rw [ht9] at hP1
  obtain ⟨hP, hD⟩ := fl_join (SR := [mnW x a sv o rd bu ln, stW cI a σ, svO cO sv (saF sa) κ, stW cI (sa 0) (ss 0), stW cI (sa 1) (ss 1), stW cI (sa 2) (ss 2), stW cI (sa 3) (ss 3), stW cI (sa 4) (ss 4), stW cI (sa 5) (ss 5), ocW cI o u3, rdW rd ρ, bfW cC bu β, ouW cL ob f]) (S1 := [mdW cI b u6]) hP hD [13] [0, 1, 2, 3, 4, 5, 6, 7, 8, 9, 10, 11, 12] rfl rfl (by decide) (by decide) hk1 hFc hP1 hD1
  generalize H1 = H at hP hS ⊢
  have hP := fl_P (S' := [mnW x a sv o rd bu ln, stW cI a σ, svO cO sv (saF sa) κ, stW cI (sa 0) (ss 0), stW cI (sa 1) (ss 1), stW cI (sa 2) (ss 2), stW cI (sa 3) (ss 3), stW cI (sa 4) (ss 4), stW cI (sa 5) (ss 5), ocW cI o u3, rdW rd ρ, bfW cC bu β, ouW cL ob f, mdW cI b u6]) hP [0, 1, 2, 3, 4, 5, 6, 7, 8, 9, 10, 11, 12, 13] rfl
  have hD := fl_D (S' := [mnW x a sv o rd bu ln, stW cI a σ, svO cO sv (saF sa) κ, stW cI (sa 0) (ss 0), stW cI (sa 1) (ss 1), stW cI (sa 2) (ss 2), stW cI (sa 3) (ss 3), stW cI (sa 4) (ss 4), stW cI (sa 5) (ss 5), ocW cI o u3, rdW rd ρ, bfW cC bu β, ouW cL ob f, mdW cI b u6]) hD [0, 1, 2, 3, 4, 5, 6, 7, 8, 9, 10, 11, 12, 13] (by decide) rfl
  rw [hκ, hln] at hcl2
  refine wi_lcmp0 hx hb (hcl2.trans hcl5.1.symm) dL_law_1699 ?_
  refine wi_if_eq (tgt := 1705) hx hb dL_law_1700 (by decide) (by omega) (fun c_1700 => ?_) (fun c_1700 => ?_)
  · skip
    refine W.widen (k := cells + 1) (n := slots + 6) (by omega) (by omega) ?_
    exact kk ⟨ln, σ, κ, sa, ss, u3, ρ, β, f⟩ u6 _ _ (LI.of (u := ⟨ln, σ, κ, sa, ss, u3, ρ, β, f⟩) (s := σ) (k := μ 0 0) (n := μ 0 1) (q := ss) (b := β 1) ⟨rfl, hκ, rfl, hln, rfl⟩ hcl5.2 hG) hP hD hS ls (lv_sub hl [0, 1, 2, 3, 4] rfl)
  · skip
    exfalso; omega
end LAWC
