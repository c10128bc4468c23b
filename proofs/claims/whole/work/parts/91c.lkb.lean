set_option maxHeartbeats 4000000 in
set_option maxRecDepth 100000 in
theorem lk_undo (l : Launch) (hl9 : l.stackTraces = false) (D : va_G) (cI cO cC cL : ClassId) (sz : Nat) (x a sv o rd bu ob : Nat → Nat) (ln σ κ φ ρ β : Nat → Int → Int) (sa : Nat → Nat → Nat) (ss : Nat → Nat → Int → Int) (f : Nat → Int64) (hG : GI σ (κ 0 0) ss (ln 0 0) (β 1)) : Met l yL_undo wsL_undo ({ frames := 7, cells := 1, slots := 6, locals := 140 } : Room) (pcWX D [(cI, FieldType.int), (cO, FieldType.object "PromisedCounters$State"), (cC, FieldType.char), (cL, FieldType.long)] [.ref (x 0), .ref (ob 0)] (fl [mnW x a sv o rd bu ln, stW cI a σ, svO cO sv (saF sa) κ, stW cI (sa 0) (ss 0), stW cI (sa 1) (ss 1), stW cI (sa 2) (ss 2), stW cI (sa 3) (ss 3), stW cI (sa 4) (ss 4), stW cI (sa 5) (ss 5), ocW cI o φ, rdW rd ρ, bfW cC bu β, ouW cL ob f]) sz) (wq_i (fun (r : Int) (u : LwS) => OPL (cd1 (κ 0 0 ≠ 0)) r (κ 0 0 - 1) (LwS.f u) (LwQ u σ (κ 0 0) ss (ln 0 0) (β 1)) (LwQ u (ss (κ 0 0 - 1).toNat) (κ 0 0 - 1) ss (ln 0 0) (β 1))) (fun (u : LwS) => (bW D [(cI, FieldType.int), (cO, FieldType.object "PromisedCounters$State"), (cC, FieldType.char), (cL, FieldType.long)] (fl [mnW x a sv o rd bu (LwS.ln u), stW cI a (LwS.σ u), svO cO sv (saF (LwS.sa u)) (LwS.κ u), stW cI (LwS.sa u 0) (LwS.ss u 0), stW cI (LwS.sa u 1) (LwS.ss u 1), stW cI (LwS.sa u 2) (LwS.ss u 2), stW cI (LwS.sa u 3) (LwS.ss u 3), stW cI (LwS.sa u 4) (LwS.ss u 4), stW cI (LwS.sa u 5) (LwS.ss u 5), ocW cI o (LwS.φ u), rdW rd (LwS.ρ u), bfW cC bu (LwS.β u), ouW cL ob (LwS.f u)]) (va_A (fl [mnW x a sv o rd bu ln, stW cI a σ, svO cO sv (saF sa) κ, stW cI (sa 0) (ss 0), stW cI (sa 1) (ss 1), stW cI (sa 2) (ss 2), stW cI (sa 3) (ss 3), stW cI (sa 4) (ss 4), stW cI (sa 5) (ss 5), ocW cI o φ, rdW rd ρ, bfW cC bu β, ouW cL ob f]) sz))) (va_A (fl [mnW x a sv o rd bu ln, stW cI a σ, svO cO sv (saF sa) κ, stW cI (sa 0) (ss 0), stW cI (sa 1) (ss 1), stW cI (sa 2) (ss 2), stW cI (sa 3) (ss 3), stW cI (sa 4) (ss 4), stW cI (sa 5) (ss 5), ocW cI o φ, rdW rd ρ, bfW cC bu β, ouW cL ob f]) sz)) 1 6 (va_A (fl [mnW x a sv o rd bu ln, stW cI a σ, svO cO sv (saF sa) κ, stW cI (sa 0) (ss 0), stW cI (sa 1) (ss 1), stW cI (sa 2) (ss 2), stW cI (sa 3) (ss 3), stW cI (sa 4) (ss 4), stW cI (sa 5) (ss 5), ocW cI o φ, rdW rd ρ, bfW cC bu β, ouW cL ob f]) sz) := by
  refine metH ([(0, 8, 11, 17)]) (cc := cL_undo) (maxL := 3) (ret := (some .int)) (by decide) rfl ?_
  intro p9 e9 s m args9 below9 meth9 c9 s₁ B hml htab hv
  obtain ⟨rfl, hsz, hP, hK, hD0, hZ⟩ := hv
  have hx := B.exec
  have hb := B.bytes
  have hr := B.returns
  have hts := atoms_spec (ws := wsL_undo) B.pre
  have hown : s.vm.findClass RL = some m.cls := findClass_of_methodNamed B.named
  have hlocks := B.notSynchronized
  subst hsz
  have hD := hD0.self (sz := s.heap.size)
  generalize hAe : va_A (fl [mnW x a sv o rd bu ln, stW cI a σ, svO cO sv (saF sa) κ, stW cI (sa 0) (ss 0), stW cI (sa 1) (ss 1), stW cI (sa 2) (ss 2), stW cI (sa 3) (ss 3), stW cI (sa 4) (ss 4), stW cI (sa 5) (ss 5), ocW cI o φ, rdW rd ρ, bfW cC bu β, ouW cL ob f]) s.heap.size = A at hD hZ ⊢
  have hA : ∀ q : Nat, s.heap.size ≤ q → A q := fun q h => by rw [← hAe]; exact Or.inr h
  have hS : va_S A s.heap s.heap [] := va_S.rf
  have hP : va_P D vwCl (fl [mnW x a sv o rd bu ln, stW cI a σ, svO cO sv (saF sa) κ, stW cI (sa 0) (ss 0), stW cI (sa 1) (ss 1), stW cI (sa 2) (ss 2), stW cI (sa 3) (ss 3), stW cI (sa 4) (ss 4), stW cI (sa 5) (ss 5), ocW cI o φ, rdW rd ρ, bfW cC bu β, ouW cL ob f]) s.heap := hP
  have hl := lv_entry ([.ref (x 0), .ref (ob 0)]) (n := 3) (Nat.le_of_ble_eq_true rfl)
  rw [lg_entry_eq]
  generalize (lg_sl ([.ref (x 0), .ref (ob 0)]) ++ List.replicate (3 - (lg_sl ([.ref (x 0), .ref (ob 0)])).length) Slot.unset).toArray = ls at hl ⊢
  have hl : lv_has ls 3 [(0, .ref (x 0)), (1, .ref (ob 0))] := hl
  have hI := hG.1
  have hkk := hG.2.1
  have hlnb := hG.2.2.2.1
  have hbb := hG.2.2.2.2
  have hnn := hI.n
  have htt := hI.t
  refine lv_aload_n hx hb dL_undo_0 rfl (lv_at hl 1 rfl) ?_
  refine wi_iconst hx hb dL_undo_1 ?_
  refine lv_aload_n hx hb dL_undo_2 rfl (lv_at hl 0 rfl) ?_
  rcases (cd1_c : (cd1 (κ 0 0 ≠ 0) = 0 ∧ _) ∨ _) with ⟨h9, hok0⟩ | h9
  · skip
    have hPc := fl_P (S' := [mnW x a sv o rd bu ln, stW cI a σ, svO cO sv (saF sa) κ, stW cI (sa 0) (ss 0), stW cI (sa 1) (ss 1), stW cI (sa 2) (ss 2), stW cI (sa 3) (ss 3), stW cI (sa 4) (ss 4), stW cI (sa 5) (ss 5)]) hP [0, 1, 2, 3, 4, 5, 6, 7, 8] rfl
    have hKc := hK.sub (tys' := [(cI, FieldType.int), (cO, FieldType.object "PromisedCounters$State"), (cC, FieldType.char)]) [0, 1, 2] rfl
    have hDc := fl_D (S' := [mnW x a sv o rd bu ln, stW cI a σ, svO cO sv (saF sa) κ, stW cI (sa 0) (ss 0), stW cI (sa 1) (ss 1), stW cI (sa 2) (ss 2), stW cI (sa 3) (ss 3), stW cI (sa 4) (ss 4), stW cI (sa 5) (ss 5)]) hD [0, 1, 2, 3, 4, 5, 6, 7, 8] (by decide) rfl
    have hFc := fl_free (SC := [mnW x a sv o rd bu ln, stW cI a σ, svO cO sv (saF sa) κ, stW cI (sa 0) (ss 0), stW cI (sa 1) (ss 1), stW cI (sa 2) (ss 2), stW cI (sa 3) (ss 3), stW cI (sa 4) (ss 4), stW cI (sa 5) (ss 5)]) hD hS hA [0, 1, 2, 3, 4, 5, 6, 7, 8] rfl
    refine wq_calli (va_runV (As := []) (rest := [.int (iI (0)), .ref (ob 0)]) ⟨hx, hb, hml, hown, hts⟩ (c_X4_undo l D cI cO cC cL s.heap.size x a sv o rd bu ln σ κ sa ss (by first | assumption | omega)) (cwV 0 hts gL_undo_X4_undo rfl rfl rfl (by decide +kernel) ⟨Nat.le_of_ble_eq_true rfl, Nat.le_of_ble_eq_true rfl⟩) ⟨pcW_blind, va_recv hKc hPc (ci := 4) (q0 := 0) rfl rfl, pcW_of hPc hKc hDc⟩ rfl rfl hl.1 rfl (lv_room (Nat.le_of_ble_eq_true rfl)) dL_undo_3 ⟨(Nat.zero_le _), (Nat.zero_le _)⟩) hS (fun q _ h => hFc q h) hFc (fun r1 u3 t9 H1 locs ht9 hvm hcl2 hB hz1 hk1 hS => ?_)
    obtain ⟨hP1, hK1, hD1⟩ := hB
    rw [ht9] at hP1
    obtain ⟨hP, hD⟩ := fl_join (SR := [ocW cI o φ, rdW rd ρ, bfW cC bu β, ouW cL ob f]) (S1 := [mnW x a sv o rd bu ln, stW cI a (ss (κ 0 0 - 1).toNat), svO cO sv (saF sa) (sU κ 0 0 (κ 0 0 - 1)), stW cI (sa 0) (ss 0), stW cI (sa 1) (ss 1), stW cI (sa 2) (ss 2), stW cI (sa 3) (ss 3), stW cI (sa 4) (ss 4), stW cI (sa 5) (ss 5)]) hP hD [0, 1, 2, 3, 4, 5, 6, 7, 8] [9, 10, 11, 12] rfl rfl (by decide) (by decide) hk1 hFc hP1 hD1
    generalize H1 = H at hP hS ⊢
    have hP := fl_P (S' := [mnW x a sv o rd bu ln, stW cI a (ss (κ 0 0 - 1).toNat), svO cO sv (saF sa) (sU κ 0 0 (κ 0 0 - 1)), stW cI (sa 0) (ss 0), stW cI (sa 1) (ss 1), stW cI (sa 2) (ss 2), stW cI (sa 3) (ss 3), stW cI (sa 4) (ss 4), stW cI (sa 5) (ss 5), ocW cI o φ, rdW rd ρ, bfW cC bu β, ouW cL ob f]) hP [4, 5, 6, 7, 8, 9, 10, 11, 12, 0, 1, 2, 3] rfl
    have hD := fl_D (S' := [mnW x a sv o rd bu ln, stW cI a (ss (κ 0 0 - 1).toNat), svO cO sv (saF sa) (sU κ 0 0 (κ 0 0 - 1)), stW cI (sa 0) (ss 0), stW cI (sa 1) (ss 1), stW cI (sa 2) (ss 2), stW cI (sa 3) (ss 3), stW cI (sa 4) (ss 4), stW cI (sa 5) (ss 5), ocW cI o φ, rdW rd ρ, bfW cC bu β, ouW cL ob f]) hD [4, 5, 6, 7, 8, 9, 10, 11, 12, 0, 1, 2, 3] (by decide) rfl
    refine lv_i2l (v := iL (r1)) hx hb dL_undo_6 rfl ?_
    refine wi_last hx hb hK hP hD hS 98 3 rfl rfl dL_undo_7 (fun H locs hP hD hS => ?_)
    have hP : va_P D vwCl (fl [mnW x a sv o rd bu ln, stW cI a (ss (κ 0 0 - 1).toNat), svO cO sv (saF sa) (sU κ 0 0 (κ 0 0 - 1)), stW cI (sa 0) (ss 0), stW cI (sa 1) (ss 1), stW cI (sa 2) (ss 2), stW cI (sa 3) (ss 3), stW cI (sa 4) (ss 4), stW cI (sa 5) (ss 5), ocW cI o φ, rdW rd ρ, bfW cC bu β, ouW cL ob (fun _ => (iL (r1)))]) H := hP
    have hD : va_D A (fl [mnW x a sv o rd bu ln, stW cI a (ss (κ 0 0 - 1).toNat), svO cO sv (saF sa) (sU κ 0 0 (κ 0 0 - 1)), stW cI (sa 0) (ss 0), stW cI (sa 1) (ss 1), stW cI (sa 2) (ss 2), stW cI (sa 3) (ss 3), stW cI (sa 4) (ss 4), stW cI (sa 5) (ss 5), ocW cI o φ, rdW rd ρ, bfW cC bu β, ouW cL ob (fun _ => (iL (r1)))]) := hD
    refine lv_goto (tgt := 14) hx hb dL_undo_8 (by decide) ?_
    refine wi_iconst hx hb dL_undo_14 ?_
    refine W.widen (k := 1) (n := 6) (by decide) (by decide) ?_
    exact W.iret (v := iI (0)) hx hb hr (fun t9 ht9 hW9 => ⟨⟨(0), ⟨ln, (ss (κ 0 0 - 1).toNat), (sU κ 0 0 (κ 0 0 - 1)), sa, ss, φ, ρ, β, (fun _ => (iL (r1)))⟩, rfl, (OPL.good h9 rfl (congrArg (fun z : Int => fun _ : Nat => iL z) hcl2) ⟨rfl, rfl, rfl, rfl, rfl⟩), ⟨by rw [ht9]; exact hP, va_K.moved hW9.alike hK, hD⟩⟩, hS.F ht9⟩) hS.2.2 dL_undo_15 hlocks
  · skip
    have cx9 := x_X4_undo l hl9 D cI cO cC cL x a sv o rd bu ln κ sa (by first | assumption | omega) (by rw [h9]; decide)
    rw [h9, show xnC 1 = "java/lang/IllegalStateException" from rfl] at cx9
    have hPc := fl_P (S' := [mnW x a sv o rd bu ln, svO cO sv (saF sa) κ]) hP [0, 2] rfl
    have hKc := hK.sub (tys' := [(cI, FieldType.int), (cO, FieldType.object "PromisedCounters$State"), (cC, FieldType.char)]) [0, 1, 2] rfl
    have hcl17 := hts (Cond.classLink RL 17 "java/lang/IllegalStateException") (by decide +kernel)
    have hcst : (Cond.castable "java/lang/IllegalStateException" "java/lang/IllegalStateException").before ([.ref (x 0), .ref (ob 0)] : List Value).toArray s = true := va_Nw.use (ZB_tabs _ (by decide)) (hZ.2.2.1 (Cond.castable "java/lang/IllegalStateException" "java/lang/IllegalStateException") (by decide))
    refine catchX (vx_runV (As := []) (rest := [.int (iI (0)), .ref (ob 0)]) ⟨hx, hb, hml, hown, hts⟩ cx9 (cwV 0 hts gL_undo_X4_undo rfl rfl rfl (by decide +kernel) ⟨Nat.le_of_ble_eq_true rfl, Nat.le_of_ble_eq_true rfl⟩) ⟨pcX_blind, va_recv hKc hPc (ci := 4) (q0 := 0) rfl rfl, pcX_of hPc hKc hZ⟩ rfl rfl hl.1 rfl (lv_room (Nat.le_of_ble_eq_true rfl)) dL_undo_3 ⟨Nat.le_of_ble_eq_true rfl, Nat.le_of_ble_eq_true rfl⟩) hP hS hown [] ⟨0, 8, 11, 17⟩ [] htab (fun z hz => nomatch hz) (by decide) (by decide) hcl17 hcst (fun H locs xq hP hS => ?_)
    refine lv_astore_n (lv' := [(2, .ref (xq)), (0, .ref (x 0)), (1, .ref (ob 0))]) hx hb dL_undo_11 rfl hl (by decide) rfl (fun ls hl => ?_)
    refine wi_iconst hx hb dL_undo_12 ?_
    refine W.widen (k := 1) (n := 6) (by decide) (by decide) ?_
    exact W.iret (v := iI (1)) hx hb hr (fun t9 ht9 hW9 => ⟨⟨(1), ⟨ln, σ, κ, sa, ss, φ, ρ, β, f⟩, rfl, (OPL.bad h9 (by decide) rfl ⟨rfl, rfl, rfl, rfl, rfl⟩), ⟨by rw [ht9]; exact hP, va_K.moved hW9.alike hK, hD⟩⟩, hS.F ht9⟩) hS.2.2 dL_undo_13 hlocks
set_option maxHeartbeats 4000000 in
set_option maxRecDepth 100000 in
theorem lk_counter (l : Launch) (hl9 : l.stackTraces = false) (D : va_G) (cI cO cC cL : ClassId) (sz : Nat) (x a sv o rd bu ob : Nat → Nat) (ln σ κ φ ρ β : Nat → Int → Int) (sa : Nat → Nat → Nat) (ss : Nat → Nat → Int → Int) (f : Nat → Int64) (c w : Int) (hc : R32 c) (hw : R32 w) (hG : GI σ (κ 0 0) ss (ln 0 0) (β 1)) : Met l yL_counter wsL_counter ({ frames := 8, cells := 1, slots := 6, locals := 164 } : Room) (pcWX D [(cI, FieldType.int), (cO, FieldType.object "PromisedCounters$State"), (cC, FieldType.char), (cL, FieldType.long)] [.ref (x 0), .int (iI (c)), .int (iI (w)), .ref (ob 0)] (fl [mnW x a sv o rd bu ln, stW cI a σ, svO cO sv (saF sa) κ, stW cI (sa 0) (ss 0), stW cI (sa 1) (ss 1), stW cI (sa 2) (ss 2), stW cI (sa 3) (ss 3), stW cI (sa 4) (ss 4), stW cI (sa 5) (ss 5), ocW cI o φ, rdW rd ρ, bfW cC bu β, ouW cL ob f]) sz) (wq_i (fun (r : Int) (u : LwS) => OPL (cd2 (0 ≤ c ∧ c ≤ 3) (0 ≤ w ∧ w ≤ 9)) r (ctrS σ c w) (LwS.f u) (LwQ u σ (κ 0 0) ss (ln 0 0) (β 1)) (LwQ u σ (κ 0 0) ss (ln 0 0) (β 1))) (fun (u : LwS) => (bW D [(cI, FieldType.int), (cO, FieldType.object "PromisedCounters$State"), (cC, FieldType.char), (cL, FieldType.long)] (fl [mnW x a sv o rd bu (LwS.ln u), stW cI a (LwS.σ u), svO cO sv (saF (LwS.sa u)) (LwS.κ u), stW cI (LwS.sa u 0) (LwS.ss u 0), stW cI (LwS.sa u 1) (LwS.ss u 1), stW cI (LwS.sa u 2) (LwS.ss u 2), stW cI (LwS.sa u 3) (LwS.ss u 3), stW cI (LwS.sa u 4) (LwS.ss u 4), stW cI (LwS.sa u 5) (LwS.ss u 5), ocW cI o (LwS.φ u), rdW rd (LwS.ρ u), bfW cC bu (LwS.β u), ouW cL ob (LwS.f u)]) (va_A (fl [mnW x a sv o rd bu ln, stW cI a σ, svO cO sv (saF sa) κ, stW cI (sa 0) (ss 0), stW cI (sa 1) (ss 1), stW cI (sa 2) (ss 2), stW cI (sa 3) (ss 3), stW cI (sa 4) (ss 4), stW cI (sa 5) (ss 5), ocW cI o φ, rdW rd ρ, bfW cC bu β, ouW cL ob f]) sz))) (va_A (fl [mnW x a sv o rd bu ln, stW cI a σ, svO cO sv (saF sa) κ, stW cI (sa 0) (ss 0), stW cI (sa 1) (ss 1), stW cI (sa 2) (ss 2), stW cI (sa 3) (ss 3), stW cI (sa 4) (ss 4), stW cI (sa 5) (ss 5), ocW cI o φ, rdW rd ρ, bfW cC bu β, ouW cL ob f]) sz)) 1 6 (va_A (fl [mnW x a sv o rd bu ln, stW cI a σ, svO cO sv (saF sa) κ, stW cI (sa 0) (ss 0), stW cI (sa 1) (ss 1), stW cI (sa 2) (ss 2), stW cI (sa 3) (ss 3), stW cI (sa 4) (ss 4), stW cI (sa 5) (ss 5), ocW cI o φ, rdW rd ρ, bfW cC bu β, ouW cL ob f]) sz) := by
  refine metH ([(0, 10, 13, 13), (0, 10, 17, 15)]) (cc := cL_counter) (maxL := 5) (ret := (some .int)) (by decide) rfl ?_
  intro p9 e9 s m args9 below9 meth9 c9 s₁ B hml htab hv
  obtain ⟨rfl, hsz, hP, hK, hD0, hZ⟩ := hv
  have hx := B.exec
  have hb := B.bytes
  have hr := B.returns
  have hts := atoms_spec (ws := wsL_counter) B.pre
  have hown : s.vm.findClass RL = some m.cls := findClass_of_methodNamed B.named
  have hlocks := B.notSynchronized
  subst hsz
  have hD := hD0.self (sz := s.heap.size)
  generalize hAe : va_A (fl [mnW x a sv o rd bu ln, stW cI a σ, svO cO sv (saF sa) κ, stW cI (sa 0) (ss 0), stW cI (sa 1) (ss 1), stW cI (sa 2) (ss 2), stW cI (sa 3) (ss 3), stW cI (sa 4) (ss 4), stW cI (sa 5) (ss 5), ocW cI o φ, rdW rd ρ, bfW cC bu β, ouW cL ob f]) s.heap.size = A at hD hZ ⊢
  have hA : ∀ q : Nat, s.heap.size ≤ q → A q := fun q h => by rw [← hAe]; exact Or.inr h
  have hS : va_S A s.heap s.heap [] := va_S.rf
  have hP : va_P D vwCl (fl [mnW x a sv o rd bu ln, stW cI a σ, svO cO sv (saF sa) κ, stW cI (sa 0) (ss 0), stW cI (sa 1) (ss 1), stW cI (sa 2) (ss 2), stW cI (sa 3) (ss 3), stW cI (sa 4) (ss 4), stW cI (sa 5) (ss 5), ocW cI o φ, rdW rd ρ, bfW cC bu β, ouW cL ob f]) s.heap := hP
  have hl := lv_entry ([.ref (x 0), .int (iI (c)), .int (iI (w)), .ref (ob 0)]) (n := 5) (Nat.le_of_ble_eq_true rfl)
  rw [lg_entry_eq]
  generalize (lg_sl ([.ref (x 0), .int (iI (c)), .int (iI (w)), .ref (ob 0)]) ++ List.replicate (5 - (lg_sl ([.ref (x 0), .int (iI (c)), .int (iI (w)), .ref (ob 0)])).length) Slot.unset).toArray = ls at hl ⊢
  have hl : lv_has ls 5 [(0, .ref (x 0)), (1, .int (iI (c))), (2, .int (iI (w))), (3, .ref (ob 0))] := hl
  have hI := hG.1
  have hkk := hG.2.1
  have hlnb := hG.2.2.2.1
  have hbb := hG.2.2.2.2
  have hnn := hI.n
  have htt := hI.t
  refine lv_aload_n hx hb dL_counter_0 rfl (lv_at hl 3 rfl) ?_
  refine wi_iconst hx hb dL_counter_1 ?_
  refine lv_aload_n hx hb dL_counter_2 rfl (lv_at hl 0 rfl) ?_
  refine lv_iload_n hx hb dL_counter_3 rfl (lv_at hl 1 rfl) ?_
  refine lv_iload_n hx hb dL_counter_4 rfl (lv_at hl 2 rfl) ?_
  rcases (cd2_c : (cd2 (0 ≤ c ∧ c ≤ 3) (0 ≤ w ∧ w ≤ 9) = 0 ∧ _) ∨ _) with ⟨h9, hok0, hok1⟩ | h9 | h9
  · skip
    have hPc := fl_P (S' := [mnW x a sv o rd bu ln, stW cI a σ, ocW cI o φ]) hP [0, 1, 9] rfl
    have hKc := hK.sub (tys' := [(cI, FieldType.int), (cO, FieldType.object "PromisedCounters$State"), (cC, FieldType.char)]) [0, 1, 2] rfl
    have hDc := fl_D (S' := [mnW x a sv o rd bu ln, stW cI a σ, ocW cI o φ]) hD [0, 1, 9] (by decide) rfl
    have hFc := fl_free (SC := [mnW x a sv o rd bu ln, stW cI a σ, ocW cI o φ]) hD hS hA [0, 1, 9] rfl
    refine wq_calli (va_runV (As := [.int (iI (c)), .int (iI (w))]) (rest := [.int (iI (0)), .ref (ob 0)]) ⟨hx, hb, hml, hown, hts⟩ (c_X4_counter l D cI cO cC cL s.heap.size x a sv o rd bu ln σ φ (c) (w) (by first | assumption | omega) (by first | assumption | omega) (by first | assumption | omega)) (cwV 2 hts gL_counter_X4_counter rfl rfl rfl (by decide +kernel) ⟨Nat.le_of_ble_eq_true rfl, Nat.le_of_ble_eq_true rfl⟩) ⟨pcW_blind, va_recv hKc hPc (ci := 4) (q0 := 0) rfl rfl, pcW_of hPc hKc hDc⟩ rfl rfl hl.1 rfl (lv_room (Nat.le_of_ble_eq_true rfl)) dL_counter_5 ⟨(Nat.zero_le _), (Nat.zero_le _)⟩) hS (fun q _ h => hFc q h) hFc (fun r1 u3 t9 H1 locs ht9 hvm hcl2 hB hz1 hk1 hS => ?_)
    obtain ⟨hP1, hK1, hD1⟩ := hB
    rw [ht9] at hP1
    obtain ⟨hP, hD⟩ := fl_join (SR := [svO cO sv (saF sa) κ, stW cI (sa 0) (ss 0), stW cI (sa 1) (ss 1), stW cI (sa 2) (ss 2), stW cI (sa 3) (ss 3), stW cI (sa 4) (ss 4), stW cI (sa 5) (ss 5), rdW rd ρ, bfW cC bu β, ouW cL ob f]) (S1 := [mnW x a sv o rd bu ln, stW cI a σ, ocW cI o u3]) hP hD [0, 1, 9] [2, 3, 4, 5, 6, 7, 8, 10, 11, 12] rfl rfl (by decide) (by decide) hk1 hFc hP1 hD1
    generalize H1 = H at hP hS ⊢
    have hP := fl_P (S' := [mnW x a sv o rd bu ln, stW cI a σ, svO cO sv (saF sa) κ, stW cI (sa 0) (ss 0), stW cI (sa 1) (ss 1), stW cI (sa 2) (ss 2), stW cI (sa 3) (ss 3), stW cI (sa 4) (ss 4), stW cI (sa 5) (ss 5), ocW cI o u3, rdW rd ρ, bfW cC bu β, ouW cL ob f]) hP [10, 11, 0, 1, 2, 3, 4, 5, 6, 12, 7, 8, 9] rfl
    have hD := fl_D (S' := [mnW x a sv o rd bu ln, stW cI a σ, svO cO sv (saF sa) κ, stW cI (sa 0) (ss 0), stW cI (sa 1) (ss 1), stW cI (sa 2) (ss 2), stW cI (sa 3) (ss 3), stW cI (sa 4) (ss 4), stW cI (sa 5) (ss 5), ocW cI o u3, rdW rd ρ, bfW cC bu β, ouW cL ob f]) hD [10, 11, 0, 1, 2, 3, 4, 5, 6, 12, 7, 8, 9] (by decide) rfl
    refine lv_i2l (v := iL (r1)) hx hb dL_counter_8 rfl ?_
    refine wi_last hx hb hK hP hD hS 98 3 rfl rfl dL_counter_9 (fun H locs hP hD hS => ?_)
    have hP : va_P D vwCl (fl [mnW x a sv o rd bu ln, stW cI a σ, svO cO sv (saF sa) κ, stW cI (sa 0) (ss 0), stW cI (sa 1) (ss 1), stW cI (sa 2) (ss 2), stW cI (sa 3) (ss 3), stW cI (sa 4) (ss 4), stW cI (sa 5) (ss 5), ocW cI o u3, rdW rd ρ, bfW cC bu β, ouW cL ob (fun _ => (iL (r1)))]) H := hP
    have hD : va_D A (fl [mnW x a sv o rd bu ln, stW cI a σ, svO cO sv (saF sa) κ, stW cI (sa 0) (ss 0), stW cI (sa 1) (ss 1), stW cI (sa 2) (ss 2), stW cI (sa 3) (ss 3), stW cI (sa 4) (ss 4), stW cI (sa 5) (ss 5), ocW cI o u3, rdW rd ρ, bfW cC bu β, ouW cL ob (fun _ => (iL (r1)))]) := hD
    refine lv_goto (tgt := 21) hx hb dL_counter_10 (by decide) ?_
    refine wi_iconst hx hb dL_counter_21 ?_
    refine W.widen (k := 1) (n := 6) (by decide) (by decide) ?_
    exact W.iret (v := iI (0)) hx hb hr (fun t9 ht9 hW9 => ⟨⟨(0), ⟨ln, σ, κ, sa, ss, u3, ρ, β, (fun _ => (iL (r1)))⟩, rfl, (OPL.good h9 rfl (congrArg (fun z : Int => fun _ : Nat => iL z) hcl2) ⟨rfl, rfl, rfl, rfl, rfl⟩), ⟨by rw [ht9]; exact hP, va_K.moved hW9.alike hK, hD⟩⟩, hS.F ht9⟩) hS.2.2 dL_counter_22 hlocks
  · skip
    have cx9 := x_X4_counter l hl9 D cI cO cC cL x a sv o rd bu ln σ c w (by first | assumption | omega) (by first | assumption | omega) hI (by rw [h9]; decide)
    rw [h9, show xnA 1 = "java/lang/IndexOutOfBoundsException" from rfl] at cx9
    have hPc := fl_P (S' := [mnW x a sv o rd bu ln, stW cI a σ]) hP [0, 1] rfl
    have hKc := hK.sub (tys' := [(cI, FieldType.int), (cO, FieldType.object "PromisedCounters$State"), (cC, FieldType.char)]) [0, 1, 2] rfl
    have hcl13 := hts (Cond.classLink RL 13 "java/lang/IndexOutOfBoundsException") (by decide +kernel)
    have hcst : (Cond.castable "java/lang/IndexOutOfBoundsException" "java/lang/IndexOutOfBoundsException").before ([.ref (x 0), .int (iI (c)), .int (iI (w)), .ref (ob 0)] : List Value).toArray s = true := va_Nw.use (ZB_tabs _ (by decide)) (hZ.2.2.1 (Cond.castable "java/lang/IndexOutOfBoundsException" "java/lang/IndexOutOfBoundsException") (by decide))
    refine catchX (vx_runV (As := [.int (iI (c)), .int (iI (w))]) (rest := [.int (iI (0)), .ref (ob 0)]) ⟨hx, hb, hml, hown, hts⟩ cx9 (cwV 2 hts gL_counter_X4_counter rfl rfl rfl (by decide +kernel) ⟨Nat.le_of_ble_eq_true rfl, Nat.le_of_ble_eq_true rfl⟩) ⟨pcX_blind, va_recv hKc hPc (ci := 4) (q0 := 0) rfl rfl, pcX_of hPc hKc hZ⟩ rfl rfl hl.1 rfl (lv_room (Nat.le_of_ble_eq_true rfl)) dL_counter_5 ⟨Nat.le_of_ble_eq_true rfl, Nat.le_of_ble_eq_true rfl⟩) hP hS hown [] ⟨0, 10, 13, 13⟩ [⟨0, 10, 17, 15⟩] htab (fun z hz => nomatch hz) (by decide) (by decide) hcl13 hcst (fun H locs xq hP hS => ?_)
    refine lv_astore (lv' := [(4, .ref (xq)), (0, .ref (x 0)), (1, .int (iI (c))), (2, .int (iI (w))), (3, .ref (ob 0))]) hx hb dL_counter_13 hl (by decide) rfl (fun ls hl => ?_)
    refine wi_iconst hx hb dL_counter_15 ?_
    refine W.widen (k := 1) (n := 6) (by decide) (by decide) ?_
    exact W.iret (v := iI (1)) hx hb hr (fun t9 ht9 hW9 => ⟨⟨(1), ⟨ln, σ, κ, sa, ss, φ, ρ, β, f⟩, rfl, (OPL.bad h9 (by decide) rfl ⟨rfl, rfl, rfl, rfl, rfl⟩), ⟨by rw [ht9]; exact hP, va_K.moved hW9.alike hK, hD⟩⟩, hS.F ht9⟩) hS.2.2 dL_counter_16 hlocks
  · skip
    have cx9 := x_X4_counter l hl9 D cI cO cC cL x a sv o rd bu ln σ c w (by first | assumption | omega) (by first | assumption | omega) hI (by rw [h9]; decide)
    rw [h9, show xnA 2 = "java/lang/IllegalArgumentException" from rfl] at cx9
    have hPc := fl_P (S' := [mnW x a sv o rd bu ln, stW cI a σ]) hP [0, 1] rfl
    have hKc := hK.sub (tys' := [(cI, FieldType.int), (cO, FieldType.object "PromisedCounters$State"), (cC, FieldType.char)]) [0, 1, 2] rfl
    have hcl13 := hts (Cond.classLink RL 13 "java/lang/IndexOutOfBoundsException") (by decide +kernel)
    have hcl15 := hts (Cond.classLink RL 15 "java/lang/IllegalArgumentException") (by decide +kernel)
    have hcst : (Cond.castable "java/lang/IllegalArgumentException" "java/lang/IllegalArgumentException").before ([.ref (x 0), .int (iI (c)), .int (iI (w)), .ref (ob 0)] : List Value).toArray s = true := va_Nw.use (ZB_tabs _ (by decide)) (hZ.2.2.1 (Cond.castable "java/lang/IllegalArgumentException" "java/lang/IllegalArgumentException") (by decide))
    refine catchX (vx_runV (As := [.int (iI (c)), .int (iI (w))]) (rest := [.int (iI (0)), .ref (ob 0)]) ⟨hx, hb, hml, hown, hts⟩ cx9 (cwV 2 hts gL_counter_X4_counter rfl rfl rfl (by decide +kernel) ⟨Nat.le_of_ble_eq_true rfl, Nat.le_of_ble_eq_true rfl⟩) ⟨pcX_blind, va_recv hKc hPc (ci := 4) (q0 := 0) rfl rfl, pcX_of hPc hKc hZ⟩ rfl rfl hl.1 rfl (lv_room (Nat.le_of_ble_eq_true rfl)) dL_counter_5 ⟨Nat.le_of_ble_eq_true rfl, Nat.le_of_ble_eq_true rfl⟩) hP hS hown [⟨0, 10, 13, 13⟩] ⟨0, 10, 17, 15⟩ [] htab (fun z hz => by cases List.mem_singleton.mp hz; exact Or.inr ⟨by decide, _, hcl13, hZ.2.2.2.1⟩) (by decide) (by decide) hcl15 hcst (fun H locs xq hP hS => ?_)
    refine lv_astore (lv' := [(4, .ref (xq)), (0, .ref (x 0)), (1, .int (iI (c))), (2, .int (iI (w))), (3, .ref (ob 0))]) hx hb dL_counter_17 hl (by decide) rfl (fun ls hl => ?_)
    refine wi_iconst hx hb dL_counter_19 ?_
    refine W.widen (k := 1) (n := 6) (by decide) (by decide) ?_
    exact W.iret (v := iI (2)) hx hb hr (fun t9 ht9 hW9 => ⟨⟨(2), ⟨ln, σ, κ, sa, ss, φ, ρ, β, f⟩, rfl, (OPL.bad h9 (by decide) rfl ⟨rfl, rfl, rfl, rfl, rfl⟩), ⟨by rw [ht9]; exact hP, va_K.moved hW9.alike hK, hD⟩⟩, hS.F ht9⟩) hS.2.2 dL_counter_20 hlocks
set_option maxHeartbeats 4000000 in
set_option maxRecDepth 100000 in
theorem lk_promiseOf (l : Launch) (hl9 : l.stackTraces = false) (D : va_G) (cI cO cC cL : ClassId) (sz : Nat) (x a sv o rd bu ob : Nat → Nat) (ln σ κ φ ρ β : Nat → Int → Int) (sa : Nat → Nat → Nat) (ss : Nat → Nat → Int → Int) (f : Nat → Int64) (p w : Int) (hp : R32 p) (hw : R32 w) (hG : GI σ (κ 0 0) ss (ln 0 0) (β 1)) : Met l yL_promiseOf wsL_promiseOf ({ frames := 8, cells := 1, slots := 6, locals := 164 } : Room) (pcWX D [(cI, FieldType.int), (cO, FieldType.object "PromisedCounters$State"), (cC, FieldType.char), (cL, FieldType.long)] [.ref (x 0), .int (iI (p)), .int (iI (w)), .ref (ob 0)] (fl [mnW x a sv o rd bu ln, stW cI a σ, svO cO sv (saF sa) κ, stW cI (sa 0) (ss 0), stW cI (sa 1) (ss 1), stW cI (sa 2) (ss 2), stW cI (sa 3) (ss 3), stW cI (sa 4) (ss 4), stW cI (sa 5) (ss 5), ocW cI o φ, rdW rd ρ, bfW cC bu β, ouW cL ob f]) sz) (wq_i (fun (r : Int) (u : LwS) => OPL (cd2 (0 ≤ p ∧ p < σ 0 1) (0 ≤ w ∧ w ≤ 5)) r (prmS σ p w) (LwS.f u) (LwQ u σ (κ 0 0) ss (ln 0 0) (β 1)) (LwQ u σ (κ 0 0) ss (ln 0 0) (β 1))) (fun (u : LwS) => (bW D [(cI, FieldType.int), (cO, FieldType.object "PromisedCounters$State"), (cC, FieldType.char), (cL, FieldType.long)] (fl [mnW x a sv o rd bu (LwS.ln u), stW cI a (LwS.σ u), svO cO sv (saF (LwS.sa u)) (LwS.κ u), stW cI (LwS.sa u 0) (LwS.ss u 0), stW cI (LwS.sa u 1) (LwS.ss u 1), stW cI (LwS.sa u 2) (LwS.ss u 2), stW cI (LwS.sa u 3) (LwS.ss u 3), stW cI (LwS.sa u 4) (LwS.ss u 4), stW cI (LwS.sa u 5) (LwS.ss u 5), ocW cI o (LwS.φ u), rdW rd (LwS.ρ u), bfW cC bu (LwS.β u), ouW cL ob (LwS.f u)]) (va_A (fl [mnW x a sv o rd bu ln, stW cI a σ, svO cO sv (saF sa) κ, stW cI (sa 0) (ss 0), stW cI (sa 1) (ss 1), stW cI (sa 2) (ss 2), stW cI (sa 3) (ss 3), stW cI (sa 4) (ss 4), stW cI (sa 5) (ss 5), ocW cI o φ, rdW rd ρ, bfW cC bu β, ouW cL ob f]) sz))) (va_A (fl [mnW x a sv o rd bu ln, stW cI a σ, svO cO sv (saF sa) κ, stW cI (sa 0) (ss 0), stW cI (sa 1) (ss 1), stW cI (sa 2) (ss 2), stW cI (sa 3) (ss 3), stW cI (sa 4) (ss 4), stW cI (sa 5) (ss 5), ocW cI o φ, rdW rd ρ, bfW cC bu β, ouW cL ob f]) sz)) 1 6 (va_A (fl [mnW x a sv o rd bu ln, stW cI a σ, svO cO sv (saF sa) κ, stW cI (sa 0) (ss 0), stW cI (sa 1) (ss 1), stW cI (sa 2) (ss 2), stW cI (sa 3) (ss 3), stW cI (sa 4) (ss 4), stW cI (sa 5) (ss 5), ocW cI o φ, rdW rd ρ, bfW cC bu β, ouW cL ob f]) sz) := by
  refine metH ([(0, 10, 13, 13), (0, 10, 17, 15)]) (cc := cL_promiseOf) (maxL := 5) (ret := (some .int)) (by decide) rfl ?_
  intro p9 e9 s m args9 below9 meth9 c9 s₁ B hml htab hv
  obtain ⟨rfl, hsz, hP, hK, hD0, hZ⟩ := hv
  have hx := B.exec
  have hb := B.bytes
  have hr := B.returns
  have hts := atoms_spec (ws := wsL_promiseOf) B.pre
  have hown : s.vm.findClass RL = some m.cls := findClass_of_methodNamed B.named
  have hlocks := B.notSynchronized
  subst hsz
  have hD := hD0.self (sz := s.heap.size)
  generalize hAe : va_A (fl [mnW x a sv o rd bu ln, stW cI a σ, svO cO sv (saF sa) κ, stW cI (sa 0) (ss 0), stW cI (sa 1) (ss 1), stW cI (sa 2) (ss 2), stW cI (sa 3) (ss 3), stW cI (sa 4) (ss 4), stW cI (sa 5) (ss 5), ocW cI o φ, rdW rd ρ, bfW cC bu β, ouW cL ob f]) s.heap.size = A at hD hZ ⊢
  have hA : ∀ q : Nat, s.heap.size ≤ q → A q := fun q h => by rw [← hAe]; exact Or.inr h
  have hS : va_S A s.heap s.heap [] := va_S.rf
  have hP : va_P D vwCl (fl [mnW x a sv o rd bu ln, stW cI a σ, svO cO sv (saF sa) κ, stW cI (sa 0) (ss 0), stW cI (sa 1) (ss 1), stW cI (sa 2) (ss 2), stW cI (sa 3) (ss 3), stW cI (sa 4) (ss 4), stW cI (sa 5) (ss 5), ocW cI o φ, rdW rd ρ, bfW cC bu β, ouW cL ob f]) s.heap := hP
  have hl := lv_entry ([.ref (x 0), .int (iI (p)), .int (iI (w)), .ref (ob 0)]) (n := 5) (Nat.le_of_ble_eq_true rfl)
  rw [lg_entry_eq]
  generalize (lg_sl ([.ref (x 0), .int (iI (p)), .int (iI (w)), .ref (ob 0)]) ++ List.replicate (5 - (lg_sl ([.ref (x 0), .int (iI (p)), .int (iI (w)), .ref (ob 0)])).length) Slot.unset).toArray = ls at hl ⊢
  have hl : lv_has ls 5 [(0, .ref (x 0)), (1, .int (iI (p))), (2, .int (iI (w))), (3, .ref (ob 0))] := hl
  have hI := hG.1
  have hkk := hG.2.1
  have hlnb := hG.2.2.2.1
  have hbb := hG.2.2.2.2
  have hnn := hI.n
  have htt := hI.t
  refine lv_aload_n hx hb dL_promiseOf_0 rfl (lv_at hl 3 rfl) ?_
  refine wi_iconst hx hb dL_promiseOf_1 ?_
  refine lv_aload_n hx hb dL_promiseOf_2 rfl (lv_at hl 0 rfl) ?_
  refine lv_iload_n hx hb dL_promiseOf_3 rfl (lv_at hl 1 rfl) ?_
  refine lv_iload_n hx hb dL_promiseOf_4 rfl (lv_at hl 2 rfl) ?_
  rcases (cd2_c : (cd2 (0 ≤ p ∧ p < σ 0 1) (0 ≤ w ∧ w ≤ 5) = 0 ∧ _) ∨ _) with ⟨h9, hok0, hok1⟩ | h9 | h9
  · skip
    have hPc := fl_P (S' := [mnW x a sv o rd bu ln, stW cI a σ]) hP [0, 1] rfl
    have hKc := hK.sub (tys' := [(cI, FieldType.int), (cO, FieldType.object "PromisedCounters$State"), (cC, FieldType.char)]) [0, 1, 2] rfl
    refine wr_calli (va_runV (As := [.int (iI (p)), .int (iI (w))]) (rest := [.int (iI (0)), .ref (ob 0)]) ⟨hx, hb, hml, hown, hts⟩ (c_X4_promiseOf l D cI cO cC cL x a sv o rd bu ln σ (p) (w) (by first | assumption | omega) (by first | assumption | omega) (by first | assumption | omega)) (cwV 2 hts gL_promiseOf_X4_promiseOf rfl rfl rfl (by decide +kernel) ⟨Nat.le_of_ble_eq_true rfl, Nat.le_of_ble_eq_true rfl⟩) ⟨pcR_blind, va_recv hKc hPc (ci := 4) (q0 := 0) rfl rfl, pcR_of hPc hKc⟩ rfl rfl hl.1 rfl (lv_room (Nat.le_of_ble_eq_true rfl)) dL_promiseOf_5 ⟨(Nat.zero_le _), (Nat.zero_le _)⟩) (fun r1 hr1 => ?_)
    subst hr1
    refine lv_i2l (v := iL ((prmS σ (p) (w)))) hx hb dL_promiseOf_8 rfl ?_
    refine wi_last hx hb hK hP hD hS 98 3 rfl rfl dL_promiseOf_9 (fun H locs hP hD hS => ?_)
    have hP : va_P D vwCl (fl [mnW x a sv o rd bu ln, stW cI a σ, svO cO sv (saF sa) κ, stW cI (sa 0) (ss 0), stW cI (sa 1) (ss 1), stW cI (sa 2) (ss 2), stW cI (sa 3) (ss 3), stW cI (sa 4) (ss 4), stW cI (sa 5) (ss 5), ocW cI o φ, rdW rd ρ, bfW cC bu β, ouW cL ob (fun _ => (iL ((prmS σ (p) (w)))))]) H := hP
    have hD : va_D A (fl [mnW x a sv o rd bu ln, stW cI a σ, svO cO sv (saF sa) κ, stW cI (sa 0) (ss 0), stW cI (sa 1) (ss 1), stW cI (sa 2) (ss 2), stW cI (sa 3) (ss 3), stW cI (sa 4) (ss 4), stW cI (sa 5) (ss 5), ocW cI o φ, rdW rd ρ, bfW cC bu β, ouW cL ob (fun _ => (iL ((prmS σ (p) (w)))))]) := hD
    refine lv_goto (tgt := 21) hx hb dL_promiseOf_10 (by decide) ?_
    refine wi_iconst hx hb dL_promiseOf_21 ?_
    refine W.widen (k := 1) (n := 6) (by decide) (by decide) ?_
    exact W.iret (v := iI (0)) hx hb hr (fun t9 ht9 hW9 => ⟨⟨(0), ⟨ln, σ, κ, sa, ss, φ, ρ, β, (fun _ => (iL ((prmS σ (p) (w)))))⟩, rfl, (OPL.good h9 rfl (rfl) ⟨rfl, rfl, rfl, rfl, rfl⟩), ⟨by rw [ht9]; exact hP, va_K.moved hW9.alike hK, hD⟩⟩, hS.F ht9⟩) hS.2.2 dL_promiseOf_22 hlocks
  · skip
    have cx9 := x_X4_promiseOf l hl9 D cI cO cC cL x a sv o rd bu ln σ p w (by first | assumption | omega) (by first | assumption | omega) hI (by rw [h9]; decide)
    rw [h9, show xnA 1 = "java/lang/IndexOutOfBoundsException" from rfl] at cx9
    have hPc := fl_P (S' := [mnW x a sv o rd bu ln, stW cI a σ]) hP [0, 1] rfl
    have hKc := hK.sub (tys' := [(cI, FieldType.int), (cO, FieldType.object "PromisedCounters$State"), (cC, FieldType.char)]) [0, 1, 2] rfl
    have hcl13 := hts (Cond.classLink RL 13 "java/lang/IndexOutOfBoundsException") (by decide +kernel)
    have hcst : (Cond.castable "java/lang/IndexOutOfBoundsException" "java/lang/IndexOutOfBoundsException").before ([.ref (x 0), .int (iI (p)), .int (iI (w)), .ref (ob 0)] : List Value).toArray s = true := va_Nw.use (ZB_tabs _ (by decide)) (hZ.2.2.1 (Cond.castable "java/lang/IndexOutOfBoundsException" "java/lang/IndexOutOfBoundsException") (by decide))
    refine catchX (vx_runV (As := [.int (iI (p)), .int (iI (w))]) (rest := [.int (iI (0)), .ref (ob 0)]) ⟨hx, hb, hml, hown, hts⟩ cx9 (cwV 2 hts gL_promiseOf_X4_promiseOf rfl rfl rfl (by decide +kernel) ⟨Nat.le_of_ble_eq_true rfl, Nat.le_of_ble_eq_true rfl⟩) ⟨pcX_blind, va_recv hKc hPc (ci := 4) (q0 := 0) rfl rfl, pcX_of hPc hKc hZ⟩ rfl rfl hl.1 rfl (lv_room (Nat.le_of_ble_eq_true rfl)) dL_promiseOf_5 ⟨Nat.le_of_ble_eq_true rfl, Nat.le_of_ble_eq_true rfl⟩) hP hS hown [] ⟨0, 10, 13, 13⟩ [⟨0, 10, 17, 15⟩] htab (fun z hz => nomatch hz) (by decide) (by decide) hcl13 hcst (fun H locs xq hP hS => ?_)
    refine lv_astore (lv' := [(4, .ref (xq)), (0, .ref (x 0)), (1, .int (iI (p))), (2, .int (iI (w))), (3, .ref (ob 0))]) hx hb dL_promiseOf_13 hl (by decide) rfl (fun ls hl => ?_)
    refine wi_iconst hx hb dL_promiseOf_15 ?_
    refine W.widen (k := 1) (n := 6) (by decide) (by decide) ?_
    exact W.iret (v := iI (1)) hx hb hr (fun t9 ht9 hW9 => ⟨⟨(1), ⟨ln, σ, κ, sa, ss, φ, ρ, β, f⟩, rfl, (OPL.bad h9 (by decide) rfl ⟨rfl, rfl, rfl, rfl, rfl⟩), ⟨by rw [ht9]; exact hP, va_K.moved hW9.alike hK, hD⟩⟩, hS.F ht9⟩) hS.2.2 dL_promiseOf_16 hlocks
  · skip
    have cx9 := x_X4_promiseOf l hl9 D cI cO cC cL x a sv o rd bu ln σ p w (by first | assumption | omega) (by first | assumption | omega) hI (by rw [h9]; decide)
    rw [h9, show xnA 2 = "java/lang/IllegalArgumentException" from rfl] at cx9
    have hPc := fl_P (S' := [mnW x a sv o rd bu ln, stW cI a σ]) hP [0, 1] rfl
    have hKc := hK.sub (tys' := [(cI, FieldType.int), (cO, FieldType.object "PromisedCounters$State"), (cC, FieldType.char)]) [0, 1, 2] rfl
    have hcl13 := hts (Cond.classLink RL 13 "java/lang/IndexOutOfBoundsException") (by decide +kernel)
    have hcl15 := hts (Cond.classLink RL 15 "java/lang/IllegalArgumentException") (by decide +kernel)
    have hcst : (Cond.castable "java/lang/IllegalArgumentException" "java/lang/IllegalArgumentException").before ([.ref (x 0), .int (iI (p)), .int (iI (w)), .ref (ob 0)] : List Value).toArray s = true := va_Nw.use (ZB_tabs _ (by decide)) (hZ.2.2.1 (Cond.castable "java/lang/IllegalArgumentException" "java/lang/IllegalArgumentException") (by decide))
    refine catchX (vx_runV (As := [.int (iI (p)), .int (iI (w))]) (rest := [.int (iI (0)), .ref (ob 0)]) ⟨hx, hb, hml, hown, hts⟩ cx9 (cwV 2 hts gL_promiseOf_X4_promiseOf rfl rfl rfl (by decide +kernel) ⟨Nat.le_of_ble_eq_true rfl, Nat.le_of_ble_eq_true rfl⟩) ⟨pcX_blind, va_recv hKc hPc (ci := 4) (q0 := 0) rfl rfl, pcX_of hPc hKc hZ⟩ rfl rfl hl.1 rfl (lv_room (Nat.le_of_ble_eq_true rfl)) dL_promiseOf_5 ⟨Nat.le_of_ble_eq_true rfl, Nat.le_of_ble_eq_true rfl⟩) hP hS hown [⟨0, 10, 13, 13⟩] ⟨0, 10, 17, 15⟩ [] htab (fun z hz => by cases List.mem_singleton.mp hz; exact Or.inr ⟨by decide, _, hcl13, hZ.2.2.2.1⟩) (by decide) (by decide) hcl15 hcst (fun H locs xq hP hS => ?_)
    refine lv_astore (lv' := [(4, .ref (xq)), (0, .ref (x 0)), (1, .int (iI (p))), (2, .int (iI (w))), (3, .ref (ob 0))]) hx hb dL_promiseOf_17 hl (by decide) rfl (fun ls hl => ?_)
    refine wi_iconst hx hb dL_promiseOf_19 ?_
    refine W.widen (k := 1) (n := 6) (by decide) (by decide) ?_
    exact W.iret (v := iI (2)) hx hb hr (fun t9 ht9 hW9 => ⟨⟨(2), ⟨ln, σ, κ, sa, ss, φ, ρ, β, f⟩, rfl, (OPL.bad h9 (by decide) rfl ⟨rfl, rfl, rfl, rfl, rfl⟩), ⟨by rw [ht9]; exact hP, va_K.moved hW9.alike hK, hD⟩⟩, hS.F ht9⟩) hS.2.2 dL_promiseOf_20 hlocks
set_option maxHeartbeats 4000000 in
set_option maxRecDepth 100000 in
theorem lk_owner (l : Launch) (hl9 : l.stackTraces = false) (D : va_G) (cI cO cC cL : ClassId) (sz : Nat) (x a sv o rd bu ob : Nat → Nat) (ln σ κ φ ρ β : Nat → Int → Int) (sa : Nat → Nat → Nat) (ss : Nat → Nat → Int → Int) (f : Nat → Int64) (q w : Int) (hq : R32 q) (hw : R32 w) (hG : GI σ (κ 0 0) ss (ln 0 0) (β 1)) : Met l yL_owner wsL_owner ({ frames := 8, cells := 1, slots := 6, locals := 164 } : Room) (pcWX D [(cI, FieldType.int), (cO, FieldType.object "PromisedCounters$State"), (cC, FieldType.char), (cL, FieldType.long)] [.ref (x 0), .int (iI (q)), .int (iI (w)), .ref (ob 0)] (fl [mnW x a sv o rd bu ln, stW cI a σ, svO cO sv (saF sa) κ, stW cI (sa 0) (ss 0), stW cI (sa 1) (ss 1), stW cI (sa 2) (ss 2), stW cI (sa 3) (ss 3), stW cI (sa 4) (ss 4), stW cI (sa 5) (ss 5), ocW cI o φ, rdW rd ρ, bfW cC bu β, ouW cL ob f]) sz) (wq_i (fun (r : Int) (u : LwS) => OPL (cd2 (0 ≤ q ∧ q ≤ 5) (0 ≤ w ∧ w ≤ 4)) r (ownS σ q w) (LwS.f u) (LwQ u σ (κ 0 0) ss (ln 0 0) (β 1)) (LwQ u σ (κ 0 0) ss (ln 0 0) (β 1))) (fun (u : LwS) => (bW D [(cI, FieldType.int), (cO, FieldType.object "PromisedCounters$State"), (cC, FieldType.char), (cL, FieldType.long)] (fl [mnW x a sv o rd bu (LwS.ln u), stW cI a (LwS.σ u), svO cO sv (saF (LwS.sa u)) (LwS.κ u), stW cI (LwS.sa u 0) (LwS.ss u 0), stW cI (LwS.sa u 1) (LwS.ss u 1), stW cI (LwS.sa u 2) (LwS.ss u 2), stW cI (LwS.sa u 3) (LwS.ss u 3), stW cI (LwS.sa u 4) (LwS.ss u 4), stW cI (LwS.sa u 5) (LwS.ss u 5), ocW cI o (LwS.φ u), rdW rd (LwS.ρ u), bfW cC bu (LwS.β u), ouW cL ob (LwS.f u)]) (va_A (fl [mnW x a sv o rd bu ln, stW cI a σ, svO cO sv (saF sa) κ, stW cI (sa 0) (ss 0), stW cI (sa 1) (ss 1), stW cI (sa 2) (ss 2), stW cI (sa 3) (ss 3), stW cI (sa 4) (ss 4), stW cI (sa 5) (ss 5), ocW cI o φ, rdW rd ρ, bfW cC bu β, ouW cL ob f]) sz))) (va_A (fl [mnW x a sv o rd bu ln, stW cI a σ, svO cO sv (saF sa) κ, stW cI (sa 0) (ss 0), stW cI (sa 1) (ss 1), stW cI (sa 2) (ss 2), stW cI (sa 3) (ss 3), stW cI (sa 4) (ss 4), stW cI (sa 5) (ss 5), ocW cI o φ, rdW rd ρ, bfW cC bu β, ouW cL ob f]) sz)) 1 6 (va_A (fl [mnW x a sv o rd bu ln, stW cI a σ, svO cO sv (saF sa) κ, stW cI (sa 0) (ss 0), stW cI (sa 1) (ss 1), stW cI (sa 2) (ss 2), stW cI (sa 3) (ss 3), stW cI (sa 4) (ss 4), stW cI (sa 5) (ss 5), ocW cI o φ, rdW rd ρ, bfW cC bu β, ouW cL ob f]) sz) := by
  refine metH ([(0, 10, 13, 13), (0, 10, 17, 15)]) (cc := cL_owner) (maxL := 5) (ret := (some .int)) (by decide) rfl ?_
  intro p9 e9 s m args9 below9 meth9 c9 s₁ B hml htab hv
  obtain ⟨rfl, hsz, hP, hK, hD0, hZ⟩ := hv
  have hx := B.exec
  have hb := B.bytes
  have hr := B.returns
  have hts := atoms_spec (ws := wsL_owner) B.pre
  have hown : s.vm.findClass RL = some m.cls := findClass_of_methodNamed B.named
  have hlocks := B.notSynchronized
  subst hsz
  have hD := hD0.self (sz := s.heap.size)
  generalize hAe : va_A (fl [mnW x a sv o rd bu ln, stW cI a σ, svO cO sv (saF sa) κ, stW cI (sa 0) (ss 0), stW cI (sa 1) (ss 1), stW cI (sa 2) (ss 2), stW cI (sa 3) (ss 3), stW cI (sa 4) (ss 4), stW cI (sa 5) (ss 5), ocW cI o φ, rdW rd ρ, bfW cC bu β, ouW cL ob f]) s.heap.size = A at hD hZ ⊢
  have hA : ∀ q : Nat, s.heap.size ≤ q → A q := fun q h => by rw [← hAe]; exact Or.inr h
  have hS : va_S A s.heap s.heap [] := va_S.rf
  have hP : va_P D vwCl (fl [mnW x a sv o rd bu ln, stW cI a σ, svO cO sv (saF sa) κ, stW cI (sa 0) (ss 0), stW cI (sa 1) (ss 1), stW cI (sa 2) (ss 2), stW cI (sa 3) (ss 3), stW cI (sa 4) (ss 4), stW cI (sa 5) (ss 5), ocW cI o φ, rdW rd ρ, bfW cC bu β, ouW cL ob f]) s.heap := hP
  have hl := lv_entry ([.ref (x 0), .int (iI (q)), .int (iI (w)), .ref (ob 0)]) (n := 5) (Nat.le_of_ble_eq_true rfl)
  rw [lg_entry_eq]
  generalize (lg_sl ([.ref (x 0), .int (iI (q)), .int (iI (w)), .ref (ob 0)]) ++ List.replicate (5 - (lg_sl ([.ref (x 0), .int (iI (q)), .int (iI (w)), .ref (ob 0)])).length) Slot.unset).toArray = ls at hl ⊢
  have hl : lv_has ls 5 [(0, .ref (x 0)), (1, .int (iI (q))), (2, .int (iI (w))), (3, .ref (ob 0))] := hl
  have hI := hG.1
  have hkk := hG.2.1
  have hlnb := hG.2.2.2.1
  have hbb := hG.2.2.2.2
  have hnn := hI.n
  have htt := hI.t
  refine lv_aload_n hx hb dL_owner_0 rfl (lv_at hl 3 rfl) ?_
  refine wi_iconst hx hb dL_owner_1 ?_
  refine lv_aload_n hx hb dL_owner_2 rfl (lv_at hl 0 rfl) ?_
  refine lv_iload_n hx hb dL_owner_3 rfl (lv_at hl 1 rfl) ?_
  refine lv_iload_n hx hb dL_owner_4 rfl (lv_at hl 2 rfl) ?_
  rcases (cd2_c : (cd2 (0 ≤ q ∧ q ≤ 5) (0 ≤ w ∧ w ≤ 4) = 0 ∧ _) ∨ _) with ⟨h9, hok0, hok1⟩ | h9 | h9
  · skip
    have hPc := fl_P (S' := [mnW x a sv o rd bu ln, stW cI a σ]) hP [0, 1] rfl
    have hKc := hK.sub (tys' := [(cI, FieldType.int), (cO, FieldType.object "PromisedCounters$State"), (cC, FieldType.char)]) [0, 1, 2] rfl
    refine wr_calli (va_runV (As := [.int (iI (q)), .int (iI (w))]) (rest := [.int (iI (0)), .ref (ob 0)]) ⟨hx, hb, hml, hown, hts⟩ (c_X4_owner l D cI cO cC cL x a sv o rd bu ln σ (q) (w) (by first | assumption | omega) (by first | assumption | omega) (by first | assumption | omega)) (cwV 2 hts gL_owner_X4_owner rfl rfl rfl (by decide +kernel) ⟨Nat.le_of_ble_eq_true rfl, Nat.le_of_ble_eq_true rfl⟩) ⟨pcR_blind, va_recv hKc hPc (ci := 4) (q0 := 0) rfl rfl, pcR_of hPc hKc⟩ rfl rfl hl.1 rfl (lv_room (Nat.le_of_ble_eq_true rfl)) dL_owner_5 ⟨(Nat.zero_le _), (Nat.zero_le _)⟩) (fun r1 hr1 => ?_)
    subst hr1
    refine lv_i2l (v := iL ((ownS σ (q) (w)))) hx hb dL_owner_8 rfl ?_
    refine wi_last hx hb hK hP hD hS 98 3 rfl rfl dL_owner_9 (fun H locs hP hD hS => ?_)
    have hP : va_P D vwCl (fl [mnW x a sv o rd bu ln, stW cI a σ, svO cO sv (saF sa) κ, stW cI (sa 0) (ss 0), stW cI (sa 1) (ss 1), stW cI (sa 2) (ss 2), stW cI (sa 3) (ss 3), stW cI (sa 4) (ss 4), stW cI (sa 5) (ss 5), ocW cI o φ, rdW rd ρ, bfW cC bu β, ouW cL ob (fun _ => (iL ((ownS σ (q) (w)))))]) H := hP
    have hD : va_D A (fl [mnW x a sv o rd bu ln, stW cI a σ, svO cO sv (saF sa) κ, stW cI (sa 0) (ss 0), stW cI (sa 1) (ss 1), stW cI (sa 2) (ss 2), stW cI (sa 3) (ss 3), stW cI (sa 4) (ss 4), stW cI (sa 5) (ss 5), ocW cI o φ, rdW rd ρ, bfW cC bu β, ouW cL ob (fun _ => (iL ((ownS σ (q) (w)))))]) := hD
    refine lv_goto (tgt := 21) hx hb dL_owner_10 (by decide) ?_
    refine wi_iconst hx hb dL_owner_21 ?_
    refine W.widen (k := 1) (n := 6) (by decide) (by decide) ?_
    exact W.iret (v := iI (0)) hx hb hr (fun t9 ht9 hW9 => ⟨⟨(0), ⟨ln, σ, κ, sa, ss, φ, ρ, β, (fun _ => (iL ((ownS σ (q) (w)))))⟩, rfl, (OPL.good h9 rfl (rfl) ⟨rfl, rfl, rfl, rfl, rfl⟩), ⟨by rw [ht9]; exact hP, va_K.moved hW9.alike hK, hD⟩⟩, hS.F ht9⟩) hS.2.2 dL_owner_22 hlocks
  · skip
    have cx9 := x_X4_owner l hl9 D cI cO cC cL x a sv o rd bu ln σ q w (by first | assumption | omega) (by first | assumption | omega) hI (by rw [h9]; decide)
    rw [h9, show xnA 1 = "java/lang/IndexOutOfBoundsException" from rfl] at cx9
    have hPc := fl_P (S' := [mnW x a sv o rd bu ln, stW cI a σ]) hP [0, 1] rfl
    have hKc := hK.sub (tys' := [(cI, FieldType.int), (cO, FieldType.object "PromisedCounters$State"), (cC, FieldType.char)]) [0, 1, 2] rfl
    have hcl13 := hts (Cond.classLink RL 13 "java/lang/IndexOutOfBoundsException") (by decide +kernel)
    have hcst : (Cond.castable "java/lang/IndexOutOfBoundsException" "java/lang/IndexOutOfBoundsException").before ([.ref (x 0), .int (iI (q)), .int (iI (w)), .ref (ob 0)] : List Value).toArray s = true := va_Nw.use (ZB_tabs _ (by decide)) (hZ.2.2.1 (Cond.castable "java/lang/IndexOutOfBoundsException" "java/lang/IndexOutOfBoundsException") (by decide))
    refine catchX (vx_runV (As := [.int (iI (q)), .int (iI (w))]) (rest := [.int (iI (0)), .ref (ob 0)]) ⟨hx, hb, hml, hown, hts⟩ cx9 (cwV 2 hts gL_owner_X4_owner rfl rfl rfl (by decide +kernel) ⟨Nat.le_of_ble_eq_true rfl, Nat.le_of_ble_eq_true rfl⟩) ⟨pcX_blind, va_recv hKc hPc (ci := 4) (q0 := 0) rfl rfl, pcX_of hPc hKc hZ⟩ rfl rfl hl.1 rfl (lv_room (Nat.le_of_ble_eq_true rfl)) dL_owner_5 ⟨Nat.le_of_ble_eq_true rfl, Nat.le_of_ble_eq_true rfl⟩) hP hS hown [] ⟨0, 10, 13, 13⟩ [⟨0, 10, 17, 15⟩] htab (fun z hz => nomatch hz) (by decide) (by decide) hcl13 hcst (fun H locs xq hP hS => ?_)
    refine lv_astore (lv' := [(4, .ref (xq)), (0, .ref (x 0)), (1, .int (iI (q))), (2, .int (iI (w))), (3, .ref (ob 0))]) hx hb dL_owner_13 hl (by decide) rfl (fun ls hl => ?_)
    refine wi_iconst hx hb dL_owner_15 ?_
    refine W.widen (k := 1) (n := 6) (by decide) (by decide) ?_
    exact W.iret (v := iI (1)) hx hb hr (fun t9 ht9 hW9 => ⟨⟨(1), ⟨ln, σ, κ, sa, ss, φ, ρ, β, f⟩, rfl, (OPL.bad h9 (by decide) rfl ⟨rfl, rfl, rfl, rfl, rfl⟩), ⟨by rw [ht9]; exact hP, va_K.moved hW9.alike hK, hD⟩⟩, hS.F ht9⟩) hS.2.2 dL_owner_16 hlocks
  · skip
    have cx9 := x_X4_owner l hl9 D cI cO cC cL x a sv o rd bu ln σ q w (by first | assumption | omega) (by first | assumption | omega) hI (by rw [h9]; decide)
    rw [h9, show xnA 2 = "java/lang/IllegalArgumentException" from rfl] at cx9
    have hPc := fl_P (S' := [mnW x a sv o rd bu ln, stW cI a σ]) hP [0, 1] rfl
    have hKc := hK.sub (tys' := [(cI, FieldType.int), (cO, FieldType.object "PromisedCounters$State"), (cC, FieldType.char)]) [0, 1, 2] rfl
    have hcl13 := hts (Cond.classLink RL 13 "java/lang/IndexOutOfBoundsException") (by decide +kernel)
    have hcl15 := hts (Cond.classLink RL 15 "java/lang/IllegalArgumentException") (by decide +kernel)
    have hcst : (Cond.castable "java/lang/IllegalArgumentException" "java/lang/IllegalArgumentException").before ([.ref (x 0), .int (iI (q)), .int (iI (w)), .ref (ob 0)] : List Value).toArray s = true := va_Nw.use (ZB_tabs _ (by decide)) (hZ.2.2.1 (Cond.castable "java/lang/IllegalArgumentException" "java/lang/IllegalArgumentException") (by decide))
    refine catchX (vx_runV (As := [.int (iI (q)), .int (iI (w))]) (rest := [.int (iI (0)), .ref (ob 0)]) ⟨hx, hb, hml, hown, hts⟩ cx9 (cwV 2 hts gL_owner_X4_owner rfl rfl rfl (by decide +kernel) ⟨Nat.le_of_ble_eq_true rfl, Nat.le_of_ble_eq_true rfl⟩) ⟨pcX_blind, va_recv hKc hPc (ci := 4) (q0 := 0) rfl rfl, pcX_of hPc hKc hZ⟩ rfl rfl hl.1 rfl (lv_room (Nat.le_of_ble_eq_true rfl)) dL_owner_5 ⟨Nat.le_of_ble_eq_true rfl, Nat.le_of_ble_eq_true rfl⟩) hP hS hown [⟨0, 10, 13, 13⟩] ⟨0, 10, 17, 15⟩ [] htab (fun z hz => by cases List.mem_singleton.mp hz; exact Or.inr ⟨by decide, _, hcl13, hZ.2.2.2.1⟩) (by decide) (by decide) hcl15 hcst (fun H locs xq hP hS => ?_)
    refine lv_astore (lv' := [(4, .ref (xq)), (0, .ref (x 0)), (1, .int (iI (q))), (2, .int (iI (w))), (3, .ref (ob 0))]) hx hb dL_owner_17 hl (by decide) rfl (fun ls hl => ?_)
    refine wi_iconst hx hb dL_owner_19 ?_
    refine W.widen (k := 1) (n := 6) (by decide) (by decide) ?_
    exact W.iret (v := iI (2)) hx hb hr (fun t9 ht9 hW9 => ⟨⟨(2), ⟨ln, σ, κ, sa, ss, φ, ρ, β, f⟩, rfl, (OPL.bad h9 (by decide) rfl ⟨rfl, rfl, rfl, rfl, rfl⟩), ⟨by rw [ht9]; exact hP, va_K.moved hW9.alike hK, hD⟩⟩, hS.F ht9⟩) hS.2.2 dL_owner_20 hlocks
set_option maxHeartbeats 4000000 in
set_option maxRecDepth 100000 in
theorem lk_count (l : Launch) (hl9 : l.stackTraces = false) (D : va_G) (cI cO cC cL : ClassId) (sz : Nat) (x a sv o rd bu ob : Nat → Nat) (ln σ κ φ ρ β : Nat → Int → Int) (sa : Nat → Nat → Nat) (ss : Nat → Nat → Int → Int) (f : Nat → Int64) (w : Int) (hw : R32 w) (hG : GI σ (κ 0 0) ss (ln 0 0) (β 1)) : Met l yL_count wsL_count ({ frames := 8, cells := 1, slots := 6, locals := 163 } : Room) (pcWX D [(cI, FieldType.int), (cO, FieldType.object "PromisedCounters$State"), (cC, FieldType.char), (cL, FieldType.long)] [.ref (x 0), .int (iI (w)), .ref (ob 0)] (fl [mnW x a sv o rd bu ln, stW cI a σ, svO cO sv (saF sa) κ, stW cI (sa 0) (ss 0), stW cI (sa 1) (ss 1), stW cI (sa 2) (ss 2), stW cI (sa 3) (ss 3), stW cI (sa 4) (ss 4), stW cI (sa 5) (ss 5), ocW cI o φ, rdW rd ρ, bfW cC bu β, ouW cL ob f]) sz) (wq_i (fun (r : Int) (u : LwS) => OPL (cd1 (0 ≤ w ∧ w ≤ 9)) r (cntS σ (κ 0 0) w) (LwS.f u) (LwQ u σ (κ 0 0) ss (ln 0 0) (β 1)) (LwQ u σ (κ 0 0) ss (ln 0 0) (β 1))) (fun (u : LwS) => (bW D [(cI, FieldType.int), (cO, FieldType.object "PromisedCounters$State"), (cC, FieldType.char), (cL, FieldType.long)] (fl [mnW x a sv o rd bu (LwS.ln u), stW cI a (LwS.σ u), svO cO sv (saF (LwS.sa u)) (LwS.κ u), stW cI (LwS.sa u 0) (LwS.ss u 0), stW cI (LwS.sa u 1) (LwS.ss u 1), stW cI (LwS.sa u 2) (LwS.ss u 2), stW cI (LwS.sa u 3) (LwS.ss u 3), stW cI (LwS.sa u 4) (LwS.ss u 4), stW cI (LwS.sa u 5) (LwS.ss u 5), ocW cI o (LwS.φ u), rdW rd (LwS.ρ u), bfW cC bu (LwS.β u), ouW cL ob (LwS.f u)]) (va_A (fl [mnW x a sv o rd bu ln, stW cI a σ, svO cO sv (saF sa) κ, stW cI (sa 0) (ss 0), stW cI (sa 1) (ss 1), stW cI (sa 2) (ss 2), stW cI (sa 3) (ss 3), stW cI (sa 4) (ss 4), stW cI (sa 5) (ss 5), ocW cI o φ, rdW rd ρ, bfW cC bu β, ouW cL ob f]) sz))) (va_A (fl [mnW x a sv o rd bu ln, stW cI a σ, svO cO sv (saF sa) κ, stW cI (sa 0) (ss 0), stW cI (sa 1) (ss 1), stW cI (sa 2) (ss 2), stW cI (sa 3) (ss 3), stW cI (sa 4) (ss 4), stW cI (sa 5) (ss 5), ocW cI o φ, rdW rd ρ, bfW cC bu β, ouW cL ob f]) sz)) 1 6 (va_A (fl [mnW x a sv o rd bu ln, stW cI a σ, svO cO sv (saF sa) κ, stW cI (sa 0) (ss 0), stW cI (sa 1) (ss 1), stW cI (sa 2) (ss 2), stW cI (sa 3) (ss 3), stW cI (sa 4) (ss 4), stW cI (sa 5) (ss 5), ocW cI o φ, rdW rd ρ, bfW cC bu β, ouW cL ob f]) sz) := by
  refine metH ([(0, 9, 12, 15)]) (cc := cL_count) (maxL := 4) (ret := (some .int)) (by decide) rfl ?_
  intro p9 e9 s m args9 below9 meth9 c9 s₁ B hml htab hv
  obtain ⟨rfl, hsz, hP, hK, hD0, hZ⟩ := hv
  have hx := B.exec
  have hb := B.bytes
  have hr := B.returns
  have hts := atoms_spec (ws := wsL_count) B.pre
  have hown : s.vm.findClass RL = some m.cls := findClass_of_methodNamed B.named
  have hlocks := B.notSynchronized
  subst hsz
  have hD := hD0.self (sz := s.heap.size)
  generalize hAe : va_A (fl [mnW x a sv o rd bu ln, stW cI a σ, svO cO sv (saF sa) κ, stW cI (sa 0) (ss 0), stW cI (sa 1) (ss 1), stW cI (sa 2) (ss 2), stW cI (sa 3) (ss 3), stW cI (sa 4) (ss 4), stW cI (sa 5) (ss 5), ocW cI o φ, rdW rd ρ, bfW cC bu β, ouW cL ob f]) s.heap.size = A at hD hZ ⊢
  have hA : ∀ q : Nat, s.heap.size ≤ q → A q := fun q h => by rw [← hAe]; exact Or.inr h
  have hS : va_S A s.heap s.heap [] := va_S.rf
  have hP : va_P D vwCl (fl [mnW x a sv o rd bu ln, stW cI a σ, svO cO sv (saF sa) κ, stW cI (sa 0) (ss 0), stW cI (sa 1) (ss 1), stW cI (sa 2) (ss 2), stW cI (sa 3) (ss 3), stW cI (sa 4) (ss 4), stW cI (sa 5) (ss 5), ocW cI o φ, rdW rd ρ, bfW cC bu β, ouW cL ob f]) s.heap := hP
  have hl := lv_entry ([.ref (x 0), .int (iI (w)), .ref (ob 0)]) (n := 4) (Nat.le_of_ble_eq_true rfl)
  rw [lg_entry_eq]
  generalize (lg_sl ([.ref (x 0), .int (iI (w)), .ref (ob 0)]) ++ List.replicate (4 - (lg_sl ([.ref (x 0), .int (iI (w)), .ref (ob 0)])).length) Slot.unset).toArray = ls at hl ⊢
  have hl : lv_has ls 4 [(0, .ref (x 0)), (1, .int (iI (w))), (2, .ref (ob 0))] := hl
  have hI := hG.1
  have hkk := hG.2.1
  have hlnb := hG.2.2.2.1
  have hbb := hG.2.2.2.2
  have hnn := hI.n
  have htt := hI.t
  refine lv_aload_n hx hb dL_count_0 rfl (lv_at hl 2 rfl) ?_
  refine wi_iconst hx hb dL_count_1 ?_
  refine lv_aload_n hx hb dL_count_2 rfl (lv_at hl 0 rfl) ?_
  refine lv_iload_n hx hb dL_count_3 rfl (lv_at hl 1 rfl) ?_
  rcases (cd1_c : (cd1 (0 ≤ w ∧ w ≤ 9) = 0 ∧ _) ∨ _) with ⟨h9, hok0⟩ | h9
  · skip
    have hPc := fl_P (S' := [mnW x a sv o rd bu ln, stW cI a σ, svO cO sv (saF sa) κ]) hP [0, 1, 2] rfl
    have hKc := hK.sub (tys' := [(cI, FieldType.int), (cO, FieldType.object "PromisedCounters$State"), (cC, FieldType.char)]) [0, 1, 2] rfl
    refine wr_calli (va_runV (As := [.int (iI (w))]) (rest := [.int (iI (0)), .ref (ob 0)]) ⟨hx, hb, hml, hown, hts⟩ (c_X4_count l D cI cO cC cL x a sv o rd bu ln σ κ (saF sa) (w) (by first | assumption | omega) (by first | assumption | omega)) (cwV 1 hts gL_count_X4_count rfl rfl rfl (by decide +kernel) ⟨Nat.le_of_ble_eq_true rfl, Nat.le_of_ble_eq_true rfl⟩) ⟨pcR_blind, va_recv hKc hPc (ci := 4) (q0 := 0) rfl rfl, pcR_of hPc hKc⟩ rfl rfl hl.1 rfl (lv_room (Nat.le_of_ble_eq_true rfl)) dL_count_4 ⟨(Nat.zero_le _), (Nat.zero_le _)⟩) (fun r1 hr1 => ?_)
    subst hr1
    refine wi_top (y := (cntS σ (κ 0 0) (w))) rfl ?_
    refine lv_i2l (v := iL ((cntS σ (κ 0 0) (w)))) hx hb dL_count_7 rfl ?_
    refine wi_last hx hb hK hP hD hS 98 3 rfl rfl dL_count_8 (fun H locs hP hD hS => ?_)
    have hP : va_P D vwCl (fl [mnW x a sv o rd bu ln, stW cI a σ, svO cO sv (saF sa) κ, stW cI (sa 0) (ss 0), stW cI (sa 1) (ss 1), stW cI (sa 2) (ss 2), stW cI (sa 3) (ss 3), stW cI (sa 4) (ss 4), stW cI (sa 5) (ss 5), ocW cI o φ, rdW rd ρ, bfW cC bu β, ouW cL ob (fun _ => (iL ((cntS σ (κ 0 0) (w)))))]) H := hP
    have hD : va_D A (fl [mnW x a sv o rd bu ln, stW cI a σ, svO cO sv (saF sa) κ, stW cI (sa 0) (ss 0), stW cI (sa 1) (ss 1), stW cI (sa 2) (ss 2), stW cI (sa 3) (ss 3), stW cI (sa 4) (ss 4), stW cI (sa 5) (ss 5), ocW cI o φ, rdW rd ρ, bfW cC bu β, ouW cL ob (fun _ => (iL ((cntS σ (κ 0 0) (w)))))]) := hD
    refine lv_goto (tgt := 15) hx hb dL_count_9 (by decide) ?_
    refine wi_iconst hx hb dL_count_15 ?_
    refine W.widen (k := 1) (n := 6) (by decide) (by decide) ?_
    exact W.iret (v := iI (0)) hx hb hr (fun t9 ht9 hW9 => ⟨⟨(0), ⟨ln, σ, κ, sa, ss, φ, ρ, β, (fun _ => (iL ((cntS σ (κ 0 0) (w)))))⟩, rfl, (OPL.good h9 rfl (rfl) ⟨rfl, rfl, rfl, rfl, rfl⟩), ⟨by rw [ht9]; exact hP, va_K.moved hW9.alike hK, hD⟩⟩, hS.F ht9⟩) hS.2.2 dL_count_16 hlocks
  · skip
    have cx9 := x_X4_count l hl9 D cI cO cC cL x a sv o rd bu ln σ w (by first | assumption | omega) hI (by rw [h9]; decide)
    rw [h9, show xnB 1 = "java/lang/IllegalArgumentException" from rfl] at cx9
    have hPc := fl_P (S' := [mnW x a sv o rd bu ln, stW cI a σ]) hP [0, 1] rfl
    have hKc := hK.sub (tys' := [(cI, FieldType.int), (cO, FieldType.object "PromisedCounters$State"), (cC, FieldType.char)]) [0, 1, 2] rfl
    have hcl15 := hts (Cond.classLink RL 15 "java/lang/IllegalArgumentException") (by decide +kernel)
    have hcst : (Cond.castable "java/lang/IllegalArgumentException" "java/lang/IllegalArgumentException").before ([.ref (x 0), .int (iI (w)), .ref (ob 0)] : List Value).toArray s = true := va_Nw.use (ZB_tabs _ (by decide)) (hZ.2.2.1 (Cond.castable "java/lang/IllegalArgumentException" "java/lang/IllegalArgumentException") (by decide))
    refine catchX (vx_runV (As := [.int (iI (w))]) (rest := [.int (iI (0)), .ref (ob 0)]) ⟨hx, hb, hml, hown, hts⟩ cx9 (cwV 1 hts gL_count_X4_count rfl rfl rfl (by decide +kernel) ⟨Nat.le_of_ble_eq_true rfl, Nat.le_of_ble_eq_true rfl⟩) ⟨pcX_blind, va_recv hKc hPc (ci := 4) (q0 := 0) rfl rfl, pcX_of hPc hKc hZ⟩ rfl rfl hl.1 rfl (lv_room (Nat.le_of_ble_eq_true rfl)) dL_count_4 ⟨Nat.le_of_ble_eq_true rfl, Nat.le_of_ble_eq_true rfl⟩) hP hS hown [] ⟨0, 9, 12, 15⟩ [] htab (fun z hz => nomatch hz) (by decide) (by decide) hcl15 hcst (fun H locs xq hP hS => ?_)
    refine lv_astore_n (lv' := [(3, .ref (xq)), (0, .ref (x 0)), (1, .int (iI (w))), (2, .ref (ob 0))]) hx hb dL_count_12 rfl hl (by decide) rfl (fun ls hl => ?_)
    refine wi_iconst hx hb dL_count_13 ?_
    refine W.widen (k := 1) (n := 6) (by decide) (by decide) ?_
    exact W.iret (v := iI (1)) hx hb hr (fun t9 ht9 hW9 => ⟨⟨(1), ⟨ln, σ, κ, sa, ss, φ, ρ, β, f⟩, rfl, (OPL.bad h9 (by decide) rfl ⟨rfl, rfl, rfl, rfl, rfl⟩), ⟨by rw [ht9]; exact hP, va_K.moved hW9.alike hK, hD⟩⟩, hS.F ht9⟩) hS.2.2 dL_count_14 hlocks
set_option maxHeartbeats 4000000 in
set_option maxRecDepth 100000 in
theorem lk_setting (l : Launch) (hl9 : l.stackTraces = false) (D : va_G) (cI cO cC cL : ClassId) (sz : Nat) (x a sv o rd bu ob : Nat → Nat) (ln σ κ φ ρ β : Nat → Int → Int) (sa : Nat → Nat → Nat) (ss : Nat → Nat → Int → Int) (f : Nat → Int64) (k : Int) (hk : R32 k) (hG : GI σ (κ 0 0) ss (ln 0 0) (β 1)) : Met l yL_setting wsL_setting ({ frames := 8, cells := 1, slots := 6, locals := 162 } : Room) (pcWX D [(cI, FieldType.int), (cO, FieldType.object "PromisedCounters$State"), (cC, FieldType.char), (cL, FieldType.long)] [.ref (x 0), .int (iI (k)), .ref (ob 0)] (fl [mnW x a sv o rd bu ln, stW cI a σ, svO cO sv (saF sa) κ, stW cI (sa 0) (ss 0), stW cI (sa 1) (ss 1), stW cI (sa 2) (ss 2), stW cI (sa 3) (ss 3), stW cI (sa 4) (ss 4), stW cI (sa 5) (ss 5), ocW cI o φ, rdW rd ρ, bfW cC bu β, ouW cL ob f]) sz) (wq_i (fun (r : Int) (u : LwS) => OPL (cd1 (0 ≤ k ∧ k ≤ 1)) r (σ 1 k) (LwS.f u) (LwQ u σ (κ 0 0) ss (ln 0 0) (β 1)) (LwQ u σ (κ 0 0) ss (ln 0 0) (β 1))) (fun (u : LwS) => (bW D [(cI, FieldType.int), (cO, FieldType.object "PromisedCounters$State"), (cC, FieldType.char), (cL, FieldType.long)] (fl [mnW x a sv o rd bu (LwS.ln u), stW cI a (LwS.σ u), svO cO sv (saF (LwS.sa u)) (LwS.κ u), stW cI (LwS.sa u 0) (LwS.ss u 0), stW cI (LwS.sa u 1) (LwS.ss u 1), stW cI (LwS.sa u 2) (LwS.ss u 2), stW cI (LwS.sa u 3) (LwS.ss u 3), stW cI (LwS.sa u 4) (LwS.ss u 4), stW cI (LwS.sa u 5) (LwS.ss u 5), ocW cI o (LwS.φ u), rdW rd (LwS.ρ u), bfW cC bu (LwS.β u), ouW cL ob (LwS.f u)]) (va_A (fl [mnW x a sv o rd bu ln, stW cI a σ, svO cO sv (saF sa) κ, stW cI (sa 0) (ss 0), stW cI (sa 1) (ss 1), stW cI (sa 2) (ss 2), stW cI (sa 3) (ss 3), stW cI (sa 4) (ss 4), stW cI (sa 5) (ss 5), ocW cI o φ, rdW rd ρ, bfW cC bu β, ouW cL ob f]) sz))) (va_A (fl [mnW x a sv o rd bu ln, stW cI a σ, svO cO sv (saF sa) κ, stW cI (sa 0) (ss 0), stW cI (sa 1) (ss 1), stW cI (sa 2) (ss 2), stW cI (sa 3) (ss 3), stW cI (sa 4) (ss 4), stW cI (sa 5) (ss 5), ocW cI o φ, rdW rd ρ, bfW cC bu β, ouW cL ob f]) sz)) 1 6 (va_A (fl [mnW x a sv o rd bu ln, stW cI a σ, svO cO sv (saF sa) κ, stW cI (sa 0) (ss 0), stW cI (sa 1) (ss 1), stW cI (sa 2) (ss 2), stW cI (sa 3) (ss 3), stW cI (sa 4) (ss 4), stW cI (sa 5) (ss 5), ocW cI o φ, rdW rd ρ, bfW cC bu β, ouW cL ob f]) sz) := by
  refine metH ([(0, 9, 12, 13)]) (cc := cL_setting) (maxL := 4) (ret := (some .int)) (by decide) rfl ?_
  intro p9 e9 s m args9 below9 meth9 c9 s₁ B hml htab hv
  obtain ⟨rfl, hsz, hP, hK, hD0, hZ⟩ := hv
  have hx := B.exec
  have hb := B.bytes
  have hr := B.returns
  have hts := atoms_spec (ws := wsL_setting) B.pre
  have hown : s.vm.findClass RL = some m.cls := findClass_of_methodNamed B.named
  have hlocks := B.notSynchronized
  subst hsz
  have hD := hD0.self (sz := s.heap.size)
  generalize hAe : va_A (fl [mnW x a sv o rd bu ln, stW cI a σ, svO cO sv (saF sa) κ, stW cI (sa 0) (ss 0), stW cI (sa 1) (ss 1), stW cI (sa 2) (ss 2), stW cI (sa 3) (ss 3), stW cI (sa 4) (ss 4), stW cI (sa 5) (ss 5), ocW cI o φ, rdW rd ρ, bfW cC bu β, ouW cL ob f]) s.heap.size = A at hD hZ ⊢
  have hA : ∀ q : Nat, s.heap.size ≤ q → A q := fun q h => by rw [← hAe]; exact Or.inr h
  have hS : va_S A s.heap s.heap [] := va_S.rf
  have hP : va_P D vwCl (fl [mnW x a sv o rd bu ln, stW cI a σ, svO cO sv (saF sa) κ, stW cI (sa 0) (ss 0), stW cI (sa 1) (ss 1), stW cI (sa 2) (ss 2), stW cI (sa 3) (ss 3), stW cI (sa 4) (ss 4), stW cI (sa 5) (ss 5), ocW cI o φ, rdW rd ρ, bfW cC bu β, ouW cL ob f]) s.heap := hP
  have hl := lv_entry ([.ref (x 0), .int (iI (k)), .ref (ob 0)]) (n := 4) (Nat.le_of_ble_eq_true rfl)
  rw [lg_entry_eq]
  generalize (lg_sl ([.ref (x 0), .int (iI (k)), .ref (ob 0)]) ++ List.replicate (4 - (lg_sl ([.ref (x 0), .int (iI (k)), .ref (ob 0)])).length) Slot.unset).toArray = ls at hl ⊢
  have hl : lv_has ls 4 [(0, .ref (x 0)), (1, .int (iI (k))), (2, .ref (ob 0))] := hl
  have hI := hG.1
  have hkk := hG.2.1
  have hlnb := hG.2.2.2.1
  have hbb := hG.2.2.2.2
  have hnn := hI.n
  have htt := hI.t
  refine lv_aload_n hx hb dL_setting_0 rfl (lv_at hl 2 rfl) ?_
  refine wi_iconst hx hb dL_setting_1 ?_
  refine lv_aload_n hx hb dL_setting_2 rfl (lv_at hl 0 rfl) ?_
  refine lv_iload_n hx hb dL_setting_3 rfl (lv_at hl 1 rfl) ?_
  rcases (cd1_c : (cd1 (0 ≤ k ∧ k ≤ 1) = 0 ∧ _) ∨ _) with ⟨h9, hok0⟩ | h9
  · skip
    have hPc := fl_P (S' := [mnW x a sv o rd bu ln, stW cI a σ]) hP [0, 1] rfl
    have hKc := hK.sub (tys' := [(cI, FieldType.int), (cO, FieldType.object "PromisedCounters$State"), (cC, FieldType.char)]) [0, 1, 2] rfl
    refine wr_calli (va_runV (As := [.int (iI (k))]) (rest := [.int (iI (0)), .ref (ob 0)]) ⟨hx, hb, hml, hown, hts⟩ (c_X4_setting l D cI cO cC cL x a sv o rd bu ln σ (k) (by first | assumption | omega) (by first | assumption | omega)) (cwV 1 hts gL_setting_X4_setting rfl rfl rfl (by decide +kernel) ⟨Nat.le_of_ble_eq_true rfl, Nat.le_of_ble_eq_true rfl⟩) ⟨pcR_blind, va_recv hKc hPc (ci := 4) (q0 := 0) rfl rfl, pcR_of hPc hKc⟩ rfl rfl hl.1 rfl (lv_room (Nat.le_of_ble_eq_true rfl)) dL_setting_4 ⟨(Nat.zero_le _), (Nat.zero_le _)⟩) (fun r1 hr1 => ?_)
    subst hr1
    refine lv_i2l (v := iL ((σ 1 (k)))) hx hb dL_setting_7 rfl ?_
    refine wi_last hx hb hK hP hD hS 98 3 rfl rfl dL_setting_8 (fun H locs hP hD hS => ?_)
    have hP : va_P D vwCl (fl [mnW x a sv o rd bu ln, stW cI a σ, svO cO sv (saF sa) κ, stW cI (sa 0) (ss 0), stW cI (sa 1) (ss 1), stW cI (sa 2) (ss 2), stW cI (sa 3) (ss 3), stW cI (sa 4) (ss 4), stW cI (sa 5) (ss 5), ocW cI o φ, rdW rd ρ, bfW cC bu β, ouW cL ob (fun _ => (iL ((σ 1 (k)))))]) H := hP
    have hD : va_D A (fl [mnW x a sv o rd bu ln, stW cI a σ, svO cO sv (saF sa) κ, stW cI (sa 0) (ss 0), stW cI (sa 1) (ss 1), stW cI (sa 2) (ss 2), stW cI (sa 3) (ss 3), stW cI (sa 4) (ss 4), stW cI (sa 5) (ss 5), ocW cI o φ, rdW rd ρ, bfW cC bu β, ouW cL ob (fun _ => (iL ((σ 1 (k)))))]) := hD
    refine lv_goto (tgt := 15) hx hb dL_setting_9 (by decide) ?_
    refine wi_iconst hx hb dL_setting_15 ?_
    refine W.widen (k := 1) (n := 6) (by decide) (by decide) ?_
    exact W.iret (v := iI (0)) hx hb hr (fun t9 ht9 hW9 => ⟨⟨(0), ⟨ln, σ, κ, sa, ss, φ, ρ, β, (fun _ => (iL ((σ 1 (k)))))⟩, rfl, (OPL.good h9 rfl (rfl) ⟨rfl, rfl, rfl, rfl, rfl⟩), ⟨by rw [ht9]; exact hP, va_K.moved hW9.alike hK, hD⟩⟩, hS.F ht9⟩) hS.2.2 dL_setting_16 hlocks
  · skip
    have cx9 := x_X4_setting l hl9 D cI cO cC cL x a sv o rd bu ln σ k (by first | assumption | omega) hI (by rw [h9]; decide)
    rw [h9, show xnA 1 = "java/lang/IndexOutOfBoundsException" from rfl] at cx9
    have hPc := fl_P (S' := [mnW x a sv o rd bu ln, stW cI a σ]) hP [0, 1] rfl
    have hKc := hK.sub (tys' := [(cI, FieldType.int), (cO, FieldType.object "PromisedCounters$State"), (cC, FieldType.char)]) [0, 1, 2] rfl
    have hcl13 := hts (Cond.classLink RL 13 "java/lang/IndexOutOfBoundsException") (by decide +kernel)
    have hcst : (Cond.castable "java/lang/IndexOutOfBoundsException" "java/lang/IndexOutOfBoundsException").before ([.ref (x 0), .int (iI (k)), .ref (ob 0)] : List Value).toArray s = true := va_Nw.use (ZB_tabs _ (by decide)) (hZ.2.2.1 (Cond.castable "java/lang/IndexOutOfBoundsException" "java/lang/IndexOutOfBoundsException") (by decide))
    refine catchX (vx_runV (As := [.int (iI (k))]) (rest := [.int (iI (0)), .ref (ob 0)]) ⟨hx, hb, hml, hown, hts⟩ cx9 (cwV 1 hts gL_setting_X4_setting rfl rfl rfl (by decide +kernel) ⟨Nat.le_of_ble_eq_true rfl, Nat.le_of_ble_eq_true rfl⟩) ⟨pcX_blind, va_recv hKc hPc (ci := 4) (q0 := 0) rfl rfl, pcX_of hPc hKc hZ⟩ rfl rfl hl.1 rfl (lv_room (Nat.le_of_ble_eq_true rfl)) dL_setting_4 ⟨Nat.le_of_ble_eq_true rfl, Nat.le_of_ble_eq_true rfl⟩) hP hS hown [] ⟨0, 9, 12, 13⟩ [] htab (fun z hz => nomatch hz) (by decide) (by decide) hcl13 hcst (fun H locs xq hP hS => ?_)
    refine lv_astore_n (lv' := [(3, .ref (xq)), (0, .ref (x 0)), (1, .int (iI (k))), (2, .ref (ob 0))]) hx hb dL_setting_12 rfl hl (by decide) rfl (fun ls hl => ?_)
    refine wi_iconst hx hb dL_setting_13 ?_
    refine W.widen (k := 1) (n := 6) (by decide) (by decide) ?_
    exact W.iret (v := iI (1)) hx hb hr (fun t9 ht9 hW9 => ⟨⟨(1), ⟨ln, σ, κ, sa, ss, φ, ρ, β, f⟩, rfl, (OPL.bad h9 (by decide) rfl ⟨rfl, rfl, rfl, rfl, rfl⟩), ⟨by rw [ht9]; exact hP, va_K.moved hW9.alike hK, hD⟩⟩, hS.F ht9⟩) hS.2.2 dL_setting_14 hlocks
set_option maxHeartbeats 4000000 in
set_option maxRecDepth 100000 in
theorem lk_whyNot (l : Launch) (hl9 : l.stackTraces = false) (D : va_G) (cI cO cC cL : ClassId) (sz : Nat) (x a sv o rd bu ob : Nat → Nat) (ln σ κ φ ρ β : Nat → Int → Int) (sa : Nat → Nat → Nat) (ss : Nat → Nat → Int → Int) (f : Nat → Int64) (q c y : Int) (hq : R32 q) (hc : R32 c) (hy : R32 y) (hG : GI σ (κ 0 0) ss (ln 0 0) (β 1)) : Met l yL_whyNot wsL_whyNot ({ frames := 9, cells := 1, slots := 6, locals := 185 } : Room) (pcWX D [(cI, FieldType.int), (cO, FieldType.object "PromisedCounters$State"), (cC, FieldType.char), (cL, FieldType.long)] [.ref (x 0), .int (iI (q)), .int (iI (c)), .int (iI (y)), .ref (ob 0)] (fl [mnW x a sv o rd bu ln, stW cI a σ, svO cO sv (saF sa) κ, stW cI (sa 0) (ss 0), stW cI (sa 1) (ss 1), stW cI (sa 2) (ss 2), stW cI (sa 3) (ss 3), stW cI (sa 4) (ss 4), stW cI (sa 5) (ss 5), ocW cI o φ, rdW rd ρ, bfW cC bu β, ouW cL ob f]) sz) (wq_i (fun (r : Int) (u : LwS) => OPL (cd2 ((0 ≤ q ∧ q ≤ 5) ∧ (0 ≤ c ∧ c ≤ 3)) (y ≠ 0 ∧ -99 ≤ y ∧ y ≤ 99)) r (reasonS σ q c y (-1)) (LwS.f u) (LwQ u σ (κ 0 0) ss (ln 0 0) (β 1)) (LwQ u σ (κ 0 0) ss (ln 0 0) (β 1))) (fun (u : LwS) => (bW D [(cI, FieldType.int), (cO, FieldType.object "PromisedCounters$State"), (cC, FieldType.char), (cL, FieldType.long)] (fl [mnW x a sv o rd bu (LwS.ln u), stW cI a (LwS.σ u), svO cO sv (saF (LwS.sa u)) (LwS.κ u), stW cI (LwS.sa u 0) (LwS.ss u 0), stW cI (LwS.sa u 1) (LwS.ss u 1), stW cI (LwS.sa u 2) (LwS.ss u 2), stW cI (LwS.sa u 3) (LwS.ss u 3), stW cI (LwS.sa u 4) (LwS.ss u 4), stW cI (LwS.sa u 5) (LwS.ss u 5), ocW cI o (LwS.φ u), rdW rd (LwS.ρ u), bfW cC bu (LwS.β u), ouW cL ob (LwS.f u)]) (va_A (fl [mnW x a sv o rd bu ln, stW cI a σ, svO cO sv (saF sa) κ, stW cI (sa 0) (ss 0), stW cI (sa 1) (ss 1), stW cI (sa 2) (ss 2), stW cI (sa 3) (ss 3), stW cI (sa 4) (ss 4), stW cI (sa 5) (ss 5), ocW cI o φ, rdW rd ρ, bfW cC bu β, ouW cL ob f]) sz))) (va_A (fl [mnW x a sv o rd bu ln, stW cI a σ, svO cO sv (saF sa) κ, stW cI (sa 0) (ss 0), stW cI (sa 1) (ss 1), stW cI (sa 2) (ss 2), stW cI (sa 3) (ss 3), stW cI (sa 4) (ss 4), stW cI (sa 5) (ss 5), ocW cI o φ, rdW rd ρ, bfW cC bu β, ouW cL ob f]) sz)) 1 6 (va_A (fl [mnW x a sv o rd bu ln, stW cI a σ, svO cO sv (saF sa) κ, stW cI (sa 0) (ss 0), stW cI (sa 1) (ss 1), stW cI (sa 2) (ss 2), stW cI (sa 3) (ss 3), stW cI (sa 4) (ss 4), stW cI (sa 5) (ss 5), ocW cI o φ, rdW rd ρ, bfW cC bu β, ouW cL ob f]) sz) := by
  refine metH ([(0, 12, 15, 13), (0, 12, 19, 15)]) (cc := cL_whyNot) (maxL := 6) (ret := (some .int)) (by decide) rfl ?_
  intro p9 e9 s m args9 below9 meth9 c9 s₁ B hml htab hv
  obtain ⟨rfl, hsz, hP, hK, hD0, hZ⟩ := hv
  have hx := B.exec
  have hb := B.bytes
  have hr := B.returns
  have hts := atoms_spec (ws := wsL_whyNot) B.pre
  have hown : s.vm.findClass RL = some m.cls := findClass_of_methodNamed B.named
  have hlocks := B.notSynchronized
  subst hsz
  have hD := hD0.self (sz := s.heap.size)
  generalize hAe : va_A (fl [mnW x a sv o rd bu ln, stW cI a σ, svO cO sv (saF sa) κ, stW cI (sa 0) (ss 0), stW cI (sa 1) (ss 1), stW cI (sa 2) (ss 2), stW cI (sa 3) (ss 3), stW cI (sa 4) (ss 4), stW cI (sa 5) (ss 5), ocW cI o φ, rdW rd ρ, bfW cC bu β, ouW cL ob f]) s.heap.size = A at hD hZ ⊢
  have hA : ∀ q : Nat, s.heap.size ≤ q → A q := fun q h => by rw [← hAe]; exact Or.inr h
  have hS : va_S A s.heap s.heap [] := va_S.rf
  have hP : va_P D vwCl (fl [mnW x a sv o rd bu ln, stW cI a σ, svO cO sv (saF sa) κ, stW cI (sa 0) (ss 0), stW cI (sa 1) (ss 1), stW cI (sa 2) (ss 2), stW cI (sa 3) (ss 3), stW cI (sa 4) (ss 4), stW cI (sa 5) (ss 5), ocW cI o φ, rdW rd ρ, bfW cC bu β, ouW cL ob f]) s.heap := hP
  have hl := lv_entry ([.ref (x 0), .int (iI (q)), .int (iI (c)), .int (iI (y)), .ref (ob 0)]) (n := 6) (Nat.le_of_ble_eq_true rfl)
  rw [lg_entry_eq]
  generalize (lg_sl ([.ref (x 0), .int (iI (q)), .int (iI (c)), .int (iI (y)), .ref (ob 0)]) ++ List.replicate (6 - (lg_sl ([.ref (x 0), .int (iI (q)), .int (iI (c)), .int (iI (y)), .ref (ob 0)])).length) Slot.unset).toArray = ls at hl ⊢
  have hl : lv_has ls 6 [(0, .ref (x 0)), (1, .int (iI (q))), (2, .int (iI (c))), (3, .int (iI (y))), (4, .ref (ob 0))] := hl
  have hI := hG.1
  have hkk := hG.2.1
  have hlnb := hG.2.2.2.1
  have hbb := hG.2.2.2.2
  have hnn := hI.n
  have htt := hI.t
  refine lv_aload hx hb dL_whyNot_0 (lv_at hl 4 rfl) ?_
  refine wi_iconst hx hb dL_whyNot_2 ?_
  refine lv_aload_n hx hb dL_whyNot_3 rfl (lv_at hl 0 rfl) ?_
  refine lv_iload_n hx hb dL_whyNot_4 rfl (lv_at hl 1 rfl) ?_
  refine lv_iload_n hx hb dL_whyNot_5 rfl (lv_at hl 2 rfl) ?_
  refine lv_iload_n hx hb dL_whyNot_6 rfl (lv_at hl 3 rfl) ?_
  rcases (cd2_c : (cd2 ((0 ≤ q ∧ q ≤ 5) ∧ (0 ≤ c ∧ c ≤ 3)) (y ≠ 0 ∧ -99 ≤ y ∧ y ≤ 99) = 0 ∧ _) ∨ _) with ⟨h9, hok0, hok1⟩ | h9 | h9
  · skip
    have hPc := fl_P (S' := [mnW x a sv o rd bu ln, stW cI a σ]) hP [0, 1] rfl
    have hKc := hK.sub (tys' := [(cI, FieldType.int), (cO, FieldType.object "PromisedCounters$State"), (cC, FieldType.char)]) [0, 1, 2] rfl
    refine wr_calli (va_runV (As := [.int (iI (q)), .int (iI (c)), .int (iI (y))]) (rest := [.int (iI (0)), .ref (ob 0)]) ⟨hx, hb, hml, hown, hts⟩ (c_X4_whyNot l D cI cO cC cL x a sv o rd bu ln σ (q) (c) (y) (by first | assumption | omega) (by first | assumption | omega) (by first | assumption | omega) (by first | assumption | omega)) (cwV 3 hts gL_whyNot_X4_whyNot rfl rfl rfl (by decide +kernel) ⟨Nat.le_of_ble_eq_true rfl, Nat.le_of_ble_eq_true rfl⟩) ⟨pcR_blind, va_recv hKc hPc (ci := 4) (q0 := 0) rfl rfl, pcR_of hPc hKc⟩ rfl rfl hl.1 rfl (lv_room (Nat.le_of_ble_eq_true rfl)) dL_whyNot_7 ⟨(Nat.zero_le _), (Nat.zero_le _)⟩) (fun r1 hr1 => ?_)
    subst hr1
    refine lv_i2l (v := iL ((reasonS σ (q) (c) (y) (-1)))) hx hb dL_whyNot_10 rfl ?_
    refine wi_last hx hb hK hP hD hS 98 3 rfl rfl dL_whyNot_11 (fun H locs hP hD hS => ?_)
    have hP : va_P D vwCl (fl [mnW x a sv o rd bu ln, stW cI a σ, svO cO sv (saF sa) κ, stW cI (sa 0) (ss 0), stW cI (sa 1) (ss 1), stW cI (sa 2) (ss 2), stW cI (sa 3) (ss 3), stW cI (sa 4) (ss 4), stW cI (sa 5) (ss 5), ocW cI o φ, rdW rd ρ, bfW cC bu β, ouW cL ob (fun _ => (iL ((reasonS σ (q) (c) (y) (-1)))))]) H := hP
    have hD : va_D A (fl [mnW x a sv o rd bu ln, stW cI a σ, svO cO sv (saF sa) κ, stW cI (sa 0) (ss 0), stW cI (sa 1) (ss 1), stW cI (sa 2) (ss 2), stW cI (sa 3) (ss 3), stW cI (sa 4) (ss 4), stW cI (sa 5) (ss 5), ocW cI o φ, rdW rd ρ, bfW cC bu β, ouW cL ob (fun _ => (iL ((reasonS σ (q) (c) (y) (-1)))))]) := hD
    refine lv_goto (tgt := 23) hx hb dL_whyNot_12 (by decide) ?_
    refine wi_iconst hx hb dL_whyNot_23 ?_
    refine W.widen (k := 1) (n := 6) (by decide) (by decide) ?_
    exact W.iret (v := iI (0)) hx hb hr (fun t9 ht9 hW9 => ⟨⟨(0), ⟨ln, σ, κ, sa, ss, φ, ρ, β, (fun _ => (iL ((reasonS σ (q) (c) (y) (-1)))))⟩, rfl, (OPL.good h9 rfl (rfl) ⟨rfl, rfl, rfl, rfl, rfl⟩), ⟨by rw [ht9]; exact hP, va_K.moved hW9.alike hK, hD⟩⟩, hS.F ht9⟩) hS.2.2 dL_whyNot_24 hlocks
  · skip
    have cx9 := x_X4_whyNot l hl9 D cI cO cC cL x a sv o rd bu ln σ q c y (by first | assumption | omega) (by first | assumption | omega) (by first | assumption | omega) hI (by rw [h9]; decide)
    rw [h9, show xnA 1 = "java/lang/IndexOutOfBoundsException" from rfl] at cx9
    have hPc := fl_P (S' := [mnW x a sv o rd bu ln, stW cI a σ]) hP [0, 1] rfl
    have hKc := hK.sub (tys' := [(cI, FieldType.int), (cO, FieldType.object "PromisedCounters$State"), (cC, FieldType.char)]) [0, 1, 2] rfl
    have hcl13 := hts (Cond.classLink RL 13 "java/lang/IndexOutOfBoundsException") (by decide +kernel)
    have hcst : (Cond.castable "java/lang/IndexOutOfBoundsException" "java/lang/IndexOutOfBoundsException").before ([.ref (x 0), .int (iI (q)), .int (iI (c)), .int (iI (y)), .ref (ob 0)] : List Value).toArray s = true := va_Nw.use (ZB_tabs _ (by decide)) (hZ.2.2.1 (Cond.castable "java/lang/IndexOutOfBoundsException" "java/lang/IndexOutOfBoundsException") (by decide))
    refine catchX (vx_runV (As := [.int (iI (q)), .int (iI (c)), .int (iI (y))]) (rest := [.int (iI (0)), .ref (ob 0)]) ⟨hx, hb, hml, hown, hts⟩ cx9 (cwV 3 hts gL_whyNot_X4_whyNot rfl rfl rfl (by decide +kernel) ⟨Nat.le_of_ble_eq_true rfl, Nat.le_of_ble_eq_true rfl⟩) ⟨pcX_blind, va_recv hKc hPc (ci := 4) (q0 := 0) rfl rfl, pcX_of hPc hKc hZ⟩ rfl rfl hl.1 rfl (lv_room (Nat.le_of_ble_eq_true rfl)) dL_whyNot_7 ⟨Nat.le_of_ble_eq_true rfl, Nat.le_of_ble_eq_true rfl⟩) hP hS hown [] ⟨0, 12, 15, 13⟩ [⟨0, 12, 19, 15⟩] htab (fun z hz => nomatch hz) (by decide) (by decide) hcl13 hcst (fun H locs xq hP hS => ?_)
    refine lv_astore (lv' := [(5, .ref (xq)), (0, .ref (x 0)), (1, .int (iI (q))), (2, .int (iI (c))), (3, .int (iI (y))), (4, .ref (ob 0))]) hx hb dL_whyNot_15 hl (by decide) rfl (fun ls hl => ?_)
    refine wi_iconst hx hb dL_whyNot_17 ?_
    refine W.widen (k := 1) (n := 6) (by decide) (by decide) ?_
    exact W.iret (v := iI (1)) hx hb hr (fun t9 ht9 hW9 => ⟨⟨(1), ⟨ln, σ, κ, sa, ss, φ, ρ, β, f⟩, rfl, (OPL.bad h9 (by decide) rfl ⟨rfl, rfl, rfl, rfl, rfl⟩), ⟨by rw [ht9]; exact hP, va_K.moved hW9.alike hK, hD⟩⟩, hS.F ht9⟩) hS.2.2 dL_whyNot_18 hlocks
  · skip
    have cx9 := x_X4_whyNot l hl9 D cI cO cC cL x a sv o rd bu ln σ q c y (by first | assumption | omega) (by first | assumption | omega) (by first | assumption | omega) hI (by rw [h9]; decide)
    rw [h9, show xnA 2 = "java/lang/IllegalArgumentException" from rfl] at cx9
    have hPc := fl_P (S' := [mnW x a sv o rd bu ln, stW cI a σ]) hP [0, 1] rfl
    have hKc := hK.sub (tys' := [(cI, FieldType.int), (cO, FieldType.object "PromisedCounters$State"), (cC, FieldType.char)]) [0, 1, 2] rfl
    have hcl13 := hts (Cond.classLink RL 13 "java/lang/IndexOutOfBoundsException") (by decide +kernel)
    have hcl15 := hts (Cond.classLink RL 15 "java/lang/IllegalArgumentException") (by decide +kernel)
    have hcst : (Cond.castable "java/lang/IllegalArgumentException" "java/lang/IllegalArgumentException").before ([.ref (x 0), .int (iI (q)), .int (iI (c)), .int (iI (y)), .ref (ob 0)] : List Value).toArray s = true := va_Nw.use (ZB_tabs _ (by decide)) (hZ.2.2.1 (Cond.castable "java/lang/IllegalArgumentException" "java/lang/IllegalArgumentException") (by decide))
    refine catchX (vx_runV (As := [.int (iI (q)), .int (iI (c)), .int (iI (y))]) (rest := [.int (iI (0)), .ref (ob 0)]) ⟨hx, hb, hml, hown, hts⟩ cx9 (cwV 3 hts gL_whyNot_X4_whyNot rfl rfl rfl (by decide +kernel) ⟨Nat.le_of_ble_eq_true rfl, Nat.le_of_ble_eq_true rfl⟩) ⟨pcX_blind, va_recv hKc hPc (ci := 4) (q0 := 0) rfl rfl, pcX_of hPc hKc hZ⟩ rfl rfl hl.1 rfl (lv_room (Nat.le_of_ble_eq_true rfl)) dL_whyNot_7 ⟨Nat.le_of_ble_eq_true rfl, Nat.le_of_ble_eq_true rfl⟩) hP hS hown [⟨0, 12, 15, 13⟩] ⟨0, 12, 19, 15⟩ [] htab (fun z hz => by cases List.mem_singleton.mp hz; exact Or.inr ⟨by decide, _, hcl13, hZ.2.2.2.1⟩) (by decide) (by decide) hcl15 hcst (fun H locs xq hP hS => ?_)
    refine lv_astore (lv' := [(5, .ref (xq)), (0, .ref (x 0)), (1, .int (iI (q))), (2, .int (iI (c))), (3, .int (iI (y))), (4, .ref (ob 0))]) hx hb dL_whyNot_19 hl (by decide) rfl (fun ls hl => ?_)
    refine wi_iconst hx hb dL_whyNot_21 ?_
    refine W.widen (k := 1) (n := 6) (by decide) (by decide) ?_
    exact W.iret (v := iI (2)) hx hb hr (fun t9 ht9 hW9 => ⟨⟨(2), ⟨ln, σ, κ, sa, ss, φ, ρ, β, f⟩, rfl, (OPL.bad h9 (by decide) rfl ⟨rfl, rfl, rfl, rfl, rfl⟩), ⟨by rw [ht9]; exact hP, va_K.moved hW9.alike hK, hD⟩⟩, hS.F ht9⟩) hS.2.2 dL_whyNot_22 hlocks
set_option maxHeartbeats 4000000 in
set_option maxRecDepth 100000 in
theorem lk_canBe (l : Launch) (hl9 : l.stackTraces = false) (D : va_G) (cI cO cC cL : ClassId) (sz : Nat) (x a sv o rd bu ob : Nat → Nat) (ln σ κ φ ρ β : Nat → Int → Int) (sa : Nat → Nat → Nat) (ss : Nat → Nat → Int → Int) (f : Nat → Int64) (c v : Int) (hc : R32 c) (hv : R32 v) (hG : GI σ (κ 0 0) ss (ln 0 0) (β 1)) : Met l yL_canBe wsL_canBe ({ frames := 8, cells := 1, slots := 6, locals := 163 } : Room) (pcWX D [(cI, FieldType.int), (cO, FieldType.object "PromisedCounters$State"), (cC, FieldType.char), (cL, FieldType.long)] [.ref (x 0), .int (iI (c)), .int (iI (v)), .ref (ob 0)] (fl [mnW x a sv o rd bu ln, stW cI a σ, svO cO sv (saF sa) κ, stW cI (sa 0) (ss 0), stW cI (sa 1) (ss 1), stW cI (sa 2) (ss 2), stW cI (sa 3) (ss 3), stW cI (sa 4) (ss 4), stW cI (sa 5) (ss 5), ocW cI o φ, rdW rd ρ, bfW cC bu β, ouW cL ob f]) sz) (wq_i (fun (r : Int) (u : LwS) => OPL (cd1 (0 ≤ c ∧ c ≤ 3)) r (fewS σ c v) (LwS.f u) (LwQ u σ (κ 0 0) ss (ln 0 0) (β 1)) (LwQ u σ (κ 0 0) ss (ln 0 0) (β 1))) (fun (u : LwS) => (bW D [(cI, FieldType.int), (cO, FieldType.object "PromisedCounters$State"), (cC, FieldType.char), (cL, FieldType.long)] (fl [mnW x a sv o rd bu (LwS.ln u), stW cI a (LwS.σ u), svO cO sv (saF (LwS.sa u)) (LwS.κ u), stW cI (LwS.sa u 0) (LwS.ss u 0), stW cI (LwS.sa u 1) (LwS.ss u 1), stW cI (LwS.sa u 2) (LwS.ss u 2), stW cI (LwS.sa u 3) (LwS.ss u 3), stW cI (LwS.sa u 4) (LwS.ss u 4), stW cI (LwS.sa u 5) (LwS.ss u 5), ocW cI o (LwS.φ u), rdW rd (LwS.ρ u), bfW cC bu (LwS.β u), ouW cL ob (LwS.f u)]) (va_A (fl [mnW x a sv o rd bu ln, stW cI a σ, svO cO sv (saF sa) κ, stW cI (sa 0) (ss 0), stW cI (sa 1) (ss 1), stW cI (sa 2) (ss 2), stW cI (sa 3) (ss 3), stW cI (sa 4) (ss 4), stW cI (sa 5) (ss 5), ocW cI o φ, rdW rd ρ, bfW cC bu β, ouW cL ob f]) sz))) (va_A (fl [mnW x a sv o rd bu ln, stW cI a σ, svO cO sv (saF sa) κ, stW cI (sa 0) (ss 0), stW cI (sa 1) (ss 1), stW cI (sa 2) (ss 2), stW cI (sa 3) (ss 3), stW cI (sa 4) (ss 4), stW cI (sa 5) (ss 5), ocW cI o φ, rdW rd ρ, bfW cC bu β, ouW cL ob f]) sz)) 1 6 (va_A (fl [mnW x a sv o rd bu ln, stW cI a σ, svO cO sv (saF sa) κ, stW cI (sa 0) (ss 0), stW cI (sa 1) (ss 1), stW cI (sa 2) (ss 2), stW cI (sa 3) (ss 3), stW cI (sa 4) (ss 4), stW cI (sa 5) (ss 5), ocW cI o φ, rdW rd ρ, bfW cC bu β, ouW cL ob f]) sz) := by
  refine metH ([(0, 10, 13, 13)]) (cc := cL_canBe) (maxL := 5) (ret := (some .int)) (by decide) rfl ?_
  intro p9 e9 s m args9 below9 meth9 c9 s₁ B hml htab hv
  obtain ⟨rfl, hsz, hP, hK, hD0, hZ⟩ := hv
  have hx := B.exec
  have hb := B.bytes
  have hr := B.returns
  have hts := atoms_spec (ws := wsL_canBe) B.pre
  have hown : s.vm.findClass RL = some m.cls := findClass_of_methodNamed B.named
  have hlocks := B.notSynchronized
  subst hsz
  have hD := hD0.self (sz := s.heap.size)
  generalize hAe : va_A (fl [mnW x a sv o rd bu ln, stW cI a σ, svO cO sv (saF sa) κ, stW cI (sa 0) (ss 0), stW cI (sa 1) (ss 1), stW cI (sa 2) (ss 2), stW cI (sa 3) (ss 3), stW cI (sa 4) (ss 4), stW cI (sa 5) (ss 5), ocW cI o φ, rdW rd ρ, bfW cC bu β, ouW cL ob f]) s.heap.size = A at hD hZ ⊢
  have hA : ∀ q : Nat, s.heap.size ≤ q → A q := fun q h => by rw [← hAe]; exact Or.inr h
  have hS : va_S A s.heap s.heap [] := va_S.rf
  have hP : va_P D vwCl (fl [mnW x a sv o rd bu ln, stW cI a σ, svO cO sv (saF sa) κ, stW cI (sa 0) (ss 0), stW cI (sa 1) (ss 1), stW cI (sa 2) (ss 2), stW cI (sa 3) (ss 3), stW cI (sa 4) (ss 4), stW cI (sa 5) (ss 5), ocW cI o φ, rdW rd ρ, bfW cC bu β, ouW cL ob f]) s.heap := hP
  have hl := lv_entry ([.ref (x 0), .int (iI (c)), .int (iI (v)), .ref (ob 0)]) (n := 5) (Nat.le_of_ble_eq_true rfl)
  rw [lg_entry_eq]
  generalize (lg_sl ([.ref (x 0), .int (iI (c)), .int (iI (v)), .ref (ob 0)]) ++ List.replicate (5 - (lg_sl ([.ref (x 0), .int (iI (c)), .int (iI (v)), .ref (ob 0)])).length) Slot.unset).toArray = ls at hl ⊢
  have hl : lv_has ls 5 [(0, .ref (x 0)), (1, .int (iI (c))), (2, .int (iI (v))), (3, .ref (ob 0))] := hl
  have hI := hG.1
  have hkk := hG.2.1
  have hlnb := hG.2.2.2.1
  have hbb := hG.2.2.2.2
  have hnn := hI.n
  have htt := hI.t
  refine lv_aload_n hx hb dL_canBe_0 rfl (lv_at hl 3 rfl) ?_
  refine wi_iconst hx hb dL_canBe_1 ?_
  refine lv_aload_n hx hb dL_canBe_2 rfl (lv_at hl 0 rfl) ?_
  refine lv_iload_n hx hb dL_canBe_3 rfl (lv_at hl 1 rfl) ?_
  refine lv_iload_n hx hb dL_canBe_4 rfl (lv_at hl 2 rfl) ?_
  rcases (cd1_c : (cd1 (0 ≤ c ∧ c ≤ 3) = 0 ∧ _) ∨ _) with ⟨h9, hok0⟩ | h9
  · skip
    have hPc := fl_P (S' := [mnW x a sv o rd bu ln, stW cI a σ, ocW cI o φ]) hP [0, 1, 9] rfl
    have hKc := hK.sub (tys' := [(cI, FieldType.int), (cO, FieldType.object "PromisedCounters$State"), (cC, FieldType.char)]) [0, 1, 2] rfl
    have hDc := fl_D (S' := [mnW x a sv o rd bu ln, stW cI a σ, ocW cI o φ]) hD [0, 1, 9] (by decide) rfl
    have hFc := fl_free (SC := [mnW x a sv o rd bu ln, stW cI a σ, ocW cI o φ]) hD hS hA [0, 1, 9] rfl
    refine wq_calli (va_runV (As := [.int (iI (c)), .int (iI (v))]) (rest := [.int (iI (0)), .ref (ob 0)]) ⟨hx, hb, hml, hown, hts⟩ (c_X4_canBe l D cI cO cC cL s.heap.size x a sv o rd bu ln σ φ (c) (v) (by first | assumption | omega) (by first | assumption | omega) (by first | assumption | omega)) (cwV 2 hts gL_canBe_X4_canBe rfl rfl rfl (by decide +kernel) ⟨Nat.le_of_ble_eq_true rfl, Nat.le_of_ble_eq_true rfl⟩) ⟨pcW_blind, va_recv hKc hPc (ci := 4) (q0 := 0) rfl rfl, pcW_of hPc hKc hDc⟩ rfl rfl hl.1 rfl (lv_room (Nat.le_of_ble_eq_true rfl)) dL_canBe_5 ⟨(Nat.zero_le _), (Nat.zero_le _)⟩) hS (fun q _ h => hFc q h) hFc (fun r1 u3 t9 H1 locs ht9 hvm hcl2 hB hz1 hk1 hS => ?_)
    obtain ⟨hP1, hK1, hD1⟩ := hB
    rw [ht9] at hP1
    obtain ⟨hP, hD⟩ := fl_join (SR := [svO cO sv (saF sa) κ, stW cI (sa 0) (ss 0), stW cI (sa 1) (ss 1), stW cI (sa 2) (ss 2), stW cI (sa 3) (ss 3), stW cI (sa 4) (ss 4), stW cI (sa 5) (ss 5), rdW rd ρ, bfW cC bu β, ouW cL ob f]) (S1 := [mnW x a sv o rd bu ln, stW cI a σ, ocW cI o u3]) hP hD [0, 1, 9] [2, 3, 4, 5, 6, 7, 8, 10, 11, 12] rfl rfl (by decide) (by decide) hk1 hFc hP1 hD1
    generalize H1 = H at hP hS ⊢
    have hP := fl_P (S' := [mnW x a sv o rd bu ln, stW cI a σ, svO cO sv (saF sa) κ, stW cI (sa 0) (ss 0), stW cI (sa 1) (ss 1), stW cI (sa 2) (ss 2), stW cI (sa 3) (ss 3), stW cI (sa 4) (ss 4), stW cI (sa 5) (ss 5), ocW cI o u3, rdW rd ρ, bfW cC bu β, ouW cL ob f]) hP [10, 11, 0, 1, 2, 3, 4, 5, 6, 12, 7, 8, 9] rfl
    have hD := fl_D (S' := [mnW x a sv o rd bu ln, stW cI a σ, svO cO sv (saF sa) κ, stW cI (sa 0) (ss 0), stW cI (sa 1) (ss 1), stW cI (sa 2) (ss 2), stW cI (sa 3) (ss 3), stW cI (sa 4) (ss 4), stW cI (sa 5) (ss 5), ocW cI o u3, rdW rd ρ, bfW cC bu β, ouW cL ob f]) hD [10, 11, 0, 1, 2, 3, 4, 5, 6, 12, 7, 8, 9] (by decide) rfl
    refine lv_i2l (v := iL (r1)) hx hb dL_canBe_8 rfl ?_
    refine wi_last hx hb hK hP hD hS 98 3 rfl rfl dL_canBe_9 (fun H locs hP hD hS => ?_)
    have hP : va_P D vwCl (fl [mnW x a sv o rd bu ln, stW cI a σ, svO cO sv (saF sa) κ, stW cI (sa 0) (ss 0), stW cI (sa 1) (ss 1), stW cI (sa 2) (ss 2), stW cI (sa 3) (ss 3), stW cI (sa 4) (ss 4), stW cI (sa 5) (ss 5), ocW cI o u3, rdW rd ρ, bfW cC bu β, ouW cL ob (fun _ => (iL (r1)))]) H := hP
    have hD : va_D A (fl [mnW x a sv o rd bu ln, stW cI a σ, svO cO sv (saF sa) κ, stW cI (sa 0) (ss 0), stW cI (sa 1) (ss 1), stW cI (sa 2) (ss 2), stW cI (sa 3) (ss 3), stW cI (sa 4) (ss 4), stW cI (sa 5) (ss 5), ocW cI o u3, rdW rd ρ, bfW cC bu β, ouW cL ob (fun _ => (iL (r1)))]) := hD
    refine lv_goto (tgt := 17) hx hb dL_canBe_10 (by decide) ?_
    refine wi_iconst hx hb dL_canBe_17 ?_
    refine W.widen (k := 1) (n := 6) (by decide) (by decide) ?_
    exact W.iret (v := iI (0)) hx hb hr (fun t9 ht9 hW9 => ⟨⟨(0), ⟨ln, σ, κ, sa, ss, u3, ρ, β, (fun _ => (iL (r1)))⟩, rfl, (OPL.good h9 rfl (congrArg (fun z : Int => fun _ : Nat => iL z) hcl2) ⟨rfl, rfl, rfl, rfl, rfl⟩), ⟨by rw [ht9]; exact hP, va_K.moved hW9.alike hK, hD⟩⟩, hS.F ht9⟩) hS.2.2 dL_canBe_18 hlocks
  · skip
    have cx9 := x_X4_canBe l hl9 D cI cO cC cL x a sv o rd bu ln σ c v (by first | assumption | omega) (by first | assumption | omega) hI (by rw [h9]; decide)
    rw [h9, show xnA 1 = "java/lang/IndexOutOfBoundsException" from rfl] at cx9
    have hPc := fl_P (S' := [mnW x a sv o rd bu ln, stW cI a σ]) hP [0, 1] rfl
    have hKc := hK.sub (tys' := [(cI, FieldType.int), (cO, FieldType.object "PromisedCounters$State"), (cC, FieldType.char)]) [0, 1, 2] rfl
    have hcl13 := hts (Cond.classLink RL 13 "java/lang/IndexOutOfBoundsException") (by decide +kernel)
    have hcst : (Cond.castable "java/lang/IndexOutOfBoundsException" "java/lang/IndexOutOfBoundsException").before ([.ref (x 0), .int (iI (c)), .int (iI (v)), .ref (ob 0)] : List Value).toArray s = true := va_Nw.use (ZB_tabs _ (by decide)) (hZ.2.2.1 (Cond.castable "java/lang/IndexOutOfBoundsException" "java/lang/IndexOutOfBoundsException") (by decide))
    refine catchX (vx_runV (As := [.int (iI (c)), .int (iI (v))]) (rest := [.int (iI (0)), .ref (ob 0)]) ⟨hx, hb, hml, hown, hts⟩ cx9 (cwV 2 hts gL_canBe_X4_canBe rfl rfl rfl (by decide +kernel) ⟨Nat.le_of_ble_eq_true rfl, Nat.le_of_ble_eq_true rfl⟩) ⟨pcX_blind, va_recv hKc hPc (ci := 4) (q0 := 0) rfl rfl, pcX_of hPc hKc hZ⟩ rfl rfl hl.1 rfl (lv_room (Nat.le_of_ble_eq_true rfl)) dL_canBe_5 ⟨Nat.le_of_ble_eq_true rfl, Nat.le_of_ble_eq_true rfl⟩) hP hS hown [] ⟨0, 10, 13, 13⟩ [] htab (fun z hz => nomatch hz) (by decide) (by decide) hcl13 hcst (fun H locs xq hP hS => ?_)
    refine lv_astore (lv' := [(4, .ref (xq)), (0, .ref (x 0)), (1, .int (iI (c))), (2, .int (iI (v))), (3, .ref (ob 0))]) hx hb dL_canBe_13 hl (by decide) rfl (fun ls hl => ?_)
    refine wi_iconst hx hb dL_canBe_15 ?_
    refine W.widen (k := 1) (n := 6) (by decide) (by decide) ?_
    exact W.iret (v := iI (1)) hx hb hr (fun t9 ht9 hW9 => ⟨⟨(1), ⟨ln, σ, κ, sa, ss, φ, ρ, β, f⟩, rfl, (OPL.bad h9 (by decide) rfl ⟨rfl, rfl, rfl, rfl, rfl⟩), ⟨by rw [ht9]; exact hP, va_K.moved hW9.alike hK, hD⟩⟩, hS.F ht9⟩) hS.2.2 dL_canBe_16 hlocks
set_option maxHeartbeats 4000000 in
set_option maxRecDepth 100000 in
theorem lk_mostFor (l : Launch) (hl9 : l.stackTraces = false) (D : va_G) (cI cO cC cL : ClassId) (sz : Nat) (x a sv o rd bu ob : Nat → Nat) (ln σ κ φ ρ β : Nat → Int → Int) (sa : Nat → Nat → Nat) (ss : Nat → Nat → Int → Int) (f : Nat → Int64) (q c im : Int) (hq : R32 q) (hc : R32 c) (him : im = 0 ∨ im = 1) (hG : GI σ (κ 0 0) ss (ln 0 0) (β 1)) : Met l yL_mostFor wsL_mostFor ({ frames := 8, cells := 1, slots := 6, locals := 165 } : Room) (pcWX D [(cI, FieldType.int), (cO, FieldType.object "PromisedCounters$State"), (cC, FieldType.char), (cL, FieldType.long)] [.ref (x 0), .int (iI (q)), .int (iI (c)), .int (iI (im)), .ref (ob 0)] (fl [mnW x a sv o rd bu ln, stW cI a σ, svO cO sv (saF sa) κ, stW cI (sa 0) (ss 0), stW cI (sa 1) (ss 1), stW cI (sa 2) (ss 2), stW cI (sa 3) (ss 3), stW cI (sa 4) (ss 4), stW cI (sa 5) (ss 5), ocW cI o φ, rdW rd ρ, bfW cC bu β, ouW cL ob f]) sz) (wq_i (fun (r : Int) (u : LwS) => OPL (cd1 ((0 ≤ q ∧ q ≤ 5) ∧ (0 ≤ c ∧ c ≤ 3))) r (mostS σ q c im) (LwS.f u) (LwQ u σ (κ 0 0) ss (ln 0 0) (β 1)) (LwQ u σ (κ 0 0) ss (ln 0 0) (β 1))) (fun (u : LwS) => (bW D [(cI, FieldType.int), (cO, FieldType.object "PromisedCounters$State"), (cC, FieldType.char), (cL, FieldType.long)] (fl [mnW x a sv o rd bu (LwS.ln u), stW cI a (LwS.σ u), svO cO sv (saF (LwS.sa u)) (LwS.κ u), stW cI (LwS.sa u 0) (LwS.ss u 0), stW cI (LwS.sa u 1) (LwS.ss u 1), stW cI (LwS.sa u 2) (LwS.ss u 2), stW cI (LwS.sa u 3) (LwS.ss u 3), stW cI (LwS.sa u 4) (LwS.ss u 4), stW cI (LwS.sa u 5) (LwS.ss u 5), ocW cI o (LwS.φ u), rdW rd (LwS.ρ u), bfW cC bu (LwS.β u), ouW cL ob (LwS.f u)]) (va_A (fl [mnW x a sv o rd bu ln, stW cI a σ, svO cO sv (saF sa) κ, stW cI (sa 0) (ss 0), stW cI (sa 1) (ss 1), stW cI (sa 2) (ss 2), stW cI (sa 3) (ss 3), stW cI (sa 4) (ss 4), stW cI (sa 5) (ss 5), ocW cI o φ, rdW rd ρ, bfW cC bu β, ouW cL ob f]) sz))) (va_A (fl [mnW x a sv o rd bu ln, stW cI a σ, svO cO sv (saF sa) κ, stW cI (sa 0) (ss 0), stW cI (sa 1) (ss 1), stW cI (sa 2) (ss 2), stW cI (sa 3) (ss 3), stW cI (sa 4) (ss 4), stW cI (sa 5) (ss 5), ocW cI o φ, rdW rd ρ, bfW cC bu β, ouW cL ob f]) sz)) 1 6 (va_A (fl [mnW x a sv o rd bu ln, stW cI a σ, svO cO sv (saF sa) κ, stW cI (sa 0) (ss 0), stW cI (sa 1) (ss 1), stW cI (sa 2) (ss 2), stW cI (sa 3) (ss 3), stW cI (sa 4) (ss 4), stW cI (sa 5) (ss 5), ocW cI o φ, rdW rd ρ, bfW cC bu β, ouW cL ob f]) sz) := by
  refine metH ([(0, 12, 15, 13)]) (cc := cL_mostFor) (maxL := 6) (ret := (some .int)) (by decide) rfl ?_
  intro p9 e9 s m args9 below9 meth9 c9 s₁ B hml htab hv
  obtain ⟨rfl, hsz, hP, hK, hD0, hZ⟩ := hv
  have hx := B.exec
  have hb := B.bytes
  have hr := B.returns
  have hts := atoms_spec (ws := wsL_mostFor) B.pre
  have hown : s.vm.findClass RL = some m.cls := findClass_of_methodNamed B.named
  have hlocks := B.notSynchronized
  subst hsz
  have hD := hD0.self (sz := s.heap.size)
  generalize hAe : va_A (fl [mnW x a sv o rd bu ln, stW cI a σ, svO cO sv (saF sa) κ, stW cI (sa 0) (ss 0), stW cI (sa 1) (ss 1), stW cI (sa 2) (ss 2), stW cI (sa 3) (ss 3), stW cI (sa 4) (ss 4), stW cI (sa 5) (ss 5), ocW cI o φ, rdW rd ρ, bfW cC bu β, ouW cL ob f]) s.heap.size = A at hD hZ ⊢
  have hA : ∀ q : Nat, s.heap.size ≤ q → A q := fun q h => by rw [← hAe]; exact Or.inr h
  have hS : va_S A s.heap s.heap [] := va_S.rf
  have hP : va_P D vwCl (fl [mnW x a sv o rd bu ln, stW cI a σ, svO cO sv (saF sa) κ, stW cI (sa 0) (ss 0), stW cI (sa 1) (ss 1), stW cI (sa 2) (ss 2), stW cI (sa 3) (ss 3), stW cI (sa 4) (ss 4), stW cI (sa 5) (ss 5), ocW cI o φ, rdW rd ρ, bfW cC bu β, ouW cL ob f]) s.heap := hP
  have hl := lv_entry ([.ref (x 0), .int (iI (q)), .int (iI (c)), .int (iI (im)), .ref (ob 0)]) (n := 6) (Nat.le_of_ble_eq_true rfl)
  rw [lg_entry_eq]
  generalize (lg_sl ([.ref (x 0), .int (iI (q)), .int (iI (c)), .int (iI (im)), .ref (ob 0)]) ++ List.replicate (6 - (lg_sl ([.ref (x 0), .int (iI (q)), .int (iI (c)), .int (iI (im)), .ref (ob 0)])).length) Slot.unset).toArray = ls at hl ⊢
  have hl : lv_has ls 6 [(0, .ref (x 0)), (1, .int (iI (q))), (2, .int (iI (c))), (3, .int (iI (im))), (4, .ref (ob 0))] := hl
  have hI := hG.1
  have hkk := hG.2.1
  have hlnb := hG.2.2.2.1
  have hbb := hG.2.2.2.2
  have hnn := hI.n
  have htt := hI.t
  refine lv_aload hx hb dL_mostFor_0 (lv_at hl 4 rfl) ?_
  refine wi_iconst hx hb dL_mostFor_2 ?_
  refine lv_aload_n hx hb dL_mostFor_3 rfl (lv_at hl 0 rfl) ?_
  refine lv_iload_n hx hb dL_mostFor_4 rfl (lv_at hl 1 rfl) ?_
  refine lv_iload_n hx hb dL_mostFor_5 rfl (lv_at hl 2 rfl) ?_
  refine lv_iload_n hx hb dL_mostFor_6 rfl (lv_at hl 3 rfl) ?_
  rcases (cd1_c : (cd1 ((0 ≤ q ∧ q ≤ 5) ∧ (0 ≤ c ∧ c ≤ 3)) = 0 ∧ _) ∨ _) with ⟨h9, hok0⟩ | h9
  · skip
    have hPc := fl_P (S' := [mnW x a sv o rd bu ln, stW cI a σ]) hP [0, 1] rfl
    have hKc := hK.sub (tys' := [(cI, FieldType.int), (cO, FieldType.object "PromisedCounters$State"), (cC, FieldType.char)]) [0, 1, 2] rfl
    refine wr_calli (va_runV (As := [.int (iI (q)), .int (iI (c)), .int (iI (im))]) (rest := [.int (iI (0)), .ref (ob 0)]) ⟨hx, hb, hml, hown, hts⟩ (c_X4_mostFor l D cI cO cC cL x a sv o rd bu ln σ (q) (c) (im) (by first | assumption | omega) (by first | assumption | omega) (by first | assumption | omega) (by first | assumption | omega)) (cwV 3 hts gL_mostFor_X4_mostFor rfl rfl rfl (by decide +kernel) ⟨Nat.le_of_ble_eq_true rfl, Nat.le_of_ble_eq_true rfl⟩) ⟨pcR_blind, va_recv hKc hPc (ci := 4) (q0 := 0) rfl rfl, pcR_of hPc hKc⟩ rfl rfl hl.1 rfl (lv_room (Nat.le_of_ble_eq_true rfl)) dL_mostFor_7 ⟨(Nat.zero_le _), (Nat.zero_le _)⟩) (fun r1 hr1 => ?_)
    subst hr1
    refine lv_i2l (v := iL ((mostS σ (q) (c) (im)))) hx hb dL_mostFor_10 rfl ?_
    refine wi_last hx hb hK hP hD hS 98 3 rfl rfl dL_mostFor_11 (fun H locs hP hD hS => ?_)
    have hP : va_P D vwCl (fl [mnW x a sv o rd bu ln, stW cI a σ, svO cO sv (saF sa) κ, stW cI (sa 0) (ss 0), stW cI (sa 1) (ss 1), stW cI (sa 2) (ss 2), stW cI (sa 3) (ss 3), stW cI (sa 4) (ss 4), stW cI (sa 5) (ss 5), ocW cI o φ, rdW rd ρ, bfW cC bu β, ouW cL ob (fun _ => (iL ((mostS σ (q) (c) (im)))))]) H := hP
    have hD : va_D A (fl [mnW x a sv o rd bu ln, stW cI a σ, svO cO sv (saF sa) κ, stW cI (sa 0) (ss 0), stW cI (sa 1) (ss 1), stW cI (sa 2) (ss 2), stW cI (sa 3) (ss 3), stW cI (sa 4) (ss 4), stW cI (sa 5) (ss 5), ocW cI o φ, rdW rd ρ, bfW cC bu β, ouW cL ob (fun _ => (iL ((mostS σ (q) (c) (im)))))]) := hD
    refine lv_goto (tgt := 19) hx hb dL_mostFor_12 (by decide) ?_
    refine wi_iconst hx hb dL_mostFor_19 ?_
    refine W.widen (k := 1) (n := 6) (by decide) (by decide) ?_
    exact W.iret (v := iI (0)) hx hb hr (fun t9 ht9 hW9 => ⟨⟨(0), ⟨ln, σ, κ, sa, ss, φ, ρ, β, (fun _ => (iL ((mostS σ (q) (c) (im)))))⟩, rfl, (OPL.good h9 rfl (rfl) ⟨rfl, rfl, rfl, rfl, rfl⟩), ⟨by rw [ht9]; exact hP, va_K.moved hW9.alike hK, hD⟩⟩, hS.F ht9⟩) hS.2.2 dL_mostFor_20 hlocks
  · skip
    have cx9 := x_X4_mostFor l hl9 D cI cO cC cL x a sv o rd bu ln σ q c im (by first | assumption | omega) (by first | assumption | omega) hI (by rw [h9]; decide)
    rw [h9, show xnA 1 = "java/lang/IndexOutOfBoundsException" from rfl] at cx9
    have hPc := fl_P (S' := [mnW x a sv o rd bu ln, stW cI a σ]) hP [0, 1] rfl
    have hKc := hK.sub (tys' := [(cI, FieldType.int), (cO, FieldType.object "PromisedCounters$State"), (cC, FieldType.char)]) [0, 1, 2] rfl
    have hcl13 := hts (Cond.classLink RL 13 "java/lang/IndexOutOfBoundsException") (by decide +kernel)
    have hcst : (Cond.castable "java/lang/IndexOutOfBoundsException" "java/lang/IndexOutOfBoundsException").before ([.ref (x 0), .int (iI (q)), .int (iI (c)), .int (iI (im)), .ref (ob 0)] : List Value).toArray s = true := va_Nw.use (ZB_tabs _ (by decide)) (hZ.2.2.1 (Cond.castable "java/lang/IndexOutOfBoundsException" "java/lang/IndexOutOfBoundsException") (by decide))
    refine catchX (vx_runV (As := [.int (iI (q)), .int (iI (c)), .int (iI (im))]) (rest := [.int (iI (0)), .ref (ob 0)]) ⟨hx, hb, hml, hown, hts⟩ cx9 (cwV 3 hts gL_mostFor_X4_mostFor rfl rfl rfl (by decide +kernel) ⟨Nat.le_of_ble_eq_true rfl, Nat.le_of_ble_eq_true rfl⟩) ⟨pcX_blind, va_recv hKc hPc (ci := 4) (q0 := 0) rfl rfl, pcX_of hPc hKc hZ⟩ rfl rfl hl.1 rfl (lv_room (Nat.le_of_ble_eq_true rfl)) dL_mostFor_7 ⟨Nat.le_of_ble_eq_true rfl, Nat.le_of_ble_eq_true rfl⟩) hP hS hown [] ⟨0, 12, 15, 13⟩ [] htab (fun z hz => nomatch hz) (by decide) (by decide) hcl13 hcst (fun H locs xq hP hS => ?_)
    refine lv_astore (lv' := [(5, .ref (xq)), (0, .ref (x 0)), (1, .int (iI (q))), (2, .int (iI (c))), (3, .int (iI (im))), (4, .ref (ob 0))]) hx hb dL_mostFor_15 hl (by decide) rfl (fun ls hl => ?_)
    refine wi_iconst hx hb dL_mostFor_17 ?_
    refine W.widen (k := 1) (n := 6) (by decide) (by decide) ?_
    exact W.iret (v := iI (1)) hx hb hr (fun t9 ht9 hW9 => ⟨⟨(1), ⟨ln, σ, κ, sa, ss, φ, ρ, β, f⟩, rfl, (OPL.bad h9 (by decide) rfl ⟨rfl, rfl, rfl, rfl, rfl⟩), ⟨by rw [ht9]; exact hP, va_K.moved hW9.alike hK, hD⟩⟩, hS.F ht9⟩) hS.2.2 dL_mostFor_18 hlocks
set_option maxHeartbeats 4000000 in
set_option maxRecDepth 100000 in
theorem lk_ifPassed (l : Launch) (hl9 : l.stackTraces = false) (D : va_G) (cI cO cC cL : ClassId) (sz : Nat) (x a sv o rd bu ob : Nat → Nat) (ln σ κ φ ρ β : Nat → Int → Int) (sa : Nat → Nat → Nat) (ss : Nat → Nat → Int → Int) (f : Nat → Int64) (v w : Int) (hv : R32 v) (hw : R32 w) (hG : GI σ (κ 0 0) ss (ln 0 0) (β 1)) : Met l yL_ifPassed wsL_ifPassed ({ frames := 8, cells := 1, slots := 6, locals := 165 } : Room) (pcWX D [(cI, FieldType.int), (cO, FieldType.object "PromisedCounters$State"), (cC, FieldType.char), (cL, FieldType.long)] [.ref (x 0), .int (iI (v)), .int (iI (w)), .ref (ob 0)] (fl [mnW x a sv o rd bu ln, stW cI a σ, svO cO sv (saF sa) κ, stW cI (sa 0) (ss 0), stW cI (sa 1) (ss 1), stW cI (sa 2) (ss 2), stW cI (sa 3) (ss 3), stW cI (sa 4) (ss 4), stW cI (sa 5) (ss 5), ocW cI o φ, rdW rd ρ, bfW cC bu β, ouW cL ob f]) sz) (wq_i (fun (r : Int) (u : LwS) => OPL (cd1 ((0 ≤ v ∧ v ≤ 200) ∧ (0 ≤ w ∧ w ≤ 4))) r (pasS σ v w) (LwS.f u) (LwQ u σ (κ 0 0) ss (ln 0 0) (β 1)) (LwQ u σ (κ 0 0) ss (ln 0 0) (β 1))) (fun (u : LwS) => (bW D [(cI, FieldType.int), (cO, FieldType.object "PromisedCounters$State"), (cC, FieldType.char), (cL, FieldType.long)] (fl [mnW x a sv o rd bu (LwS.ln u), stW cI a (LwS.σ u), svO cO sv (saF (LwS.sa u)) (LwS.κ u), stW cI (LwS.sa u 0) (LwS.ss u 0), stW cI (LwS.sa u 1) (LwS.ss u 1), stW cI (LwS.sa u 2) (LwS.ss u 2), stW cI (LwS.sa u 3) (LwS.ss u 3), stW cI (LwS.sa u 4) (LwS.ss u 4), stW cI (LwS.sa u 5) (LwS.ss u 5), ocW cI o (LwS.φ u), rdW rd (LwS.ρ u), bfW cC bu (LwS.β u), ouW cL ob (LwS.f u)]) (va_A (fl [mnW x a sv o rd bu ln, stW cI a σ, svO cO sv (saF sa) κ, stW cI (sa 0) (ss 0), stW cI (sa 1) (ss 1), stW cI (sa 2) (ss 2), stW cI (sa 3) (ss 3), stW cI (sa 4) (ss 4), stW cI (sa 5) (ss 5), ocW cI o φ, rdW rd ρ, bfW cC bu β, ouW cL ob f]) sz))) (va_A (fl [mnW x a sv o rd bu ln, stW cI a σ, svO cO sv (saF sa) κ, stW cI (sa 0) (ss 0), stW cI (sa 1) (ss 1), stW cI (sa 2) (ss 2), stW cI (sa 3) (ss 3), stW cI (sa 4) (ss 4), stW cI (sa 5) (ss 5), ocW cI o φ, rdW rd ρ, bfW cC bu β, ouW cL ob f]) sz)) 1 6 (va_A (fl [mnW x a sv o rd bu ln, stW cI a σ, svO cO sv (saF sa) κ, stW cI (sa 0) (ss 0), stW cI (sa 1) (ss 1), stW cI (sa 2) (ss 2), stW cI (sa 3) (ss 3), stW cI (sa 4) (ss 4), stW cI (sa 5) (ss 5), ocW cI o φ, rdW rd ρ, bfW cC bu β, ouW cL ob f]) sz) := by
  refine metH ([(0, 10, 13, 15)]) (cc := cL_ifPassed) (maxL := 5) (ret := (some .int)) (by decide) rfl ?_
  intro p9 e9 s m args9 below9 meth9 c9 s₁ B hml htab hv
  obtain ⟨rfl, hsz, hP, hK, hD0, hZ⟩ := hv
  have hx := B.exec
  have hb := B.bytes
  have hr := B.returns
  have hts := atoms_spec (ws := wsL_ifPassed) B.pre
  have hown : s.vm.findClass RL = some m.cls := findClass_of_methodNamed B.named
  have hlocks := B.notSynchronized
  subst hsz
  have hD := hD0.self (sz := s.heap.size)
  generalize hAe : va_A (fl [mnW x a sv o rd bu ln, stW cI a σ, svO cO sv (saF sa) κ, stW cI (sa 0) (ss 0), stW cI (sa 1) (ss 1), stW cI (sa 2) (ss 2), stW cI (sa 3) (ss 3), stW cI (sa 4) (ss 4), stW cI (sa 5) (ss 5), ocW cI o φ, rdW rd ρ, bfW cC bu β, ouW cL ob f]) s.heap.size = A at hD hZ ⊢
  have hA : ∀ q : Nat, s.heap.size ≤ q → A q := fun q h => by rw [← hAe]; exact Or.inr h
  have hS : va_S A s.heap s.heap [] := va_S.rf
  have hP : va_P D vwCl (fl [mnW x a sv o rd bu ln, stW cI a σ, svO cO sv (saF sa) κ, stW cI (sa 0) (ss 0), stW cI (sa 1) (ss 1), stW cI (sa 2) (ss 2), stW cI (sa 3) (ss 3), stW cI (sa 4) (ss 4), stW cI (sa 5) (ss 5), ocW cI o φ, rdW rd ρ, bfW cC bu β, ouW cL ob f]) s.heap := hP
  have hl := lv_entry ([.ref (x 0), .int (iI (v)), .int (iI (w)), .ref (ob 0)]) (n := 5) (Nat.le_of_ble_eq_true rfl)
  rw [lg_entry_eq]
  generalize (lg_sl ([.ref (x 0), .int (iI (v)), .int (iI (w)), .ref (ob 0)]) ++ List.replicate (5 - (lg_sl ([.ref (x 0), .int (iI (v)), .int (iI (w)), .ref (ob 0)])).length) Slot.unset).toArray = ls at hl ⊢
  have hl : lv_has ls 5 [(0, .ref (x 0)), (1, .int (iI (v))), (2, .int (iI (w))), (3, .ref (ob 0))] := hl
  have hI := hG.1
  have hkk := hG.2.1
  have hlnb := hG.2.2.2.1
  have hbb := hG.2.2.2.2
  have hnn := hI.n
  have htt := hI.t
  refine lv_aload_n hx hb dL_ifPassed_0 rfl (lv_at hl 3 rfl) ?_
  refine wi_iconst hx hb dL_ifPassed_1 ?_
  refine lv_aload_n hx hb dL_ifPassed_2 rfl (lv_at hl 0 rfl) ?_
  refine lv_iload_n hx hb dL_ifPassed_3 rfl (lv_at hl 1 rfl) ?_
  refine lv_iload_n hx hb dL_ifPassed_4 rfl (lv_at hl 2 rfl) ?_
  rcases (cd1_c : (cd1 ((0 ≤ v ∧ v ≤ 200) ∧ (0 ≤ w ∧ w ≤ 4)) = 0 ∧ _) ∨ _) with ⟨h9, hok0⟩ | h9
  · skip
    have hPc := fl_P (S' := [mnW x a sv o rd bu ln, stW cI a σ]) hP [0, 1] rfl
    have hKc := hK.sub (tys' := [(cI, FieldType.int), (cO, FieldType.object "PromisedCounters$State"), (cC, FieldType.char)]) [0, 1, 2] rfl
    refine wr_calli (va_runV (As := [.int (iI (v)), .int (iI (w))]) (rest := [.int (iI (0)), .ref (ob 0)]) ⟨hx, hb, hml, hown, hts⟩ (c_X4_ifPassed l D cI cO cC cL x a sv o rd bu ln σ (v) (w) (by first | assumption | omega) (by first | assumption | omega) (by first | assumption | omega)) (cwV 2 hts gL_ifPassed_X4_ifPassed rfl rfl rfl (by decide +kernel) ⟨Nat.le_of_ble_eq_true rfl, Nat.le_of_ble_eq_true rfl⟩) ⟨pcR_blind, va_recv hKc hPc (ci := 4) (q0 := 0) rfl rfl, pcR_of hPc hKc⟩ rfl rfl hl.1 rfl (lv_room (Nat.le_of_ble_eq_true rfl)) dL_ifPassed_5 ⟨(Nat.zero_le _), (Nat.zero_le _)⟩) (fun r1 hr1 => ?_)
    subst hr1
    refine lv_i2l (v := iL ((pasS σ (v) (w)))) hx hb dL_ifPassed_8 rfl ?_
    refine wi_last hx hb hK hP hD hS 98 3 rfl rfl dL_ifPassed_9 (fun H locs hP hD hS => ?_)
    have hP : va_P D vwCl (fl [mnW x a sv o rd bu ln, stW cI a σ, svO cO sv (saF sa) κ, stW cI (sa 0) (ss 0), stW cI (sa 1) (ss 1), stW cI (sa 2) (ss 2), stW cI (sa 3) (ss 3), stW cI (sa 4) (ss 4), stW cI (sa 5) (ss 5), ocW cI o φ, rdW rd ρ, bfW cC bu β, ouW cL ob (fun _ => (iL ((pasS σ (v) (w)))))]) H := hP
    have hD : va_D A (fl [mnW x a sv o rd bu ln, stW cI a σ, svO cO sv (saF sa) κ, stW cI (sa 0) (ss 0), stW cI (sa 1) (ss 1), stW cI (sa 2) (ss 2), stW cI (sa 3) (ss 3), stW cI (sa 4) (ss 4), stW cI (sa 5) (ss 5), ocW cI o φ, rdW rd ρ, bfW cC bu β, ouW cL ob (fun _ => (iL ((pasS σ (v) (w)))))]) := hD
    refine lv_goto (tgt := 17) hx hb dL_ifPassed_10 (by decide) ?_
    refine wi_iconst hx hb dL_ifPassed_17 ?_
    refine W.widen (k := 1) (n := 6) (by decide) (by decide) ?_
    exact W.iret (v := iI (0)) hx hb hr (fun t9 ht9 hW9 => ⟨⟨(0), ⟨ln, σ, κ, sa, ss, φ, ρ, β, (fun _ => (iL ((pasS σ (v) (w)))))⟩, rfl, (OPL.good h9 rfl (rfl) ⟨rfl, rfl, rfl, rfl, rfl⟩), ⟨by rw [ht9]; exact hP, va_K.moved hW9.alike hK, hD⟩⟩, hS.F ht9⟩) hS.2.2 dL_ifPassed_18 hlocks
  · skip
    have cx9 := x_X4_ifPassed l hl9 D cI cO cC cL x a sv o rd bu ln σ v w (by first | assumption | omega) (by first | assumption | omega) hI (by rw [h9]; decide)
    rw [h9, show xnB 1 = "java/lang/IllegalArgumentException" from rfl] at cx9
    have hPc := fl_P (S' := [mnW x a sv o rd bu ln, stW cI a σ]) hP [0, 1] rfl
    have hKc := hK.sub (tys' := [(cI, FieldType.int), (cO, FieldType.object "PromisedCounters$State"), (cC, FieldType.char)]) [0, 1, 2] rfl
    have hcl15 := hts (Cond.classLink RL 15 "java/lang/IllegalArgumentException") (by decide +kernel)
    have hcst : (Cond.castable "java/lang/IllegalArgumentException" "java/lang/IllegalArgumentException").before ([.ref (x 0), .int (iI (v)), .int (iI (w)), .ref (ob 0)] : List Value).toArray s = true := va_Nw.use (ZB_tabs _ (by decide)) (hZ.2.2.1 (Cond.castable "java/lang/IllegalArgumentException" "java/lang/IllegalArgumentException") (by decide))
    refine catchX (vx_runV (As := [.int (iI (v)), .int (iI (w))]) (rest := [.int (iI (0)), .ref (ob 0)]) ⟨hx, hb, hml, hown, hts⟩ cx9 (cwV 2 hts gL_ifPassed_X4_ifPassed rfl rfl rfl (by decide +kernel) ⟨Nat.le_of_ble_eq_true rfl, Nat.le_of_ble_eq_true rfl⟩) ⟨pcX_blind, va_recv hKc hPc (ci := 4) (q0 := 0) rfl rfl, pcX_of hPc hKc hZ⟩ rfl rfl hl.1 rfl (lv_room (Nat.le_of_ble_eq_true rfl)) dL_ifPassed_5 ⟨Nat.le_of_ble_eq_true rfl, Nat.le_of_ble_eq_true rfl⟩) hP hS hown [] ⟨0, 10, 13, 15⟩ [] htab (fun z hz => nomatch hz) (by decide) (by decide) hcl15 hcst (fun H locs xq hP hS => ?_)
    refine lv_astore (lv' := [(4, .ref (xq)), (0, .ref (x 0)), (1, .int (iI (v))), (2, .int (iI (w))), (3, .ref (ob 0))]) hx hb dL_ifPassed_13 hl (by decide) rfl (fun ls hl => ?_)
    refine wi_iconst hx hb dL_ifPassed_15 ?_
    refine W.widen (k := 1) (n := 6) (by decide) (by decide) ?_
    exact W.iret (v := iI (1)) hx hb hr (fun t9 ht9 hW9 => ⟨⟨(1), ⟨ln, σ, κ, sa, ss, φ, ρ, β, f⟩, rfl, (OPL.bad h9 (by decide) rfl ⟨rfl, rfl, rfl, rfl, rfl⟩), ⟨by rw [ht9]; exact hP, va_K.moved hW9.alike hK, hD⟩⟩, hS.F ht9⟩) hS.2.2 dL_ifPassed_16 hlocks
set_option maxHeartbeats 4000000 in
set_option maxRecDepth 100000 in
theorem lk_promiseAll (l : Launch) (hl9 : l.stackTraces = false) (D : va_G) (cI cO cC cL : ClassId) (sz : Nat) (x a sv o rd bu ob : Nat → Nat) (ln σ κ φ ρ β : Nat → Int → Int) (sa : Nat → Nat → Nat) (ss : Nat → Nat → Int → Int) (f : Nat → Int64) (cd : Int) (hf3 : R32 (ρ 0 3)) (hcd : (cd = 0 ∧ VAL (β 1) (ln 0 0) (uI (ρ 0) 0 0)) ∨ (cd = 1 ∧ ¬ VAL (β 1) (ln 0 0) (uI (ρ 0) 0 0))) (hG : GI σ (κ 0 0) ss (ln 0 0) (β 1)) : Met l yL_promiseAll wsL_promiseAll ({ frames := 7, cells := 1, slots := 6, locals := 141 } : Room) (pcWX D [(cI, FieldType.int), (cO, FieldType.object "PromisedCounters$State"), (cC, FieldType.char), (cL, FieldType.long)] [.ref (x 0), .ref (ob 0)] (fl [mnW x a sv o rd bu ln, stW cI a σ, svO cO sv (saF sa) κ, stW cI (sa 0) (ss 0), stW cI (sa 1) (ss 1), stW cI (sa 2) (ss 2), stW cI (sa 3) (ss 3), stW cI (sa 4) (ss 4), stW cI (sa 5) (ss 5), ocW cI o φ, rdW rd ρ, bfW cC bu β, ouW cL ob f]) sz) (wq_i (fun (r : Int) (u : LwS) => OPL cd r (prC (plR (β 1) (ln 0 0 - 0).toNat (uI (endR (β 1) (ln 0 0 - 0).toNat (uI (ρ 0) 0 0) 0) 0 0) 0) σ) (LwS.f u) (LwQ u σ (κ 0 0) ss (ln 0 0) (β 1)) (LwQ u (prS (plR (β 1) (ln 0 0 - 0).toNat (uI (endR (β 1) (ln 0 0 - 0).toNat (uI (ρ 0) 0 0) 0) 0 0) 0) σ) (pushK (κ 0 0)) (pushS (κ 0 0) ss σ) 0 (β 1))) (fun (u : LwS) => (bW D [(cI, FieldType.int), (cO, FieldType.object "PromisedCounters$State"), (cC, FieldType.char), (cL, FieldType.long)] (fl [mnW x a sv o rd bu (LwS.ln u), stW cI a (LwS.σ u), svO cO sv (saF (LwS.sa u)) (LwS.κ u), stW cI (LwS.sa u 0) (LwS.ss u 0), stW cI (LwS.sa u 1) (LwS.ss u 1), stW cI (LwS.sa u 2) (LwS.ss u 2), stW cI (LwS.sa u 3) (LwS.ss u 3), stW cI (LwS.sa u 4) (LwS.ss u 4), stW cI (LwS.sa u 5) (LwS.ss u 5), ocW cI o (LwS.φ u), rdW rd (LwS.ρ u), bfW cC bu (LwS.β u), ouW cL ob (LwS.f u)]) (va_A (fl [mnW x a sv o rd bu ln, stW cI a σ, svO cO sv (saF sa) κ, stW cI (sa 0) (ss 0), stW cI (sa 1) (ss 1), stW cI (sa 2) (ss 2), stW cI (sa 3) (ss 3), stW cI (sa 4) (ss 4), stW cI (sa 5) (ss 5), ocW cI o φ, rdW rd ρ, bfW cC bu β, ouW cL ob f]) sz))) (va_A (fl [mnW x a sv o rd bu ln, stW cI a σ, svO cO sv (saF sa) κ, stW cI (sa 0) (ss 0), stW cI (sa 1) (ss 1), stW cI (sa 2) (ss 2), stW cI (sa 3) (ss 3), stW cI (sa 4) (ss 4), stW cI (sa 5) (ss 5), ocW cI o φ, rdW rd ρ, bfW cC bu β, ouW cL ob f]) sz)) 1 6 (va_A (fl [mnW x a sv o rd bu ln, stW cI a σ, svO cO sv (saF sa) κ, stW cI (sa 0) (ss 0), stW cI (sa 1) (ss 1), stW cI (sa 2) (ss 2), stW cI (sa 3) (ss 3), stW cI (sa 4) (ss 4), stW cI (sa 5) (ss 5), ocW cI o φ, rdW rd ρ, bfW cC bu β, ouW cL ob f]) sz) := by
  refine metH ([(0, 8, 11, 15)]) (cc := cL_promiseAll) (maxL := 3) (ret := (some .int)) (by decide) rfl ?_
  intro p9 e9 s m args9 below9 meth9 c9 s₁ B hml htab hv
  obtain ⟨rfl, hsz, hP, hK, hD0, hZ⟩ := hv
  have hx := B.exec
  have hb := B.bytes
  have hr := B.returns
  have hts := atoms_spec (ws := wsL_promiseAll) B.pre
  have hown : s.vm.findClass RL = some m.cls := findClass_of_methodNamed B.named
  have hlocks := B.notSynchronized
  subst hsz
  have hD := hD0.self (sz := s.heap.size)
  generalize hAe : va_A (fl [mnW x a sv o rd bu ln, stW cI a σ, svO cO sv (saF sa) κ, stW cI (sa 0) (ss 0), stW cI (sa 1) (ss 1), stW cI (sa 2) (ss 2), stW cI (sa 3) (ss 3), stW cI (sa 4) (ss 4), stW cI (sa 5) (ss 5), ocW cI o φ, rdW rd ρ, bfW cC bu β, ouW cL ob f]) s.heap.size = A at hD hZ ⊢
  have hA : ∀ q : Nat, s.heap.size ≤ q → A q := fun q h => by rw [← hAe]; exact Or.inr h
  have hS : va_S A s.heap s.heap [] := va_S.rf
  have hP : va_P D vwCl (fl [mnW x a sv o rd bu ln, stW cI a σ, svO cO sv (saF sa) κ, stW cI (sa 0) (ss 0), stW cI (sa 1) (ss 1), stW cI (sa 2) (ss 2), stW cI (sa 3) (ss 3), stW cI (sa 4) (ss 4), stW cI (sa 5) (ss 5), ocW cI o φ, rdW rd ρ, bfW cC bu β, ouW cL ob f]) s.heap := hP
  have hl := lv_entry ([.ref (x 0), .ref (ob 0)]) (n := 3) (Nat.le_of_ble_eq_true rfl)
  rw [lg_entry_eq]
  generalize (lg_sl ([.ref (x 0), .ref (ob 0)]) ++ List.replicate (3 - (lg_sl ([.ref (x 0), .ref (ob 0)])).length) Slot.unset).toArray = ls at hl ⊢
  have hl : lv_has ls 3 [(0, .ref (x 0)), (1, .ref (ob 0))] := hl
  have hI := hG.1
  have hkk := hG.2.1
  have hlnb := hG.2.2.2.1
  have hbb := hG.2.2.2.2
  have hnn := hI.n
  have htt := hI.t
  refine lv_aload_n hx hb dL_promiseAll_0 rfl (lv_at hl 1 rfl) ?_
  refine wi_iconst hx hb dL_promiseAll_1 ?_
  refine lv_aload_n hx hb dL_promiseAll_2 rfl (lv_at hl 0 rfl) ?_
  rcases hcd with ⟨h9, hval⟩ | ⟨h9, hval⟩
  · skip
    have hPc := fl_P (S' := [mnW x a sv o rd bu ln, stW cI a σ, rdW rd ρ, bfW cC bu β, svO cO sv (saF sa) κ, stW cI (sa 0) (ss 0), stW cI (sa 1) (ss 1), stW cI (sa 2) (ss 2), stW cI (sa 3) (ss 3), stW cI (sa 4) (ss 4), stW cI (sa 5) (ss 5)]) hP [0, 1, 10, 11, 2, 3, 4, 5, 6, 7, 8] rfl
    have hKc := hK.sub (tys' := [(cI, FieldType.int), (cO, FieldType.object "PromisedCounters$State"), (cC, FieldType.char)]) [0, 1, 2] rfl
    have hDc := fl_D (S' := [mnW x a sv o rd bu ln, stW cI a σ, rdW rd ρ, bfW cC bu β, svO cO sv (saF sa) κ, stW cI (sa 0) (ss 0), stW cI (sa 1) (ss 1), stW cI (sa 2) (ss 2), stW cI (sa 3) (ss 3), stW cI (sa 4) (ss 4), stW cI (sa 5) (ss 5)]) hD [0, 1, 10, 11, 2, 3, 4, 5, 6, 7, 8] (by decide) rfl
    have hFc := fl_free (SC := [mnW x a sv o rd bu ln, stW cI a σ, rdW rd ρ, bfW cC bu β, svO cO sv (saF sa) κ, stW cI (sa 0) (ss 0), stW cI (sa 1) (ss 1), stW cI (sa 2) (ss 2), stW cI (sa 3) (ss 3), stW cI (sa 4) (ss 4), stW cI (sa 5) (ss 5)]) hD hS hA [0, 1, 10, 11, 2, 3, 4, 5, 6, 7, 8] rfl
    refine wq_calli (va_runV (As := []) (rest := [.int (iI (0)), .ref (ob 0)]) ⟨hx, hb, hml, hown, hts⟩ (c_X4_promiseAll l D cI cO cC cL s.heap.size x a sv o rd bu ln σ ρ β κ sa ss (by first | assumption | omega) (by first | assumption | omega) (by first | assumption | omega) (by first | assumption | omega) (by first | assumption | omega) (by first | assumption | omega)) (cwV 0 hts gL_promiseAll_X4_promiseAll rfl rfl rfl (by decide +kernel) ⟨Nat.le_of_ble_eq_true rfl, Nat.le_of_ble_eq_true rfl⟩) ⟨pcW_blind, va_recv hKc hPc (ci := 4) (q0 := 0) rfl rfl, pcW_of hPc hKc hDc⟩ rfl rfl hl.1 rfl (lv_room (Nat.le_of_ble_eq_true rfl)) dL_promiseAll_3 ⟨(Nat.zero_le _), (Nat.zero_le _)⟩) hS (fun q _ h => hFc q h) hFc (fun r1 u3 t9 H1 locs ht9 hvm hcl2 hB hz1 hk1 hS => ?_)
    obtain ⟨hP1, hK1, hD1⟩ := hB
    rw [ht9] at hP1
    obtain ⟨hP, hD⟩ := fl_join (SR := [ocW cI o φ, ouW cL ob f]) (S1 := [mnW x a sv o rd bu (sU ln 0 0 0), stW cI a (prS (plR (β 1) (ln 0 0 - 0).toNat (uI (endR (β 1) (ln 0 0 - 0).toNat (uI (ρ 0) 0 0) 0) 0 0) 0) σ), rdW rd (sR ρ 0 u3), bfW cC bu β, svO cO sv (saF (pushA (κ 0 0) sa)) (sU κ 0 0 (pushK (κ 0 0))), stW cI (pushA (κ 0 0) sa 0) (pushS (κ 0 0) ss σ 0), stW cI (pushA (κ 0 0) sa 1) (pushS (κ 0 0) ss σ 1), stW cI (pushA (κ 0 0) sa 2) (pushS (κ 0 0) ss σ 2), stW cI (pushA (κ 0 0) sa 3) (pushS (κ 0 0) ss σ 3), stW cI (pushA (κ 0 0) sa 4) (pushS (κ 0 0) ss σ 4), stW cI (pushA (κ 0 0) sa 5) (pushS (κ 0 0) ss σ 5)]) hP hD [0, 1, 10, 11, 2, 3, 4, 5, 6, 7, 8] [9, 12] rfl rfl (by decide) (by decide) hk1 hFc hP1 hD1
    generalize H1 = H at hP hS ⊢
    have hP := fl_P (S' := [mnW x a sv o rd bu (sU ln 0 0 0), stW cI a (prS (plR (β 1) (ln 0 0 - 0).toNat (uI (endR (β 1) (ln 0 0 - 0).toNat (uI (ρ 0) 0 0) 0) 0 0) 0) σ), svO cO sv (saF (pushA (κ 0 0) sa)) (sU κ 0 0 (pushK (κ 0 0))), stW cI (pushA (κ 0 0) sa 0) (pushS (κ 0 0) ss σ 0), stW cI (pushA (κ 0 0) sa 1) (pushS (κ 0 0) ss σ 1), stW cI (pushA (κ 0 0) sa 2) (pushS (κ 0 0) ss σ 2), stW cI (pushA (κ 0 0) sa 3) (pushS (κ 0 0) ss σ 3), stW cI (pushA (κ 0 0) sa 4) (pushS (κ 0 0) ss σ 4), stW cI (pushA (κ 0 0) sa 5) (pushS (κ 0 0) ss σ 5), ocW cI o φ, rdW rd (sR ρ 0 u3), bfW cC bu β, ouW cL ob f]) hP [2, 3, 6, 7, 8, 9, 10, 11, 12, 0, 4, 5, 1] rfl
    have hD := fl_D (S' := [mnW x a sv o rd bu (sU ln 0 0 0), stW cI a (prS (plR (β 1) (ln 0 0 - 0).toNat (uI (endR (β 1) (ln 0 0 - 0).toNat (uI (ρ 0) 0 0) 0) 0 0) 0) σ), svO cO sv (saF (pushA (κ 0 0) sa)) (sU κ 0 0 (pushK (κ 0 0))), stW cI (pushA (κ 0 0) sa 0) (pushS (κ 0 0) ss σ 0), stW cI (pushA (κ 0 0) sa 1) (pushS (κ 0 0) ss σ 1), stW cI (pushA (κ 0 0) sa 2) (pushS (κ 0 0) ss σ 2), stW cI (pushA (κ 0 0) sa 3) (pushS (κ 0 0) ss σ 3), stW cI (pushA (κ 0 0) sa 4) (pushS (κ 0 0) ss σ 4), stW cI (pushA (κ 0 0) sa 5) (pushS (κ 0 0) ss σ 5), ocW cI o φ, rdW rd (sR ρ 0 u3), bfW cC bu β, ouW cL ob f]) hD [2, 3, 6, 7, 8, 9, 10, 11, 12, 0, 4, 5, 1] (by decide) rfl
    refine lv_i2l (v := iL (r1)) hx hb dL_promiseAll_6 rfl ?_
    refine wi_last hx hb hK hP hD hS 98 3 rfl rfl dL_promiseAll_7 (fun H locs hP hD hS => ?_)
    have hP : va_P D vwCl (fl [mnW x a sv o rd bu (sU ln 0 0 0), stW cI a (prS (plR (β 1) (ln 0 0 - 0).toNat (uI (endR (β 1) (ln 0 0 - 0).toNat (uI (ρ 0) 0 0) 0) 0 0) 0) σ), svO cO sv (saF (pushA (κ 0 0) sa)) (sU κ 0 0 (pushK (κ 0 0))), stW cI (pushA (κ 0 0) sa 0) (pushS (κ 0 0) ss σ 0), stW cI (pushA (κ 0 0) sa 1) (pushS (κ 0 0) ss σ 1), stW cI (pushA (κ 0 0) sa 2) (pushS (κ 0 0) ss σ 2), stW cI (pushA (κ 0 0) sa 3) (pushS (κ 0 0) ss σ 3), stW cI (pushA (κ 0 0) sa 4) (pushS (κ 0 0) ss σ 4), stW cI (pushA (κ 0 0) sa 5) (pushS (κ 0 0) ss σ 5), ocW cI o φ, rdW rd (sR ρ 0 u3), bfW cC bu β, ouW cL ob (fun _ => (iL (r1)))]) H := hP
    have hD : va_D A (fl [mnW x a sv o rd bu (sU ln 0 0 0), stW cI a (prS (plR (β 1) (ln 0 0 - 0).toNat (uI (endR (β 1) (ln 0 0 - 0).toNat (uI (ρ 0) 0 0) 0) 0 0) 0) σ), svO cO sv (saF (pushA (κ 0 0) sa)) (sU κ 0 0 (pushK (κ 0 0))), stW cI (pushA (κ 0 0) sa 0) (pushS (κ 0 0) ss σ 0), stW cI (pushA (κ 0 0) sa 1) (pushS (κ 0 0) ss σ 1), stW cI (pushA (κ 0 0) sa 2) (pushS (κ 0 0) ss σ 2), stW cI (pushA (κ 0 0) sa 3) (pushS (κ 0 0) ss σ 3), stW cI (pushA (κ 0 0) sa 4) (pushS (κ 0 0) ss σ 4), stW cI (pushA (κ 0 0) sa 5) (pushS (κ 0 0) ss σ 5), ocW cI o φ, rdW rd (sR ρ 0 u3), bfW cC bu β, ouW cL ob (fun _ => (iL (r1)))]) := hD
    refine lv_goto (tgt := 14) hx hb dL_promiseAll_8 (by decide) ?_
    refine wi_iconst hx hb dL_promiseAll_14 ?_
    refine W.widen (k := 1) (n := 6) (by decide) (by decide) ?_
    exact W.iret (v := iI (0)) hx hb hr (fun t9 ht9 hW9 => ⟨⟨(0), ⟨(sU ln 0 0 0), (prS (plR (β 1) (ln 0 0 - 0).toNat (uI (endR (β 1) (ln 0 0 - 0).toNat (uI (ρ 0) 0 0) 0) 0 0) 0) σ), (sU κ 0 0 (pushK (κ 0 0))), (pushA (κ 0 0) sa), pushS (κ 0 0) ss σ, φ, (sR ρ 0 u3), β, (fun _ => (iL (r1)))⟩, rfl, (OPL.good h9 rfl (congrArg (fun z : Int => fun _ : Nat => iL z) hcl2) ⟨rfl, rfl, rfl, rfl, rfl⟩), ⟨by rw [ht9]; exact hP, va_K.moved hW9.alike hK, hD⟩⟩, hS.F ht9⟩) hS.2.2 dL_promiseAll_15 hlocks
  · skip
    have hDc := fl_D (S' := [mnW x a sv o rd bu ln, rdW rd ρ, bfW cC bu β]) hD [0, 10, 11] (by decide) rfl
    have hFc := fl_free (SC := [mnW x a sv o rd bu ln, rdW rd ρ, bfW cC bu β]) hD hS hA [0, 10, 11] rfl
    have cx9 := x_X4_promiseAll l hl9 D cI cO cC cL s.heap.size x a sv o rd bu ln ρ β (by first | assumption | omega) (by first | assumption | omega) (by first | assumption | omega) (hval)
    have hPc := fl_P (S' := [mnW x a sv o rd bu ln, rdW rd ρ, bfW cC bu β]) hP [0, 10, 11] rfl
    have hKc := hK.sub (tys' := [(cI, FieldType.int), (cO, FieldType.object "PromisedCounters$State"), (cC, FieldType.char)]) [0, 1, 2] rfl
    have hcl15 := hts (Cond.classLink RL 15 "java/lang/IllegalArgumentException") (by decide +kernel)
    have hcst : (Cond.castable "java/lang/IllegalArgumentException" "java/lang/IllegalArgumentException").before ([.ref (x 0), .ref (ob 0)] : List Value).toArray s = true := va_Nw.use (ZB_tabs _ (by decide)) (hZ.2.2.1 (Cond.castable "java/lang/IllegalArgumentException" "java/lang/IllegalArgumentException") (by decide))
    refine catchXW (vx_runV (As := []) (rest := [.int (iI (0)), .ref (ob 0)]) ⟨hx, hb, hml, hown, hts⟩ cx9 (cwV 0 hts gL_promiseAll_X4_promiseAll rfl rfl rfl (by decide +kernel) ⟨Nat.le_of_ble_eq_true rfl, Nat.le_of_ble_eq_true rfl⟩) ⟨pcWX_blind, va_recv hKc hPc (ci := 4) (q0 := 0) rfl rfl, pcWX_of hPc hKc hDc hZ hFc⟩ rfl rfl hl.1 rfl (lv_room (Nat.le_of_ble_eq_true rfl)) dL_promiseAll_3 ⟨Nat.le_of_ble_eq_true rfl, Nat.le_of_ble_eq_true rfl⟩) hS hFc hown [] ⟨0, 8, 11, 15⟩ [] htab (fun z hz => nomatch hz) (by decide) (by decide) hcl15 hcst (fun η H1 locs xq hP1 hD1 hk1 hS => ?_)
    obtain ⟨hP, hD⟩ := fl_join (SR := [stW cI a σ, svO cO sv (saF sa) κ, stW cI (sa 0) (ss 0), stW cI (sa 1) (ss 1), stW cI (sa 2) (ss 2), stW cI (sa 3) (ss 3), stW cI (sa 4) (ss 4), stW cI (sa 5) (ss 5), ocW cI o φ, ouW cL ob f]) (S1 := [mnW x a sv o rd bu ln, rdW rd (sR ρ 0 η), bfW cC bu β]) hP hD [0, 10, 11] [1, 2, 3, 4, 5, 6, 7, 8, 9, 12] rfl rfl (by decide) (by decide) hk1 hFc hP1 hD1
    generalize H1 = H at hP hS ⊢
    have hP := fl_P (S' := [mnW x a sv o rd bu ln, stW cI a σ, svO cO sv (saF sa) κ, stW cI (sa 0) (ss 0), stW cI (sa 1) (ss 1), stW cI (sa 2) (ss 2), stW cI (sa 3) (ss 3), stW cI (sa 4) (ss 4), stW cI (sa 5) (ss 5), ocW cI o φ, rdW rd (sR ρ 0 η), bfW cC bu β, ouW cL ob f]) hP [10, 0, 1, 2, 3, 4, 5, 6, 7, 8, 11, 12, 9] rfl
    have hD := fl_D (S' := [mnW x a sv o rd bu ln, stW cI a σ, svO cO sv (saF sa) κ, stW cI (sa 0) (ss 0), stW cI (sa 1) (ss 1), stW cI (sa 2) (ss 2), stW cI (sa 3) (ss 3), stW cI (sa 4) (ss 4), stW cI (sa 5) (ss 5), ocW cI o φ, rdW rd (sR ρ 0 η), bfW cC bu β, ouW cL ob f]) hD [10, 0, 1, 2, 3, 4, 5, 6, 7, 8, 11, 12, 9] (by decide) rfl
    refine lv_astore_n (lv' := [(2, .ref (xq)), (0, .ref (x 0)), (1, .ref (ob 0))]) hx hb dL_promiseAll_11 rfl hl (by decide) rfl (fun ls hl => ?_)
    refine wi_iconst hx hb dL_promiseAll_12 ?_
    refine W.widen (k := 1) (n := 6) (by decide) (by decide) ?_
    exact W.iret (v := iI (1)) hx hb hr (fun t9 ht9 hW9 => ⟨⟨(1), ⟨ln, σ, κ, sa, ss, φ, (sR ρ 0 η), β, f⟩, rfl, (OPL.bad h9 (by decide) rfl ⟨rfl, rfl, rfl, rfl, rfl⟩), ⟨by rw [ht9]; exact hP, va_K.moved hW9.alike hK, hD⟩⟩, hS.F ht9⟩) hS.2.2 dL_promiseAll_13 hlocks
