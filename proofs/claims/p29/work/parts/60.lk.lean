set_option maxHeartbeats 4000000 in
set_option maxRecDepth 100000 in
theorem c_L_low (l : Launch) (D : va_G) (cI cO cC cL : ClassId) (v n : Int) (hn : 1 ≤ n ∧ n ≤ 1000) : Met l yL_low wsL_low ({ frames := 0, cells := 0, slots := 0, locals := 0 } : Room) (va_Pc [.int (iI (v)), .int (iI (n))] (fun _ => True)) (wr_Si (fun r => r = lowF v n)) 0 0 (fun _ => False) := by
  refine Met.ofW (cc := cL_low) (maxL := 2) (ret := (some .int)) (by decide) rfl ?_
  intro p9 e9 s m args9 below9 meth9 c9 s₁ B hml hv
  obtain ⟨rfl, -⟩ := hv
  have hx := B.exec
  have hb := B.bytes
  have hr := B.returns
  have hts := atoms_spec (ws := wsL_low) B.pre
  have hown : s.vm.findClass RL = some m.cls := findClass_of_methodNamed B.named
  have hlocks := B.notSynchronized
  have hl := lv_entry ([.int (iI (v)), .int (iI (n))]) (n := 2) (Nat.le_of_ble_eq_true rfl)
  rw [lg_entry_eq]
  generalize (lg_sl ([.int (iI (v)), .int (iI (n))]) ++ List.replicate (2 - (lg_sl ([.int (iI (v)), .int (iI (n))])).length) Slot.unset).toArray = ls at hl ⊢
  have hl : lv_has ls 2 [(0, .int (iI (v))), (1, .int (iI (n)))] := hl
  have hw_0 := hts (Cond.constant RL 7 (2147483647)) (by decide +kernel)
  have ha9 := andF_r v
  refine lv_iload_n hx hb dL_low_0 rfl (lv_at hl 0 rfl) ?_
  refine wi_ldc (z := 2147483647) hx hb hown hw_0 rfl dL_low_1 ?_
  refine wi_iandM hx hb dL_low_3 ?_
  refine lv_iload_n hx hb dL_low_4 rfl (lv_at hl 1 rfl) ?_
  refine wi_irem hx hb (by omega) (by omega) dL_low_5 ?_
  exact W.iret (v := iI (((andF v) % n))) hx hb hr (fun t9 ht9 hW9 => ⟨(((andF v) % n)), rfl, (rfl), ht9⟩) (fun _ h => nomatch h) dL_low_6 hlocks
set_option maxHeartbeats 4000000 in
set_option maxRecDepth 100000 in
theorem c_L_cell (l : Launch) (sc n9 : Nat) (g : Int → Int) (k : Int) (hk : 0 ≤ k ∧ k < (n9 : Int)) (hn9 : n9 ≤ 260) : Met l yL_cell wsL_cell ({ frames := 0, cells := 0, slots := 0, locals := 0 } : Room) (pcSc [.ref (sc), .int (iI (k))] sc n9 g) (wr_Si (fun r => r = g k)) 0 0 (fun _ => False) := by
  refine Met.ofW (cc := cL_cell) (maxL := 2) (ret := (some .int)) (by decide) rfl ?_
  intro p9 e9 s m args9 below9 meth9 c9 s₁ B hml hv
  obtain ⟨rfl, hX, hbl⟩ := hv
  have hx := B.exec
  have hb := B.bytes
  have hr := B.returns
  have hts := atoms_spec (ws := wsL_cell) B.pre
  have hown : s.vm.findClass RL = some m.cls := findClass_of_methodNamed B.named
  have hlocks := B.notSynchronized
  have hl := lv_entry ([.ref (sc), .int (iI (k))]) (n := 2) (Nat.le_of_ble_eq_true rfl)
  rw [lg_entry_eq]
  generalize (lg_sl ([.ref (sc), .int (iI (k))]) ++ List.replicate (2 - (lg_sl ([.ref (sc), .int (iI (k))])).length) Slot.unset).toArray = ls at hl ⊢
  have hl : lv_has ls 2 [(0, .ref (sc)), (1, .int (iI (k)))] := hl
  have hS : va_S noA s.heap s.heap [] := va_S.rf
  refine lv_iload_n hx hb dL_cell_0 rfl (lv_at hl 1 rfl) ?_
  refine lv_aload_n hx hb dL_cell_1 rfl (lv_at hl 0 rfl) ?_
  refine wi_slen hx hb hX hbl (A := noA) (fun h => h) hS dL_cell_2 ?_
  refine wi_icmp_ge (tgt := 12) hx hb dL_cell_3 (by decide) (by omega) (fun c_3 => ?_) (fun c_3 => ?_)
  · skip
    exfalso; omega
  · skip
    refine lv_aload_n hx hb dL_cell_6 rfl (lv_at hl 0 rfl) ?_
    refine lv_iload_n hx hb dL_cell_7 rfl (lv_at hl 1 rfl) ?_
    refine wi_sld hx hb hX hbl (A := noA) (fun h => h) hS (i := k) (by omega) (by omega) dL_cell_8 ?_
    refine lv_goto (tgt := 20) hx hb dL_cell_9 (by decide) ?_
    exact W.iret (v := iI ((g k))) hx hb hr (fun t9 ht9 hW9 => ⟨((g k)), rfl, (rfl), ht9⟩) (fun _ h => nomatch h) dL_cell_20 hlocks
set_option maxHeartbeats 4000000 in
set_option maxRecDepth 100000 in
theorem c_L_promise (l : Launch) (hl9 : l.stackTraces = false) (D : va_G) (cI cO cC cL : ClassId) (sz : Nat) (x a sv o rd bu : Nat → Nat) (ln σ : Nat → Int → Int) (κ : Nat → Int → Int) (sa : Nat → Nat → Nat) (ss : Nat → Nat → Int → Int) (q c y : Int) (T : Int) (hq : 0 ≤ q ∧ q ≤ 5) (hc : 0 ≤ c ∧ c ≤ 3) (hy : y ≠ 0 ∧ -99 ≤ y ∧ y ≤ 99) (hG : G2 T σ (κ 0 0) ss) : Met l yL_promise wsL_promise ({ frames := 9, cells := 1, slots := 6, locals := 185 } : Room) (pcWX D [(cI, FieldType.int), (cO, FieldType.object "PromisedCounters$State"), (cC, FieldType.char)] [.ref (x 0), .int (iI (q)), .int (iI (c)), .int (iI (y))] (fl [mnW x a sv o rd bu ln, stW cI a σ, svO cO sv (saF sa) κ, stW cI (sa 0) (ss 0), stW cI (sa 1) (ss 1), stW cI (sa 2) (ss 2), stW cI (sa 3) (ss 3), stW cI (sa 4) (ss 4), stW cI (sa 5) (ss 5)]) sz) (wq_i (fun (r : Int) (u : PS) => AQ T r u σ (κ 0 0)) (fun (u : PS) => (bW D [(cI, FieldType.int), (cO, FieldType.object "PromisedCounters$State"), (cC, FieldType.char)] (fl [mnW x a sv o rd bu ln, stW cI a (PS.σ u), svO cO sv (saF (PS.sa u)) (PS.κ u), stW cI ((PS.sa u) 0) ((PS.ss u) 0), stW cI ((PS.sa u) 1) ((PS.ss u) 1), stW cI ((PS.sa u) 2) ((PS.ss u) 2), stW cI ((PS.sa u) 3) ((PS.ss u) 3), stW cI ((PS.sa u) 4) ((PS.ss u) 4), stW cI ((PS.sa u) 5) ((PS.ss u) 5)]) (va_A (fl [mnW x a sv o rd bu ln, stW cI a σ, svO cO sv (saF sa) κ, stW cI (sa 0) (ss 0), stW cI (sa 1) (ss 1), stW cI (sa 2) (ss 2), stW cI (sa 3) (ss 3), stW cI (sa 4) (ss 4), stW cI (sa 5) (ss 5)]) sz))) (va_A (fl [mnW x a sv o rd bu ln, stW cI a σ, svO cO sv (saF sa) κ, stW cI (sa 0) (ss 0), stW cI (sa 1) (ss 1), stW cI (sa 2) (ss 2), stW cI (sa 3) (ss 3), stW cI (sa 4) (ss 4), stW cI (sa 5) (ss 5)]) sz)) 1 6 (va_A (fl [mnW x a sv o rd bu ln, stW cI a σ, svO cO sv (saF sa) κ, stW cI (sa 0) (ss 0), stW cI (sa 1) (ss 1), stW cI (sa 2) (ss 2), stW cI (sa 3) (ss 3), stW cI (sa 4) (ss 4), stW cI (sa 5) (ss 5)]) sz) := by
  refine metH ([(0, 7, 8, 15)]) (cc := cL_promise) (maxL := 5) (ret := (some .int)) (by decide) rfl ?_
  intro p9 e9 s m args9 below9 meth9 c9 s₁ B hml htab hv
  obtain ⟨rfl, hsz, hP, hK, hD0, hZ⟩ := hv
  have hx := B.exec
  have hb := B.bytes
  have hr := B.returns
  have hts := atoms_spec (ws := wsL_promise) B.pre
  have hown : s.vm.findClass RL = some m.cls := findClass_of_methodNamed B.named
  have hlocks := B.notSynchronized
  subst hsz
  have hD := hD0.self (sz := s.heap.size)
  generalize hAe : va_A (fl [mnW x a sv o rd bu ln, stW cI a σ, svO cO sv (saF sa) κ, stW cI (sa 0) (ss 0), stW cI (sa 1) (ss 1), stW cI (sa 2) (ss 2), stW cI (sa 3) (ss 3), stW cI (sa 4) (ss 4), stW cI (sa 5) (ss 5)]) s.heap.size = A at hD hZ ⊢
  have hA : ∀ q : Nat, s.heap.size ≤ q → A q := fun q h => by rw [← hAe]; exact Or.inr h
  have hS : va_S A s.heap s.heap [] := va_S.rf
  have hP : va_P D vwCl (fl [mnW x a sv o rd bu ln, stW cI a σ, svO cO sv (saF sa) κ, stW cI (sa 0) (ss 0), stW cI (sa 1) (ss 1), stW cI (sa 2) (ss 2), stW cI (sa 3) (ss 3), stW cI (sa 4) (ss 4), stW cI (sa 5) (ss 5)]) s.heap := hP
  have hl := lv_entry ([.ref (x 0), .int (iI (q)), .int (iI (c)), .int (iI (y))]) (n := 5) (Nat.le_of_ble_eq_true rfl)
  rw [lg_entry_eq]
  generalize (lg_sl ([.ref (x 0), .int (iI (q)), .int (iI (c)), .int (iI (y))]) ++ List.replicate (5 - (lg_sl ([.ref (x 0), .int (iI (q)), .int (iI (c)), .int (iI (y))])).length) Slot.unset).toArray = ls at hl ⊢
  have hl : lv_has ls 5 [(0, .ref (x 0)), (1, .int (iI (q))), (2, .int (iI (c))), (3, .int (iI (y)))] := hl
  have hI := hG.1.1
  have hkk := hG.2.1
  have hnn := hI.n
  have htt := hI.t
  refine lv_aload_n hx hb dL_promise_0 rfl (lv_at hl 0 rfl) ?_
  refine lv_iload_n hx hb dL_promise_1 rfl (lv_at hl 1 rfl) ?_
  refine lv_iload_n hx hb dL_promise_2 rfl (lv_at hl 2 rfl) ?_
  refine lv_iload_n hx hb dL_promise_3 rfl (lv_at hl 3 rfl) ?_
  refine Or.elim (Decidable.em (reasonS σ q c y (-1) ≤ 0)) (fun hok => ?_) (fun hbad => ?_)
  · skip
    have hFc := fl_free (SC := [mnW x a sv o rd bu ln, stW cI a σ, svO cO sv (saF sa) κ, stW cI (sa 0) (ss 0), stW cI (sa 1) (ss 1), stW cI (sa 2) (ss 2), stW cI (sa 3) (ss 3), stW cI (sa 4) (ss 4), stW cI (sa 5) (ss 5)]) hD hS hA [0, 1, 2, 3, 4, 5, 6, 7, 8] rfl
    refine wq_calli (va_runV (As := [.int (iI (q)), .int (iI (c)), .int (iI (y))]) (rest := []) ⟨hx, hb, hml, hown, hts⟩ (c_X4_promise l D cI cO cC cL s.heap.size x a sv o rd bu ln σ κ sa ss (q) (c) (y) (by first | assumption | omega) (by first | assumption | omega) (by first | assumption | omega) (by first | assumption | omega) (by first | assumption | omega) (by first | assumption | omega)) (cwV 3 hts gL_promise_X4_promise rfl rfl rfl (by decide +kernel) ⟨Nat.le_of_ble_eq_true rfl, Nat.le_of_ble_eq_true rfl⟩) ⟨pcW_blind, va_recv hK hP (ci := 4) (q0 := 0) rfl rfl, pcW_of hP hK hD⟩ rfl rfl hl.1 rfl (lv_room (Nat.le_of_ble_eq_true rfl)) dL_promise_4 ⟨(Nat.zero_le _), (Nat.zero_le _)⟩) hS (fun q _ h => hFc q h) hFc (fun r1 u3 t9 H1 locs ht9 hvm hcl2 hB hz1 hk1 hS => ?_)
    obtain ⟨hP1, hK1, hD1⟩ := hB
    rw [ht9] at hP1
    obtain ⟨hP, hD⟩ := fl_join (SR := []) (S1 := [mnW x a sv o rd bu ln, stW cI a (addS σ (q) (c) (y) (-1)), svO cO sv (saF (pushA (κ 0 0) sa)) (sU κ 0 0 (pushK (κ 0 0))), stW cI (pushA (κ 0 0) sa 0) (pushS (κ 0 0) ss σ 0), stW cI (pushA (κ 0 0) sa 1) (pushS (κ 0 0) ss σ 1), stW cI (pushA (κ 0 0) sa 2) (pushS (κ 0 0) ss σ 2), stW cI (pushA (κ 0 0) sa 3) (pushS (κ 0 0) ss σ 3), stW cI (pushA (κ 0 0) sa 4) (pushS (κ 0 0) ss σ 4), stW cI (pushA (κ 0 0) sa 5) (pushS (κ 0 0) ss σ 5)]) hP hD [0, 1, 2, 3, 4, 5, 6, 7, 8] [] rfl rfl (by decide) (by decide) hk1 hFc hP1 hD1
    generalize H1 = H at hP hS ⊢
    have hP : va_P D vwCl (fl [mnW x a sv o rd bu ln, stW cI a (addS σ (q) (c) (y) (-1)), svO cO sv (saF (pushA (κ 0 0) sa)) (sU κ 0 0 (pushK (κ 0 0))), stW cI (pushA (κ 0 0) sa 0) (pushS (κ 0 0) ss σ 0), stW cI (pushA (κ 0 0) sa 1) (pushS (κ 0 0) ss σ 1), stW cI (pushA (κ 0 0) sa 2) (pushS (κ 0 0) ss σ 2), stW cI (pushA (κ 0 0) sa 3) (pushS (κ 0 0) ss σ 3), stW cI (pushA (κ 0 0) sa 4) (pushS (κ 0 0) ss σ 4), stW cI (pushA (κ 0 0) sa 5) (pushS (κ 0 0) ss σ 5)]) H := hP
    have hD : va_D A (fl [mnW x a sv o rd bu ln, stW cI a (addS σ (q) (c) (y) (-1)), svO cO sv (saF (pushA (κ 0 0) sa)) (sU κ 0 0 (pushK (κ 0 0))), stW cI (pushA (κ 0 0) sa 0) (pushS (κ 0 0) ss σ 0), stW cI (pushA (κ 0 0) sa 1) (pushS (κ 0 0) ss σ 1), stW cI (pushA (κ 0 0) sa 2) (pushS (κ 0 0) ss σ 2), stW cI (pushA (κ 0 0) sa 3) (pushS (κ 0 0) ss σ 3), stW cI (pushA (κ 0 0) sa 4) (pushS (κ 0 0) ss σ 4), stW cI (pushA (κ 0 0) sa 5) (pushS (κ 0 0) ss σ 5)]) := hD
    have hr9 : r1 = σ 0 1 := hcl2
    refine W.widen (k := 1) (n := 6) (by decide) (by decide) ?_
    exact W.iret (v := iI (r1)) hx hb hr (fun t9 ht9 hW9 => ⟨⟨(r1), ⟨(addS σ (q) (c) (y) (-1)), (sU κ 0 0 (pushK (κ 0 0))), (pushA (κ 0 0) sa), pushS (κ 0 0) ss σ⟩, rfl, (AQ.mk (hG.push (Int.le_refl _) (hG.1.add hq hc ⟨by omega, by omega, by omega⟩ (Or.inl rfl) hok)) rfl rfl rfl (by omega)), ⟨by rw [ht9]; exact hP, va_K.moved hW9.alike hK, hD⟩⟩, hS.F ht9⟩) hS.2.2 dL_promise_7 hlocks
  · skip
    have hcd9 : cd3 ((0 ≤ q ∧ q ≤ 5) ∧ (0 ≤ c ∧ c ≤ 3)) (y ≠ 0 ∧ -99 ≤ y ∧ y ≤ 99) (reasonS σ q c y (-1) ≤ 0) = 3 := cd3_3 ⟨hq, hc⟩ hy hbad
    have cx9 := x_X4_promise l hl9 D cI cO cC cL x a sv o rd bu ln σ q c y (by first | assumption | omega) (by first | assumption | omega) (by first | assumption | omega) hI (by rw [hcd9]; decide)
    rw [hcd9, show xnA 3 = "java/lang/IllegalStateException" from rfl] at cx9
    have hPc := fl_P (S' := [mnW x a sv o rd bu ln, stW cI a σ]) hP [0, 1] rfl
    have hcl15 := hts (Cond.classLink RL 15 "java/lang/IllegalStateException") (by decide +kernel)
    have hcst : (Cond.castable "java/lang/IllegalStateException" "java/lang/IllegalStateException").before ([.ref (x 0), .int (iI (q)), .int (iI (c)), .int (iI (y))] : List Value).toArray s = true := va_Nw.use (ZB_tabs _ (by decide)) (hZ.2.2.1 (Cond.castable "java/lang/IllegalStateException" "java/lang/IllegalStateException") (by decide))
    refine catchX (vx_runV (As := [.int (iI (q)), .int (iI (c)), .int (iI (y))]) (rest := []) ⟨hx, hb, hml, hown, hts⟩ cx9 (cwV 3 hts gL_promise_X4_promise rfl rfl rfl (by decide +kernel) ⟨Nat.le_of_ble_eq_true rfl, Nat.le_of_ble_eq_true rfl⟩) ⟨pcX_blind, va_recv hK hPc (ci := 4) (q0 := 0) rfl rfl, pcX_of hPc hK hZ⟩ rfl rfl hl.1 rfl (lv_room (Nat.le_of_ble_eq_true rfl)) dL_promise_4 ⟨Nat.le_of_ble_eq_true rfl, Nat.le_of_ble_eq_true rfl⟩) hP hS hown [] ⟨0, 7, 8, 15⟩ [] htab (fun z hz => nomatch hz) (by decide) (by decide) hcl15 hcst (fun H locs xq hP hS => ?_)
    refine lv_astore (lv' := [(4, .ref (xq)), (0, .ref (x 0)), (1, .int (iI (q))), (2, .int (iI (c))), (3, .int (iI (y)))]) hx hb dL_promise_8 hl (by decide) rfl (fun ls hl => ?_)
    refine wi_bipush hx hb dL_promise_10 (by decide) ?_
    refine W.widen (k := 1) (n := 6) (by decide) (by decide) ?_
    exact W.iret (v := iI (-3)) hx hb hr (fun t9 ht9 hW9 => ⟨⟨(-3), ⟨σ, κ, sa, ss⟩, rfl, (AQ.no hG rfl rfl rfl (by omega)), ⟨by rw [ht9]; exact hP, va_K.moved hW9.alike hK, hD⟩⟩, hS.F ht9⟩) hS.2.2 dL_promise_12 hlocks
set_option maxHeartbeats 4000000 in
set_option maxRecDepth 100000 in
theorem c_L_transfer (l : Launch) (hl9 : l.stackTraces = false) (D : va_G) (cI cO cC cL : ClassId) (sz : Nat) (x a sv o rd bu : Nat → Nat) (ln σ : Nat → Int → Int) (κ : Nat → Int → Int) (sa : Nat → Nat → Nat) (ss : Nat → Nat → Int → Int) (q f t k : Int) (T : Int) (hq : 0 ≤ q ∧ q ≤ 5) (hf : 0 ≤ f ∧ f ≤ 3) (ht : 0 ≤ t ∧ t ≤ 3) (hft : f ≠ t ∧ 1 ≤ k ∧ k ≤ 99) (hG : G2 T σ (κ 0 0) ss) : Met l yL_transfer wsL_transfer ({ frames := 8, cells := 1, slots := 6, locals := 168 } : Room) (pcWX D [(cI, FieldType.int), (cO, FieldType.object "PromisedCounters$State"), (cC, FieldType.char)] [.ref (x 0), .int (iI (q)), .int (iI (f)), .int (iI (t)), .int (iI (k))] (fl [mnW x a sv o rd bu ln, stW cI a σ, svO cO sv (saF sa) κ, stW cI (sa 0) (ss 0), stW cI (sa 1) (ss 1), stW cI (sa 2) (ss 2), stW cI (sa 3) (ss 3), stW cI (sa 4) (ss 4), stW cI (sa 5) (ss 5)]) sz) (wq_i (fun (r : Int) (u : PS) => AQ T r u σ (κ 0 0)) (fun (u : PS) => (bW D [(cI, FieldType.int), (cO, FieldType.object "PromisedCounters$State"), (cC, FieldType.char)] (fl [mnW x a sv o rd bu ln, stW cI a (PS.σ u), svO cO sv (saF (PS.sa u)) (PS.κ u), stW cI ((PS.sa u) 0) ((PS.ss u) 0), stW cI ((PS.sa u) 1) ((PS.ss u) 1), stW cI ((PS.sa u) 2) ((PS.ss u) 2), stW cI ((PS.sa u) 3) ((PS.ss u) 3), stW cI ((PS.sa u) 4) ((PS.ss u) 4), stW cI ((PS.sa u) 5) ((PS.ss u) 5)]) (va_A (fl [mnW x a sv o rd bu ln, stW cI a σ, svO cO sv (saF sa) κ, stW cI (sa 0) (ss 0), stW cI (sa 1) (ss 1), stW cI (sa 2) (ss 2), stW cI (sa 3) (ss 3), stW cI (sa 4) (ss 4), stW cI (sa 5) (ss 5)]) sz))) (va_A (fl [mnW x a sv o rd bu ln, stW cI a σ, svO cO sv (saF sa) κ, stW cI (sa 0) (ss 0), stW cI (sa 1) (ss 1), stW cI (sa 2) (ss 2), stW cI (sa 3) (ss 3), stW cI (sa 4) (ss 4), stW cI (sa 5) (ss 5)]) sz)) 1 6 (va_A (fl [mnW x a sv o rd bu ln, stW cI a σ, svO cO sv (saF sa) κ, stW cI (sa 0) (ss 0), stW cI (sa 1) (ss 1), stW cI (sa 2) (ss 2), stW cI (sa 3) (ss 3), stW cI (sa 4) (ss 4), stW cI (sa 5) (ss 5)]) sz) := by
  refine metH ([(0, 9, 10, 15)]) (cc := cL_transfer) (maxL := 6) (ret := (some .int)) (by decide) rfl ?_
  intro p9 e9 s m args9 below9 meth9 c9 s₁ B hml htab hv
  obtain ⟨rfl, hsz, hP, hK, hD0, hZ⟩ := hv
  have hx := B.exec
  have hb := B.bytes
  have hr := B.returns
  have hts := atoms_spec (ws := wsL_transfer) B.pre
  have hown : s.vm.findClass RL = some m.cls := findClass_of_methodNamed B.named
  have hlocks := B.notSynchronized
  subst hsz
  have hD := hD0.self (sz := s.heap.size)
  generalize hAe : va_A (fl [mnW x a sv o rd bu ln, stW cI a σ, svO cO sv (saF sa) κ, stW cI (sa 0) (ss 0), stW cI (sa 1) (ss 1), stW cI (sa 2) (ss 2), stW cI (sa 3) (ss 3), stW cI (sa 4) (ss 4), stW cI (sa 5) (ss 5)]) s.heap.size = A at hD hZ ⊢
  have hA : ∀ q : Nat, s.heap.size ≤ q → A q := fun q h => by rw [← hAe]; exact Or.inr h
  have hS : va_S A s.heap s.heap [] := va_S.rf
  have hP : va_P D vwCl (fl [mnW x a sv o rd bu ln, stW cI a σ, svO cO sv (saF sa) κ, stW cI (sa 0) (ss 0), stW cI (sa 1) (ss 1), stW cI (sa 2) (ss 2), stW cI (sa 3) (ss 3), stW cI (sa 4) (ss 4), stW cI (sa 5) (ss 5)]) s.heap := hP
  have hl := lv_entry ([.ref (x 0), .int (iI (q)), .int (iI (f)), .int (iI (t)), .int (iI (k))]) (n := 6) (Nat.le_of_ble_eq_true rfl)
  rw [lg_entry_eq]
  generalize (lg_sl ([.ref (x 0), .int (iI (q)), .int (iI (f)), .int (iI (t)), .int (iI (k))]) ++ List.replicate (6 - (lg_sl ([.ref (x 0), .int (iI (q)), .int (iI (f)), .int (iI (t)), .int (iI (k))])).length) Slot.unset).toArray = ls at hl ⊢
  have hl : lv_has ls 6 [(0, .ref (x 0)), (1, .int (iI (q))), (2, .int (iI (f))), (3, .int (iI (t))), (4, .int (iI (k)))] := hl
  have hI := hG.1.1
  have hkk := hG.2.1
  have hnn := hI.n
  have htt := hI.t
  refine lv_aload_n hx hb dL_transfer_0 rfl (lv_at hl 0 rfl) ?_
  refine lv_iload_n hx hb dL_transfer_1 rfl (lv_at hl 1 rfl) ?_
  refine lv_iload_n hx hb dL_transfer_2 rfl (lv_at hl 2 rfl) ?_
  refine lv_iload_n hx hb dL_transfer_3 rfl (lv_at hl 3 rfl) ?_
  refine lv_iload hx hb dL_transfer_4 (lv_at hl 4 rfl) ?_
  refine Or.elim (Decidable.em (reasonS σ q f (-k) t ≤ 0)) (fun hok => ?_) (fun hbad => ?_)
  · skip
    have hFc := fl_free (SC := [mnW x a sv o rd bu ln, stW cI a σ, svO cO sv (saF sa) κ, stW cI (sa 0) (ss 0), stW cI (sa 1) (ss 1), stW cI (sa 2) (ss 2), stW cI (sa 3) (ss 3), stW cI (sa 4) (ss 4), stW cI (sa 5) (ss 5)]) hD hS hA [0, 1, 2, 3, 4, 5, 6, 7, 8] rfl
    refine wq_calli (va_runV (As := [.int (iI (q)), .int (iI (f)), .int (iI (t)), .int (iI (k))]) (rest := []) ⟨hx, hb, hml, hown, hts⟩ (c_X4_transfer l D cI cO cC cL s.heap.size x a sv o rd bu ln σ κ sa ss (q) (f) (t) (k) (by first | assumption | omega) (by first | assumption | omega) (by first | assumption | omega) (by first | assumption | omega) (by first | assumption | omega) (by first | assumption | omega) (by first | assumption | omega)) (cwV 4 hts gL_transfer_X4_transfer rfl rfl rfl (by decide +kernel) ⟨Nat.le_of_ble_eq_true rfl, Nat.le_of_ble_eq_true rfl⟩) ⟨pcW_blind, va_recv hK hP (ci := 4) (q0 := 0) rfl rfl, pcW_of hP hK hD⟩ rfl rfl hl.1 rfl (lv_room (Nat.le_of_ble_eq_true rfl)) dL_transfer_6 ⟨(Nat.zero_le _), (Nat.zero_le _)⟩) hS (fun q _ h => hFc q h) hFc (fun r1 u3 t9 H1 locs ht9 hvm hcl2 hB hz1 hk1 hS => ?_)
    obtain ⟨hP1, hK1, hD1⟩ := hB
    rw [ht9] at hP1
    obtain ⟨hP, hD⟩ := fl_join (SR := []) (S1 := [mnW x a sv o rd bu ln, stW cI a (addS σ (q) (f) (-(k)) (t)), svO cO sv (saF (pushA (κ 0 0) sa)) (sU κ 0 0 (pushK (κ 0 0))), stW cI (pushA (κ 0 0) sa 0) (pushS (κ 0 0) ss σ 0), stW cI (pushA (κ 0 0) sa 1) (pushS (κ 0 0) ss σ 1), stW cI (pushA (κ 0 0) sa 2) (pushS (κ 0 0) ss σ 2), stW cI (pushA (κ 0 0) sa 3) (pushS (κ 0 0) ss σ 3), stW cI (pushA (κ 0 0) sa 4) (pushS (κ 0 0) ss σ 4), stW cI (pushA (κ 0 0) sa 5) (pushS (κ 0 0) ss σ 5)]) hP hD [0, 1, 2, 3, 4, 5, 6, 7, 8] [] rfl rfl (by decide) (by decide) hk1 hFc hP1 hD1
    generalize H1 = H at hP hS ⊢
    have hP : va_P D vwCl (fl [mnW x a sv o rd bu ln, stW cI a (addS σ (q) (f) (-(k)) (t)), svO cO sv (saF (pushA (κ 0 0) sa)) (sU κ 0 0 (pushK (κ 0 0))), stW cI (pushA (κ 0 0) sa 0) (pushS (κ 0 0) ss σ 0), stW cI (pushA (κ 0 0) sa 1) (pushS (κ 0 0) ss σ 1), stW cI (pushA (κ 0 0) sa 2) (pushS (κ 0 0) ss σ 2), stW cI (pushA (κ 0 0) sa 3) (pushS (κ 0 0) ss σ 3), stW cI (pushA (κ 0 0) sa 4) (pushS (κ 0 0) ss σ 4), stW cI (pushA (κ 0 0) sa 5) (pushS (κ 0 0) ss σ 5)]) H := hP
    have hD : va_D A (fl [mnW x a sv o rd bu ln, stW cI a (addS σ (q) (f) (-(k)) (t)), svO cO sv (saF (pushA (κ 0 0) sa)) (sU κ 0 0 (pushK (κ 0 0))), stW cI (pushA (κ 0 0) sa 0) (pushS (κ 0 0) ss σ 0), stW cI (pushA (κ 0 0) sa 1) (pushS (κ 0 0) ss σ 1), stW cI (pushA (κ 0 0) sa 2) (pushS (κ 0 0) ss σ 2), stW cI (pushA (κ 0 0) sa 3) (pushS (κ 0 0) ss σ 3), stW cI (pushA (κ 0 0) sa 4) (pushS (κ 0 0) ss σ 4), stW cI (pushA (κ 0 0) sa 5) (pushS (κ 0 0) ss σ 5)]) := hD
    have hr9 : r1 = σ 0 1 := hcl2
    refine W.widen (k := 1) (n := 6) (by decide) (by decide) ?_
    exact W.iret (v := iI (r1)) hx hb hr (fun t9 ht9 hW9 => ⟨⟨(r1), ⟨(addS σ (q) (f) (-(k)) (t)), (sU κ 0 0 (pushK (κ 0 0))), (pushA (κ 0 0) sa), pushS (κ 0 0) ss σ⟩, rfl, (AQ.mk (hG.push (Int.le_refl _) (hG.1.add hq hf ⟨by omega, by omega, by omega⟩ (Or.inr ⟨ht.1, ht.2, fun q9 => hft.1 q9.symm, by omega⟩) hok)) rfl rfl rfl (by omega)), ⟨by rw [ht9]; exact hP, va_K.moved hW9.alike hK, hD⟩⟩, hS.F ht9⟩) hS.2.2 dL_transfer_9 hlocks
  · skip
    have hcd9 : cd3 ((0 ≤ q ∧ q ≤ 5) ∧ (0 ≤ f ∧ f ≤ 3) ∧ (0 ≤ t ∧ t ≤ 3)) (f ≠ t ∧ 1 ≤ k ∧ k ≤ 99) (reasonS σ q f (-k) t ≤ 0) = 3 := cd3_3 ⟨hq, hf, ht⟩ hft hbad
    have cx9 := x_X4_transfer l hl9 D cI cO cC cL x a sv o rd bu ln σ q f t k (by first | assumption | omega) (by first | assumption | omega) (by first | assumption | omega) (by first | assumption | omega) hI (by rw [hcd9]; decide)
    rw [hcd9, show xnA 3 = "java/lang/IllegalStateException" from rfl] at cx9
    have hPc := fl_P (S' := [mnW x a sv o rd bu ln, stW cI a σ]) hP [0, 1] rfl
    have hcl15 := hts (Cond.classLink RL 15 "java/lang/IllegalStateException") (by decide +kernel)
    have hcst : (Cond.castable "java/lang/IllegalStateException" "java/lang/IllegalStateException").before ([.ref (x 0), .int (iI (q)), .int (iI (f)), .int (iI (t)), .int (iI (k))] : List Value).toArray s = true := va_Nw.use (ZB_tabs _ (by decide)) (hZ.2.2.1 (Cond.castable "java/lang/IllegalStateException" "java/lang/IllegalStateException") (by decide))
    refine catchX (vx_runV (As := [.int (iI (q)), .int (iI (f)), .int (iI (t)), .int (iI (k))]) (rest := []) ⟨hx, hb, hml, hown, hts⟩ cx9 (cwV 4 hts gL_transfer_X4_transfer rfl rfl rfl (by decide +kernel) ⟨Nat.le_of_ble_eq_true rfl, Nat.le_of_ble_eq_true rfl⟩) ⟨pcX_blind, va_recv hK hPc (ci := 4) (q0 := 0) rfl rfl, pcX_of hPc hK hZ⟩ rfl rfl hl.1 rfl (lv_room (Nat.le_of_ble_eq_true rfl)) dL_transfer_6 ⟨Nat.le_of_ble_eq_true rfl, Nat.le_of_ble_eq_true rfl⟩) hP hS hown [] ⟨0, 9, 10, 15⟩ [] htab (fun z hz => nomatch hz) (by decide) (by decide) hcl15 hcst (fun H locs xq hP hS => ?_)
    refine lv_astore (lv' := [(5, .ref (xq)), (0, .ref (x 0)), (1, .int (iI (q))), (2, .int (iI (f))), (3, .int (iI (t))), (4, .int (iI (k)))]) hx hb dL_transfer_10 hl (by decide) rfl (fun ls hl => ?_)
    refine wi_bipush hx hb dL_transfer_12 (by decide) ?_
    refine W.widen (k := 1) (n := 6) (by decide) (by decide) ?_
    exact W.iret (v := iI (-3)) hx hb hr (fun t9 ht9 hW9 => ⟨⟨(-3), ⟨σ, κ, sa, ss⟩, rfl, (AQ.no hG rfl rfl rfl (by omega)), ⟨by rw [ht9]; exact hP, va_K.moved hW9.alike hK, hD⟩⟩, hS.F ht9⟩) hS.2.2 dL_transfer_14 hlocks
set_option maxHeartbeats 4000000 in
set_option maxRecDepth 100000 in
theorem c_L_bounds (l : Launch) (hl9 : l.stackTraces = false) (D : va_G) (cI cO cC cL : ClassId) (sz : Nat) (x a sv o rd bu : Nat → Nat) (ln σ : Nat → Int → Int) (κ : Nat → Int → Int) (sa : Nat → Nat → Nat) (ss : Nat → Nat → Int → Int) (c lo hi : Int) (T : Int) (hc : 0 ≤ c ∧ c ≤ 3) (hlo : -999 ≤ lo ∧ lo ≤ 999) (hhi : lo ≤ hi ∧ hi ≤ 999) (hG : G2 T σ (κ 0 0) ss) : Met l yL_bounds wsL_bounds ({ frames := 8, cells := 1, slots := 6, locals := 166 } : Room) (pcWX D [(cI, FieldType.int), (cO, FieldType.object "PromisedCounters$State"), (cC, FieldType.char)] [.ref (x 0), .int (iI (c)), .int (iI (lo)), .int (iI (hi))] (fl [mnW x a sv o rd bu ln, stW cI a σ, svO cO sv (saF sa) κ, stW cI (sa 0) (ss 0), stW cI (sa 1) (ss 1), stW cI (sa 2) (ss 2), stW cI (sa 3) (ss 3), stW cI (sa 4) (ss 4), stW cI (sa 5) (ss 5)]) sz) (wq_i (fun (r : Int) (u : PS) => AQ T r u σ (κ 0 0)) (fun (u : PS) => (bW D [(cI, FieldType.int), (cO, FieldType.object "PromisedCounters$State"), (cC, FieldType.char)] (fl [mnW x a sv o rd bu ln, stW cI a (PS.σ u), svO cO sv (saF (PS.sa u)) (PS.κ u), stW cI ((PS.sa u) 0) ((PS.ss u) 0), stW cI ((PS.sa u) 1) ((PS.ss u) 1), stW cI ((PS.sa u) 2) ((PS.ss u) 2), stW cI ((PS.sa u) 3) ((PS.ss u) 3), stW cI ((PS.sa u) 4) ((PS.ss u) 4), stW cI ((PS.sa u) 5) ((PS.ss u) 5)]) (va_A (fl [mnW x a sv o rd bu ln, stW cI a σ, svO cO sv (saF sa) κ, stW cI (sa 0) (ss 0), stW cI (sa 1) (ss 1), stW cI (sa 2) (ss 2), stW cI (sa 3) (ss 3), stW cI (sa 4) (ss 4), stW cI (sa 5) (ss 5)]) sz))) (va_A (fl [mnW x a sv o rd bu ln, stW cI a σ, svO cO sv (saF sa) κ, stW cI (sa 0) (ss 0), stW cI (sa 1) (ss 1), stW cI (sa 2) (ss 2), stW cI (sa 3) (ss 3), stW cI (sa 4) (ss 4), stW cI (sa 5) (ss 5)]) sz)) 1 6 (va_A (fl [mnW x a sv o rd bu ln, stW cI a σ, svO cO sv (saF sa) κ, stW cI (sa 0) (ss 0), stW cI (sa 1) (ss 1), stW cI (sa 2) (ss 2), stW cI (sa 3) (ss 3), stW cI (sa 4) (ss 4), stW cI (sa 5) (ss 5)]) sz) := by
  refine metH ([(0, 7, 8, 15)]) (cc := cL_bounds) (maxL := 5) (ret := (some .int)) (by decide) rfl ?_
  intro p9 e9 s m args9 below9 meth9 c9 s₁ B hml htab hv
  obtain ⟨rfl, hsz, hP, hK, hD0, hZ⟩ := hv
  have hx := B.exec
  have hb := B.bytes
  have hr := B.returns
  have hts := atoms_spec (ws := wsL_bounds) B.pre
  have hown : s.vm.findClass RL = some m.cls := findClass_of_methodNamed B.named
  have hlocks := B.notSynchronized
  subst hsz
  have hD := hD0.self (sz := s.heap.size)
  generalize hAe : va_A (fl [mnW x a sv o rd bu ln, stW cI a σ, svO cO sv (saF sa) κ, stW cI (sa 0) (ss 0), stW cI (sa 1) (ss 1), stW cI (sa 2) (ss 2), stW cI (sa 3) (ss 3), stW cI (sa 4) (ss 4), stW cI (sa 5) (ss 5)]) s.heap.size = A at hD hZ ⊢
  have hA : ∀ q : Nat, s.heap.size ≤ q → A q := fun q h => by rw [← hAe]; exact Or.inr h
  have hS : va_S A s.heap s.heap [] := va_S.rf
  have hP : va_P D vwCl (fl [mnW x a sv o rd bu ln, stW cI a σ, svO cO sv (saF sa) κ, stW cI (sa 0) (ss 0), stW cI (sa 1) (ss 1), stW cI (sa 2) (ss 2), stW cI (sa 3) (ss 3), stW cI (sa 4) (ss 4), stW cI (sa 5) (ss 5)]) s.heap := hP
  have hl := lv_entry ([.ref (x 0), .int (iI (c)), .int (iI (lo)), .int (iI (hi))]) (n := 5) (Nat.le_of_ble_eq_true rfl)
  rw [lg_entry_eq]
  generalize (lg_sl ([.ref (x 0), .int (iI (c)), .int (iI (lo)), .int (iI (hi))]) ++ List.replicate (5 - (lg_sl ([.ref (x 0), .int (iI (c)), .int (iI (lo)), .int (iI (hi))])).length) Slot.unset).toArray = ls at hl ⊢
  have hl : lv_has ls 5 [(0, .ref (x 0)), (1, .int (iI (c))), (2, .int (iI (lo))), (3, .int (iI (hi)))] := hl
  have hI := hG.1.1
  have hkk := hG.2.1
  have hnn := hI.n
  have htt := hI.t
  have hcc := hI.c (c := c) (by omega) (by omega)
  refine lv_aload_n hx hb dL_bounds_0 rfl (lv_at hl 0 rfl) ?_
  refine lv_iload_n hx hb dL_bounds_1 rfl (lv_at hl 1 rfl) ?_
  refine lv_iload_n hx hb dL_bounds_2 rfl (lv_at hl 2 rfl) ?_
  refine lv_iload_n hx hb dL_bounds_3 rfl (lv_at hl 3 rfl) ?_
  refine Or.elim (Decidable.em (lo ≤ lowS σ c (σ 0 0) ∧ highS σ c ≤ hi)) (fun hok => ?_) (fun hbad => ?_)
  · skip
    have hFc := fl_free (SC := [mnW x a sv o rd bu ln, stW cI a σ, svO cO sv (saF sa) κ, stW cI (sa 0) (ss 0), stW cI (sa 1) (ss 1), stW cI (sa 2) (ss 2), stW cI (sa 3) (ss 3), stW cI (sa 4) (ss 4), stW cI (sa 5) (ss 5)]) hD hS hA [0, 1, 2, 3, 4, 5, 6, 7, 8] rfl
    refine wq_calli (va_runV (As := [.int (iI (c)), .int (iI (lo)), .int (iI (hi))]) (rest := []) ⟨hx, hb, hml, hown, hts⟩ (c_X4_bounds l D cI cO cC cL s.heap.size x a sv o rd bu ln σ κ sa ss (c) (lo) (hi) (by first | assumption | omega) (by first | assumption | omega) (by first | assumption | omega) (by first | assumption | omega) (by first | assumption | omega) (by first | assumption | omega)) (cwV 3 hts gL_bounds_X4_bounds rfl rfl rfl (by decide +kernel) ⟨Nat.le_of_ble_eq_true rfl, Nat.le_of_ble_eq_true rfl⟩) ⟨pcW_blind, va_recv hK hP (ci := 4) (q0 := 0) rfl rfl, pcW_of hP hK hD⟩ rfl rfl hl.1 rfl (lv_room (Nat.le_of_ble_eq_true rfl)) dL_bounds_4 ⟨(Nat.zero_le _), (Nat.zero_le _)⟩) hS (fun q _ h => hFc q h) hFc (fun r1 u3 t9 H1 locs ht9 hvm hcl2 hB hz1 hk1 hS => ?_)
    obtain ⟨hP1, hK1, hD1⟩ := hB
    rw [ht9] at hP1
    obtain ⟨hP, hD⟩ := fl_join (SR := []) (S1 := [mnW x a sv o rd bu ln, stW cI a (bndS σ (c) (lo) (hi)), svO cO sv (saF (pushA (κ 0 0) sa)) (sU κ 0 0 (pushK (κ 0 0))), stW cI (pushA (κ 0 0) sa 0) (pushS (κ 0 0) ss σ 0), stW cI (pushA (κ 0 0) sa 1) (pushS (κ 0 0) ss σ 1), stW cI (pushA (κ 0 0) sa 2) (pushS (κ 0 0) ss σ 2), stW cI (pushA (κ 0 0) sa 3) (pushS (κ 0 0) ss σ 3), stW cI (pushA (κ 0 0) sa 4) (pushS (κ 0 0) ss σ 4), stW cI (pushA (κ 0 0) sa 5) (pushS (κ 0 0) ss σ 5)]) hP hD [0, 1, 2, 3, 4, 5, 6, 7, 8] [] rfl rfl (by decide) (by decide) hk1 hFc hP1 hD1
    generalize H1 = H at hP hS ⊢
    have hP : va_P D vwCl (fl [mnW x a sv o rd bu ln, stW cI a (bndS σ (c) (lo) (hi)), svO cO sv (saF (pushA (κ 0 0) sa)) (sU κ 0 0 (pushK (κ 0 0))), stW cI (pushA (κ 0 0) sa 0) (pushS (κ 0 0) ss σ 0), stW cI (pushA (κ 0 0) sa 1) (pushS (κ 0 0) ss σ 1), stW cI (pushA (κ 0 0) sa 2) (pushS (κ 0 0) ss σ 2), stW cI (pushA (κ 0 0) sa 3) (pushS (κ 0 0) ss σ 3), stW cI (pushA (κ 0 0) sa 4) (pushS (κ 0 0) ss σ 4), stW cI (pushA (κ 0 0) sa 5) (pushS (κ 0 0) ss σ 5)]) H := hP
    have hD : va_D A (fl [mnW x a sv o rd bu ln, stW cI a (bndS σ (c) (lo) (hi)), svO cO sv (saF (pushA (κ 0 0) sa)) (sU κ 0 0 (pushK (κ 0 0))), stW cI (pushA (κ 0 0) sa 0) (pushS (κ 0 0) ss σ 0), stW cI (pushA (κ 0 0) sa 1) (pushS (κ 0 0) ss σ 1), stW cI (pushA (κ 0 0) sa 2) (pushS (κ 0 0) ss σ 2), stW cI (pushA (κ 0 0) sa 3) (pushS (κ 0 0) ss σ 3), stW cI (pushA (κ 0 0) sa 4) (pushS (κ 0 0) ss σ 4), stW cI (pushA (κ 0 0) sa 5) (pushS (κ 0 0) ss σ 5)]) := hD
    have hr9 : r1 = σ 4 c - σ 3 c := hcl2
    refine W.widen (k := 1) (n := 6) (by decide) (by decide) ?_
    exact W.iret (v := iI (r1)) hx hb hr (fun t9 ht9 hW9 => ⟨⟨(r1), ⟨(bndS σ (c) (lo) (hi)), (sU κ 0 0 (pushK (κ 0 0))), (pushA (κ 0 0) sa), pushS (κ 0 0) ss σ⟩, rfl, (AQ.mk (hG.push (Int.le_refl _) (hG.1.bnd hlo.1 hhi.2 hok.1 hok.2)) rfl rfl rfl (by omega)), ⟨by rw [ht9]; exact hP, va_K.moved hW9.alike hK, hD⟩⟩, hS.F ht9⟩) hS.2.2 dL_bounds_7 hlocks
  · skip
    have hcd9 : cd3 (0 ≤ c ∧ c ≤ 3) ((-999 ≤ lo ∧ lo ≤ 999) ∧ lo ≤ hi ∧ hi ≤ 999) (lo ≤ lowS σ c (σ 0 0) ∧ highS σ c ≤ hi) = 3 := cd3_3 hc ⟨hlo, hhi⟩ hbad
    have cx9 := x_X4_bounds l hl9 D cI cO cC cL x a sv o rd bu ln σ c lo hi (by first | assumption | omega) (by first | assumption | omega) (by first | assumption | omega) hI (by rw [hcd9]; decide)
    rw [hcd9, show xnA 3 = "java/lang/IllegalStateException" from rfl] at cx9
    have hPc := fl_P (S' := [mnW x a sv o rd bu ln, stW cI a σ]) hP [0, 1] rfl
    have hcl15 := hts (Cond.classLink RL 15 "java/lang/IllegalStateException") (by decide +kernel)
    have hcst : (Cond.castable "java/lang/IllegalStateException" "java/lang/IllegalStateException").before ([.ref (x 0), .int (iI (c)), .int (iI (lo)), .int (iI (hi))] : List Value).toArray s = true := va_Nw.use (ZB_tabs _ (by decide)) (hZ.2.2.1 (Cond.castable "java/lang/IllegalStateException" "java/lang/IllegalStateException") (by decide))
    refine catchX (vx_runV (As := [.int (iI (c)), .int (iI (lo)), .int (iI (hi))]) (rest := []) ⟨hx, hb, hml, hown, hts⟩ cx9 (cwV 3 hts gL_bounds_X4_bounds rfl rfl rfl (by decide +kernel) ⟨Nat.le_of_ble_eq_true rfl, Nat.le_of_ble_eq_true rfl⟩) ⟨pcX_blind, va_recv hK hPc (ci := 4) (q0 := 0) rfl rfl, pcX_of hPc hK hZ⟩ rfl rfl hl.1 rfl (lv_room (Nat.le_of_ble_eq_true rfl)) dL_bounds_4 ⟨Nat.le_of_ble_eq_true rfl, Nat.le_of_ble_eq_true rfl⟩) hP hS hown [] ⟨0, 7, 8, 15⟩ [] htab (fun z hz => nomatch hz) (by decide) (by decide) hcl15 hcst (fun H locs xq hP hS => ?_)
    refine lv_astore (lv' := [(4, .ref (xq)), (0, .ref (x 0)), (1, .int (iI (c))), (2, .int (iI (lo))), (3, .int (iI (hi)))]) hx hb dL_bounds_8 hl (by decide) rfl (fun ls hl => ?_)
    refine wi_bipush hx hb dL_bounds_10 (by decide) ?_
    refine W.widen (k := 1) (n := 6) (by decide) (by decide) ?_
    exact W.iret (v := iI (-3)) hx hb hr (fun t9 ht9 hW9 => ⟨⟨(-3), ⟨σ, κ, sa, ss⟩, rfl, (AQ.no hG rfl rfl rfl (by omega)), ⟨by rw [ht9]; exact hP, va_K.moved hW9.alike hK, hD⟩⟩, hS.F ht9⟩) hS.2.2 dL_bounds_12 hlocks
set_option maxHeartbeats 4000000 in
set_option maxRecDepth 100000 in
theorem c_L_undo (l : Launch) (hl9 : l.stackTraces = false) (D : va_G) (cI cO cC cL : ClassId) (sz : Nat) (x a sv o rd bu : Nat → Nat) (ln σ : Nat → Int → Int) (κ : Nat → Int → Int) (sa : Nat → Nat → Nat) (ss : Nat → Nat → Int → Int) (T : Int) (hG : G2 T σ (κ 0 0) ss) : Met l yL_undo wsL_undo ({ frames := 7, cells := 1, slots := 6, locals := 140 } : Room) (pcWX D [(cI, FieldType.int), (cO, FieldType.object "PromisedCounters$State"), (cC, FieldType.char)] [.ref (x 0)] (fl [mnW x a sv o rd bu ln, stW cI a σ, svO cO sv (saF sa) κ, stW cI (sa 0) (ss 0), stW cI (sa 1) (ss 1), stW cI (sa 2) (ss 2), stW cI (sa 3) (ss 3), stW cI (sa 4) (ss 4), stW cI (sa 5) (ss 5)]) sz) (wq_i (fun (r : Int) (u : PS) => AQ T r u σ (κ 0 0)) (fun (u : PS) => (bW D [(cI, FieldType.int), (cO, FieldType.object "PromisedCounters$State"), (cC, FieldType.char)] (fl [mnW x a sv o rd bu ln, stW cI a (PS.σ u), svO cO sv (saF (PS.sa u)) (PS.κ u), stW cI ((PS.sa u) 0) ((PS.ss u) 0), stW cI ((PS.sa u) 1) ((PS.ss u) 1), stW cI ((PS.sa u) 2) ((PS.ss u) 2), stW cI ((PS.sa u) 3) ((PS.ss u) 3), stW cI ((PS.sa u) 4) ((PS.ss u) 4), stW cI ((PS.sa u) 5) ((PS.ss u) 5)]) (va_A (fl [mnW x a sv o rd bu ln, stW cI a σ, svO cO sv (saF sa) κ, stW cI (sa 0) (ss 0), stW cI (sa 1) (ss 1), stW cI (sa 2) (ss 2), stW cI (sa 3) (ss 3), stW cI (sa 4) (ss 4), stW cI (sa 5) (ss 5)]) sz))) (va_A (fl [mnW x a sv o rd bu ln, stW cI a σ, svO cO sv (saF sa) κ, stW cI (sa 0) (ss 0), stW cI (sa 1) (ss 1), stW cI (sa 2) (ss 2), stW cI (sa 3) (ss 3), stW cI (sa 4) (ss 4), stW cI (sa 5) (ss 5)]) sz)) 1 6 (va_A (fl [mnW x a sv o rd bu ln, stW cI a σ, svO cO sv (saF sa) κ, stW cI (sa 0) (ss 0), stW cI (sa 1) (ss 1), stW cI (sa 2) (ss 2), stW cI (sa 3) (ss 3), stW cI (sa 4) (ss 4), stW cI (sa 5) (ss 5)]) sz) := by
  refine metH ([(0, 4, 5, 15)]) (cc := cL_undo) (maxL := 2) (ret := (some .int)) (by decide) rfl ?_
  intro p9 e9 s m args9 below9 meth9 c9 s₁ B hml htab hv
  obtain ⟨rfl, hsz, hP, hK, hD0, hZ⟩ := hv
  have hx := B.exec
  have hb := B.bytes
  have hr := B.returns
  have hts := atoms_spec (ws := wsL_undo) B.pre
  have hown : s.vm.findClass RL = some m.cls := findClass_of_methodNamed B.named
  have hlocks := B.notSynchronized
  subst hsz
  have hD := hD0.self (sz := s.heap.size)
  generalize hAe : va_A (fl [mnW x a sv o rd bu ln, stW cI a σ, svO cO sv (saF sa) κ, stW cI (sa 0) (ss 0), stW cI (sa 1) (ss 1), stW cI (sa 2) (ss 2), stW cI (sa 3) (ss 3), stW cI (sa 4) (ss 4), stW cI (sa 5) (ss 5)]) s.heap.size = A at hD hZ ⊢
  have hA : ∀ q : Nat, s.heap.size ≤ q → A q := fun q h => by rw [← hAe]; exact Or.inr h
  have hS : va_S A s.heap s.heap [] := va_S.rf
  have hP : va_P D vwCl (fl [mnW x a sv o rd bu ln, stW cI a σ, svO cO sv (saF sa) κ, stW cI (sa 0) (ss 0), stW cI (sa 1) (ss 1), stW cI (sa 2) (ss 2), stW cI (sa 3) (ss 3), stW cI (sa 4) (ss 4), stW cI (sa 5) (ss 5)]) s.heap := hP
  have hl := lv_entry ([.ref (x 0)]) (n := 2) (Nat.le_of_ble_eq_true rfl)
  rw [lg_entry_eq]
  generalize (lg_sl ([.ref (x 0)]) ++ List.replicate (2 - (lg_sl ([.ref (x 0)])).length) Slot.unset).toArray = ls at hl ⊢
  have hl : lv_has ls 2 [(0, .ref (x 0))] := hl
  have hI := hG.1.1
  have hkk := hG.2.1
  have hnn := hI.n
  have htt := hI.t
  refine lv_aload_n hx hb dL_undo_0 rfl (lv_at hl 0 rfl) ?_
  refine Or.elim (Decidable.em (κ 0 0 ≠ 0)) (fun hok => ?_) (fun hbad => ?_)
  · skip
    have hFc := fl_free (SC := [mnW x a sv o rd bu ln, stW cI a σ, svO cO sv (saF sa) κ, stW cI (sa 0) (ss 0), stW cI (sa 1) (ss 1), stW cI (sa 2) (ss 2), stW cI (sa 3) (ss 3), stW cI (sa 4) (ss 4), stW cI (sa 5) (ss 5)]) hD hS hA [0, 1, 2, 3, 4, 5, 6, 7, 8] rfl
    refine wq_calli (va_runV (As := []) (rest := []) ⟨hx, hb, hml, hown, hts⟩ (c_X4_undo l D cI cO cC cL s.heap.size x a sv o rd bu ln σ κ sa ss (by first | assumption | omega)) (cwV 0 hts gL_undo_X4_undo rfl rfl rfl (by decide +kernel) ⟨Nat.le_of_ble_eq_true rfl, Nat.le_of_ble_eq_true rfl⟩) ⟨pcW_blind, va_recv hK hP (ci := 4) (q0 := 0) rfl rfl, pcW_of hP hK hD⟩ rfl rfl hl.1 rfl (lv_room (Nat.le_of_ble_eq_true rfl)) dL_undo_1 ⟨(Nat.zero_le _), (Nat.zero_le _)⟩) hS (fun q _ h => hFc q h) hFc (fun r1 u3 t9 H1 locs ht9 hvm hcl2 hB hz1 hk1 hS => ?_)
    obtain ⟨hP1, hK1, hD1⟩ := hB
    rw [ht9] at hP1
    obtain ⟨hP, hD⟩ := fl_join (SR := []) (S1 := [mnW x a sv o rd bu ln, stW cI a (ss (κ 0 0 - 1).toNat), svO cO sv (saF sa) (sU κ 0 0 (κ 0 0 - 1)), stW cI (sa 0) (ss 0), stW cI (sa 1) (ss 1), stW cI (sa 2) (ss 2), stW cI (sa 3) (ss 3), stW cI (sa 4) (ss 4), stW cI (sa 5) (ss 5)]) hP hD [0, 1, 2, 3, 4, 5, 6, 7, 8] [] rfl rfl (by decide) (by decide) hk1 hFc hP1 hD1
    generalize H1 = H at hP hS ⊢
    have hP : va_P D vwCl (fl [mnW x a sv o rd bu ln, stW cI a (ss (κ 0 0 - 1).toNat), svO cO sv (saF sa) (sU κ 0 0 (κ 0 0 - 1)), stW cI (sa 0) (ss 0), stW cI (sa 1) (ss 1), stW cI (sa 2) (ss 2), stW cI (sa 3) (ss 3), stW cI (sa 4) (ss 4), stW cI (sa 5) (ss 5)]) H := hP
    have hD : va_D A (fl [mnW x a sv o rd bu ln, stW cI a (ss (κ 0 0 - 1).toNat), svO cO sv (saF sa) (sU κ 0 0 (κ 0 0 - 1)), stW cI (sa 0) (ss 0), stW cI (sa 1) (ss 1), stW cI (sa 2) (ss 2), stW cI (sa 3) (ss 3), stW cI (sa 4) (ss 4), stW cI (sa 5) (ss 5)]) := hD
    have hr9 : r1 = κ 0 0 - 1 := hcl2
    refine W.widen (k := 1) (n := 6) (by decide) (by decide) ?_
    exact W.iret (v := iI (r1)) hx hb hr (fun t9 ht9 hW9 => ⟨⟨(r1), ⟨(ss (κ 0 0 - 1).toNat), (sU κ 0 0 (κ 0 0 - 1)), sa, ss⟩, rfl, (AQ.mk (hG.undo hok) rfl rfl rfl (by omega)), ⟨by rw [ht9]; exact hP, va_K.moved hW9.alike hK, hD⟩⟩, hS.F ht9⟩) hS.2.2 dL_undo_4 hlocks
  · skip
    have hcd9 : cd1 (κ 0 0 ≠ 0) = 1 := cd1_1 hbad
    have cx9 := x_X4_undo l hl9 D cI cO cC cL x a sv o rd bu ln κ sa (by first | assumption | omega) (by rw [hcd9]; decide)
    rw [hcd9, show xnC 1 = "java/lang/IllegalStateException" from rfl] at cx9
    have hPc := fl_P (S' := [mnW x a sv o rd bu ln, svO cO sv (saF sa) κ]) hP [0, 2] rfl
    have hcl15 := hts (Cond.classLink RL 15 "java/lang/IllegalStateException") (by decide +kernel)
    have hcst : (Cond.castable "java/lang/IllegalStateException" "java/lang/IllegalStateException").before ([.ref (x 0)] : List Value).toArray s = true := va_Nw.use (ZB_tabs _ (by decide)) (hZ.2.2.1 (Cond.castable "java/lang/IllegalStateException" "java/lang/IllegalStateException") (by decide))
    refine catchX (vx_runV (As := []) (rest := []) ⟨hx, hb, hml, hown, hts⟩ cx9 (cwV 0 hts gL_undo_X4_undo rfl rfl rfl (by decide +kernel) ⟨Nat.le_of_ble_eq_true rfl, Nat.le_of_ble_eq_true rfl⟩) ⟨pcX_blind, va_recv hK hPc (ci := 4) (q0 := 0) rfl rfl, pcX_of hPc hK hZ⟩ rfl rfl hl.1 rfl (lv_room (Nat.le_of_ble_eq_true rfl)) dL_undo_1 ⟨Nat.le_of_ble_eq_true rfl, Nat.le_of_ble_eq_true rfl⟩) hP hS hown [] ⟨0, 4, 5, 15⟩ [] htab (fun z hz => nomatch hz) (by decide) (by decide) hcl15 hcst (fun H locs xq hP hS => ?_)
    refine lv_astore_n (lv' := [(1, .ref (xq)), (0, .ref (x 0))]) hx hb dL_undo_5 rfl hl (by decide) rfl (fun ls hl => ?_)
    refine wi_bipush hx hb dL_undo_6 (by decide) ?_
    refine W.widen (k := 1) (n := 6) (by decide) (by decide) ?_
    exact W.iret (v := iI (-3)) hx hb hr (fun t9 ht9 hW9 => ⟨⟨(-3), ⟨σ, κ, sa, ss⟩, rfl, (AQ.no hG rfl rfl rfl (by omega)), ⟨by rw [ht9]; exact hP, va_K.moved hW9.alike hK, hD⟩⟩, hS.F ht9⟩) hS.2.2 dL_undo_8 hlocks
set_option maxHeartbeats 4000000 in
set_option maxRecDepth 100000 in
theorem c_L_part (l : Launch) (hl9 : l.stackTraces = false) (D : va_G) (cI cO cC cL : ClassId) (sz : Nat) (x a sv o rd bu : Nat → Nat) (ln σ : Nat → Int → Int) (κ : Nat → Int → Int) (sa : Nat → Nat → Nat) (ss : Nat → Nat → Int → Int) (p q : Int) (T : Int) (hp : 0 ≤ p ∧ p < σ 0 1) (hq : 1 ≤ q ∧ q ≤ 1000) (hG : G2 T σ (κ 0 0) ss) : Met l yL_part wsL_part ({ frames := 8, cells := 1, slots := 6, locals := 165 } : Room) (pcWX D [(cI, FieldType.int), (cO, FieldType.object "PromisedCounters$State"), (cC, FieldType.char)] [.ref (x 0), .int (iI (p)), .int (iI (q))] (fl [mnW x a sv o rd bu ln, stW cI a σ, svO cO sv (saF sa) κ, stW cI (sa 0) (ss 0), stW cI (sa 1) (ss 1), stW cI (sa 2) (ss 2), stW cI (sa 3) (ss 3), stW cI (sa 4) (ss 4), stW cI (sa 5) (ss 5)]) sz) (wq_i (fun (r : Int) (u : PS) => AQ T r u σ (κ 0 0)) (fun (u : PS) => (bW D [(cI, FieldType.int), (cO, FieldType.object "PromisedCounters$State"), (cC, FieldType.char)] (fl [mnW x a sv o rd bu ln, stW cI a (PS.σ u), svO cO sv (saF (PS.sa u)) (PS.κ u), stW cI ((PS.sa u) 0) ((PS.ss u) 0), stW cI ((PS.sa u) 1) ((PS.ss u) 1), stW cI ((PS.sa u) 2) ((PS.ss u) 2), stW cI ((PS.sa u) 3) ((PS.ss u) 3), stW cI ((PS.sa u) 4) ((PS.ss u) 4), stW cI ((PS.sa u) 5) ((PS.ss u) 5)]) (va_A (fl [mnW x a sv o rd bu ln, stW cI a σ, svO cO sv (saF sa) κ, stW cI (sa 0) (ss 0), stW cI (sa 1) (ss 1), stW cI (sa 2) (ss 2), stW cI (sa 3) (ss 3), stW cI (sa 4) (ss 4), stW cI (sa 5) (ss 5)]) sz))) (va_A (fl [mnW x a sv o rd bu ln, stW cI a σ, svO cO sv (saF sa) κ, stW cI (sa 0) (ss 0), stW cI (sa 1) (ss 1), stW cI (sa 2) (ss 2), stW cI (sa 3) (ss 3), stW cI (sa 4) (ss 4), stW cI (sa 5) (ss 5)]) sz)) 1 6 (va_A (fl [mnW x a sv o rd bu ln, stW cI a σ, svO cO sv (saF sa) κ, stW cI (sa 0) (ss 0), stW cI (sa 1) (ss 1), stW cI (sa 2) (ss 2), stW cI (sa 3) (ss 3), stW cI (sa 4) (ss 4), stW cI (sa 5) (ss 5)]) sz) := by
  refine metH ([(0, 14, 15, 32)]) (cc := cL_part) (maxL := 4) (ret := (some .int)) (by decide) rfl ?_
  intro p9 e9 s m args9 below9 meth9 c9 s₁ B hml htab hv
  obtain ⟨rfl, hsz, hP, hK, hD0, hZ⟩ := hv
  have hx := B.exec
  have hb := B.bytes
  have hr := B.returns
  have hts := atoms_spec (ws := wsL_part) B.pre
  have hown : s.vm.findClass RL = some m.cls := findClass_of_methodNamed B.named
  have hlocks := B.notSynchronized
  subst hsz
  have hD := hD0.self (sz := s.heap.size)
  generalize hAe : va_A (fl [mnW x a sv o rd bu ln, stW cI a σ, svO cO sv (saF sa) κ, stW cI (sa 0) (ss 0), stW cI (sa 1) (ss 1), stW cI (sa 2) (ss 2), stW cI (sa 3) (ss 3), stW cI (sa 4) (ss 4), stW cI (sa 5) (ss 5)]) s.heap.size = A at hD hZ ⊢
  have hA : ∀ q : Nat, s.heap.size ≤ q → A q := fun q h => by rw [← hAe]; exact Or.inr h
  have hS : va_S A s.heap s.heap [] := va_S.rf
  have hP : va_P D vwCl (fl [mnW x a sv o rd bu ln, stW cI a σ, svO cO sv (saF sa) κ, stW cI (sa 0) (ss 0), stW cI (sa 1) (ss 1), stW cI (sa 2) (ss 2), stW cI (sa 3) (ss 3), stW cI (sa 4) (ss 4), stW cI (sa 5) (ss 5)]) s.heap := hP
  have hl := lv_entry ([.ref (x 0), .int (iI (p)), .int (iI (q))]) (n := 4) (Nat.le_of_ble_eq_true rfl)
  rw [lg_entry_eq]
  generalize (lg_sl ([.ref (x 0), .int (iI (p)), .int (iI (q))]) ++ List.replicate (4 - (lg_sl ([.ref (x 0), .int (iI (p)), .int (iI (q))])).length) Slot.unset).toArray = ls at hl ⊢
  have hl : lv_has ls 4 [(0, .ref (x 0)), (1, .int (iI (p))), (2, .int (iI (q)))] := hl
  have hI := hG.1.1
  have hkk := hG.2.1
  have hnn := hI.n
  have htt := hI.t
  have hpr := (hI.pr (p := p) hp.1 hp.2).2.2.1
  refine lv_aload_n hx hb dL_part_0 rfl (lv_at hl 0 rfl) ?_
  refine lv_iload_n hx hb dL_part_1 rfl (lv_at hl 1 rfl) ?_
  refine lv_iload_n hx hb dL_part_2 rfl (lv_at hl 2 rfl) ?_
  refine Or.elim (Decidable.em (1 ≤ q ∧ q ≤ aI (σ 7 p) - 1)) (fun hok => ?_) (fun hbad => ?_)
  · skip
    have hFc := fl_free (SC := [mnW x a sv o rd bu ln, stW cI a σ, svO cO sv (saF sa) κ, stW cI (sa 0) (ss 0), stW cI (sa 1) (ss 1), stW cI (sa 2) (ss 2), stW cI (sa 3) (ss 3), stW cI (sa 4) (ss 4), stW cI (sa 5) (ss 5)]) hD hS hA [0, 1, 2, 3, 4, 5, 6, 7, 8] rfl
    refine wq_calli (va_runV (As := [.int (iI (p)), .int (iI (q))]) (rest := []) ⟨hx, hb, hml, hown, hts⟩ (c_X4_settlePart l D cI cO cC cL s.heap.size x a sv o rd bu ln σ κ sa ss (p) (q) (by first | assumption | omega) (by first | assumption | omega) (by first | assumption | omega) (by first | assumption | omega)) (cwV 2 hts gL_part_X4_settlePart rfl rfl rfl (by decide +kernel) ⟨Nat.le_of_ble_eq_true rfl, Nat.le_of_ble_eq_true rfl⟩) ⟨pcW_blind, va_recv hK hP (ci := 4) (q0 := 0) rfl rfl, pcW_of hP hK hD⟩ rfl rfl hl.1 rfl (lv_room (Nat.le_of_ble_eq_true rfl)) dL_part_3 ⟨(Nat.zero_le _), (Nat.zero_le _)⟩) hS (fun q _ h => hFc q h) hFc (fun r1 u3 t9 H1 locs ht9 hvm hcl2 hB hz1 hk1 hS => ?_)
    obtain ⟨hP1, hK1, hD1⟩ := hB
    rw [ht9] at hP1
    obtain ⟨hP, hD⟩ := fl_join (SR := []) (S1 := [mnW x a sv o rd bu ln, stW cI a (prtS σ (p) (q)), svO cO sv (saF (pushA (κ 0 0) sa)) (sU κ 0 0 (pushK (κ 0 0))), stW cI (pushA (κ 0 0) sa 0) (pushS (κ 0 0) ss σ 0), stW cI (pushA (κ 0 0) sa 1) (pushS (κ 0 0) ss σ 1), stW cI (pushA (κ 0 0) sa 2) (pushS (κ 0 0) ss σ 2), stW cI (pushA (κ 0 0) sa 3) (pushS (κ 0 0) ss σ 3), stW cI (pushA (κ 0 0) sa 4) (pushS (κ 0 0) ss σ 4), stW cI (pushA (κ 0 0) sa 5) (pushS (κ 0 0) ss σ 5)]) hP hD [0, 1, 2, 3, 4, 5, 6, 7, 8] [] rfl rfl (by decide) (by decide) hk1 hFc hP1 hD1
    generalize H1 = H at hP hS ⊢
    have hP : va_P D vwCl (fl [mnW x a sv o rd bu ln, stW cI a (prtS σ (p) (q)), svO cO sv (saF (pushA (κ 0 0) sa)) (sU κ 0 0 (pushK (κ 0 0))), stW cI (pushA (κ 0 0) sa 0) (pushS (κ 0 0) ss σ 0), stW cI (pushA (κ 0 0) sa 1) (pushS (κ 0 0) ss σ 1), stW cI (pushA (κ 0 0) sa 2) (pushS (κ 0 0) ss σ 2), stW cI (pushA (κ 0 0) sa 3) (pushS (κ 0 0) ss σ 3), stW cI (pushA (κ 0 0) sa 4) (pushS (κ 0 0) ss σ 4), stW cI (pushA (κ 0 0) sa 5) (pushS (κ 0 0) ss σ 5)]) H := hP
    have hD : va_D A (fl [mnW x a sv o rd bu ln, stW cI a (prtS σ (p) (q)), svO cO sv (saF (pushA (κ 0 0) sa)) (sU κ 0 0 (pushK (κ 0 0))), stW cI (pushA (κ 0 0) sa 0) (pushS (κ 0 0) ss σ 0), stW cI (pushA (κ 0 0) sa 1) (pushS (κ 0 0) ss σ 1), stW cI (pushA (κ 0 0) sa 2) (pushS (κ 0 0) ss σ 2), stW cI (pushA (κ 0 0) sa 3) (pushS (κ 0 0) ss σ 3), stW cI (pushA (κ 0 0) sa 4) (pushS (κ 0 0) ss σ 4), stW cI (pushA (κ 0 0) sa 5) (pushS (κ 0 0) ss σ 5)]) := hD
    have hr9 : r1 = σ 7 p - prtX σ p q := hcl2
    have hx9 : prtX σ p q = if σ 7 p < 0 then -q else q := rfl
    have ha9 : aI (σ 7 p) = if σ 7 p < 0 then -σ 7 p else σ 7 p := rfl
    have hr8 : -99 ≤ σ 7 p - prtX σ p q ∧ σ 7 p - prtX σ p q ≤ 99 := by
      rw [hx9]; rw [ha9] at hok; split at hok <;> split <;> omega
    refine wi_if_ge (tgt := 13) hx hb dL_part_6 (by decide) (by omega) (fun c_6 => ?_) (fun c_6 => ?_)
    · skip
      refine wi_iconst hx hb dL_part_13 ?_
      refine W.widen (k := 1) (n := 6) (by decide) (by decide) ?_
      exact W.iret (v := iI (2)) hx hb hr (fun t9 ht9 hW9 => ⟨⟨(2), ⟨(prtS σ (p) (q)), (sU κ 0 0 (pushK (κ 0 0))), (pushA (κ 0 0) sa), pushS (κ 0 0) ss σ⟩, rfl, (AQ.mk (hG.push (Int.le_refl _) (hG.1.prt hp hok)) rfl rfl rfl (by omega)), ⟨by rw [ht9]; exact hP, va_K.moved hW9.alike hK, hD⟩⟩, hS.F ht9⟩) hS.2.2 dL_part_14 hlocks
    · skip
      refine wi_iconst hx hb dL_part_9 ?_
      refine lv_goto (tgt := 14) hx hb dL_part_10 (by decide) ?_
      refine W.widen (k := 1) (n := 6) (by decide) (by decide) ?_
      exact W.iret (v := iI (1)) hx hb hr (fun t9 ht9 hW9 => ⟨⟨(1), ⟨(prtS σ (p) (q)), (sU κ 0 0 (pushK (κ 0 0))), (pushA (κ 0 0) sa), pushS (κ 0 0) ss σ⟩, rfl, (AQ.mk (hG.push (Int.le_refl _) (hG.1.prt hp hok)) rfl rfl rfl (by omega)), ⟨by rw [ht9]; exact hP, va_K.moved hW9.alike hK, hD⟩⟩, hS.F ht9⟩) hS.2.2 dL_part_14 hlocks
  · skip
    have hcd9 : cd2 (0 ≤ p ∧ p < σ 0 1) (1 ≤ q ∧ q ≤ aI (σ 7 p) - 1) = 2 := cd2_2 hp hbad
    have cx9 := x_X4_settlePart l hl9 D cI cO cC cL x a sv o rd bu ln σ p q (by first | assumption | omega) (by first | assumption | omega) hI (by rw [hcd9]; decide)
    rw [hcd9, show xnA 2 = "java/lang/IllegalArgumentException" from rfl] at cx9
    have hPc := fl_P (S' := [mnW x a sv o rd bu ln, stW cI a σ]) hP [0, 1] rfl
    have hcl32 := hts (Cond.classLink RL 32 "java/lang/IllegalArgumentException") (by decide +kernel)
    have hcst : (Cond.castable "java/lang/IllegalArgumentException" "java/lang/IllegalArgumentException").before ([.ref (x 0), .int (iI (p)), .int (iI (q))] : List Value).toArray s = true := va_Nw.use (ZB_tabs _ (by decide)) (hZ.2.2.1 (Cond.castable "java/lang/IllegalArgumentException" "java/lang/IllegalArgumentException") (by decide))
    refine catchX (vx_runV (As := [.int (iI (p)), .int (iI (q))]) (rest := []) ⟨hx, hb, hml, hown, hts⟩ cx9 (cwV 2 hts gL_part_X4_settlePart rfl rfl rfl (by decide +kernel) ⟨Nat.le_of_ble_eq_true rfl, Nat.le_of_ble_eq_true rfl⟩) ⟨pcX_blind, va_recv hK hPc (ci := 4) (q0 := 0) rfl rfl, pcX_of hPc hK hZ⟩ rfl rfl hl.1 rfl (lv_room (Nat.le_of_ble_eq_true rfl)) dL_part_3 ⟨Nat.le_of_ble_eq_true rfl, Nat.le_of_ble_eq_true rfl⟩) hP hS hown [] ⟨0, 14, 15, 32⟩ [] htab (fun z hz => nomatch hz) (by decide) (by decide) hcl32 hcst (fun H locs xq hP hS => ?_)
    refine lv_astore_n (lv' := [(3, .ref (xq)), (0, .ref (x 0)), (1, .int (iI (p))), (2, .int (iI (q)))]) hx hb dL_part_15 rfl hl (by decide) rfl (fun ls hl => ?_)
    refine wi_bipush hx hb dL_part_16 (by decide) ?_
    refine W.widen (k := 1) (n := 6) (by decide) (by decide) ?_
    exact W.iret (v := iI (-2)) hx hb hr (fun t9 ht9 hW9 => ⟨⟨(-2), ⟨σ, κ, sa, ss⟩, rfl, (AQ.no hG rfl rfl rfl (by omega)), ⟨by rw [ht9]; exact hP, va_K.moved hW9.alike hK, hD⟩⟩, hS.F ht9⟩) hS.2.2 dL_part_18 hlocks
