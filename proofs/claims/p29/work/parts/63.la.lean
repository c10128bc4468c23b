set_option maxHeartbeats 4000000 in
set_option maxRecDepth 100000 in
theorem c_L_act (l : Launch) (hl9 : l.stackTraces = false) (D : va_G) (cI cO cC cL : ClassId) (sz : Nat) (x a sv o rd bu : Nat → Nat) (ln σ : Nat → Int → Int) (κ : Nat → Int → Int) (sa : Nat → Nat → Nat) (ss : Nat → Nat → Int → Int) (sc n9 : Nat) (g : Int → Int) (k T : Int) (hk9 : 0 ≤ k ∧ k + 3 < (n9 : Int)) (hn9 : n9 ≤ 260) (hT : T ≤ 9000) (hG : G2 T σ (κ 0 0) ss) : Met l yL_act wsL_act ({ frames := 10, cells := 1, slots := 6, locals := 209 } : Room) (pcAX D [(cI, FieldType.int), (cO, FieldType.object "PromisedCounters$State"), (cC, FieldType.char)] [.ref (x 0), .ref (sc), .int (iI (k))] (fl [mnW x a sv o rd bu ln, stW cI a σ, svO cO sv (saF sa) κ, stW cI (sa 0) (ss 0), stW cI (sa 1) (ss 1), stW cI (sa 2) (ss 2), stW cI (sa 3) (ss 3), stW cI (sa 4) (ss 4), stW cI (sa 5) (ss 5)]) sz sc n9 g) (wq_i (fun (r : Int) (u : PS) => AQ (T + 8) r u σ (κ 0 0)) (fun (u : PS) => (bW D [(cI, FieldType.int), (cO, FieldType.object "PromisedCounters$State"), (cC, FieldType.char)] (fl [mnW x a sv o rd bu ln, stW cI a (PS.σ u), svO cO sv (saF (PS.sa u)) (PS.κ u), stW cI ((PS.sa u) 0) ((PS.ss u) 0), stW cI ((PS.sa u) 1) ((PS.ss u) 1), stW cI ((PS.sa u) 2) ((PS.ss u) 2), stW cI ((PS.sa u) 3) ((PS.ss u) 3), stW cI ((PS.sa u) 4) ((PS.ss u) 4), stW cI ((PS.sa u) 5) ((PS.ss u) 5)]) (va_A (fl [mnW x a sv o rd bu ln, stW cI a σ, svO cO sv (saF sa) κ, stW cI (sa 0) (ss 0), stW cI (sa 1) (ss 1), stW cI (sa 2) (ss 2), stW cI (sa 3) (ss 3), stW cI (sa 4) (ss 4), stW cI (sa 5) (ss 5)]) sz))) (va_A (fl [mnW x a sv o rd bu ln, stW cI a σ, svO cO sv (saF sa) κ, stW cI (sa 0) (ss 0), stW cI (sa 1) (ss 1), stW cI (sa 2) (ss 2), stW cI (sa 3) (ss 3), stW cI (sa 4) (ss 4), stW cI (sa 5) (ss 5)]) sz)) 1 6 (va_A (fl [mnW x a sv o rd bu ln, stW cI a σ, svO cO sv (saF sa) κ, stW cI (sa 0) (ss 0), stW cI (sa 1) (ss 1), stW cI (sa 2) (ss 2), stW cI (sa 3) (ss 3), stW cI (sa 4) (ss 4), stW cI (sa 5) (ss 5)]) sz) := by
  refine Met.ofW (cc := cL_act) (maxL := 9) (ret := (some .int)) (by decide) rfl ?_
  intro p9 e9 s m args9 below9 meth9 c9 s₁ B hml hv
  obtain ⟨⟨rfl, hsz, hP, hK, hD0, hZ⟩, hX, hbl, hsc⟩ := hv
  have hx := B.exec
  have hb := B.bytes
  have hr := B.returns
  have hts := atoms_spec (ws := wsL_act) B.pre
  have hown : s.vm.findClass RL = some m.cls := findClass_of_methodNamed B.named
  have hlocks := B.notSynchronized
  subst hsz
  have hD := hD0.self (sz := s.heap.size)
  generalize hAe : va_A (fl [mnW x a sv o rd bu ln, stW cI a σ, svO cO sv (saF sa) κ, stW cI (sa 0) (ss 0), stW cI (sa 1) (ss 1), stW cI (sa 2) (ss 2), stW cI (sa 3) (ss 3), stW cI (sa 4) (ss 4), stW cI (sa 5) (ss 5)]) s.heap.size = A at hD hZ hsc ⊢
  have hA : ∀ q : Nat, s.heap.size ≤ q → A q := fun q h => by rw [← hAe]; exact Or.inr h
  have hS : va_S A s.heap s.heap [] := va_S.rf
  have hP : va_P D vwCl (fl [mnW x a sv o rd bu ln, stW cI a σ, svO cO sv (saF sa) κ, stW cI (sa 0) (ss 0), stW cI (sa 1) (ss 1), stW cI (sa 2) (ss 2), stW cI (sa 3) (ss 3), stW cI (sa 4) (ss 4), stW cI (sa 5) (ss 5)]) s.heap := hP
  have hl := lv_entry ([.ref (x 0), .ref (sc), .int (iI (k))]) (n := 9) (Nat.le_of_ble_eq_true rfl)
  rw [lg_entry_eq]
  generalize (lg_sl ([.ref (x 0), .ref (sc), .int (iI (k))]) ++ List.replicate (9 - (lg_sl ([.ref (x 0), .ref (sc), .int (iI (k))])).length) Slot.unset).toArray = ls at hl ⊢
  have hl : lv_has ls 9 [(0, .ref (x 0)), (1, .ref (sc)), (2, .int (iI (k)))] := hl
  have hI := hG.1.1
  have hkk := hG.2.1
  have hnn := hI.n
  have htt := hI.t
  have htT := hG.1.2.2
  have hs0 := hI.2.2.1
  have hs1 := hI.2.2.2.1
  refine lv_aload_n hx hb dL_act_0 rfl (lv_at hl 1 rfl) ?_
  refine lv_iload_n hx hb dL_act_1 rfl (lv_at hl 2 rfl) ?_
  refine wi_iconst hx hb dL_act_2 ?_
  refine wi_iadd hx hb dL_act_3 ?_
  refine wr_calli (va_runS (As := [.ref (sc), .int (iI ((k + 1)))]) (rest := []) ⟨hx, hb, hml, hown, hts⟩ (c_L_cell l sc n9 g (k + 1) (by omega) (by omega)) (cwS 2 hts gL_act_L_cell rfl rfl rfl (by decide +kernel) ⟨Nat.le_of_ble_eq_true rfl, Nat.le_of_ble_eq_true rfl⟩) ⟨pcSc_blind, pcSc_of hX hbl⟩ rfl rfl hl.1 rfl (lv_room (Nat.le_of_ble_eq_true rfl)) dL_act_4 ⟨(Nat.zero_le _), (Nat.zero_le _)⟩) (fun r1 hr1 => ?_)
  subst hr1
  refine lv_istore_n (lv' := [(3, .int (iI ((g (k + 1))))), (0, .ref (x 0)), (1, .ref (sc)), (2, .int (iI (k)))]) hx hb dL_act_7 rfl hl (by decide) rfl (fun ls hl => ?_)
  refine lv_aload_n hx hb dL_act_8 rfl (lv_at hl 2 rfl) ?_
  refine lv_iload_n hx hb dL_act_9 rfl (lv_at hl 3 rfl) ?_
  refine wi_iconst hx hb dL_act_10 ?_
  refine wi_iadd hx hb dL_act_11 ?_
  refine wr_calli (va_runS (As := [.ref (sc), .int (iI ((k + 2)))]) (rest := []) ⟨hx, hb, hml, hown, hts⟩ (c_L_cell l sc n9 g (k + 2) (by omega) (by omega)) (cwS 2 hts gL_act_L_cell rfl rfl rfl (by decide +kernel) ⟨Nat.le_of_ble_eq_true rfl, Nat.le_of_ble_eq_true rfl⟩) ⟨pcSc_blind, pcSc_of hX hbl⟩ rfl rfl hl.1 rfl (lv_room (Nat.le_of_ble_eq_true rfl)) dL_act_12 ⟨(Nat.zero_le _), (Nat.zero_le _)⟩) (fun r2 hr2 => ?_)
  subst hr2
  refine lv_istore (lv' := [(4, .int (iI ((g (k + 2))))), (3, .int (iI ((g (k + 1))))), (0, .ref (x 0)), (1, .ref (sc)), (2, .int (iI (k)))]) hx hb dL_act_15 hl (by decide) rfl (fun ls hl => ?_)
  refine lv_aload_n hx hb dL_act_17 rfl (lv_at hl 3 rfl) ?_
  refine lv_iload_n hx hb dL_act_18 rfl (lv_at hl 4 rfl) ?_
  refine wi_iconst hx hb dL_act_19 ?_
  refine wi_iadd hx hb dL_act_20 ?_
  refine wr_calli (va_runS (As := [.ref (sc), .int (iI ((k + 3)))]) (rest := []) ⟨hx, hb, hml, hown, hts⟩ (c_L_cell l sc n9 g (k + 3) (by omega) (by omega)) (cwS 2 hts gL_act_L_cell rfl rfl rfl (by decide +kernel) ⟨Nat.le_of_ble_eq_true rfl, Nat.le_of_ble_eq_true rfl⟩) ⟨pcSc_blind, pcSc_of hX hbl⟩ rfl rfl hl.1 rfl (lv_room (Nat.le_of_ble_eq_true rfl)) dL_act_21 ⟨(Nat.zero_le _), (Nat.zero_le _)⟩) (fun r3 hr3 => ?_)
  subst hr3
  refine lv_istore (lv' := [(5, .int (iI ((g (k + 3))))), (4, .int (iI ((g (k + 2))))), (3, .int (iI ((g (k + 1))))), (0, .ref (x 0)), (1, .ref (sc)), (2, .int (iI (k)))]) hx hb dL_act_24 hl (by decide) rfl (fun ls hl => ?_)
  refine lv_aload_n hx hb dL_act_26 rfl (lv_at hl 3 rfl) ?_
  refine wi_iconst hx hb dL_act_27 ?_
  have hPc := fl_P (S' := [mnW x a sv o rd bu ln, stW cI a σ, svO cO sv (saF sa) κ]) hP [0, 1, 2] rfl
  refine wr_calli (va_runV (As := [.int (iI (1))]) (rest := []) ⟨hx, hb, hml, hown, hts⟩ (c_X4_count l D cI cO cC cL x a sv o rd bu ln σ κ (saF sa) (1) (by first | assumption | omega) (by first | assumption | omega)) (cwV 1 hts gL_act_X4_count rfl rfl rfl (by decide +kernel) ⟨Nat.le_of_ble_eq_true rfl, Nat.le_of_ble_eq_true rfl⟩) ⟨pcR_blind, va_recv hK hPc (ci := 4) (q0 := 0) rfl rfl, pcR_of hPc hK⟩ rfl rfl hl.1 rfl (lv_room (Nat.le_of_ble_eq_true rfl)) dL_act_28 ⟨(Nat.zero_le _), (Nat.zero_le _)⟩) (fun r4 hr4 => ?_)
  subst hr4
  refine wi_top (y := (cntS σ (κ 0 0) (1))) rfl ?_
  refine wi_top (y := (σ 0 1)) rfl ?_
  refine lv_istore (lv' := [(6, .int (iI ((σ 0 1)))), (5, .int (iI ((g (k + 3))))), (4, .int (iI ((g (k + 2))))), (3, .int (iI ((g (k + 1))))), (0, .ref (x 0)), (1, .ref (sc)), (2, .int (iI (k)))]) hx hb dL_act_31 hl (by decide) rfl (fun ls hl => ?_)
  have L48 : ∀ (q9 : Int), (σ 0 1 = 0 ∨ (0 ≤ q9 ∧ q9 < σ 0 1)) → ∀ (ls : Array Slot), lv_has ls 9 [(6, .int (iI ((σ 0 1)))), (5, .int (iI ((g (k + 3))))), (4, .int (iI ((g (k + 2))))), (3, .int (iI ((g (k + 1))))), (0, .ref (x 0)), (1, .ref (sc)), (2, .int (iI (k)))] → W p9 l e9 ({ frames := 10, cells := 1, slots := 6, locals := 209 } : Room) s m ([.ref (x 0), .ref (sc), .int (iI (k))] : List Value).toArray below9 meth9 c9 s.heap [] 0 0 (MQ below9 (wq_i (fun (r : Int) (u : PS) => AQ (T + 8) r u σ (κ 0 0)) (fun (u : PS) => (bW D [(cI, FieldType.int), (cO, FieldType.object "PromisedCounters$State"), (cC, FieldType.char)] (fl [mnW x a sv o rd bu ln, stW cI a (PS.σ u), svO cO sv (saF (PS.sa u)) (PS.κ u), stW cI ((PS.sa u) 0) ((PS.ss u) 0), stW cI ((PS.sa u) 1) ((PS.ss u) 1), stW cI ((PS.sa u) 2) ((PS.ss u) 2), stW cI ((PS.sa u) 3) ((PS.ss u) 3), stW cI ((PS.sa u) 4) ((PS.ss u) 4), stW cI ((PS.sa u) 5) ((PS.ss u) 5)]) A)) A) ([.ref (x 0), .ref (sc), .int (iI (k))] : List Value).toArray s 1 6 A) (F0 m 48 ls [.int (iI (q9))]) := by
    intro q9 hq9 ls hl
    refine lv_istore (lv' := [(7, .int (iI (q9))), (6, .int (iI ((σ 0 1)))), (5, .int (iI ((g (k + 3))))), (4, .int (iI ((g (k + 2))))), (3, .int (iI ((g (k + 1))))), (0, .ref (x 0)), (1, .ref (sc)), (2, .int (iI (k)))]) hx hb dL_act_48 hl (by decide) rfl (fun ls hl => ?_)
    refine lv_iload hx hb dL_act_50 (lv_at hl 2 rfl) ?_
    refine wi_bipush hx hb dL_act_52 (by decide) ?_
    refine wr_calli (va_runS (As := [.int (iI ((g (k + 3)))), .int (iI (81))]) (rest := []) ⟨hx, hb, hml, hown, hts⟩ (c_L_low l D cI cO cC cL ((g (k + 3))) (81) (by first | assumption | omega)) (cwS 2 hts gL_act_L_low rfl rfl rfl (by decide +kernel) ⟨Nat.le_of_ble_eq_true rfl, Nat.le_of_ble_eq_true rfl⟩) ⟨fun _ _ _ _ h => h, fun U hU hW => ⟨rfl, trivial⟩⟩ rfl rfl hl.1 rfl (lv_room (Nat.le_of_ble_eq_true rfl)) dL_act_54 ⟨(Nat.zero_le _), (Nat.zero_le _)⟩) (fun r5 hr5 => ?_)
    subst hr5
    have hlf54 := lowF_r (g (k + 3)) (n := 81) (by omega)
    refine wi_bipush hx hb dL_act_57 (by decide) ?_
    refine wi_isub hx hb dL_act_59 ?_
    refine lv_istore (lv' := [(8, .int (iI (((lowF ((g (k + 3))) (81)) - 40)))), (7, .int (iI (q9))), (6, .int (iI ((σ 0 1)))), (5, .int (iI ((g (k + 3))))), (4, .int (iI ((g (k + 2))))), (3, .int (iI ((g (k + 1))))), (0, .ref (x 0)), (1, .ref (sc)), (2, .int (iI (k)))]) hx hb dL_act_60 hl (by decide) rfl (fun ls hl => ?_)
    refine lv_aload_n hx hb dL_act_62 rfl (lv_at hl 7 rfl) ?_
    refine lv_iload_n hx hb dL_act_63 rfl (lv_at hl 8 rfl) ?_
    refine wr_calli (va_runS (As := [.ref (sc), .int (iI (k))]) (rest := []) ⟨hx, hb, hml, hown, hts⟩ (c_L_cell l sc n9 g k (by omega) (by omega)) (cwS 2 hts gL_act_L_cell rfl rfl rfl (by decide +kernel) ⟨Nat.le_of_ble_eq_true rfl, Nat.le_of_ble_eq_true rfl⟩) ⟨pcSc_blind, pcSc_of hX hbl⟩ rfl rfl hl.1 rfl (lv_room (Nat.le_of_ble_eq_true rfl)) dL_act_64 ⟨(Nat.zero_le _), (Nat.zero_le _)⟩) (fun r6 hr6 => ?_)
    subst hr6
    refine wi_bipush hx hb dL_act_67 (by decide) ?_
    refine wr_calli (va_runS (As := [.int (iI ((g k))), .int (iI (18))]) (rest := []) ⟨hx, hb, hml, hown, hts⟩ (c_L_low l D cI cO cC cL ((g k)) (18) (by first | assumption | omega)) (cwS 2 hts gL_act_L_low rfl rfl rfl (by decide +kernel) ⟨Nat.le_of_ble_eq_true rfl, Nat.le_of_ble_eq_true rfl⟩) ⟨fun _ _ _ _ h => h, fun U hU hW => ⟨rfl, trivial⟩⟩ rfl rfl hl.1 rfl (lv_room (Nat.le_of_ble_eq_true rfl)) dL_act_69 ⟨(Nat.zero_le _), (Nat.zero_le _)⟩) (fun r7 hr7 => ?_)
    subst hr7
    have hlf69 := lowF_r (g k) (n := 18) (by omega)
    have L156 : ∀ (ls : Array Slot), lv_has ls 9 [(8, .int (iI (((lowF ((g (k + 3))) (81)) - 40)))), (7, .int (iI (q9))), (6, .int (iI ((σ 0 1)))), (5, .int (iI ((g (k + 3))))), (4, .int (iI ((g (k + 2))))), (3, .int (iI ((g (k + 1))))), (0, .ref (x 0)), (1, .ref (sc)), (2, .int (iI (k)))] → W p9 l e9 ({ frames := 10, cells := 1, slots := 6, locals := 209 } : Room) s m ([.ref (x 0), .ref (sc), .int (iI (k))] : List Value).toArray below9 meth9 c9 s.heap [] 0 0 (MQ below9 (wq_i (fun (r : Int) (u : PS) => AQ (T + 8) r u σ (κ 0 0)) (fun (u : PS) => (bW D [(cI, FieldType.int), (cO, FieldType.object "PromisedCounters$State"), (cC, FieldType.char)] (fl [mnW x a sv o rd bu ln, stW cI a (PS.σ u), svO cO sv (saF (PS.sa u)) (PS.κ u), stW cI ((PS.sa u) 0) ((PS.ss u) 0), stW cI ((PS.sa u) 1) ((PS.ss u) 1), stW cI ((PS.sa u) 2) ((PS.ss u) 2), stW cI ((PS.sa u) 3) ((PS.ss u) 3), stW cI ((PS.sa u) 4) ((PS.ss u) 4), stW cI ((PS.sa u) 5) ((PS.ss u) 5)]) A)) A) ([.ref (x 0), .ref (sc), .int (iI (k))] : List Value).toArray s 1 6 A) (F0 m 156 ls []) := by
      intro   ls hl
      refine lv_aload_n hx hb dL_act_156 rfl (lv_at hl 6 rfl) ?_
      refine lv_iload_n hx hb dL_act_157 rfl (lv_at hl 5 rfl) ?_
      refine wi_bipush hx hb dL_act_158 (by decide) ?_
      refine wr_calli (va_runS (As := [.int (iI ((g (k + 1)))), .int (iI (6))]) (rest := [.ref (x 0)]) ⟨hx, hb, hml, hown, hts⟩ (c_L_low l D cI cO cC cL ((g (k + 1))) (6) (by first | assumption | omega)) (cwS 2 hts gL_act_L_low rfl rfl rfl (by decide +kernel) ⟨Nat.le_of_ble_eq_true rfl, Nat.le_of_ble_eq_true rfl⟩) ⟨fun _ _ _ _ h => h, fun U hU hW => ⟨rfl, trivial⟩⟩ rfl rfl hl.1 rfl (lv_room (Nat.le_of_ble_eq_true rfl)) dL_act_160 ⟨(Nat.zero_le _), (Nat.zero_le _)⟩) (fun r8 hr8 => ?_)
      subst hr8
      have hlf160 := lowF_r (g (k + 1)) (n := 6) (by omega)
      refine lv_iload hx hb dL_act_163 (lv_at hl 4 rfl) ?_
      refine wi_iconst hx hb dL_act_165 ?_
      refine wr_calli (va_runS (As := [.int (iI ((g (k + 2)))), .int (iI (4))]) (rest := [.int (iI ((lowF ((g (k + 1))) (6)))), .ref (x 0)]) ⟨hx, hb, hml, hown, hts⟩ (c_L_low l D cI cO cC cL ((g (k + 2))) (4) (by first | assumption | omega)) (cwS 2 hts gL_act_L_low rfl rfl rfl (by decide +kernel) ⟨Nat.le_of_ble_eq_true rfl, Nat.le_of_ble_eq_true rfl⟩) ⟨fun _ _ _ _ h => h, fun U hU hW => ⟨rfl, trivial⟩⟩ rfl rfl hl.1 rfl (lv_room (Nat.le_of_ble_eq_true rfl)) dL_act_166 ⟨(Nat.zero_le _), (Nat.zero_le _)⟩) (fun r9 hr9 => ?_)
      subst hr9
      have hlf166 := lowF_r (g (k + 2)) (n := 4) (by omega)
      refine lv_iload hx hb dL_act_169 (lv_at hl 0 rfl) ?_
      refine wi_if_ne (tgt := 178) hx hb dL_act_171 (by decide) (by omega) (fun c_171 => ?_) (fun c_171 => ?_)
      · skip
        refine lv_iload hx hb dL_act_178 (lv_at hl 0 rfl) ?_
        have hFc := fl_free (SC := [mnW x a sv o rd bu ln, stW cI a σ, svO cO sv (saF sa) κ, stW cI (sa 0) (ss 0), stW cI (sa 1) (ss 1), stW cI (sa 2) (ss 2), stW cI (sa 3) (ss 3), stW cI (sa 4) (ss 4), stW cI (sa 5) (ss 5)]) hD hS hA [0, 1, 2, 3, 4, 5, 6, 7, 8] rfl
        refine wq_calli (vx_runSW (As := [.ref (x 0), .int (iI ((lowF ((g (k + 1))) (6)))), .int (iI ((lowF ((g (k + 2))) (4)))), .int (iI (((lowF ((g (k + 3))) (81)) - 40)))]) (rest := []) ⟨hx, hb, hml, hown, hts⟩ (c_L_promise l hl9 D cI cO cC cL s.heap.size x a sv o rd bu ln σ κ sa ss ((lowF ((g (k + 1))) (6))) ((lowF ((g (k + 2))) (4))) (((lowF ((g (k + 3))) (81)) - 40)) T (by first | assumption | omega) (by first | assumption | omega) (by first | assumption | omega) (by first | assumption | omega)) (vx_cwSW 4 hts gL_act_L_promise rfl rfl rfl (by decide +kernel) ⟨Nat.le_of_ble_eq_true rfl, Nat.le_of_ble_eq_true rfl⟩) ⟨pcWX_blind, pcWX_of hP hK hD hZ hFc⟩ rfl rfl hl.1 rfl (lv_room (Nat.le_of_ble_eq_true rfl)) dL_act_180 ⟨Nat.le_of_ble_eq_true rfl, Nat.le_of_ble_eq_true rfl⟩) hS (fun q _ h => hFc q h) hFc (fun r10 u12 t9 H1 locs ht9 hvm hcl11 hB hz1 hk1 hS => ?_)
        obtain ⟨hP1, hK1, hD1⟩ := hB
        rw [ht9] at hP1
        obtain ⟨hP, hD⟩ := fl_join (SR := []) (S1 := [mnW x a sv o rd bu ln, stW cI a (PS.σ u12), svO cO sv (saF (PS.sa u12)) (PS.κ u12), stW cI ((PS.sa u12) 0) ((PS.ss u12) 0), stW cI ((PS.sa u12) 1) ((PS.ss u12) 1), stW cI ((PS.sa u12) 2) ((PS.ss u12) 2), stW cI ((PS.sa u12) 3) ((PS.ss u12) 3), stW cI ((PS.sa u12) 4) ((PS.ss u12) 4), stW cI ((PS.sa u12) 5) ((PS.ss u12) 5)]) hP hD [0, 1, 2, 3, 4, 5, 6, 7, 8] [] rfl rfl (by decide) (by decide) hk1 hFc hP1 hD1
        generalize H1 = H at hP hS ⊢
        have hP : va_P D vwCl (fl [mnW x a sv o rd bu ln, stW cI a (PS.σ u12), svO cO sv (saF (PS.sa u12)) (PS.κ u12), stW cI ((PS.sa u12) 0) ((PS.ss u12) 0), stW cI ((PS.sa u12) 1) ((PS.ss u12) 1), stW cI ((PS.sa u12) 2) ((PS.ss u12) 2), stW cI ((PS.sa u12) 3) ((PS.ss u12) 3), stW cI ((PS.sa u12) 4) ((PS.ss u12) 4), stW cI ((PS.sa u12) 5) ((PS.ss u12) 5)]) H := hP
        have hD : va_D A (fl [mnW x a sv o rd bu ln, stW cI a (PS.σ u12), svO cO sv (saF (PS.sa u12)) (PS.κ u12), stW cI ((PS.sa u12) 0) ((PS.ss u12) 0), stW cI ((PS.sa u12) 1) ((PS.ss u12) 1), stW cI ((PS.sa u12) 2) ((PS.ss u12) 2), stW cI ((PS.sa u12) 3) ((PS.ss u12) 3), stW cI ((PS.sa u12) 4) ((PS.ss u12) 4), stW cI ((PS.sa u12) 5) ((PS.ss u12) 5)]) := hD
        refine W.widen (k := 1) (n := 6) (by decide) (by decide) ?_
        exact W.iret (v := iI (r10)) hx hb hr (fun t9 ht9 hW9 => ⟨⟨(r10), ⟨(PS.σ u12), (PS.κ u12), (PS.sa u12), (PS.ss u12)⟩, rfl, (AQ.mono hcl11 (by omega)), ⟨by rw [ht9]; exact hP, va_K.moved hW9.alike hK, hD⟩⟩, hS.F ht9⟩) hS.2.2 dL_act_183 hlocks
      · skip
        refine wi_iconst hx hb dL_act_174 ?_
        refine lv_goto (tgt := 180) hx hb dL_act_175 (by decide) ?_
        have hFc := fl_free (SC := [mnW x a sv o rd bu ln, stW cI a σ, svO cO sv (saF sa) κ, stW cI (sa 0) (ss 0), stW cI (sa 1) (ss 1), stW cI (sa 2) (ss 2), stW cI (sa 3) (ss 3), stW cI (sa 4) (ss 4), stW cI (sa 5) (ss 5)]) hD hS hA [0, 1, 2, 3, 4, 5, 6, 7, 8] rfl
        refine wq_calli (vx_runSW (As := [.ref (x 0), .int (iI ((lowF ((g (k + 1))) (6)))), .int (iI ((lowF ((g (k + 2))) (4)))), .int (iI (3))]) (rest := []) ⟨hx, hb, hml, hown, hts⟩ (c_L_promise l hl9 D cI cO cC cL s.heap.size x a sv o rd bu ln σ κ sa ss ((lowF ((g (k + 1))) (6))) ((lowF ((g (k + 2))) (4))) (3) T (by first | assumption | omega) (by first | assumption | omega) (by first | assumption | omega) (by first | assumption | omega)) (vx_cwSW 4 hts gL_act_L_promise rfl rfl rfl (by decide +kernel) ⟨Nat.le_of_ble_eq_true rfl, Nat.le_of_ble_eq_true rfl⟩) ⟨pcWX_blind, pcWX_of hP hK hD hZ hFc⟩ rfl rfl hl.1 rfl (lv_room (Nat.le_of_ble_eq_true rfl)) dL_act_180 ⟨Nat.le_of_ble_eq_true rfl, Nat.le_of_ble_eq_true rfl⟩) hS (fun q _ h => hFc q h) hFc (fun r13 u15 t9 H1 locs ht9 hvm hcl14 hB hz1 hk1 hS => ?_)
        obtain ⟨hP1, hK1, hD1⟩ := hB
        rw [ht9] at hP1
        obtain ⟨hP, hD⟩ := fl_join (SR := []) (S1 := [mnW x a sv o rd bu ln, stW cI a (PS.σ u15), svO cO sv (saF (PS.sa u15)) (PS.κ u15), stW cI ((PS.sa u15) 0) ((PS.ss u15) 0), stW cI ((PS.sa u15) 1) ((PS.ss u15) 1), stW cI ((PS.sa u15) 2) ((PS.ss u15) 2), stW cI ((PS.sa u15) 3) ((PS.ss u15) 3), stW cI ((PS.sa u15) 4) ((PS.ss u15) 4), stW cI ((PS.sa u15) 5) ((PS.ss u15) 5)]) hP hD [0, 1, 2, 3, 4, 5, 6, 7, 8] [] rfl rfl (by decide) (by decide) hk1 hFc hP1 hD1
        generalize H1 = H at hP hS ⊢
        have hP : va_P D vwCl (fl [mnW x a sv o rd bu ln, stW cI a (PS.σ u15), svO cO sv (saF (PS.sa u15)) (PS.κ u15), stW cI ((PS.sa u15) 0) ((PS.ss u15) 0), stW cI ((PS.sa u15) 1) ((PS.ss u15) 1), stW cI ((PS.sa u15) 2) ((PS.ss u15) 2), stW cI ((PS.sa u15) 3) ((PS.ss u15) 3), stW cI ((PS.sa u15) 4) ((PS.ss u15) 4), stW cI ((PS.sa u15) 5) ((PS.ss u15) 5)]) H := hP
        have hD : va_D A (fl [mnW x a sv o rd bu ln, stW cI a (PS.σ u15), svO cO sv (saF (PS.sa u15)) (PS.κ u15), stW cI ((PS.sa u15) 0) ((PS.ss u15) 0), stW cI ((PS.sa u15) 1) ((PS.ss u15) 1), stW cI ((PS.sa u15) 2) ((PS.ss u15) 2), stW cI ((PS.sa u15) 3) ((PS.ss u15) 3), stW cI ((PS.sa u15) 4) ((PS.ss u15) 4), stW cI ((PS.sa u15) 5) ((PS.ss u15) 5)]) := hD
        refine W.widen (k := 1) (n := 6) (by decide) (by decide) ?_
        exact W.iret (v := iI (r13)) hx hb hr (fun t9 ht9 hW9 => ⟨⟨(r13), ⟨(PS.σ u15), (PS.κ u15), (PS.sa u15), (PS.ss u15)⟩, rfl, (AQ.mono hcl14 (by omega)), ⟨by rw [ht9]; exact hP, va_K.moved hW9.alike hK, hD⟩⟩, hS.F ht9⟩) hS.2.2 dL_act_183 hlocks
    have L184 : ∀ (ls : Array Slot), lv_has ls 9 [(8, .int (iI (((lowF ((g (k + 3))) (81)) - 40)))), (7, .int (iI (q9))), (6, .int (iI ((σ 0 1)))), (5, .int (iI ((g (k + 3))))), (4, .int (iI ((g (k + 2))))), (3, .int (iI ((g (k + 1))))), (0, .ref (x 0)), (1, .ref (sc)), (2, .int (iI (k)))] → W p9 l e9 ({ frames := 10, cells := 1, slots := 6, locals := 209 } : Room) s m ([.ref (x 0), .ref (sc), .int (iI (k))] : List Value).toArray below9 meth9 c9 s.heap [] 0 0 (MQ below9 (wq_i (fun (r : Int) (u : PS) => AQ (T + 8) r u σ (κ 0 0)) (fun (u : PS) => (bW D [(cI, FieldType.int), (cO, FieldType.object "PromisedCounters$State"), (cC, FieldType.char)] (fl [mnW x a sv o rd bu ln, stW cI a (PS.σ u), svO cO sv (saF (PS.sa u)) (PS.κ u), stW cI ((PS.sa u) 0) ((PS.ss u) 0), stW cI ((PS.sa u) 1) ((PS.ss u) 1), stW cI ((PS.sa u) 2) ((PS.ss u) 2), stW cI ((PS.sa u) 3) ((PS.ss u) 3), stW cI ((PS.sa u) 4) ((PS.ss u) 4), stW cI ((PS.sa u) 5) ((PS.ss u) 5)]) A)) A) ([.ref (x 0), .ref (sc), .int (iI (k))] : List Value).toArray s 1 6 A) (F0 m 184 ls []) := by
      intro   ls hl
      refine lv_aload_n hx hb dL_act_184 rfl (lv_at hl 6 rfl) ?_
      refine lv_iload_n hx hb dL_act_185 rfl (lv_at hl 5 rfl) ?_
      refine wi_bipush hx hb dL_act_186 (by decide) ?_
      refine wr_calli (va_runS (As := [.int (iI ((g (k + 1)))), .int (iI (6))]) (rest := [.ref (x 0)]) ⟨hx, hb, hml, hown, hts⟩ (c_L_low l D cI cO cC cL ((g (k + 1))) (6) (by first | assumption | omega)) (cwS 2 hts gL_act_L_low rfl rfl rfl (by decide +kernel) ⟨Nat.le_of_ble_eq_true rfl, Nat.le_of_ble_eq_true rfl⟩) ⟨fun _ _ _ _ h => h, fun U hU hW => ⟨rfl, trivial⟩⟩ rfl rfl hl.1 rfl (lv_room (Nat.le_of_ble_eq_true rfl)) dL_act_188 ⟨(Nat.zero_le _), (Nat.zero_le _)⟩) (fun r16 hr16 => ?_)
      subst hr16
      have hlf188 := lowF_r (g (k + 1)) (n := 6) (by omega)
      refine lv_iload hx hb dL_act_191 (lv_at hl 4 rfl) ?_
      refine wi_iconst hx hb dL_act_193 ?_
      refine wr_calli (va_runS (As := [.int (iI ((g (k + 2)))), .int (iI (4))]) (rest := [.int (iI ((lowF ((g (k + 1))) (6)))), .ref (x 0)]) ⟨hx, hb, hml, hown, hts⟩ (c_L_low l D cI cO cC cL ((g (k + 2))) (4) (by first | assumption | omega)) (cwS 2 hts gL_act_L_low rfl rfl rfl (by decide +kernel) ⟨Nat.le_of_ble_eq_true rfl, Nat.le_of_ble_eq_true rfl⟩) ⟨fun _ _ _ _ h => h, fun U hU hW => ⟨rfl, trivial⟩⟩ rfl rfl hl.1 rfl (lv_room (Nat.le_of_ble_eq_true rfl)) dL_act_194 ⟨(Nat.zero_le _), (Nat.zero_le _)⟩) (fun r17 hr17 => ?_)
      subst hr17
      have hlf194 := lowF_r (g (k + 2)) (n := 4) (by omega)
      refine lv_iload hx hb dL_act_197 (lv_at hl 4 rfl) ?_
      refine wi_iconst hx hb dL_act_199 ?_
      refine wr_calli (va_runS (As := [.int (iI ((g (k + 2)))), .int (iI (4))]) (rest := [.int (iI ((lowF ((g (k + 2))) (4)))), .int (iI ((lowF ((g (k + 1))) (6)))), .ref (x 0)]) ⟨hx, hb, hml, hown, hts⟩ (c_L_low l D cI cO cC cL ((g (k + 2))) (4) (by first | assumption | omega)) (cwS 2 hts gL_act_L_low rfl rfl rfl (by decide +kernel) ⟨Nat.le_of_ble_eq_true rfl, Nat.le_of_ble_eq_true rfl⟩) ⟨fun _ _ _ _ h => h, fun U hU hW => ⟨rfl, trivial⟩⟩ rfl rfl hl.1 rfl (lv_room (Nat.le_of_ble_eq_true rfl)) dL_act_200 ⟨(Nat.zero_le _), (Nat.zero_le _)⟩) (fun r18 hr18 => ?_)
      subst hr18
      have hlf200 := lowF_r (g (k + 2)) (n := 4) (by omega)
      refine wi_iconst hx hb dL_act_203 ?_
      refine wi_iadd hx hb dL_act_204 ?_
      refine lv_iload_n hx hb dL_act_205 rfl (lv_at hl 5 rfl) ?_
      refine wi_iconst hx hb dL_act_206 ?_
      refine wr_calli (va_runS (As := [.int (iI ((g (k + 1)))), .int (iI (3))]) (rest := [.int (iI (((lowF ((g (k + 2))) (4)) + 1))), .int (iI ((lowF ((g (k + 2))) (4)))), .int (iI ((lowF ((g (k + 1))) (6)))), .ref (x 0)]) ⟨hx, hb, hml, hown, hts⟩ (c_L_low l D cI cO cC cL ((g (k + 1))) (3) (by first | assumption | omega)) (cwS 2 hts gL_act_L_low rfl rfl rfl (by decide +kernel) ⟨Nat.le_of_ble_eq_true rfl, Nat.le_of_ble_eq_true rfl⟩) ⟨fun _ _ _ _ h => h, fun U hU hW => ⟨rfl, trivial⟩⟩ rfl rfl hl.1 rfl (lv_room (Nat.le_of_ble_eq_true rfl)) dL_act_207 ⟨(Nat.zero_le _), (Nat.zero_le _)⟩) (fun r19 hr19 => ?_)
      subst hr19
      have hlf207 := lowF_r (g (k + 1)) (n := 3) (by omega)
      refine wi_iadd hx hb dL_act_210 ?_
      refine wi_iconst hx hb dL_act_211 ?_
      refine wi_irem hx hb (by omega) (by omega) dL_act_212 ?_
      refine wi_iconst hx hb dL_act_213 ?_
      refine lv_iload hx hb dL_act_214 (lv_at hl 3 rfl) ?_
      refine wi_bipush hx hb dL_act_216 (by decide) ?_
      refine wr_calli (va_runS (As := [.int (iI ((g (k + 3)))), .int (iI (50))]) (rest := [.int (iI (1)), .int (iI (((((lowF ((g (k + 2))) (4)) + 1) + (lowF ((g (k + 1))) (3))) % 4))), .int (iI ((lowF ((g (k + 2))) (4)))), .int (iI ((lowF ((g (k + 1))) (6)))), .ref (x 0)]) ⟨hx, hb, hml, hown, hts⟩ (c_L_low l D cI cO cC cL ((g (k + 3))) (50) (by first | assumption | omega)) (cwS 2 hts gL_act_L_low rfl rfl rfl (by decide +kernel) ⟨Nat.le_of_ble_eq_true rfl, Nat.le_of_ble_eq_true rfl⟩) ⟨fun _ _ _ _ h => h, fun U hU hW => ⟨rfl, trivial⟩⟩ rfl rfl hl.1 rfl (lv_room (Nat.le_of_ble_eq_true rfl)) dL_act_218 ⟨(Nat.zero_le _), (Nat.zero_le _)⟩) (fun r20 hr20 => ?_)
      subst hr20
      have hlf218 := lowF_r (g (k + 3)) (n := 50) (by omega)
      refine wi_iadd hx hb dL_act_221 ?_
      have hFc := fl_free (SC := [mnW x a sv o rd bu ln, stW cI a σ, svO cO sv (saF sa) κ, stW cI (sa 0) (ss 0), stW cI (sa 1) (ss 1), stW cI (sa 2) (ss 2), stW cI (sa 3) (ss 3), stW cI (sa 4) (ss 4), stW cI (sa 5) (ss 5)]) hD hS hA [0, 1, 2, 3, 4, 5, 6, 7, 8] rfl
      refine wq_calli (vx_runSW (As := [.ref (x 0), .int (iI ((lowF ((g (k + 1))) (6)))), .int (iI ((lowF ((g (k + 2))) (4)))), .int (iI (((((lowF ((g (k + 2))) (4)) + 1) + (lowF ((g (k + 1))) (3))) % 4))), .int (iI ((1 + (lowF ((g (k + 3))) (50)))))]) (rest := []) ⟨hx, hb, hml, hown, hts⟩ (c_L_transfer l hl9 D cI cO cC cL s.heap.size x a sv o rd bu ln σ κ sa ss ((lowF ((g (k + 1))) (6))) ((lowF ((g (k + 2))) (4))) (((((lowF ((g (k + 2))) (4)) + 1) + (lowF ((g (k + 1))) (3))) % 4)) ((1 + (lowF ((g (k + 3))) (50)))) T (by first | assumption | omega) (by first | assumption | omega) (by first | assumption | omega) (by first | assumption | omega) (by first | assumption | omega)) (vx_cwSW 5 hts gL_act_L_transfer rfl rfl rfl (by decide +kernel) ⟨Nat.le_of_ble_eq_true rfl, Nat.le_of_ble_eq_true rfl⟩) ⟨pcWX_blind, pcWX_of hP hK hD hZ hFc⟩ rfl rfl hl.1 rfl (lv_room (Nat.le_of_ble_eq_true rfl)) dL_act_222 ⟨Nat.le_of_ble_eq_true rfl, Nat.le_of_ble_eq_true rfl⟩) hS (fun q _ h => hFc q h) hFc (fun r21 u23 t9 H1 locs ht9 hvm hcl22 hB hz1 hk1 hS => ?_)
      obtain ⟨hP1, hK1, hD1⟩ := hB
      rw [ht9] at hP1
      obtain ⟨hP, hD⟩ := fl_join (SR := []) (S1 := [mnW x a sv o rd bu ln, stW cI a (PS.σ u23), svO cO sv (saF (PS.sa u23)) (PS.κ u23), stW cI ((PS.sa u23) 0) ((PS.ss u23) 0), stW cI ((PS.sa u23) 1) ((PS.ss u23) 1), stW cI ((PS.sa u23) 2) ((PS.ss u23) 2), stW cI ((PS.sa u23) 3) ((PS.ss u23) 3), stW cI ((PS.sa u23) 4) ((PS.ss u23) 4), stW cI ((PS.sa u23) 5) ((PS.ss u23) 5)]) hP hD [0, 1, 2, 3, 4, 5, 6, 7, 8] [] rfl rfl (by decide) (by decide) hk1 hFc hP1 hD1
      generalize H1 = H at hP hS ⊢
      have hP : va_P D vwCl (fl [mnW x a sv o rd bu ln, stW cI a (PS.σ u23), svO cO sv (saF (PS.sa u23)) (PS.κ u23), stW cI ((PS.sa u23) 0) ((PS.ss u23) 0), stW cI ((PS.sa u23) 1) ((PS.ss u23) 1), stW cI ((PS.sa u23) 2) ((PS.ss u23) 2), stW cI ((PS.sa u23) 3) ((PS.ss u23) 3), stW cI ((PS.sa u23) 4) ((PS.ss u23) 4), stW cI ((PS.sa u23) 5) ((PS.ss u23) 5)]) H := hP
      have hD : va_D A (fl [mnW x a sv o rd bu ln, stW cI a (PS.σ u23), svO cO sv (saF (PS.sa u23)) (PS.κ u23), stW cI ((PS.sa u23) 0) ((PS.ss u23) 0), stW cI ((PS.sa u23) 1) ((PS.ss u23) 1), stW cI ((PS.sa u23) 2) ((PS.ss u23) 2), stW cI ((PS.sa u23) 3) ((PS.ss u23) 3), stW cI ((PS.sa u23) 4) ((PS.ss u23) 4), stW cI ((PS.sa u23) 5) ((PS.ss u23) 5)]) := hD
      refine W.widen (k := 1) (n := 6) (by decide) (by decide) ?_
      exact W.iret (v := iI (r21)) hx hb hr (fun t9 ht9 hW9 => ⟨⟨(r21), ⟨(PS.σ u23), (PS.κ u23), (PS.sa u23), (PS.ss u23)⟩, rfl, (AQ.mono hcl22 (by omega)), ⟨by rw [ht9]; exact hP, va_K.moved hW9.alike hK, hD⟩⟩, hS.F ht9⟩) hS.2.2 dL_act_225 hlocks
    have L226 : ∀ (ls : Array Slot), lv_has ls 9 [(8, .int (iI (((lowF ((g (k + 3))) (81)) - 40)))), (7, .int (iI (q9))), (6, .int (iI ((σ 0 1)))), (5, .int (iI ((g (k + 3))))), (4, .int (iI ((g (k + 2))))), (3, .int (iI ((g (k + 1))))), (0, .ref (x 0)), (1, .ref (sc)), (2, .int (iI (k)))] → W p9 l e9 ({ frames := 10, cells := 1, slots := 6, locals := 209 } : Room) s m ([.ref (x 0), .ref (sc), .int (iI (k))] : List Value).toArray below9 meth9 c9 s.heap [] 0 0 (MQ below9 (wq_i (fun (r : Int) (u : PS) => AQ (T + 8) r u σ (κ 0 0)) (fun (u : PS) => (bW D [(cI, FieldType.int), (cO, FieldType.object "PromisedCounters$State"), (cC, FieldType.char)] (fl [mnW x a sv o rd bu ln, stW cI a (PS.σ u), svO cO sv (saF (PS.sa u)) (PS.κ u), stW cI ((PS.sa u) 0) ((PS.ss u) 0), stW cI ((PS.sa u) 1) ((PS.ss u) 1), stW cI ((PS.sa u) 2) ((PS.ss u) 2), stW cI ((PS.sa u) 3) ((PS.ss u) 3), stW cI ((PS.sa u) 4) ((PS.ss u) 4), stW cI ((PS.sa u) 5) ((PS.ss u) 5)]) A)) A) ([.ref (x 0), .ref (sc), .int (iI (k))] : List Value).toArray s 1 6 A) (F0 m 226 ls []) := by
      intro   ls hl
      refine lv_iload hx hb dL_act_226 (lv_at hl 2 rfl) ?_
      refine wi_if_ne (tgt := 236) hx hb dL_act_228 (by decide) (by omega) (fun c_228 => ?_) (fun c_228 => ?_)
      · skip
        refine lv_aload_n hx hb dL_act_236 rfl (lv_at hl 6 rfl) ?_
        refine lv_iload hx hb dL_act_237 (lv_at hl 1 rfl) ?_
        have hFc := fl_free (SC := [mnW x a sv o rd bu ln, stW cI a σ, svO cO sv (saF sa) κ, stW cI (sa 0) (ss 0), stW cI (sa 1) (ss 1), stW cI (sa 2) (ss 2), stW cI (sa 3) (ss 3), stW cI (sa 4) (ss 4), stW cI (sa 5) (ss 5)]) hD hS hA [0, 1, 2, 3, 4, 5, 6, 7, 8] rfl
        refine wq_calli (va_runV (As := [.int (iI (q9))]) (rest := []) ⟨hx, hb, hml, hown, hts⟩ (c_X4_settle l D cI cO cC cL s.heap.size x a sv o rd bu ln σ κ sa ss (q9) (by first | assumption | omega) (by first | assumption | omega) (by first | assumption | omega)) (cwV 1 hts gL_act_X4_settle rfl rfl rfl (by decide +kernel) ⟨Nat.le_of_ble_eq_true rfl, Nat.le_of_ble_eq_true rfl⟩) ⟨pcW_blind, va_recv hK hP (ci := 4) (q0 := 0) rfl rfl, pcW_of hP hK hD⟩ rfl rfl hl.1 rfl (lv_room (Nat.le_of_ble_eq_true rfl)) dL_act_239 ⟨(Nat.zero_le _), (Nat.zero_le _)⟩) hS (fun q _ h => hFc q h) hFc (fun r24 u26 t9 H1 locs ht9 hvm hcl25 hB hz1 hk1 hS => ?_)
        obtain ⟨hP1, hK1, hD1⟩ := hB
        rw [ht9] at hP1
        obtain ⟨hP, hD⟩ := fl_join (SR := []) (S1 := [mnW x a sv o rd bu ln, stW cI a (setS σ (q9)), svO cO sv (saF (pushA (κ 0 0) sa)) (sU κ 0 0 (pushK (κ 0 0))), stW cI (pushA (κ 0 0) sa 0) (pushS (κ 0 0) ss σ 0), stW cI (pushA (κ 0 0) sa 1) (pushS (κ 0 0) ss σ 1), stW cI (pushA (κ 0 0) sa 2) (pushS (κ 0 0) ss σ 2), stW cI (pushA (κ 0 0) sa 3) (pushS (κ 0 0) ss σ 3), stW cI (pushA (κ 0 0) sa 4) (pushS (κ 0 0) ss σ 4), stW cI (pushA (κ 0 0) sa 5) (pushS (κ 0 0) ss σ 5)]) hP hD [0, 1, 2, 3, 4, 5, 6, 7, 8] [] rfl rfl (by decide) (by decide) hk1 hFc hP1 hD1
        generalize H1 = H at hP hS ⊢
        have hP : va_P D vwCl (fl [mnW x a sv o rd bu ln, stW cI a (setS σ (q9)), svO cO sv (saF (pushA (κ 0 0) sa)) (sU κ 0 0 (pushK (κ 0 0))), stW cI (pushA (κ 0 0) sa 0) (pushS (κ 0 0) ss σ 0), stW cI (pushA (κ 0 0) sa 1) (pushS (κ 0 0) ss σ 1), stW cI (pushA (κ 0 0) sa 2) (pushS (κ 0 0) ss σ 2), stW cI (pushA (κ 0 0) sa 3) (pushS (κ 0 0) ss σ 3), stW cI (pushA (κ 0 0) sa 4) (pushS (κ 0 0) ss σ 4), stW cI (pushA (κ 0 0) sa 5) (pushS (κ 0 0) ss σ 5)]) H := hP
        have hD : va_D A (fl [mnW x a sv o rd bu ln, stW cI a (setS σ (q9)), svO cO sv (saF (pushA (κ 0 0) sa)) (sU κ 0 0 (pushK (κ 0 0))), stW cI (pushA (κ 0 0) sa 0) (pushS (κ 0 0) ss σ 0), stW cI (pushA (κ 0 0) sa 1) (pushS (κ 0 0) ss σ 1), stW cI (pushA (κ 0 0) sa 2) (pushS (κ 0 0) ss σ 2), stW cI (pushA (κ 0 0) sa 3) (pushS (κ 0 0) ss σ 3), stW cI (pushA (κ 0 0) sa 4) (pushS (κ 0 0) ss σ 4), stW cI (pushA (κ 0 0) sa 5) (pushS (κ 0 0) ss σ 5)]) := hD
        have hGS := hG.1.set (p := q9) ⟨by omega, by omega⟩
        have hr9 : r24 = setS σ q9 2 (σ 6 q9) := hcl25
        have hp6 := (hI.pr (p := q9) (by omega) (by omega)).2.1
        have hcc := hGS.1.c hp6.1 hp6.2
        have hr8 : -999 ≤ r24 ∧ r24 ≤ 999 := by rw [hr9]; omega
        refine wi_sipush hx hb dL_act_242 (by decide) ?_
        refine wi_icmp_ge (tgt := 253) hx hb dL_act_245 (by decide) (by omega) (fun c_245 => ?_) (fun c_245 => ?_)
        · skip
          refine wi_iconst hx hb dL_act_253 ?_
          refine W.widen (k := 1) (n := 6) (by decide) (by decide) ?_
          exact W.iret (v := iI (0)) hx hb hr (fun t9 ht9 hW9 => ⟨⟨(0), ⟨(setS σ (q9)), (sU κ 0 0 (pushK (κ 0 0))), (pushA (κ 0 0) sa), pushS (κ 0 0) ss σ⟩, rfl, (AQ.mk (hG.push (show T ≤ T + 8 by omega) ((hGS).mono (by omega))) rfl rfl rfl (by omega)), ⟨by rw [ht9]; exact hP, va_K.moved hW9.alike hK, hD⟩⟩, hS.F ht9⟩) hS.2.2 dL_act_254 hlocks
        · skip
          exfalso; omega
      · skip
        refine wi_bipush hx hb dL_act_231 (by decide) ?_
        refine lv_goto (tgt := 254) hx hb dL_act_233 (by decide) ?_
        refine W.widen (k := 1) (n := 6) (by decide) (by decide) ?_
        exact W.iret (v := iI (-3)) hx hb hr (fun t9 ht9 hW9 => ⟨⟨(-3), ⟨σ, κ, sa, ss⟩, rfl, (AQ.no (hG.mono (by omega)) rfl rfl rfl (by omega)), ⟨by rw [ht9]; exact hP, va_K.moved hW9.alike hK, hD⟩⟩, hS.F ht9⟩) hS.2.2 dL_act_254 hlocks
    have hsx : (iI ((lowF ((g k)) (18)))).toInt = (lowF ((g k)) (18)) := iI_toInt (by omega)
    by_cases hc72_0 : (lowF ((g k)) (18)) = 0
    · skip
      refine lv_tableIn (tgt := 156) hx hb dL_act_72 (by rw [hsx]; omega) (by rw [hsx]; omega) (off := 84) (by rw [hsx, hc72_0]; rfl) (by decide) ?_
      exact L156    ls (lv_sub hl [0, 1, 2, 3, 4, 5, 6, 7, 8] rfl)
    by_cases hc72_1 : (lowF ((g k)) (18)) = 1
    · skip
      refine lv_tableIn (tgt := 156) hx hb dL_act_72 (by rw [hsx]; omega) (by rw [hsx]; omega) (off := 84) (by rw [hsx, hc72_1]; rfl) (by decide) ?_
      exact L156    ls (lv_sub hl [0, 1, 2, 3, 4, 5, 6, 7, 8] rfl)
    by_cases hc72_2 : (lowF ((g k)) (18)) = 2
    · skip
      refine lv_tableIn (tgt := 156) hx hb dL_act_72 (by rw [hsx]; omega) (by rw [hsx]; omega) (off := 84) (by rw [hsx, hc72_2]; rfl) (by decide) ?_
      exact L156    ls (lv_sub hl [0, 1, 2, 3, 4, 5, 6, 7, 8] rfl)
    by_cases hc72_3 : (lowF ((g k)) (18)) = 3
    · skip
      refine lv_tableIn (tgt := 156) hx hb dL_act_72 (by rw [hsx]; omega) (by rw [hsx]; omega) (off := 84) (by rw [hsx, hc72_3]; rfl) (by decide) ?_
      exact L156    ls (lv_sub hl [0, 1, 2, 3, 4, 5, 6, 7, 8] rfl)
    by_cases hc72_4 : (lowF ((g k)) (18)) = 4
    · skip
      refine lv_tableIn (tgt := 156) hx hb dL_act_72 (by rw [hsx]; omega) (by rw [hsx]; omega) (off := 84) (by rw [hsx, hc72_4]; rfl) (by decide) ?_
      exact L156    ls (lv_sub hl [0, 1, 2, 3, 4, 5, 6, 7, 8] rfl)
    by_cases hc72_5 : (lowF ((g k)) (18)) = 5
    · skip
      refine lv_tableIn (tgt := 184) hx hb dL_act_72 (by rw [hsx]; omega) (by rw [hsx]; omega) (off := 112) (by rw [hsx, hc72_5]; rfl) (by decide) ?_
      exact L184    ls (lv_sub hl [0, 1, 2, 3, 4, 5, 6, 7, 8] rfl)
    by_cases hc72_6 : (lowF ((g k)) (18)) = 6
    · skip
      refine lv_tableIn (tgt := 184) hx hb dL_act_72 (by rw [hsx]; omega) (by rw [hsx]; omega) (off := 112) (by rw [hsx, hc72_6]; rfl) (by decide) ?_
      exact L184    ls (lv_sub hl [0, 1, 2, 3, 4, 5, 6, 7, 8] rfl)
    by_cases hc72_7 : (lowF ((g k)) (18)) = 7
    · skip
      refine lv_tableIn (tgt := 184) hx hb dL_act_72 (by rw [hsx]; omega) (by rw [hsx]; omega) (off := 112) (by rw [hsx, hc72_7]; rfl) (by decide) ?_
      exact L184    ls (lv_sub hl [0, 1, 2, 3, 4, 5, 6, 7, 8] rfl)
    by_cases hc72_8 : (lowF ((g k)) (18)) = 8
    · skip
      refine lv_tableIn (tgt := 226) hx hb dL_act_72 (by rw [hsx]; omega) (by rw [hsx]; omega) (off := 154) (by rw [hsx, hc72_8]; rfl) (by decide) ?_
      exact L226    ls (lv_sub hl [0, 1, 2, 3, 4, 5, 6, 7, 8] rfl)
    by_cases hc72_9 : (lowF ((g k)) (18)) = 9
    · skip
      refine lv_tableIn (tgt := 226) hx hb dL_act_72 (by rw [hsx]; omega) (by rw [hsx]; omega) (off := 154) (by rw [hsx, hc72_9]; rfl) (by decide) ?_
      exact L226    ls (lv_sub hl [0, 1, 2, 3, 4, 5, 6, 7, 8] rfl)
    by_cases hc72_10 : (lowF ((g k)) (18)) = 10
    · skip
      refine lv_tableIn (tgt := 255) hx hb dL_act_72 (by rw [hsx]; omega) (by rw [hsx]; omega) (off := 183) (by rw [hsx, hc72_10]; rfl) (by decide) ?_
      refine lv_iload hx hb dL_act_255 (lv_at hl 2 rfl) ?_
      refine wi_if_ne (tgt := 265) hx hb dL_act_257 (by decide) (by omega) (fun c_257 => ?_) (fun c_257 => ?_)
      · skip
        refine lv_aload_n hx hb dL_act_265 rfl (lv_at hl 6 rfl) ?_
        refine lv_iload hx hb dL_act_266 (lv_at hl 1 rfl) ?_
        refine wi_iconst hx hb dL_act_268 ?_
        refine lv_iload hx hb dL_act_269 (lv_at hl 3 rfl) ?_
        refine wi_bipush hx hb dL_act_271 (by decide) ?_
        refine wr_calli (va_runS (As := [.int (iI ((g (k + 3)))), .int (iI (20))]) (rest := [.int (iI (1)), .int (iI (q9)), .ref (x 0)]) ⟨hx, hb, hml, hown, hts⟩ (c_L_low l D cI cO cC cL ((g (k + 3))) (20) (by first | assumption | omega)) (cwS 2 hts gL_act_L_low rfl rfl rfl (by decide +kernel) ⟨Nat.le_of_ble_eq_true rfl, Nat.le_of_ble_eq_true rfl⟩) ⟨fun _ _ _ _ h => h, fun U hU hW => ⟨rfl, trivial⟩⟩ rfl rfl hl.1 rfl (lv_room (Nat.le_of_ble_eq_true rfl)) dL_act_273 ⟨(Nat.zero_le _), (Nat.zero_le _)⟩) (fun r27 hr27 => ?_)
        subst hr27
        have hlf273 := lowF_r (g (k + 3)) (n := 20) (by omega)
        refine wi_iadd hx hb dL_act_276 ?_
        have hFc := fl_free (SC := [mnW x a sv o rd bu ln, stW cI a σ, svO cO sv (saF sa) κ, stW cI (sa 0) (ss 0), stW cI (sa 1) (ss 1), stW cI (sa 2) (ss 2), stW cI (sa 3) (ss 3), stW cI (sa 4) (ss 4), stW cI (sa 5) (ss 5)]) hD hS hA [0, 1, 2, 3, 4, 5, 6, 7, 8] rfl
        refine wq_calli (vx_runSW (As := [.ref (x 0), .int (iI (q9)), .int (iI ((1 + (lowF ((g (k + 3))) (20)))))]) (rest := []) ⟨hx, hb, hml, hown, hts⟩ (c_L_part l hl9 D cI cO cC cL s.heap.size x a sv o rd bu ln σ κ sa ss (q9) ((1 + (lowF ((g (k + 3))) (20)))) T (by first | assumption | omega) (by first | assumption | omega) (by first | assumption | omega)) (vx_cwSW 3 hts gL_act_L_part rfl rfl rfl (by decide +kernel) ⟨Nat.le_of_ble_eq_true rfl, Nat.le_of_ble_eq_true rfl⟩) ⟨pcWX_blind, pcWX_of hP hK hD hZ hFc⟩ rfl rfl hl.1 rfl (lv_room (Nat.le_of_ble_eq_true rfl)) dL_act_277 ⟨Nat.le_of_ble_eq_true rfl, Nat.le_of_ble_eq_true rfl⟩) hS (fun q _ h => hFc q h) hFc (fun r28 u30 t9 H1 locs ht9 hvm hcl29 hB hz1 hk1 hS => ?_)
        obtain ⟨hP1, hK1, hD1⟩ := hB
        rw [ht9] at hP1
        obtain ⟨hP, hD⟩ := fl_join (SR := []) (S1 := [mnW x a sv o rd bu ln, stW cI a (PS.σ u30), svO cO sv (saF (PS.sa u30)) (PS.κ u30), stW cI ((PS.sa u30) 0) ((PS.ss u30) 0), stW cI ((PS.sa u30) 1) ((PS.ss u30) 1), stW cI ((PS.sa u30) 2) ((PS.ss u30) 2), stW cI ((PS.sa u30) 3) ((PS.ss u30) 3), stW cI ((PS.sa u30) 4) ((PS.ss u30) 4), stW cI ((PS.sa u30) 5) ((PS.ss u30) 5)]) hP hD [0, 1, 2, 3, 4, 5, 6, 7, 8] [] rfl rfl (by decide) (by decide) hk1 hFc hP1 hD1
        generalize H1 = H at hP hS ⊢
        have hP : va_P D vwCl (fl [mnW x a sv o rd bu ln, stW cI a (PS.σ u30), svO cO sv (saF (PS.sa u30)) (PS.κ u30), stW cI ((PS.sa u30) 0) ((PS.ss u30) 0), stW cI ((PS.sa u30) 1) ((PS.ss u30) 1), stW cI ((PS.sa u30) 2) ((PS.ss u30) 2), stW cI ((PS.sa u30) 3) ((PS.ss u30) 3), stW cI ((PS.sa u30) 4) ((PS.ss u30) 4), stW cI ((PS.sa u30) 5) ((PS.ss u30) 5)]) H := hP
        have hD : va_D A (fl [mnW x a sv o rd bu ln, stW cI a (PS.σ u30), svO cO sv (saF (PS.sa u30)) (PS.κ u30), stW cI ((PS.sa u30) 0) ((PS.ss u30) 0), stW cI ((PS.sa u30) 1) ((PS.ss u30) 1), stW cI ((PS.sa u30) 2) ((PS.ss u30) 2), stW cI ((PS.sa u30) 3) ((PS.ss u30) 3), stW cI ((PS.sa u30) 4) ((PS.ss u30) 4), stW cI ((PS.sa u30) 5) ((PS.ss u30) 5)]) := hD
        refine W.widen (k := 1) (n := 6) (by decide) (by decide) ?_
        exact W.iret (v := iI (r28)) hx hb hr (fun t9 ht9 hW9 => ⟨⟨(r28), ⟨(PS.σ u30), (PS.κ u30), (PS.sa u30), (PS.ss u30)⟩, rfl, (AQ.mono hcl29 (by omega)), ⟨by rw [ht9]; exact hP, va_K.moved hW9.alike hK, hD⟩⟩, hS.F ht9⟩) hS.2.2 dL_act_280 hlocks
      · skip
        refine wi_bipush hx hb dL_act_260 (by decide) ?_
        refine lv_goto (tgt := 280) hx hb dL_act_262 (by decide) ?_
        refine W.widen (k := 1) (n := 6) (by decide) (by decide) ?_
        exact W.iret (v := iI (-3)) hx hb hr (fun t9 ht9 hW9 => ⟨⟨(-3), ⟨σ, κ, sa, ss⟩, rfl, (AQ.no (hG.mono (by omega)) rfl rfl rfl (by omega)), ⟨by rw [ht9]; exact hP, va_K.moved hW9.alike hK, hD⟩⟩, hS.F ht9⟩) hS.2.2 dL_act_280 hlocks
    by_cases hc72_11 : (lowF ((g k)) (18)) = 11
    · skip
      refine lv_tableIn (tgt := 281) hx hb dL_act_72 (by rw [hsx]; omega) (by rw [hsx]; omega) (off := 209) (by rw [hsx, hc72_11]; rfl) (by decide) ?_
      refine lv_iload hx hb dL_act_281 (lv_at hl 2 rfl) ?_
      refine wi_if_ne (tgt := 291) hx hb dL_act_283 (by decide) (by omega) (fun c_283 => ?_) (fun c_283 => ?_)
      · skip
        refine lv_aload_n hx hb dL_act_291 rfl (lv_at hl 6 rfl) ?_
        refine lv_iload hx hb dL_act_292 (lv_at hl 1 rfl) ?_
        have hFc := fl_free (SC := [mnW x a sv o rd bu ln, stW cI a σ, svO cO sv (saF sa) κ, stW cI (sa 0) (ss 0), stW cI (sa 1) (ss 1), stW cI (sa 2) (ss 2), stW cI (sa 3) (ss 3), stW cI (sa 4) (ss 4), stW cI (sa 5) (ss 5)]) hD hS hA [0, 1, 2, 3, 4, 5, 6, 7, 8] rfl
        refine wq_calli (va_runV (As := [.int (iI (q9))]) (rest := []) ⟨hx, hb, hml, hown, hts⟩ (c_X4_cancel l D cI cO cC cL s.heap.size x a sv o rd bu ln σ κ sa ss (q9) (by first | assumption | omega) (by first | assumption | omega) (by first | assumption | omega)) (cwV 1 hts gL_act_X4_cancel rfl rfl rfl (by decide +kernel) ⟨Nat.le_of_ble_eq_true rfl, Nat.le_of_ble_eq_true rfl⟩) ⟨pcW_blind, va_recv hK hP (ci := 4) (q0 := 0) rfl rfl, pcW_of hP hK hD⟩ rfl rfl hl.1 rfl (lv_room (Nat.le_of_ble_eq_true rfl)) dL_act_294 ⟨(Nat.zero_le _), (Nat.zero_le _)⟩) hS (fun q _ h => hFc q h) hFc (fun r31 u33 t9 H1 locs ht9 hvm hcl32 hB hz1 hk1 hS => ?_)
        obtain ⟨hP1, hK1, hD1⟩ := hB
        rw [ht9] at hP1
        obtain ⟨hP, hD⟩ := fl_join (SR := []) (S1 := [mnW x a sv o rd bu ln, stW cI a (canS σ (q9)), svO cO sv (saF (pushA (κ 0 0) sa)) (sU κ 0 0 (pushK (κ 0 0))), stW cI (pushA (κ 0 0) sa 0) (pushS (κ 0 0) ss σ 0), stW cI (pushA (κ 0 0) sa 1) (pushS (κ 0 0) ss σ 1), stW cI (pushA (κ 0 0) sa 2) (pushS (κ 0 0) ss σ 2), stW cI (pushA (κ 0 0) sa 3) (pushS (κ 0 0) ss σ 3), stW cI (pushA (κ 0 0) sa 4) (pushS (κ 0 0) ss σ 4), stW cI (pushA (κ 0 0) sa 5) (pushS (κ 0 0) ss σ 5)]) hP hD [0, 1, 2, 3, 4, 5, 6, 7, 8] [] rfl rfl (by decide) (by decide) hk1 hFc hP1 hD1
        generalize H1 = H at hP hS ⊢
        have hP : va_P D vwCl (fl [mnW x a sv o rd bu ln, stW cI a (canS σ (q9)), svO cO sv (saF (pushA (κ 0 0) sa)) (sU κ 0 0 (pushK (κ 0 0))), stW cI (pushA (κ 0 0) sa 0) (pushS (κ 0 0) ss σ 0), stW cI (pushA (κ 0 0) sa 1) (pushS (κ 0 0) ss σ 1), stW cI (pushA (κ 0 0) sa 2) (pushS (κ 0 0) ss σ 2), stW cI (pushA (κ 0 0) sa 3) (pushS (κ 0 0) ss σ 3), stW cI (pushA (κ 0 0) sa 4) (pushS (κ 0 0) ss σ 4), stW cI (pushA (κ 0 0) sa 5) (pushS (κ 0 0) ss σ 5)]) H := hP
        have hD : va_D A (fl [mnW x a sv o rd bu ln, stW cI a (canS σ (q9)), svO cO sv (saF (pushA (κ 0 0) sa)) (sU κ 0 0 (pushK (κ 0 0))), stW cI (pushA (κ 0 0) sa 0) (pushS (κ 0 0) ss σ 0), stW cI (pushA (κ 0 0) sa 1) (pushS (κ 0 0) ss σ 1), stW cI (pushA (κ 0 0) sa 2) (pushS (κ 0 0) ss σ 2), stW cI (pushA (κ 0 0) sa 3) (pushS (κ 0 0) ss σ 3), stW cI (pushA (κ 0 0) sa 4) (pushS (κ 0 0) ss σ 4), stW cI (pushA (κ 0 0) sa 5) (pushS (κ 0 0) ss σ 5)]) := hD
        have hGS := hG.1.can (p := q9) ⟨by omega, by omega⟩
        have hr9 : r31 = σ 0 1 - 1 := hcl32
        refine W.widen (k := 1) (n := 6) (by decide) (by decide) ?_
        exact W.iret (v := iI (r31)) hx hb hr (fun t9 ht9 hW9 => ⟨⟨(r31), ⟨(canS σ (q9)), (sU κ 0 0 (pushK (κ 0 0))), (pushA (κ 0 0) sa), pushS (κ 0 0) ss σ⟩, rfl, (AQ.mk (hG.push (show T ≤ T + 8 by omega) ((hGS).mono (by omega))) rfl rfl rfl (by omega)), ⟨by rw [ht9]; exact hP, va_K.moved hW9.alike hK, hD⟩⟩, hS.F ht9⟩) hS.2.2 dL_act_297 hlocks
      · skip
        refine wi_bipush hx hb dL_act_286 (by decide) ?_
        refine lv_goto (tgt := 297) hx hb dL_act_288 (by decide) ?_
        refine W.widen (k := 1) (n := 6) (by decide) (by decide) ?_
        exact W.iret (v := iI (-3)) hx hb hr (fun t9 ht9 hW9 => ⟨⟨(-3), ⟨σ, κ, sa, ss⟩, rfl, (AQ.no (hG.mono (by omega)) rfl rfl rfl (by omega)), ⟨by rw [ht9]; exact hP, va_K.moved hW9.alike hK, hD⟩⟩, hS.F ht9⟩) hS.2.2 dL_act_297 hlocks
    by_cases hc72_12 : (lowF ((g k)) (18)) = 12
    · skip
      refine lv_tableIn (tgt := 298) hx hb dL_act_72 (by rw [hsx]; omega) (by rw [hsx]; omega) (off := 226) (by rw [hsx, hc72_12]; rfl) (by decide) ?_
      refine lv_iload hx hb dL_act_298 (lv_at hl 2 rfl) ?_
      refine wi_if_ne (tgt := 308) hx hb dL_act_300 (by decide) (by omega) (fun c_300 => ?_) (fun c_300 => ?_)
      · skip
        refine lv_aload_n hx hb dL_act_308 rfl (lv_at hl 6 rfl) ?_
        refine lv_iload hx hb dL_act_309 (lv_at hl 1 rfl) ?_
        have hFc := fl_free (SC := [mnW x a sv o rd bu ln, stW cI a σ, svO cO sv (saF sa) κ, stW cI (sa 0) (ss 0), stW cI (sa 1) (ss 1), stW cI (sa 2) (ss 2), stW cI (sa 3) (ss 3), stW cI (sa 4) (ss 4), stW cI (sa 5) (ss 5)]) hD hS hA [0, 1, 2, 3, 4, 5, 6, 7, 8] rfl
        refine wq_calli (va_runV (As := [.int (iI (q9))]) (rest := []) ⟨hx, hb, hml, hown, hts⟩ (c_X4_renew l D cI cO cC cL s.heap.size x a sv o rd bu ln σ κ sa ss (q9) (by first | assumption | omega) (by first | assumption | omega) (by first | assumption | omega)) (cwV 1 hts gL_act_X4_renew rfl rfl rfl (by decide +kernel) ⟨Nat.le_of_ble_eq_true rfl, Nat.le_of_ble_eq_true rfl⟩) ⟨pcW_blind, va_recv hK hP (ci := 4) (q0 := 0) rfl rfl, pcW_of hP hK hD⟩ rfl rfl hl.1 rfl (lv_room (Nat.le_of_ble_eq_true rfl)) dL_act_311 ⟨(Nat.zero_le _), (Nat.zero_le _)⟩) hS (fun q _ h => hFc q h) hFc (fun r34 u36 t9 H1 locs ht9 hvm hcl35 hB hz1 hk1 hS => ?_)
        obtain ⟨hP1, hK1, hD1⟩ := hB
        rw [ht9] at hP1
        obtain ⟨hP, hD⟩ := fl_join (SR := []) (S1 := [mnW x a sv o rd bu ln, stW cI a (renS σ (q9)), svO cO sv (saF (pushA (κ 0 0) sa)) (sU κ 0 0 (pushK (κ 0 0))), stW cI (pushA (κ 0 0) sa 0) (pushS (κ 0 0) ss σ 0), stW cI (pushA (κ 0 0) sa 1) (pushS (κ 0 0) ss σ 1), stW cI (pushA (κ 0 0) sa 2) (pushS (κ 0 0) ss σ 2), stW cI (pushA (κ 0 0) sa 3) (pushS (κ 0 0) ss σ 3), stW cI (pushA (κ 0 0) sa 4) (pushS (κ 0 0) ss σ 4), stW cI (pushA (κ 0 0) sa 5) (pushS (κ 0 0) ss σ 5)]) hP hD [0, 1, 2, 3, 4, 5, 6, 7, 8] [] rfl rfl (by decide) (by decide) hk1 hFc hP1 hD1
        generalize H1 = H at hP hS ⊢
        have hP : va_P D vwCl (fl [mnW x a sv o rd bu ln, stW cI a (renS σ (q9)), svO cO sv (saF (pushA (κ 0 0) sa)) (sU κ 0 0 (pushK (κ 0 0))), stW cI (pushA (κ 0 0) sa 0) (pushS (κ 0 0) ss σ 0), stW cI (pushA (κ 0 0) sa 1) (pushS (κ 0 0) ss σ 1), stW cI (pushA (κ 0 0) sa 2) (pushS (κ 0 0) ss σ 2), stW cI (pushA (κ 0 0) sa 3) (pushS (κ 0 0) ss σ 3), stW cI (pushA (κ 0 0) sa 4) (pushS (κ 0 0) ss σ 4), stW cI (pushA (κ 0 0) sa 5) (pushS (κ 0 0) ss σ 5)]) H := hP
        have hD : va_D A (fl [mnW x a sv o rd bu ln, stW cI a (renS σ (q9)), svO cO sv (saF (pushA (κ 0 0) sa)) (sU κ 0 0 (pushK (κ 0 0))), stW cI (pushA (κ 0 0) sa 0) (pushS (κ 0 0) ss σ 0), stW cI (pushA (κ 0 0) sa 1) (pushS (κ 0 0) ss σ 1), stW cI (pushA (κ 0 0) sa 2) (pushS (κ 0 0) ss σ 2), stW cI (pushA (κ 0 0) sa 3) (pushS (κ 0 0) ss σ 3), stW cI (pushA (κ 0 0) sa 4) (pushS (κ 0 0) ss σ 4), stW cI (pushA (κ 0 0) sa 5) (pushS (κ 0 0) ss σ 5)]) := hD
        have hGS := hG.1.ren (p := q9) ⟨by omega, by omega⟩
        have hr9 : r34 = σ 0 0 + σ 1 1 - σ 9 q9 := hcl35
        have hp9 := (hI.pr (p := q9) (by omega) (by omega)).2.2.2.2
        refine wi_bipush hx hb dL_act_314 (by decide) ?_
        refine wi_icmp_ge (tgt := 324) hx hb dL_act_316 (by decide) (by omega) (fun c_316 => ?_) (fun c_316 => ?_)
        · skip
          refine wi_iconst hx hb dL_act_324 ?_
          refine W.widen (k := 1) (n := 6) (by decide) (by decide) ?_
          exact W.iret (v := iI (0)) hx hb hr (fun t9 ht9 hW9 => ⟨⟨(0), ⟨(renS σ (q9)), (sU κ 0 0 (pushK (κ 0 0))), (pushA (κ 0 0) sa), pushS (κ 0 0) ss σ⟩, rfl, (AQ.mk (hG.push (show T ≤ T + 8 by omega) ((hGS).mono (by omega))) rfl rfl rfl (by omega)), ⟨by rw [ht9]; exact hP, va_K.moved hW9.alike hK, hD⟩⟩, hS.F ht9⟩) hS.2.2 dL_act_325 hlocks
        · skip
          exfalso; omega
      · skip
        refine wi_bipush hx hb dL_act_303 (by decide) ?_
        refine lv_goto (tgt := 325) hx hb dL_act_305 (by decide) ?_
        refine W.widen (k := 1) (n := 6) (by decide) (by decide) ?_
        exact W.iret (v := iI (-3)) hx hb hr (fun t9 ht9 hW9 => ⟨⟨(-3), ⟨σ, κ, sa, ss⟩, rfl, (AQ.no (hG.mono (by omega)) rfl rfl rfl (by omega)), ⟨by rw [ht9]; exact hP, va_K.moved hW9.alike hK, hD⟩⟩, hS.F ht9⟩) hS.2.2 dL_act_325 hlocks
    by_cases hc72_13 : (lowF ((g k)) (18)) = 13
    · skip
      refine lv_tableIn (tgt := 326) hx hb dL_act_72 (by rw [hsx]; omega) (by rw [hsx]; omega) (off := 254) (by rw [hsx, hc72_13]; rfl) (by decide) ?_
      refine lv_aload_n hx hb dL_act_326 rfl (lv_at hl 6 rfl) ?_
      refine lv_iload_n hx hb dL_act_327 rfl (lv_at hl 5 rfl) ?_
      refine wi_bipush hx hb dL_act_328 (by decide) ?_
      refine wr_calli (va_runS (As := [.int (iI ((g (k + 1)))), .int (iI (6))]) (rest := [.ref (x 0)]) ⟨hx, hb, hml, hown, hts⟩ (c_L_low l D cI cO cC cL ((g (k + 1))) (6) (by first | assumption | omega)) (cwS 2 hts gL_act_L_low rfl rfl rfl (by decide +kernel) ⟨Nat.le_of_ble_eq_true rfl, Nat.le_of_ble_eq_true rfl⟩) ⟨fun _ _ _ _ h => h, fun U hU hW => ⟨rfl, trivial⟩⟩ rfl rfl hl.1 rfl (lv_room (Nat.le_of_ble_eq_true rfl)) dL_act_330 ⟨(Nat.zero_le _), (Nat.zero_le _)⟩) (fun r37 hr37 => ?_)
      subst hr37
      have hlf330 := lowF_r (g (k + 1)) (n := 6) (by omega)
      refine lv_iload hx hb dL_act_333 (lv_at hl 4 rfl) ?_
      refine wi_iconst hx hb dL_act_335 ?_
      refine wr_calli (va_runS (As := [.int (iI ((g (k + 2)))), .int (iI (2))]) (rest := [.int (iI ((lowF ((g (k + 1))) (6)))), .ref (x 0)]) ⟨hx, hb, hml, hown, hts⟩ (c_L_low l D cI cO cC cL ((g (k + 2))) (2) (by first | assumption | omega)) (cwS 2 hts gL_act_L_low rfl rfl rfl (by decide +kernel) ⟨Nat.le_of_ble_eq_true rfl, Nat.le_of_ble_eq_true rfl⟩) ⟨fun _ _ _ _ h => h, fun U hU hW => ⟨rfl, trivial⟩⟩ rfl rfl hl.1 rfl (lv_room (Nat.le_of_ble_eq_true rfl)) dL_act_336 ⟨(Nat.zero_le _), (Nat.zero_le _)⟩) (fun r38 hr38 => ?_)
      subst hr38
      have hlf336 := lowF_r (g (k + 2)) (n := 2) (by omega)
      refine wi_if_ne (tgt := 346) hx hb dL_act_339 (by decide) (by omega) (fun c_339 => ?_) (fun c_339 => ?_)
      · skip
        refine wi_iconst hx hb dL_act_346 ?_
        have hFc := fl_free (SC := [mnW x a sv o rd bu ln, stW cI a σ, svO cO sv (saF sa) κ, stW cI (sa 0) (ss 0), stW cI (sa 1) (ss 1), stW cI (sa 2) (ss 2), stW cI (sa 3) (ss 3), stW cI (sa 4) (ss 4), stW cI (sa 5) (ss 5)]) hD hS hA [0, 1, 2, 3, 4, 5, 6, 7, 8] rfl
        refine wq_calli (va_runV (As := [.int (iI ((lowF ((g (k + 1))) (6)))), .int (iI (0))]) (rest := []) ⟨hx, hb, hml, hown, hts⟩ (c_X4_finish l D cI cO cC cL s.heap.size x a sv o rd bu ln σ κ sa ss ((lowF ((g (k + 1))) (6))) (0) (by first | assumption | omega) (by first | assumption | omega) (by first | assumption | omega) (by first | assumption | omega)) (cwV 2 hts gL_act_X4_finish rfl rfl rfl (by decide +kernel) ⟨Nat.le_of_ble_eq_true rfl, Nat.le_of_ble_eq_true rfl⟩) ⟨pcW_blind, va_recv hK hP (ci := 4) (q0 := 0) rfl rfl, pcW_of hP hK hD⟩ rfl rfl hl.1 rfl (lv_room (Nat.le_of_ble_eq_true rfl)) dL_act_347 ⟨(Nat.zero_le _), (Nat.zero_le _)⟩) hS (fun q _ h => hFc q h) hFc (fun r39 u41 t9 H1 locs ht9 hvm hcl40 hB hz1 hk1 hS => ?_)
        obtain ⟨hP1, hK1, hD1⟩ := hB
        rw [ht9] at hP1
        obtain ⟨hP, hD⟩ := fl_join (SR := []) (S1 := [mnW x a sv o rd bu ln, stW cI a (finS σ ((lowF ((g (k + 1))) (6))) (0)), svO cO sv (saF (pushA (κ 0 0) sa)) (sU κ 0 0 (pushK (κ 0 0))), stW cI (pushA (κ 0 0) sa 0) (pushS (κ 0 0) ss σ 0), stW cI (pushA (κ 0 0) sa 1) (pushS (κ 0 0) ss σ 1), stW cI (pushA (κ 0 0) sa 2) (pushS (κ 0 0) ss σ 2), stW cI (pushA (κ 0 0) sa 3) (pushS (κ 0 0) ss σ 3), stW cI (pushA (κ 0 0) sa 4) (pushS (κ 0 0) ss σ 4), stW cI (pushA (κ 0 0) sa 5) (pushS (κ 0 0) ss σ 5)]) hP hD [0, 1, 2, 3, 4, 5, 6, 7, 8] [] rfl rfl (by decide) (by decide) hk1 hFc hP1 hD1
        generalize H1 = H at hP hS ⊢
        have hP : va_P D vwCl (fl [mnW x a sv o rd bu ln, stW cI a (finS σ ((lowF ((g (k + 1))) (6))) (0)), svO cO sv (saF (pushA (κ 0 0) sa)) (sU κ 0 0 (pushK (κ 0 0))), stW cI (pushA (κ 0 0) sa 0) (pushS (κ 0 0) ss σ 0), stW cI (pushA (κ 0 0) sa 1) (pushS (κ 0 0) ss σ 1), stW cI (pushA (κ 0 0) sa 2) (pushS (κ 0 0) ss σ 2), stW cI (pushA (κ 0 0) sa 3) (pushS (κ 0 0) ss σ 3), stW cI (pushA (κ 0 0) sa 4) (pushS (κ 0 0) ss σ 4), stW cI (pushA (κ 0 0) sa 5) (pushS (κ 0 0) ss σ 5)]) H := hP
        have hD : va_D A (fl [mnW x a sv o rd bu ln, stW cI a (finS σ ((lowF ((g (k + 1))) (6))) (0)), svO cO sv (saF (pushA (κ 0 0) sa)) (sU κ 0 0 (pushK (κ 0 0))), stW cI (pushA (κ 0 0) sa 0) (pushS (κ 0 0) ss σ 0), stW cI (pushA (κ 0 0) sa 1) (pushS (κ 0 0) ss σ 1), stW cI (pushA (κ 0 0) sa 2) (pushS (κ 0 0) ss σ 2), stW cI (pushA (κ 0 0) sa 3) (pushS (κ 0 0) ss σ 3), stW cI (pushA (κ 0 0) sa 4) (pushS (κ 0 0) ss σ 4), stW cI (pushA (κ 0 0) sa 5) (pushS (κ 0 0) ss σ 5)]) := hD
        have hGS := hG.1.fin (lowF ((g (k + 1))) (6)) 0
        have hr9 : r39 = σ 0 1 - finS σ (lowF ((g (k + 1))) (6)) 0 0 1 := hcl40
        have hfn := hGS.1.1.n
        have hfl := hGS.2
        refine W.widen (k := 1) (n := 6) (by decide) (by decide) ?_
        exact W.iret (v := iI (r39)) hx hb hr (fun t9 ht9 hW9 => ⟨⟨(r39), ⟨(finS σ ((lowF ((g (k + 1))) (6))) (0)), (sU κ 0 0 (pushK (κ 0 0))), (pushA (κ 0 0) sa), pushS (κ 0 0) ss σ⟩, rfl, (AQ.mk (hG.push (show T ≤ T + 8 by omega) ((hGS.1).mono (by omega))) rfl rfl rfl (by omega)), ⟨by rw [ht9]; exact hP, va_K.moved hW9.alike hK, hD⟩⟩, hS.F ht9⟩) hS.2.2 dL_act_350 hlocks
      · skip
        refine wi_iconst hx hb dL_act_342 ?_
        refine lv_goto (tgt := 347) hx hb dL_act_343 (by decide) ?_
        have hFc := fl_free (SC := [mnW x a sv o rd bu ln, stW cI a σ, svO cO sv (saF sa) κ, stW cI (sa 0) (ss 0), stW cI (sa 1) (ss 1), stW cI (sa 2) (ss 2), stW cI (sa 3) (ss 3), stW cI (sa 4) (ss 4), stW cI (sa 5) (ss 5)]) hD hS hA [0, 1, 2, 3, 4, 5, 6, 7, 8] rfl
        refine wq_calli (va_runV (As := [.int (iI ((lowF ((g (k + 1))) (6)))), .int (iI (1))]) (rest := []) ⟨hx, hb, hml, hown, hts⟩ (c_X4_finish l D cI cO cC cL s.heap.size x a sv o rd bu ln σ κ sa ss ((lowF ((g (k + 1))) (6))) (1) (by first | assumption | omega) (by first | assumption | omega) (by first | assumption | omega) (by first | assumption | omega)) (cwV 2 hts gL_act_X4_finish rfl rfl rfl (by decide +kernel) ⟨Nat.le_of_ble_eq_true rfl, Nat.le_of_ble_eq_true rfl⟩) ⟨pcW_blind, va_recv hK hP (ci := 4) (q0 := 0) rfl rfl, pcW_of hP hK hD⟩ rfl rfl hl.1 rfl (lv_room (Nat.le_of_ble_eq_true rfl)) dL_act_347 ⟨(Nat.zero_le _), (Nat.zero_le _)⟩) hS (fun q _ h => hFc q h) hFc (fun r42 u44 t9 H1 locs ht9 hvm hcl43 hB hz1 hk1 hS => ?_)
        obtain ⟨hP1, hK1, hD1⟩ := hB
        rw [ht9] at hP1
        obtain ⟨hP, hD⟩ := fl_join (SR := []) (S1 := [mnW x a sv o rd bu ln, stW cI a (finS σ ((lowF ((g (k + 1))) (6))) (1)), svO cO sv (saF (pushA (κ 0 0) sa)) (sU κ 0 0 (pushK (κ 0 0))), stW cI (pushA (κ 0 0) sa 0) (pushS (κ 0 0) ss σ 0), stW cI (pushA (κ 0 0) sa 1) (pushS (κ 0 0) ss σ 1), stW cI (pushA (κ 0 0) sa 2) (pushS (κ 0 0) ss σ 2), stW cI (pushA (κ 0 0) sa 3) (pushS (κ 0 0) ss σ 3), stW cI (pushA (κ 0 0) sa 4) (pushS (κ 0 0) ss σ 4), stW cI (pushA (κ 0 0) sa 5) (pushS (κ 0 0) ss σ 5)]) hP hD [0, 1, 2, 3, 4, 5, 6, 7, 8] [] rfl rfl (by decide) (by decide) hk1 hFc hP1 hD1
        generalize H1 = H at hP hS ⊢
        have hP : va_P D vwCl (fl [mnW x a sv o rd bu ln, stW cI a (finS σ ((lowF ((g (k + 1))) (6))) (1)), svO cO sv (saF (pushA (κ 0 0) sa)) (sU κ 0 0 (pushK (κ 0 0))), stW cI (pushA (κ 0 0) sa 0) (pushS (κ 0 0) ss σ 0), stW cI (pushA (κ 0 0) sa 1) (pushS (κ 0 0) ss σ 1), stW cI (pushA (κ 0 0) sa 2) (pushS (κ 0 0) ss σ 2), stW cI (pushA (κ 0 0) sa 3) (pushS (κ 0 0) ss σ 3), stW cI (pushA (κ 0 0) sa 4) (pushS (κ 0 0) ss σ 4), stW cI (pushA (κ 0 0) sa 5) (pushS (κ 0 0) ss σ 5)]) H := hP
        have hD : va_D A (fl [mnW x a sv o rd bu ln, stW cI a (finS σ ((lowF ((g (k + 1))) (6))) (1)), svO cO sv (saF (pushA (κ 0 0) sa)) (sU κ 0 0 (pushK (κ 0 0))), stW cI (pushA (κ 0 0) sa 0) (pushS (κ 0 0) ss σ 0), stW cI (pushA (κ 0 0) sa 1) (pushS (κ 0 0) ss σ 1), stW cI (pushA (κ 0 0) sa 2) (pushS (κ 0 0) ss σ 2), stW cI (pushA (κ 0 0) sa 3) (pushS (κ 0 0) ss σ 3), stW cI (pushA (κ 0 0) sa 4) (pushS (κ 0 0) ss σ 4), stW cI (pushA (κ 0 0) sa 5) (pushS (κ 0 0) ss σ 5)]) := hD
        have hGS := hG.1.fin (lowF ((g (k + 1))) (6)) 1
        have hr9 : r42 = σ 0 1 - finS σ (lowF ((g (k + 1))) (6)) 1 0 1 := hcl43
        have hfn := hGS.1.1.n
        have hfl := hGS.2
        refine W.widen (k := 1) (n := 6) (by decide) (by decide) ?_
        exact W.iret (v := iI (r42)) hx hb hr (fun t9 ht9 hW9 => ⟨⟨(r42), ⟨(finS σ ((lowF ((g (k + 1))) (6))) (1)), (sU κ 0 0 (pushK (κ 0 0))), (pushA (κ 0 0) sa), pushS (κ 0 0) ss σ⟩, rfl, (AQ.mk (hG.push (show T ≤ T + 8 by omega) ((hGS.1).mono (by omega))) rfl rfl rfl (by omega)), ⟨by rw [ht9]; exact hP, va_K.moved hW9.alike hK, hD⟩⟩, hS.F ht9⟩) hS.2.2 dL_act_350 hlocks
    by_cases hc72_14 : (lowF ((g k)) (18)) = 14
    · skip
      refine lv_tableIn (tgt := 351) hx hb dL_act_72 (by rw [hsx]; omega) (by rw [hsx]; omega) (off := 279) (by rw [hsx, hc72_14]; rfl) (by decide) ?_
      refine lv_aload_n hx hb dL_act_351 rfl (lv_at hl 6 rfl) ?_
      refine lv_iload_n hx hb dL_act_352 rfl (lv_at hl 5 rfl) ?_
      refine wi_iconst hx hb dL_act_353 ?_
      refine wr_calli (va_runS (As := [.int (iI ((g (k + 1)))), .int (iI (4))]) (rest := [.ref (x 0)]) ⟨hx, hb, hml, hown, hts⟩ (c_L_low l D cI cO cC cL ((g (k + 1))) (4) (by first | assumption | omega)) (cwS 2 hts gL_act_L_low rfl rfl rfl (by decide +kernel) ⟨Nat.le_of_ble_eq_true rfl, Nat.le_of_ble_eq_true rfl⟩) ⟨fun _ _ _ _ h => h, fun U hU hW => ⟨rfl, trivial⟩⟩ rfl rfl hl.1 rfl (lv_room (Nat.le_of_ble_eq_true rfl)) dL_act_354 ⟨(Nat.zero_le _), (Nat.zero_le _)⟩) (fun r45 hr45 => ?_)
      subst hr45
      have hlf354 := lowF_r (g (k + 1)) (n := 4) (by omega)
      refine lv_iload hx hb dL_act_357 (lv_at hl 4 rfl) ?_
      refine wi_sipush hx hb dL_act_359 (by decide) ?_
      refine wr_calli (va_runS (As := [.int (iI ((g (k + 2)))), .int (iI (200))]) (rest := [.int (iI ((lowF ((g (k + 1))) (4)))), .ref (x 0)]) ⟨hx, hb, hml, hown, hts⟩ (c_L_low l D cI cO cC cL ((g (k + 2))) (200) (by first | assumption | omega)) (cwS 2 hts gL_act_L_low rfl rfl rfl (by decide +kernel) ⟨Nat.le_of_ble_eq_true rfl, Nat.le_of_ble_eq_true rfl⟩) ⟨fun _ _ _ _ h => h, fun U hU hW => ⟨rfl, trivial⟩⟩ rfl rfl hl.1 rfl (lv_room (Nat.le_of_ble_eq_true rfl)) dL_act_362 ⟨(Nat.zero_le _), (Nat.zero_le _)⟩) (fun r46 hr46 => ?_)
      subst hr46
      have hlf362 := lowF_r (g (k + 2)) (n := 200) (by omega)
      refine wi_ineg hx hb dL_act_365 ?_
      refine lv_iload hx hb dL_act_366 (lv_at hl 3 rfl) ?_
      refine wi_sipush hx hb dL_act_368 (by decide) ?_
      refine wr_calli (va_runS (As := [.int (iI ((g (k + 3)))), .int (iI (200))]) (rest := [.int (iI ((-(lowF ((g (k + 2))) (200))))), .int (iI ((lowF ((g (k + 1))) (4)))), .ref (x 0)]) ⟨hx, hb, hml, hown, hts⟩ (c_L_low l D cI cO cC cL ((g (k + 3))) (200) (by first | assumption | omega)) (cwS 2 hts gL_act_L_low rfl rfl rfl (by decide +kernel) ⟨Nat.le_of_ble_eq_true rfl, Nat.le_of_ble_eq_true rfl⟩) ⟨fun _ _ _ _ h => h, fun U hU hW => ⟨rfl, trivial⟩⟩ rfl rfl hl.1 rfl (lv_room (Nat.le_of_ble_eq_true rfl)) dL_act_371 ⟨(Nat.zero_le _), (Nat.zero_le _)⟩) (fun r47 hr47 => ?_)
      subst hr47
      have hlf371 := lowF_r (g (k + 3)) (n := 200) (by omega)
      have hFc := fl_free (SC := [mnW x a sv o rd bu ln, stW cI a σ, svO cO sv (saF sa) κ, stW cI (sa 0) (ss 0), stW cI (sa 1) (ss 1), stW cI (sa 2) (ss 2), stW cI (sa 3) (ss 3), stW cI (sa 4) (ss 4), stW cI (sa 5) (ss 5)]) hD hS hA [0, 1, 2, 3, 4, 5, 6, 7, 8] rfl
      refine wq_calli (vx_runSW (As := [.ref (x 0), .int (iI ((lowF ((g (k + 1))) (4)))), .int (iI ((-(lowF ((g (k + 2))) (200))))), .int (iI ((lowF ((g (k + 3))) (200))))]) (rest := []) ⟨hx, hb, hml, hown, hts⟩ (c_L_bounds l hl9 D cI cO cC cL s.heap.size x a sv o rd bu ln σ κ sa ss ((lowF ((g (k + 1))) (4))) ((-(lowF ((g (k + 2))) (200)))) ((lowF ((g (k + 3))) (200))) T (by first | assumption | omega) (by first | assumption | omega) (by first | assumption | omega) (by first | assumption | omega)) (vx_cwSW 4 hts gL_act_L_bounds rfl rfl rfl (by decide +kernel) ⟨Nat.le_of_ble_eq_true rfl, Nat.le_of_ble_eq_true rfl⟩) ⟨pcWX_blind, pcWX_of hP hK hD hZ hFc⟩ rfl rfl hl.1 rfl (lv_room (Nat.le_of_ble_eq_true rfl)) dL_act_374 ⟨Nat.le_of_ble_eq_true rfl, Nat.le_of_ble_eq_true rfl⟩) hS (fun q _ h => hFc q h) hFc (fun r48 u50 t9 H1 locs ht9 hvm hcl49 hB hz1 hk1 hS => ?_)
      obtain ⟨hP1, hK1, hD1⟩ := hB
      rw [ht9] at hP1
      obtain ⟨hP, hD⟩ := fl_join (SR := []) (S1 := [mnW x a sv o rd bu ln, stW cI a (PS.σ u50), svO cO sv (saF (PS.sa u50)) (PS.κ u50), stW cI ((PS.sa u50) 0) ((PS.ss u50) 0), stW cI ((PS.sa u50) 1) ((PS.ss u50) 1), stW cI ((PS.sa u50) 2) ((PS.ss u50) 2), stW cI ((PS.sa u50) 3) ((PS.ss u50) 3), stW cI ((PS.sa u50) 4) ((PS.ss u50) 4), stW cI ((PS.sa u50) 5) ((PS.ss u50) 5)]) hP hD [0, 1, 2, 3, 4, 5, 6, 7, 8] [] rfl rfl (by decide) (by decide) hk1 hFc hP1 hD1
      generalize H1 = H at hP hS ⊢
      have hP : va_P D vwCl (fl [mnW x a sv o rd bu ln, stW cI a (PS.σ u50), svO cO sv (saF (PS.sa u50)) (PS.κ u50), stW cI ((PS.sa u50) 0) ((PS.ss u50) 0), stW cI ((PS.sa u50) 1) ((PS.ss u50) 1), stW cI ((PS.sa u50) 2) ((PS.ss u50) 2), stW cI ((PS.sa u50) 3) ((PS.ss u50) 3), stW cI ((PS.sa u50) 4) ((PS.ss u50) 4), stW cI ((PS.sa u50) 5) ((PS.ss u50) 5)]) H := hP
      have hD : va_D A (fl [mnW x a sv o rd bu ln, stW cI a (PS.σ u50), svO cO sv (saF (PS.sa u50)) (PS.κ u50), stW cI ((PS.sa u50) 0) ((PS.ss u50) 0), stW cI ((PS.sa u50) 1) ((PS.ss u50) 1), stW cI ((PS.sa u50) 2) ((PS.ss u50) 2), stW cI ((PS.sa u50) 3) ((PS.ss u50) 3), stW cI ((PS.sa u50) 4) ((PS.ss u50) 4), stW cI ((PS.sa u50) 5) ((PS.ss u50) 5)]) := hD
      refine W.widen (k := 1) (n := 6) (by decide) (by decide) ?_
      exact W.iret (v := iI (r48)) hx hb hr (fun t9 ht9 hW9 => ⟨⟨(r48), ⟨(PS.σ u50), (PS.κ u50), (PS.sa u50), (PS.ss u50)⟩, rfl, (AQ.mono hcl49 (by omega)), ⟨by rw [ht9]; exact hP, va_K.moved hW9.alike hK, hD⟩⟩, hS.F ht9⟩) hS.2.2 dL_act_377 hlocks
    by_cases hc72_15 : (lowF ((g k)) (18)) = 15
    · skip
      refine lv_tableIn (tgt := 378) hx hb dL_act_72 (by rw [hsx]; omega) (by rw [hsx]; omega) (off := 306) (by rw [hsx, hc72_15]; rfl) (by decide) ?_
      refine lv_aload_n hx hb dL_act_378 rfl (lv_at hl 6 rfl) ?_
      refine lv_iload_n hx hb dL_act_379 rfl (lv_at hl 5 rfl) ?_
      refine wi_iconst hx hb dL_act_380 ?_
      refine wr_calli (va_runS (As := [.int (iI ((g (k + 1)))), .int (iI (2))]) (rest := [.ref (x 0)]) ⟨hx, hb, hml, hown, hts⟩ (c_L_low l D cI cO cC cL ((g (k + 1))) (2) (by first | assumption | omega)) (cwS 2 hts gL_act_L_low rfl rfl rfl (by decide +kernel) ⟨Nat.le_of_ble_eq_true rfl, Nat.le_of_ble_eq_true rfl⟩) ⟨fun _ _ _ _ h => h, fun U hU hW => ⟨rfl, trivial⟩⟩ rfl rfl hl.1 rfl (lv_room (Nat.le_of_ble_eq_true rfl)) dL_act_381 ⟨(Nat.zero_le _), (Nat.zero_le _)⟩) (fun r51 hr51 => ?_)
      subst hr51
      have hlf381 := lowF_r (g (k + 1)) (n := 2) (by omega)
      refine wi_iconst hx hb dL_act_384 ?_
      refine lv_iload hx hb dL_act_385 (lv_at hl 4 rfl) ?_
      refine wi_bipush hx hb dL_act_387 (by decide) ?_
      refine wr_calli (va_runS (As := [.int (iI ((g (k + 2)))), .int (iI (16))]) (rest := [.int (iI (1)), .int (iI ((lowF ((g (k + 1))) (2)))), .ref (x 0)]) ⟨hx, hb, hml, hown, hts⟩ (c_L_low l D cI cO cC cL ((g (k + 2))) (16) (by first | assumption | omega)) (cwS 2 hts gL_act_L_low rfl rfl rfl (by decide +kernel) ⟨Nat.le_of_ble_eq_true rfl, Nat.le_of_ble_eq_true rfl⟩) ⟨fun _ _ _ _ h => h, fun U hU hW => ⟨rfl, trivial⟩⟩ rfl rfl hl.1 rfl (lv_room (Nat.le_of_ble_eq_true rfl)) dL_act_389 ⟨(Nat.zero_le _), (Nat.zero_le _)⟩) (fun r52 hr52 => ?_)
      subst hr52
      have hlf389 := lowF_r (g (k + 2)) (n := 16) (by omega)
      refine wi_iadd hx hb dL_act_392 ?_
      have hv99 : 1 ≤ (1 + (lowF ((g (k + 2))) (16))) ∧ (1 + (lowF ((g (k + 2))) (16))) ≤ (if (lowF ((g (k + 1))) (2)) = 0 then 16 else 99) := by
        refine ⟨by omega, ?_⟩
        split <;> omega
      have hFc := fl_free (SC := [mnW x a sv o rd bu ln, stW cI a σ, svO cO sv (saF sa) κ, stW cI (sa 0) (ss 0), stW cI (sa 1) (ss 1), stW cI (sa 2) (ss 2), stW cI (sa 3) (ss 3), stW cI (sa 4) (ss 4), stW cI (sa 5) (ss 5)]) hD hS hA [0, 1, 2, 3, 4, 5, 6, 7, 8] rfl
      refine wq_calli (va_runV (As := [.int (iI ((lowF ((g (k + 1))) (2)))), .int (iI ((1 + (lowF ((g (k + 2))) (16)))))]) (rest := []) ⟨hx, hb, hml, hown, hts⟩ (c_X4_set l D cI cO cC cL s.heap.size x a sv o rd bu ln σ κ sa ss ((lowF ((g (k + 1))) (2))) ((1 + (lowF ((g (k + 2))) (16)))) (by omega) (hv99) (by omega) (hI)) (cwV 2 hts gL_act_X4_set rfl rfl rfl (by decide +kernel) ⟨Nat.le_of_ble_eq_true rfl, Nat.le_of_ble_eq_true rfl⟩) ⟨pcW_blind, va_recv hK hP (ci := 4) (q0 := 0) rfl rfl, pcW_of hP hK hD⟩ rfl rfl hl.1 rfl (lv_room (Nat.le_of_ble_eq_true rfl)) dL_act_393 ⟨(Nat.zero_le _), (Nat.zero_le _)⟩) hS (fun q _ h => hFc q h) hFc (fun r53 u55 t9 H1 locs ht9 hvm hcl54 hB hz1 hk1 hS => ?_)
      obtain ⟨hP1, hK1, hD1⟩ := hB
      rw [ht9] at hP1
      obtain ⟨hP, hD⟩ := fl_join (SR := []) (S1 := [mnW x a sv o rd bu ln, stW cI a (sU σ 1 ((lowF ((g (k + 1))) (2))) ((1 + (lowF ((g (k + 2))) (16))))), svO cO sv (saF (pushA (κ 0 0) sa)) (sU κ 0 0 (pushK (κ 0 0))), stW cI (pushA (κ 0 0) sa 0) (pushS (κ 0 0) ss σ 0), stW cI (pushA (κ 0 0) sa 1) (pushS (κ 0 0) ss σ 1), stW cI (pushA (κ 0 0) sa 2) (pushS (κ 0 0) ss σ 2), stW cI (pushA (κ 0 0) sa 3) (pushS (κ 0 0) ss σ 3), stW cI (pushA (κ 0 0) sa 4) (pushS (κ 0 0) ss σ 4), stW cI (pushA (κ 0 0) sa 5) (pushS (κ 0 0) ss σ 5)]) hP hD [0, 1, 2, 3, 4, 5, 6, 7, 8] [] rfl rfl (by decide) (by decide) hk1 hFc hP1 hD1
      generalize H1 = H at hP hS ⊢
      have hP : va_P D vwCl (fl [mnW x a sv o rd bu ln, stW cI a (sU σ 1 ((lowF ((g (k + 1))) (2))) ((1 + (lowF ((g (k + 2))) (16))))), svO cO sv (saF (pushA (κ 0 0) sa)) (sU κ 0 0 (pushK (κ 0 0))), stW cI (pushA (κ 0 0) sa 0) (pushS (κ 0 0) ss σ 0), stW cI (pushA (κ 0 0) sa 1) (pushS (κ 0 0) ss σ 1), stW cI (pushA (κ 0 0) sa 2) (pushS (κ 0 0) ss σ 2), stW cI (pushA (κ 0 0) sa 3) (pushS (κ 0 0) ss σ 3), stW cI (pushA (κ 0 0) sa 4) (pushS (κ 0 0) ss σ 4), stW cI (pushA (κ 0 0) sa 5) (pushS (κ 0 0) ss σ 5)]) H := hP
      have hD : va_D A (fl [mnW x a sv o rd bu ln, stW cI a (sU σ 1 ((lowF ((g (k + 1))) (2))) ((1 + (lowF ((g (k + 2))) (16))))), svO cO sv (saF (pushA (κ 0 0) sa)) (sU κ 0 0 (pushK (κ 0 0))), stW cI (pushA (κ 0 0) sa 0) (pushS (κ 0 0) ss σ 0), stW cI (pushA (κ 0 0) sa 1) (pushS (κ 0 0) ss σ 1), stW cI (pushA (κ 0 0) sa 2) (pushS (κ 0 0) ss σ 2), stW cI (pushA (κ 0 0) sa 3) (pushS (κ 0 0) ss σ 3), stW cI (pushA (κ 0 0) sa 4) (pushS (κ 0 0) ss σ 4), stW cI (pushA (κ 0 0) sa 5) (pushS (κ 0 0) ss σ 5)]) := hD
      have hGS := hG.1.sett (k := (lowF ((g (k + 1))) (2))) (v := (1 + (lowF ((g (k + 2))) (16)))) (by omega) hv99
      have hr9 : r53 = σ 1 (lowF ((g (k + 1))) (2)) := hcl54
      have hr8 : 1 ≤ r53 ∧ r53 ≤ 99 := by
        rw [hr9]; rcases (show (lowF ((g (k + 1))) (2)) = 0 ∨ (lowF ((g (k + 1))) (2)) = 1 by omega) with h8 | h8 <;> rw [h8] <;> omega
      refine W.widen (k := 1) (n := 6) (by decide) (by decide) ?_
      exact W.iret (v := iI (r53)) hx hb hr (fun t9 ht9 hW9 => ⟨⟨(r53), ⟨(sU σ 1 ((lowF ((g (k + 1))) (2))) ((1 + (lowF ((g (k + 2))) (16))))), (sU κ 0 0 (pushK (κ 0 0))), (pushA (κ 0 0) sa), pushS (κ 0 0) ss σ⟩, rfl, (AQ.mk (hG.push (show T ≤ T + 8 by omega) ((hGS).mono (by omega))) rfl rfl rfl (by omega)), ⟨by rw [ht9]; exact hP, va_K.moved hW9.alike hK, hD⟩⟩, hS.F ht9⟩) hS.2.2 dL_act_396 hlocks
    by_cases hc72_16 : (lowF ((g k)) (18)) = 16
    · skip
      refine lv_tableIn (tgt := 397) hx hb dL_act_72 (by rw [hsx]; omega) (by rw [hsx]; omega) (off := 325) (by rw [hsx, hc72_16]; rfl) (by decide) ?_
      refine lv_aload_n hx hb dL_act_397 rfl (lv_at hl 6 rfl) ?_
      have hFc := fl_free (SC := [mnW x a sv o rd bu ln, stW cI a σ, svO cO sv (saF sa) κ, stW cI (sa 0) (ss 0), stW cI (sa 1) (ss 1), stW cI (sa 2) (ss 2), stW cI (sa 3) (ss 3), stW cI (sa 4) (ss 4), stW cI (sa 5) (ss 5)]) hD hS hA [0, 1, 2, 3, 4, 5, 6, 7, 8] rfl
      refine wq_calli (vx_runSW (As := [.ref (x 0)]) (rest := []) ⟨hx, hb, hml, hown, hts⟩ (c_L_undo l hl9 D cI cO cC cL s.heap.size x a sv o rd bu ln σ κ sa ss T (by first | assumption | omega)) (vx_cwSW 1 hts gL_act_L_undo rfl rfl rfl (by decide +kernel) ⟨Nat.le_of_ble_eq_true rfl, Nat.le_of_ble_eq_true rfl⟩) ⟨pcWX_blind, pcWX_of hP hK hD hZ hFc⟩ rfl rfl hl.1 rfl (lv_room (Nat.le_of_ble_eq_true rfl)) dL_act_398 ⟨Nat.le_of_ble_eq_true rfl, Nat.le_of_ble_eq_true rfl⟩) hS (fun q _ h => hFc q h) hFc (fun r56 u58 t9 H1 locs ht9 hvm hcl57 hB hz1 hk1 hS => ?_)
      obtain ⟨hP1, hK1, hD1⟩ := hB
      rw [ht9] at hP1
      obtain ⟨hP, hD⟩ := fl_join (SR := []) (S1 := [mnW x a sv o rd bu ln, stW cI a (PS.σ u58), svO cO sv (saF (PS.sa u58)) (PS.κ u58), stW cI ((PS.sa u58) 0) ((PS.ss u58) 0), stW cI ((PS.sa u58) 1) ((PS.ss u58) 1), stW cI ((PS.sa u58) 2) ((PS.ss u58) 2), stW cI ((PS.sa u58) 3) ((PS.ss u58) 3), stW cI ((PS.sa u58) 4) ((PS.ss u58) 4), stW cI ((PS.sa u58) 5) ((PS.ss u58) 5)]) hP hD [0, 1, 2, 3, 4, 5, 6, 7, 8] [] rfl rfl (by decide) (by decide) hk1 hFc hP1 hD1
      generalize H1 = H at hP hS ⊢
      have hP : va_P D vwCl (fl [mnW x a sv o rd bu ln, stW cI a (PS.σ u58), svO cO sv (saF (PS.sa u58)) (PS.κ u58), stW cI ((PS.sa u58) 0) ((PS.ss u58) 0), stW cI ((PS.sa u58) 1) ((PS.ss u58) 1), stW cI ((PS.sa u58) 2) ((PS.ss u58) 2), stW cI ((PS.sa u58) 3) ((PS.ss u58) 3), stW cI ((PS.sa u58) 4) ((PS.ss u58) 4), stW cI ((PS.sa u58) 5) ((PS.ss u58) 5)]) H := hP
      have hD : va_D A (fl [mnW x a sv o rd bu ln, stW cI a (PS.σ u58), svO cO sv (saF (PS.sa u58)) (PS.κ u58), stW cI ((PS.sa u58) 0) ((PS.ss u58) 0), stW cI ((PS.sa u58) 1) ((PS.ss u58) 1), stW cI ((PS.sa u58) 2) ((PS.ss u58) 2), stW cI ((PS.sa u58) 3) ((PS.ss u58) 3), stW cI ((PS.sa u58) 4) ((PS.ss u58) 4), stW cI ((PS.sa u58) 5) ((PS.ss u58) 5)]) := hD
      refine W.widen (k := 1) (n := 6) (by decide) (by decide) ?_
      exact W.iret (v := iI (r56)) hx hb hr (fun t9 ht9 hW9 => ⟨⟨(r56), ⟨(PS.σ u58), (PS.κ u58), (PS.sa u58), (PS.ss u58)⟩, rfl, (AQ.mono hcl57 (by omega)), ⟨by rw [ht9]; exact hP, va_K.moved hW9.alike hK, hD⟩⟩, hS.F ht9⟩) hS.2.2 dL_act_401 hlocks
    refine lv_tableOut (tgt := 402) hx hb dL_act_72 (by rw [hsx]; omega) (by decide) ?_
    refine lv_aload_n hx hb dL_act_402 rfl (lv_at hl 6 rfl) ?_
    refine wi_iconst hx hb dL_act_403 ?_
    refine lv_iload hx hb dL_act_404 (lv_at hl 4 rfl) ?_
    refine wi_bipush hx hb dL_act_406 (by decide) ?_
    refine wr_calli (va_runS (As := [.int (iI ((g (k + 2)))), .int (iI (8))]) (rest := [.int (iI (1)), .ref (x 0)]) ⟨hx, hb, hml, hown, hts⟩ (c_L_low l D cI cO cC cL ((g (k + 2))) (8) (by first | assumption | omega)) (cwS 2 hts gL_act_L_low rfl rfl rfl (by decide +kernel) ⟨Nat.le_of_ble_eq_true rfl, Nat.le_of_ble_eq_true rfl⟩) ⟨fun _ _ _ _ h => h, fun U hU hW => ⟨rfl, trivial⟩⟩ rfl rfl hl.1 rfl (lv_room (Nat.le_of_ble_eq_true rfl)) dL_act_408 ⟨(Nat.zero_le _), (Nat.zero_le _)⟩) (fun r59 hr59 => ?_)
    subst hr59
    have hlf408 := lowF_r (g (k + 2)) (n := 8) (by omega)
    refine wi_iadd hx hb dL_act_411 ?_
    have hFc := fl_free (SC := [mnW x a sv o rd bu ln, stW cI a σ, svO cO sv (saF sa) κ, stW cI (sa 0) (ss 0), stW cI (sa 1) (ss 1), stW cI (sa 2) (ss 2), stW cI (sa 3) (ss 3), stW cI (sa 4) (ss 4), stW cI (sa 5) (ss 5)]) hD hS hA [0, 1, 2, 3, 4, 5, 6, 7, 8] rfl
    refine wq_calli (va_runV (As := [.int (iI ((1 + (lowF ((g (k + 2))) (8)))))]) (rest := []) ⟨hx, hb, hml, hown, hts⟩ (c_X4_pass l D cI cO cC cL s.heap.size x a sv o rd bu ln σ κ sa ss ((1 + (lowF ((g (k + 2))) (8)))) (by first | assumption | omega) (by first | assumption | omega) (by first | assumption | omega) (by first | assumption | omega)) (cwV 1 hts gL_act_X4_pass rfl rfl rfl (by decide +kernel) ⟨Nat.le_of_ble_eq_true rfl, Nat.le_of_ble_eq_true rfl⟩) ⟨pcW_blind, va_recv hK hP (ci := 4) (q0 := 0) rfl rfl, pcW_of hP hK hD⟩ rfl rfl hl.1 rfl (lv_room (Nat.le_of_ble_eq_true rfl)) dL_act_412 ⟨(Nat.zero_le _), (Nat.zero_le _)⟩) hS (fun q _ h => hFc q h) hFc (fun r60 u62 t9 H1 locs ht9 hvm hcl61 hB hz1 hk1 hS => ?_)
    obtain ⟨hP1, hK1, hD1⟩ := hB
    rw [ht9] at hP1
    obtain ⟨hP, hD⟩ := fl_join (SR := []) (S1 := [mnW x a sv o rd bu ln, stW cI a (pasT σ ((1 + (lowF ((g (k + 2))) (8))))), svO cO sv (saF (pushA (κ 0 0) sa)) (sU κ 0 0 (pushK (κ 0 0))), stW cI (pushA (κ 0 0) sa 0) (pushS (κ 0 0) ss σ 0), stW cI (pushA (κ 0 0) sa 1) (pushS (κ 0 0) ss σ 1), stW cI (pushA (κ 0 0) sa 2) (pushS (κ 0 0) ss σ 2), stW cI (pushA (κ 0 0) sa 3) (pushS (κ 0 0) ss σ 3), stW cI (pushA (κ 0 0) sa 4) (pushS (κ 0 0) ss σ 4), stW cI (pushA (κ 0 0) sa 5) (pushS (κ 0 0) ss σ 5)]) hP hD [0, 1, 2, 3, 4, 5, 6, 7, 8] [] rfl rfl (by decide) (by decide) hk1 hFc hP1 hD1
    generalize H1 = H at hP hS ⊢
    have hP : va_P D vwCl (fl [mnW x a sv o rd bu ln, stW cI a (pasT σ ((1 + (lowF ((g (k + 2))) (8))))), svO cO sv (saF (pushA (κ 0 0) sa)) (sU κ 0 0 (pushK (κ 0 0))), stW cI (pushA (κ 0 0) sa 0) (pushS (κ 0 0) ss σ 0), stW cI (pushA (κ 0 0) sa 1) (pushS (κ 0 0) ss σ 1), stW cI (pushA (κ 0 0) sa 2) (pushS (κ 0 0) ss σ 2), stW cI (pushA (κ 0 0) sa 3) (pushS (κ 0 0) ss σ 3), stW cI (pushA (κ 0 0) sa 4) (pushS (κ 0 0) ss σ 4), stW cI (pushA (κ 0 0) sa 5) (pushS (κ 0 0) ss σ 5)]) H := hP
    have hD : va_D A (fl [mnW x a sv o rd bu ln, stW cI a (pasT σ ((1 + (lowF ((g (k + 2))) (8))))), svO cO sv (saF (pushA (κ 0 0) sa)) (sU κ 0 0 (pushK (κ 0 0))), stW cI (pushA (κ 0 0) sa 0) (pushS (κ 0 0) ss σ 0), stW cI (pushA (κ 0 0) sa 1) (pushS (κ 0 0) ss σ 1), stW cI (pushA (κ 0 0) sa 2) (pushS (κ 0 0) ss σ 2), stW cI (pushA (κ 0 0) sa 3) (pushS (κ 0 0) ss σ 3), stW cI (pushA (κ 0 0) sa 4) (pushS (κ 0 0) ss σ 4), stW cI (pushA (κ 0 0) sa 5) (pushS (κ 0 0) ss σ 5)]) := hD
    have hGS := hG.1.pas (u := (1 + (lowF ((g (k + 2))) (8)))) (by omega) hT
    have hr9 : r60 = σ 0 1 - pasT σ (1 + (lowF ((g (k + 2))) (8))) 0 1 := hcl61
    have hfn := hGS.1.1.n
    have hfl := hGS.2
    refine W.widen (k := 1) (n := 6) (by decide) (by decide) ?_
    exact W.iret (v := iI (r60)) hx hb hr (fun t9 ht9 hW9 => ⟨⟨(r60), ⟨(pasT σ ((1 + (lowF ((g (k + 2))) (8))))), (sU κ 0 0 (pushK (κ 0 0))), (pushA (κ 0 0) sa), pushS (κ 0 0) ss σ⟩, rfl, (AQ.mk (hG.push (show T ≤ T + 8 by omega) hGS.1) rfl rfl rfl (by omega)), ⟨by rw [ht9]; exact hP, va_K.moved hW9.alike hK, hD⟩⟩, hS.F ht9⟩) hS.2.2 dL_act_415 hlocks
  refine lv_iload hx hb dL_act_33 (lv_at hl 0 rfl) ?_
  refine wi_if_ne (tgt := 42) hx hb dL_act_35 (by decide) (by omega) (fun c_35 => ?_) (fun c_35 => ?_)
  · skip
    refine lv_iload_n hx hb dL_act_42 rfl (lv_at hl 3 rfl) ?_
    refine lv_iload hx hb dL_act_43 (lv_at hl 0 rfl) ?_
    refine wr_calli (va_runS (As := [.int (iI ((g (k + 1)))), .int (iI ((σ 0 1)))]) (rest := []) ⟨hx, hb, hml, hown, hts⟩ (c_L_low l D cI cO cC cL ((g (k + 1))) ((σ 0 1)) (by first | assumption | omega)) (cwS 2 hts gL_act_L_low rfl rfl rfl (by decide +kernel) ⟨Nat.le_of_ble_eq_true rfl, Nat.le_of_ble_eq_true rfl⟩) ⟨fun _ _ _ _ h => h, fun U hU hW => ⟨rfl, trivial⟩⟩ rfl rfl hl.1 rfl (lv_room (Nat.le_of_ble_eq_true rfl)) dL_act_45 ⟨(Nat.zero_le _), (Nat.zero_le _)⟩) (fun r63 hr63 => ?_)
    subst hr63
    have hlf45 := lowF_r (g (k + 1)) (n := (σ 0 1)) (by omega)
    exact L48 ((lowF ((g (k + 1))) ((σ 0 1)))) (by omega)  ls (lv_sub hl [0, 1, 2, 3, 4, 5, 6] rfl)
  · skip
    refine wi_iconst hx hb dL_act_38 ?_
    refine lv_goto (tgt := 48) hx hb dL_act_39 (by decide) ?_
    exact L48 (0) (by omega)  ls (lv_sub hl [0, 1, 2, 3, 4, 5, 6] rfl)
