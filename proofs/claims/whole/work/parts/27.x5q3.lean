set_option maxHeartbeats 4000000 in
set_option maxRecDepth 100000 in
theorem c_X5_finish (l : Launch) (D : va_G) (cI cO cC cL : ClassId) (sz : Nat) (b : Nat → Nat) (μ σ : Nat → Int → Int) (ss : Nat → Nat → Int → Int) (β : Int → Int) (o iz : Int) (ho : R32 o) (hiz : iz = 0 ∨ iz = 1) (hM : RelM σ (μ 0 0) ss (μ 0 1) β μ) (hG : GI σ (μ 0 0) ss (μ 0 1) β) : Met l yX5_finish wsX5_finish ({ frames := 3, cells := 0, slots := 0, locals := 66 } : Room) (pcW D [(cI, FieldType.int)] [.ref (b 0), .int (iI (o)), .int (iI (iz))] (fl [mdW cI b μ]) sz) (wq_i (fun (r : Int) (μ' : Nat → Int → Int) => OPQ (cd1 (0 ≤ o ∧ o ≤ 5)) r (σ 0 1 - finS σ o iz 0 1) (μ' 0 2) (RelM σ (μ 0 0) ss (μ 0 1) β μ') (RelM (finS σ o iz) (pushK (μ 0 0)) (pushS (μ 0 0) ss σ) (μ 0 1) β μ')) (fun (μ' : Nat → Int → Int) => (bW D [(cI, FieldType.int)] (fl [mdW cI b μ']) (va_A (fl [mdW cI b μ]) sz))) (va_A (fl [mdW cI b μ]) sz)) 0 0 (va_A (fl [mdW cI b μ]) sz) := by
  refine Met.ofW (cc := cX5_finish) (maxL := 5) (ret := (some .int)) (by decide) rfl ?_
  intro p9 e9 s m args9 below9 meth9 c9 s₁ B hml hv
  obtain ⟨rfl, hsz, hP, hK, hD0⟩ := hv
  have hx := B.exec
  have hb := B.bytes
  have hr := B.returns
  have hts := atoms_spec (ws := wsX5_finish) B.pre
  have hown : s.vm.findClass RX5 = some m.cls := findClass_of_methodNamed B.named
  have hlocks := B.notSynchronized
  subst hsz
  have hD := hD0.self (sz := s.heap.size)
  generalize hAe : va_A (fl [mdW cI b μ]) s.heap.size = A at hD ⊢
  have hA : ∀ q : Nat, s.heap.size ≤ q → A q := fun q h => by rw [← hAe]; exact Or.inr h
  have hS : va_S A s.heap s.heap [] := va_S.rf
  have hP : va_P D vwCl (fl [mdW cI b μ]) s.heap := hP
  have hl := lv_entry ([.ref (b 0), .int (iI (o)), .int (iI (iz))]) (n := 5) (Nat.le_of_ble_eq_true rfl)
  rw [lg_entry_eq]
  generalize (lg_sl ([.ref (b 0), .int (iI (o)), .int (iI (iz))]) ++ List.replicate (5 - (lg_sl ([.ref (b 0), .int (iI (o)), .int (iI (iz))])).length) Slot.unset).toArray = ls at hl ⊢
  have hl : lv_has ls 5 [(0, .ref (b 0)), (1, .int (iI (o))), (2, .int (iI (iz)))] := hl
  have hw_0 := hts (.fieldLink RX5 25 "PromisedCountersModel" "thrown" "I") (by decide +kernel)
  have hin_X5 : ∀ w ∈ u_ws RX5 TX5 12, w ∈ wsX5_finish := by decide +kernel
  have hw_1 := hts (.fieldLink RX5 7 "PromisedCountersModel" "now" "[I") (by decide +kernel)
  have hI := hG.1
  have hR := hM.1
  have hn := hI.n
  have hti := hI.t
  obtain ⟨hm0, hm1, hm2, hm3, hm4⟩ := hR.1
  refine lv_aload_n hx hb dX5_finish_0 rfl (lv_at hl 0 rfl) ?_
  refine wi_iconst hx hb dX5_finish_1 ?_
  refine va_put (D := D) (ci := 5) (v := .int (iI (0))) (ty := .int) (C := RX5) (T := TX5) (N := 12) hx hb hts hin_X5 tyX5 tyX5_ok nmX5 hown hK hP hD hS 0 rfl rfl 5 (by decide) hw_0 (fun _ h9 => h9) rfl (by decide +kernel) rfl rfl (Nat.le_of_ble_eq_true rfl) dX5_finish_2 (fun H locs hP hD hS => ?_)
  have hP : va_P D vwCl (fl [mdW cI b (sU μ 0 (2) (0))]) H := hP
  have hD : va_D A (fl [mdW cI b (sU μ 0 (2) (0))]) := hD
  refine lv_iload_n hx hb dX5_finish_5 rfl (lv_at hl 1 rfl) ?_
  refine wr_calli (va_runS (As := [.int (iI (o))]) (rest := []) ⟨hx, hb, hml, hown, hts⟩ (c_X5_isOwner l D cI cO cC cL (o) (by omega)) (cwS 1 hts gX5_finish_X5_isOwner rfl rfl rfl (by decide +kernel) ⟨Nat.le_of_ble_eq_true rfl, Nat.le_of_ble_eq_true rfl⟩) ⟨fun _ _ _ _ h => h, fun U hU hW => ⟨rfl, trivial⟩⟩ rfl rfl hl.1 rfl (lv_room (Nat.le_of_ble_eq_true rfl)) dX5_finish_6 ⟨(Nat.zero_le _), (Nat.zero_le _)⟩) (fun r1 hr1 => ?_)
  subst hr1
  refine wi_if_ne (tgt := 18) hx hb dX5_finish_9 (by decide) (by omega) (fun c_9 => ?_) (fun c_9 => ?_)
  · skip
    refine lv_aload_n hx hb dX5_finish_18 rfl (lv_at hl 0 rfl) ?_
    have hFc := fl_free (SC := [mdW cI b (sU μ 0 (2) (0))]) hD hS hA [0] rfl
    refine va_callv (va_runV (As := []) (rest := []) ⟨hx, hb, hml, hown, hts⟩ (c_X5_saves l D cI cO cC cL H.size b (sU μ 0 (2) (0)) σ ss (hG.2.1) (by omega) (hR) (hM.2.2.1) (hG.2.2.1)) (cwV 0 hts gX5_finish_X5_saves rfl rfl rfl (by decide +kernel) ⟨Nat.le_of_ble_eq_true rfl, Nat.le_of_ble_eq_true rfl⟩) ⟨pcW_blind, va_recv hK hP (ci := 5) (q0 := 0) rfl rfl, pcW_of hP hK hD⟩ rfl rfl hl.1 rfl (lv_room (Nat.le_of_ble_eq_true rfl)) dX5_finish_19 ⟨(Nat.zero_le _), (Nat.zero_le _)⟩) hS (fun q _ h => hFc q h) hFc (fun  u3 t9 H1 locs ht9 hvm hcl2 hB hz1 hk1 hS => ?_)
    obtain ⟨hP1, hK1, hD1⟩ := hB
    rw [ht9] at hP1
    obtain ⟨hP, hD⟩ := fl_join (SR := []) (S1 := [mdW cI b (sU (sR (sU μ 0 (2) (0)) 2 u3) 0 0 (pushK ((sU μ 0 (2) (0)) 0 0)))]) hP hD [0] [] rfl rfl (by decide) (by decide) hk1 hFc hP1 hD1
    generalize H1 = H at hP hS ⊢
    have hP : va_P D vwCl (fl [mdW cI b (sU (sR (sU μ 0 (2) (0)) 2 u3) 0 0 (pushK ((sU μ 0 (2) (0)) 0 0)))]) H := hP
    have hD : va_D A (fl [mdW cI b (sU (sR (sU μ 0 (2) (0)) 2 u3) 0 0 (pushK ((sU μ 0 (2) (0)) 0 0)))]) := hD
    refine lv_aload_n hx hb dX5_finish_22 rfl (lv_at hl 0 rfl) ?_
    refine va_get (D := D) (ci := 5) (v := .ref (b 1)) (C := RX5) (T := TX5) (N := 12) hx hb hts hin_X5 hown hK hP 0 rfl rfl 0 (by decide) hw_1 (fun _ h9 => h9) rfl dX5_finish_23 ?_
    refine wi_iconst hx hb dX5_finish_26 ?_
    refine wi_iald hx hb hK hP 1 0 (n := 115) (f := μ 1) rfl rfl (i := 3) (by omega) (by decide) dX5_finish_27 ?_
    refine lv_istore_n (lv' := [(3, .int (iI ((μ 1 (3))))), (0, .ref (b 0)), (1, .int (iI (o))), (2, .int (iI (iz)))]) hx hb dX5_finish_28 rfl hl (by decide) rfl (fun ls hl => ?_)
    refine lv_aload_n hx hb dX5_finish_29 rfl (lv_at hl 1 rfl) ?_
    refine va_get (D := D) (ci := 5) (v := .ref (b 1)) (C := RX5) (T := TX5) (N := 12) hx hb hts hin_X5 hown hK hP 0 rfl rfl 0 (by decide) hw_1 (fun _ h9 => h9) rfl dX5_finish_30 ?_
    refine wi_iconst hx hb dX5_finish_33 ?_
    refine wi_iald hx hb hK hP 1 0 (n := 115) (f := μ 1) rfl rfl (i := 3) (by omega) (by decide) dX5_finish_34 ?_
    refine wi_iconst hx hb dX5_finish_35 ?_
    refine wi_isub hx hb dX5_finish_36 ?_
    refine lv_istore (lv' := [(4, .int (iI (((μ 1 (3)) - 1)))), (3, .int (iI ((μ 1 (3))))), (0, .ref (b 0)), (1, .int (iI (o))), (2, .int (iI (iz)))]) hx hb dX5_finish_37 hl (by decide) rfl (fun ls hl => ?_)
    have L39 : ∀ (k39 : Nat), ∀ (τ : Nat → Int → Int) (g : Int → Int) (p : Int), (p + 1).toNat < k39 → (-1 ≤ p ∧ p + 1 ≤ τ 0 1 ∧ τ 0 1 ≤ 16) → (RelN τ g) → (PQ τ) → (finI o iz (p + 1).toNat τ = finS σ o iz) → ∀ (H : Heap) (locs : List Loc), va_P D vwCl (fl [mdW cI b (sR (sU (sR (sU μ 0 (2) (0)) 2 u3) 0 0 (pushK ((sU μ 0 (2) (0)) 0 0))) 1 g)]) H → va_D A (fl [mdW cI b (sR (sU (sR (sU μ 0 (2) (0)) 2 u3) 0 0 (pushK ((sU μ 0 (2) (0)) 0 0))) 1 g)]) → va_S A s.heap H locs → ∀ (ls : Array Slot), lv_has ls 5 [(4, .int (iI (p))), (3, .int (iI ((μ 1 (3))))), (0, .ref (b 0)), (1, .int (iI (o))), (2, .int (iI (iz)))] → W p9 l e9 ({ frames := 3, cells := 0, slots := 0, locals := 66 } : Room) s m ([.ref (b 0), .int (iI (o)), .int (iI (iz))] : List Value).toArray below9 meth9 c9 H locs 0 0 (MQ below9 (wq_i (fun (r : Int) (μ' : Nat → Int → Int) => OPQ (cd1 (0 ≤ o ∧ o ≤ 5)) r (σ 0 1 - finS σ o iz 0 1) (μ' 0 2) (RelM σ (μ 0 0) ss (μ 0 1) β μ') (RelM (finS σ o iz) (pushK (μ 0 0)) (pushS (μ 0 0) ss σ) (μ 0 1) β μ')) (fun (μ' : Nat → Int → Int) => (bW D [(cI, FieldType.int)] (fl [mdW cI b μ']) A)) A) ([.ref (b 0), .int (iI (o)), .int (iI (iz))] : List Value).toArray s 0 0 A) (F0 m 39 ls []) := by
      intro k39
      induction k39 with
      | zero =>
        intro τ g p hm
        exact absurd hm (Nat.not_lt_zero _)
      | succ k39 ih39 =>
        intro τ g p hm39 hp hg hpq hfin H locs hP hD hS ls hl
        refine lv_iload hx hb dX5_finish_39 (lv_at hl 0 rfl) ?_
        refine wi_if_lt (tgt := 82) hx hb dX5_finish_41 (by decide) (by omega) (fun c_41 => ?_) (fun c_41 => ?_)
        · skip
          have hE : τ = finS σ o iz := by rw [← hfin, show p + 1 = 0 by omega]; rfl
          refine lv_iload_n hx hb dX5_finish_82 rfl (lv_at hl 1 rfl) ?_
          refine lv_aload_n hx hb dX5_finish_83 rfl (lv_at hl 2 rfl) ?_
          refine va_get (D := D) (ci := 5) (v := .ref (b 1)) (C := RX5) (T := TX5) (N := 12) hx hb hts hin_X5 hown hK hP 0 rfl rfl 0 (by decide) hw_1 (fun _ h9 => h9) rfl dX5_finish_84 ?_
          refine wi_iconst hx hb dX5_finish_87 ?_
          refine wi_iald hx hb hK hP 1 0 (n := 115) (f := g) rfl rfl (i := 3) (by omega) (by decide) dX5_finish_88 ?_
          refine wi_isub hx hb dX5_finish_89 ?_
          exact W.iret (v := iI (((μ 1 (3)) - (g (3))))) hx hb hr (fun t9 ht9 hW9 => ⟨⟨(((μ 1 (3)) - (g (3)))), (sR (sU (sR (sU μ 0 (2) (0)) 2 u3) 0 0 (pushK ((sU μ 0 (2) (0)) 0 0))) 1 g), rfl, (OPQ.good (by unfold cd1; first | (rw [if_pos (by omega)] <;> rfl) | (rw [if_neg (by omega)] <;> rfl)) rfl (by rw [← hE]; have := hg.1.2.2.2.1; omega) (⟨(hE ▸ hg), rfl, hcl2, rfl, hM.2.2.2.2⟩)), ⟨by rw [ht9]; exact hP, va_K.moved hW9.alike hK, hD⟩⟩, hS.F ht9⟩) hS.2.2 dX5_finish_90 hlocks
        · skip
          obtain ⟨hq0, hq1, hq2, hq3, hq4⟩ := hg.2.2.2 p (by omega) (by omega)
          have hpr := (hpq p (by omega) (by omega)).1
          have hp9 := (hpq p (by omega) (by omega)).2
          obtain ⟨hp1, hp2, hp3, hp4⟩ := id hpr
          have hg3 := hg.1.2.2.2.1
          have hg0 := hg.1.1
          refine lv_aload_n hx hb dX5_finish_44 rfl (lv_at hl 2 rfl) ?_
          refine lv_iload hx hb dX5_finish_45 (lv_at hl 0 rfl) ?_
          refine wi_iconst hx hb dX5_finish_47 ?_
          refine wr_calli (va_runV (As := [.int (iI (p)), .int (iI (0))]) (rest := []) ⟨hx, hb, hml, hown, hts⟩ (c_X5_of l D cI cO cC cL b (sR (sU (sR (sU μ 0 (2) (0)) 2 u3) 0 0 (pushK ((sU μ 0 (2) (0)) 0 0))) 1 g) (p) (0) (by omega) (by omega)) (cwV 2 hts gX5_finish_X5_of rfl rfl rfl (by decide +kernel) ⟨Nat.le_of_ble_eq_true rfl, Nat.le_of_ble_eq_true rfl⟩) ⟨pcR_blind, va_recv hK hP (ci := 5) (q0 := 0) rfl rfl, pcR_of hP hK⟩ rfl rfl hl.1 rfl (lv_room (Nat.le_of_ble_eq_true rfl)) dX5_finish_48 ⟨(Nat.zero_le _), (Nat.zero_le _)⟩) (fun r4 hr4 => ?_)
          subst hr4
          refine wi_top (y := (g (35 + 5 * (p) + (0)))) rfl ?_
          refine lv_iload_n hx hb dX5_finish_51 rfl (lv_at hl 3 rfl) ?_
          refine wi_icmp_ne (tgt := 76) hx hb dX5_finish_52 (by decide) (by omega) (fun c_52 => ?_) (fun c_52 => ?_)
          · skip
            refine wi_iinc (lv' := [(4, .int (iI ((p + (-1))))), (3, .int (iI ((μ 1 (3))))), (0, .ref (b 0)), (1, .int (iI (o))), (2, .int (iI (iz)))]) hx hb dX5_finish_76 hl (k := 0) rfl (by decide) rfl (fun ls hl => ?_)
            refine lv_goto (tgt := 39) hx hb dX5_finish_79 (by decide) ?_
            exact ih39 (τ) (g) ((p + (-1))) (by omega) (by omega) (hg) (hpq) (by rw [← hfin, show p + -1 + 1 = p by omega, finI_s o iz (k := p) (by omega)]; unfold fin1; rw [if_neg (by omega)]) _ _ hP hD hS ls (lv_sub hl [0, 1, 2, 3, 4] rfl)
          · skip
            refine lv_iload_n hx hb dX5_finish_55 rfl (lv_at hl 4 rfl) ?_
            refine wi_if_eq (tgt := 68) hx hb dX5_finish_56 (by decide) (by omega) (fun c_56 => ?_) (fun c_56 => ?_)
            · skip
              refine lv_aload_n hx hb dX5_finish_68 rfl (lv_at hl 2 rfl) ?_
              refine lv_iload hx hb dX5_finish_69 (lv_at hl 0 rfl) ?_
              refine wi_bipush hx hb dX5_finish_71 (by decide) ?_
              have hFc := fl_free (SC := [mdW cI b (sR (sU (sR (sU μ 0 (2) (0)) 2 u3) 0 0 (pushK ((sU μ 0 (2) (0)) 0 0))) 1 g)]) hD hS hA [0] rfl
              refine va_callv (va_runV (As := [.int (iI (p)), .int (iI (23))]) (rest := []) ⟨hx, hb, hml, hown, hts⟩ (c_X5_ends l D cI cO cC cL H.size b (sR (sU (sR (sU μ 0 (2) (0)) 2 u3) 0 0 (pushK ((sU μ 0 (2) (0)) 0 0))) 1 g) τ (p) (23) 11 (by omega) (hpr) (by omega) (hg)) (cwV 2 hts gX5_finish_X5_ends rfl rfl rfl (by decide +kernel) ⟨Nat.le_of_ble_eq_true rfl, Nat.le_of_ble_eq_true rfl⟩) ⟨pcW_blind, va_recv hK hP (ci := 5) (q0 := 0) rfl rfl, pcW_of hP hK hD⟩ rfl rfl hl.1 rfl (lv_room (Nat.le_of_ble_eq_true rfl)) dX5_finish_73 ⟨(Nat.zero_le _), (Nat.zero_le _)⟩) hS (fun q _ h => hFc q h) hFc (fun  u6 t9 H1 locs ht9 hvm hcl5 hB hz1 hk1 hS => ?_)
              obtain ⟨hP1, hK1, hD1⟩ := hB
              rw [ht9] at hP1
              obtain ⟨hP, hD⟩ := fl_join (SR := []) (S1 := [mdW cI b (sR (sR (sU (sR (sU μ 0 (2) (0)) 2 u3) 0 0 (pushK ((sU μ 0 (2) (0)) 0 0))) 1 g) 1 u6)]) hP hD [0] [] rfl rfl (by decide) (by decide) hk1 hFc hP1 hD1
              generalize H1 = H at hP hS ⊢
              have hP : va_P D vwCl (fl [mdW cI b (sR (sR (sU (sR (sU μ 0 (2) (0)) 2 u3) 0 0 (pushK ((sU μ 0 (2) (0)) 0 0))) 1 g) 1 u6)]) H := hP
              have hD : va_D A (fl [mdW cI b (sR (sR (sU (sR (sU μ 0 (2) (0)) 2 u3) 0 0 (pushK ((sU μ 0 (2) (0)) 0 0))) 1 g) 1 u6)]) := hD
              refine wi_iinc (lv' := [(4, .int (iI ((p + (-1))))), (3, .int (iI ((μ 1 (3))))), (0, .ref (b 0)), (1, .int (iI (o))), (2, .int (iI (iz)))]) hx hb dX5_finish_76 hl (k := 0) rfl (by decide) rfl (fun ls hl => ?_)
              refine lv_goto (tgt := 39) hx hb dX5_finish_79 (by decide) ?_
              exact ih39 ((canS τ p)) (u6) ((p + (-1))) (by omega) (by have h9 : (canS τ p) 0 1 = τ 0 1 - 1 := remS_n _ _; omega) (hcl5) (hpq.can (by omega)) (by rw [← hfin, show p + -1 + 1 = p by omega, finI_s o iz (k := p) (by omega)]; unfold fin1; rw [if_pos (by omega), if_pos (by omega)]) _ _ hP hD hS ls (lv_sub hl [0, 1, 2, 3, 4] rfl)
            · skip
              refine lv_aload_n hx hb dX5_finish_59 rfl (lv_at hl 2 rfl) ?_
              refine lv_iload hx hb dX5_finish_60 (lv_at hl 0 rfl) ?_
              have hFc := fl_free (SC := [mdW cI b (sR (sU (sR (sU μ 0 (2) (0)) 2 u3) 0 0 (pushK ((sU μ 0 (2) (0)) 0 0))) 1 g)]) hD hS hA [0] rfl
              refine va_callv (va_runV (As := [.int (iI (p))]) (rest := []) ⟨hx, hb, hml, hown, hts⟩ (c_X5_settles l D cI cO cC cL H.size b (sR (sU (sR (sU μ 0 (2) (0)) 2 u3) 0 0 (pushK ((sU μ 0 (2) (0)) 0 0))) 1 g) τ (p) (by omega) (hpr) (hg)) (cwV 1 hts gX5_finish_X5_settles rfl rfl rfl (by decide +kernel) ⟨Nat.le_of_ble_eq_true rfl, Nat.le_of_ble_eq_true rfl⟩) ⟨pcW_blind, va_recv hK hP (ci := 5) (q0 := 0) rfl rfl, pcW_of hP hK hD⟩ rfl rfl hl.1 rfl (lv_room (Nat.le_of_ble_eq_true rfl)) dX5_finish_62 ⟨(Nat.zero_le _), (Nat.zero_le _)⟩) hS (fun q _ h => hFc q h) hFc (fun  u8 t9 H1 locs ht9 hvm hcl7 hB hz1 hk1 hS => ?_)
              obtain ⟨hP1, hK1, hD1⟩ := hB
              rw [ht9] at hP1
              obtain ⟨hP, hD⟩ := fl_join (SR := []) (S1 := [mdW cI b (sR (sR (sU (sR (sU μ 0 (2) (0)) 2 u3) 0 0 (pushK ((sU μ 0 (2) (0)) 0 0))) 1 g) 1 u8)]) hP hD [0] [] rfl rfl (by decide) (by decide) hk1 hFc hP1 hD1
              generalize H1 = H at hP hS ⊢
              have hP : va_P D vwCl (fl [mdW cI b (sR (sR (sU (sR (sU μ 0 (2) (0)) 2 u3) 0 0 (pushK ((sU μ 0 (2) (0)) 0 0))) 1 g) 1 u8)]) H := hP
              have hD : va_D A (fl [mdW cI b (sR (sR (sU (sR (sU μ 0 (2) (0)) 2 u3) 0 0 (pushK ((sU μ 0 (2) (0)) 0 0))) 1 g) 1 u8)]) := hD
              refine lv_goto (tgt := 76) hx hb dX5_finish_65 (by decide) ?_
              refine wi_iinc (lv' := [(4, .int (iI ((p + (-1))))), (3, .int (iI ((μ 1 (3))))), (0, .ref (b 0)), (1, .int (iI (o))), (2, .int (iI (iz)))]) hx hb dX5_finish_76 hl (k := 0) rfl (by decide) rfl (fun ls hl => ?_)
              refine lv_goto (tgt := 39) hx hb dX5_finish_79 (by decide) ?_
              exact ih39 ((setS τ p)) (u8) ((p + (-1))) (by omega) (by have h9 : (setS τ p) 0 1 = τ 0 1 - 1 := remS_n _ _; omega) (hcl7) (hpq.set (by omega)) (by rw [← hfin, show p + -1 + 1 = p by omega, finI_s o iz (k := p) (by omega)]; unfold fin1; rw [if_pos (by omega), if_neg (by omega)]) _ _ hP hD hS ls (lv_sub hl [0, 1, 2, 3, 4] rfl)
    exact L39 _ (σ) (μ 1) (((μ 1 (3)) - 1)) (Nat.lt_succ_self _) (by omega) (hR) (hI.pq) (by unfold finS; rw [show μ 1 3 - 1 + 1 = σ 0 1 by omega]) _ _ hP hD hS ls (lv_sub hl [0, 1, 2, 3, 4] rfl)
  · skip
    refine lv_aload_n hx hb dX5_finish_12 rfl (lv_at hl 0 rfl) ?_
    refine wi_iconst hx hb dX5_finish_13 ?_
    have hFc := fl_free (SC := [mdW cI b (sU μ 0 (2) (0))]) hD hS hA [0] rfl
    refine wq_calli (va_runV (As := [.int (iI (1))]) (rest := []) ⟨hx, hb, hml, hown, hts⟩ (c_X5_fails l D cI cO cC cL H.size b (sU μ 0 (2) (0)) (1) ) (cwV 1 hts gX5_finish_X5_fails rfl rfl rfl (by decide +kernel) ⟨Nat.le_of_ble_eq_true rfl, Nat.le_of_ble_eq_true rfl⟩) ⟨pcW_blind, va_recv hK hP (ci := 5) (q0 := 0) rfl rfl, pcW_of hP hK hD⟩ rfl rfl hl.1 rfl (lv_room (Nat.le_of_ble_eq_true rfl)) dX5_finish_14 ⟨(Nat.zero_le _), (Nat.zero_le _)⟩) hS (fun q _ h => hFc q h) hFc (fun r9 u11 t9 H1 locs ht9 hvm hcl10 hB hz1 hk1 hS => ?_)
    obtain ⟨hP1, hK1, hD1⟩ := hB
    rw [ht9] at hP1
    obtain ⟨hP, hD⟩ := fl_join (SR := []) (S1 := [mdW cI b (sU (sU μ 0 (2) (0)) 0 2 (1))]) hP hD [0] [] rfl rfl (by decide) (by decide) hk1 hFc hP1 hD1
    generalize H1 = H at hP hS ⊢
    have hP : va_P D vwCl (fl [mdW cI b (sU (sU μ 0 (2) (0)) 0 2 (1))]) H := hP
    have hD : va_D A (fl [mdW cI b (sU (sU μ 0 (2) (0)) 0 2 (1))]) := hD
    exact W.iret (v := iI (r9)) hx hb hr (fun t9 ht9 hW9 => ⟨⟨(r9), (sU (sU μ 0 (2) (0)) 0 2 (1)), rfl, (OPQ.bad (k := 1) (by unfold cd1; first | (rw [if_pos (by omega)] <;> rfl) | (rw [if_neg (by omega)] <;> rfl)) (by decide) rfl hM), ⟨by rw [ht9]; exact hP, va_K.moved hW9.alike hK, hD⟩⟩, hS.F ht9⟩) hS.2.2 dX5_finish_17 hlocks
set_option maxHeartbeats 4000000 in
set_option maxRecDepth 100000 in
theorem c_X5_pass (l : Launch) (D : va_G) (cI cO cC cL : ClassId) (sz : Nat) (b : Nat → Nat) (μ σ : Nat → Int → Int) (ss : Nat → Nat → Int → Int) (β : Int → Int) (u : Int) (hu : R32 u) (hM : RelM σ (μ 0 0) ss (μ 0 1) β μ) (hG : GI σ (μ 0 0) ss (μ 0 1) β) : Met l yX5_pass wsX5_pass ({ frames := 2, cells := 0, slots := 0, locals := 45 } : Room) (pcW D [(cI, FieldType.int)] [.ref (b 0), .int (iI (u))] (fl [mdW cI b μ]) sz) (wq_i (fun (r : Int) (μ' : Nat → Int → Int) => OPQ (cd2 (1 ≤ u ∧ u ≤ 99) (σ 0 0 + u ≤ 9999)) r (σ 0 1 - pasT σ u 0 1) (μ' 0 2) (RelM σ (μ 0 0) ss (μ 0 1) β μ') (RelM (pasT σ u) (pushK (μ 0 0)) (pushS (μ 0 0) ss σ) (μ 0 1) β μ')) (fun (μ' : Nat → Int → Int) => (bW D [(cI, FieldType.int)] (fl [mdW cI b μ']) (va_A (fl [mdW cI b μ]) sz))) (va_A (fl [mdW cI b μ]) sz)) 0 0 (va_A (fl [mdW cI b μ]) sz) := by
  refine Met.ofW (cc := cX5_pass) (maxL := 4) (ret := (some .int)) (by decide) rfl ?_
  intro p9 e9 s m args9 below9 meth9 c9 s₁ B hml hv
  obtain ⟨rfl, hsz, hP, hK, hD0⟩ := hv
  have hx := B.exec
  have hb := B.bytes
  have hr := B.returns
  have hts := atoms_spec (ws := wsX5_pass) B.pre
  have hown : s.vm.findClass RX5 = some m.cls := findClass_of_methodNamed B.named
  have hlocks := B.notSynchronized
  subst hsz
  have hD := hD0.self (sz := s.heap.size)
  generalize hAe : va_A (fl [mdW cI b μ]) s.heap.size = A at hD ⊢
  have hA : ∀ q : Nat, s.heap.size ≤ q → A q := fun q h => by rw [← hAe]; exact Or.inr h
  have hS : va_S A s.heap s.heap [] := va_S.rf
  have hP : va_P D vwCl (fl [mdW cI b μ]) s.heap := hP
  have hl := lv_entry ([.ref (b 0), .int (iI (u))]) (n := 4) (Nat.le_of_ble_eq_true rfl)
  rw [lg_entry_eq]
  generalize (lg_sl ([.ref (b 0), .int (iI (u))]) ++ List.replicate (4 - (lg_sl ([.ref (b 0), .int (iI (u))])).length) Slot.unset).toArray = ls at hl ⊢
  have hl : lv_has ls 4 [(0, .ref (b 0)), (1, .int (iI (u)))] := hl
  have hw_0 := hts (.fieldLink RX5 25 "PromisedCountersModel" "thrown" "I") (by decide +kernel)
  have hin_X5 : ∀ w ∈ u_ws RX5 TX5 12, w ∈ wsX5_pass := by decide +kernel
  have hw_1 := hts (.fieldLink RX5 7 "PromisedCountersModel" "now" "[I") (by decide +kernel)
  have hI := hG.1
  have hR := hM.1
  have hn := hI.n
  have hti := hI.t
  obtain ⟨hm0, hm1, hm2, hm3, hm4⟩ := hR.1
  refine lv_aload_n hx hb dX5_pass_0 rfl (lv_at hl 0 rfl) ?_
  refine wi_iconst hx hb dX5_pass_1 ?_
  refine va_put (D := D) (ci := 5) (v := .int (iI (0))) (ty := .int) (C := RX5) (T := TX5) (N := 12) hx hb hts hin_X5 tyX5 tyX5_ok nmX5 hown hK hP hD hS 0 rfl rfl 5 (by decide) hw_0 (fun _ h9 => h9) rfl (by decide +kernel) rfl rfl (Nat.le_of_ble_eq_true rfl) dX5_pass_2 (fun H locs hP hD hS => ?_)
  have hP : va_P D vwCl (fl [mdW cI b (sU μ 0 (2) (0))]) H := hP
  have hD : va_D A (fl [mdW cI b (sU μ 0 (2) (0))]) := hD
  refine lv_iload_n hx hb dX5_pass_5 rfl (lv_at hl 1 rfl) ?_
  refine wi_iconst hx hb dX5_pass_6 ?_
  refine wi_bipush hx hb dX5_pass_7 (by decide) ?_
  refine wr_calli (va_runS (As := [.int (iI (u)), .int (iI (1)), .int (iI (99))]) (rest := []) ⟨hx, hb, hml, hown, hts⟩ (c_X5_in l D cI cO cC cL (u) (1) (99) (by omega) (by omega) (by omega)) (cwS 3 hts gX5_pass_X5_in rfl rfl rfl (by decide +kernel) ⟨Nat.le_of_ble_eq_true rfl, Nat.le_of_ble_eq_true rfl⟩) ⟨fun _ _ _ _ h => h, fun U hU hW => ⟨rfl, trivial⟩⟩ rfl rfl hl.1 rfl (lv_room (Nat.le_of_ble_eq_true rfl)) dX5_pass_9 ⟨(Nat.zero_le _), (Nat.zero_le _)⟩) (fun r1 hr1 => ?_)
  subst hr1
  refine wi_if_ne (tgt := 21) hx hb dX5_pass_12 (by decide) (by omega) (fun c_12 => ?_) (fun c_12 => ?_)
  · skip
    refine lv_aload_n hx hb dX5_pass_21 rfl (lv_at hl 0 rfl) ?_
    refine va_get (D := D) (ci := 5) (v := .ref (b 1)) (C := RX5) (T := TX5) (N := 12) hx hb hts hin_X5 hown hK hP 0 rfl rfl 0 (by decide) hw_1 (fun _ h9 => h9) rfl dX5_pass_22 ?_
    refine wi_iconst hx hb dX5_pass_25 ?_
    refine wi_iald hx hb hK hP 1 0 (n := 115) (f := μ 1) rfl rfl (i := 0) (by omega) (by decide) dX5_pass_26 ?_
    refine lv_iload_n hx hb dX5_pass_27 rfl (lv_at hl 1 rfl) ?_
    refine wi_iadd hx hb dX5_pass_28 ?_
    refine wi_sipush hx hb dX5_pass_29 (by decide) ?_
    refine wi_icmp_le (tgt := 41) hx hb dX5_pass_32 (by decide) (by omega) (fun c_32 => ?_) (fun c_32 => ?_)
    · skip
      refine lv_aload_n hx hb dX5_pass_41 rfl (lv_at hl 0 rfl) ?_
      have hFc := fl_free (SC := [mdW cI b (sU μ 0 (2) (0))]) hD hS hA [0] rfl
      refine va_callv (va_runV (As := []) (rest := []) ⟨hx, hb, hml, hown, hts⟩ (c_X5_saves l D cI cO cC cL H.size b (sU μ 0 (2) (0)) σ ss (hG.2.1) (by omega) (hR) (hM.2.2.1) (hG.2.2.1)) (cwV 0 hts gX5_pass_X5_saves rfl rfl rfl (by decide +kernel) ⟨Nat.le_of_ble_eq_true rfl, Nat.le_of_ble_eq_true rfl⟩) ⟨pcW_blind, va_recv hK hP (ci := 5) (q0 := 0) rfl rfl, pcW_of hP hK hD⟩ rfl rfl hl.1 rfl (lv_room (Nat.le_of_ble_eq_true rfl)) dX5_pass_42 ⟨(Nat.zero_le _), (Nat.zero_le _)⟩) hS (fun q _ h => hFc q h) hFc (fun  u3 t9 H1 locs ht9 hvm hcl2 hB hz1 hk1 hS => ?_)
      obtain ⟨hP1, hK1, hD1⟩ := hB
      rw [ht9] at hP1
      obtain ⟨hP, hD⟩ := fl_join (SR := []) (S1 := [mdW cI b (sU (sR (sU μ 0 (2) (0)) 2 u3) 0 0 (pushK ((sU μ 0 (2) (0)) 0 0)))]) hP hD [0] [] rfl rfl (by decide) (by decide) hk1 hFc hP1 hD1
      generalize H1 = H at hP hS ⊢
      have hP : va_P D vwCl (fl [mdW cI b (sU (sR (sU μ 0 (2) (0)) 2 u3) 0 0 (pushK ((sU μ 0 (2) (0)) 0 0)))]) H := hP
      have hD : va_D A (fl [mdW cI b (sU (sR (sU μ 0 (2) (0)) 2 u3) 0 0 (pushK ((sU μ 0 (2) (0)) 0 0)))]) := hD
      refine lv_aload_n hx hb dX5_pass_45 rfl (lv_at hl 0 rfl) ?_
      refine va_get (D := D) (ci := 5) (v := .ref (b 1)) (C := RX5) (T := TX5) (N := 12) hx hb hts hin_X5 hown hK hP 0 rfl rfl 0 (by decide) hw_1 (fun _ h9 => h9) rfl dX5_pass_46 ?_
      refine wi_iconst hx hb dX5_pass_49 ?_
      refine wi_iald hx hb hK hP 1 0 (n := 115) (f := μ 1) rfl rfl (i := 3) (by omega) (by decide) dX5_pass_50 ?_
      refine lv_istore_n (lv' := [(2, .int (iI ((μ 1 (3))))), (0, .ref (b 0)), (1, .int (iI (u)))]) hx hb dX5_pass_51 rfl hl (by decide) rfl (fun ls hl => ?_)
      refine lv_aload_n hx hb dX5_pass_52 rfl (lv_at hl 1 rfl) ?_
      refine va_get (D := D) (ci := 5) (v := .ref (b 1)) (C := RX5) (T := TX5) (N := 12) hx hb hts hin_X5 hown hK hP 0 rfl rfl 0 (by decide) hw_1 (fun _ h9 => h9) rfl dX5_pass_53 ?_
      refine wi_iconst hx hb dX5_pass_56 ?_
      refine lv_dup2_11 hx hb dX5_pass_57 rfl rfl ?_
      refine wi_iald hx hb hK hP 1 0 (n := 115) (f := μ 1) rfl rfl (i := 0) (by omega) (by decide) dX5_pass_58 ?_
      refine lv_iload_n hx hb dX5_pass_59 rfl (lv_at hl 2 rfl) ?_
      refine wi_iadd hx hb dX5_pass_60 ?_
      refine wi_iast hx hb hK hP hD hS 1 0 (n := 115) (f := μ 1) rfl rfl (i := 0) (by omega) (by decide) dX5_pass_61 (fun H locs hP hD hS => ?_)
      have hP : va_P D vwCl (fl [mdW cI b (sU (sU (sR (sU μ 0 (2) (0)) 2 u3) 0 0 (pushK ((sU μ 0 (2) (0)) 0 0))) 1 (0) (((μ 1 (0)) + u)))]) H := hP
      have hD : va_D A (fl [mdW cI b (sU (sU (sR (sU μ 0 (2) (0)) 2 u3) 0 0 (pushK ((sU μ 0 (2) (0)) 0 0))) 1 (0) (((μ 1 (0)) + u)))]) := hD
      refine lv_aload_n hx hb dX5_pass_62 rfl (lv_at hl 1 rfl) ?_
      refine va_get (D := D) (ci := 5) (v := .ref (b 1)) (C := RX5) (T := TX5) (N := 12) hx hb hts hin_X5 hown hK hP 0 rfl rfl 0 (by decide) hw_1 (fun _ h9 => h9) rfl dX5_pass_63 ?_
      refine wi_iconst hx hb dX5_pass_66 ?_
      refine wi_iald hx hb hK hP 1 0 (n := 115) (f := (uI (μ 1) (0) (((μ 1 (0)) + u)))) rfl rfl (i := 3) (by omega) (by decide) dX5_pass_67 ?_
      refine wi_iconst hx hb dX5_pass_68 ?_
      refine wi_isub hx hb dX5_pass_69 ?_
      refine lv_istore_n (lv' := [(3, .int (iI ((((uI (μ 1) (0) (((μ 1 (0)) + u))) (3)) - 1)))), (2, .int (iI ((μ 1 (3))))), (0, .ref (b 0)), (1, .int (iI (u)))]) hx hb dX5_pass_70 rfl hl (by decide) rfl (fun ls hl => ?_)
      have L71 : ∀ (k71 : Nat), ∀ (τ : Nat → Int → Int) (g : Int → Int) (p : Int), (p + 1).toNat < k71 → (-1 ≤ p ∧ p + 1 ≤ τ 0 1 ∧ τ 0 1 ≤ 16) → (τ 0 0 = σ 0 0 + u) → (RelN τ g) → (PQ τ) → (lapI (p + 1).toNat τ = pasT σ u) → ∀ (H : Heap) (locs : List Loc), va_P D vwCl (fl [mdW cI b (sR (sU (sU (sR (sU μ 0 (2) (0)) 2 u3) 0 0 (pushK ((sU μ 0 (2) (0)) 0 0))) 1 (0) (((μ 1 (0)) + u))) 1 g)]) H → va_D A (fl [mdW cI b (sR (sU (sU (sR (sU μ 0 (2) (0)) 2 u3) 0 0 (pushK ((sU μ 0 (2) (0)) 0 0))) 1 (0) (((μ 1 (0)) + u))) 1 g)]) → va_S A s.heap H locs → ∀ (ls : Array Slot), lv_has ls 4 [(3, .int (iI (p))), (2, .int (iI ((μ 1 (3))))), (0, .ref (b 0)), (1, .int (iI (u)))] → W p9 l e9 ({ frames := 2, cells := 0, slots := 0, locals := 45 } : Room) s m ([.ref (b 0), .int (iI (u))] : List Value).toArray below9 meth9 c9 H locs 0 0 (MQ below9 (wq_i (fun (r : Int) (μ' : Nat → Int → Int) => OPQ (cd2 (1 ≤ u ∧ u ≤ 99) (σ 0 0 + u ≤ 9999)) r (σ 0 1 - pasT σ u 0 1) (μ' 0 2) (RelM σ (μ 0 0) ss (μ 0 1) β μ') (RelM (pasT σ u) (pushK (μ 0 0)) (pushS (μ 0 0) ss σ) (μ 0 1) β μ')) (fun (μ' : Nat → Int → Int) => (bW D [(cI, FieldType.int)] (fl [mdW cI b μ']) A)) A) ([.ref (b 0), .int (iI (u))] : List Value).toArray s 0 0 A) (F0 m 71 ls []) := by
        intro k71
        induction k71 with
        | zero =>
          intro τ g p hm
          exact absurd hm (Nat.not_lt_zero _)
        | succ k71 ih71 =>
          intro τ g p hm71 hp hti9 hg hpq hfin H locs hP hD hS ls hl
          refine lv_iload_n hx hb dX5_pass_71 rfl (lv_at hl 0 rfl) ?_
          refine wi_if_lt (tgt := 103) hx hb dX5_pass_72 (by decide) (by omega) (fun c_72 => ?_) (fun c_72 => ?_)
          · skip
            have hE : τ = pasT σ u := by rw [← hfin, show p + 1 = 0 by omega]; rfl
            refine lv_iload_n hx hb dX5_pass_103 rfl (lv_at hl 1 rfl) ?_
            refine lv_aload_n hx hb dX5_pass_104 rfl (lv_at hl 2 rfl) ?_
            refine va_get (D := D) (ci := 5) (v := .ref (b 1)) (C := RX5) (T := TX5) (N := 12) hx hb hts hin_X5 hown hK hP 0 rfl rfl 0 (by decide) hw_1 (fun _ h9 => h9) rfl dX5_pass_105 ?_
            refine wi_iconst hx hb dX5_pass_108 ?_
            refine wi_iald hx hb hK hP 1 0 (n := 115) (f := g) rfl rfl (i := 3) (by omega) (by decide) dX5_pass_109 ?_
            refine wi_isub hx hb dX5_pass_110 ?_
            exact W.iret (v := iI (((μ 1 (3)) - (g (3))))) hx hb hr (fun t9 ht9 hW9 => ⟨⟨(((μ 1 (3)) - (g (3)))), (sR (sU (sU (sR (sU μ 0 (2) (0)) 2 u3) 0 0 (pushK ((sU μ 0 (2) (0)) 0 0))) 1 (0) (((μ 1 (0)) + u))) 1 g), rfl, (OPQ.good (by unfold cd2; first | (rw [if_pos (by omega)] <;> rfl) | (rw [if_neg (by omega), if_pos (by omega)] <;> rfl) | (rw [if_neg (by omega), if_neg (by omega)] <;> rfl)) rfl (by rw [← hE]; have := hg.1.2.2.2.1; omega) (⟨(hE ▸ hg), rfl, hcl2, rfl, hM.2.2.2.2⟩)), ⟨by rw [ht9]; exact hP, va_K.moved hW9.alike hK, hD⟩⟩, hS.F ht9⟩) hS.2.2 dX5_pass_111 hlocks
          · skip
            obtain ⟨hq0, hq1, hq2, hq3, hq4⟩ := hg.2.2.2 p (by omega) (by omega)
            have hpr := (hpq p (by omega) (by omega)).1
            have hp9 := (hpq p (by omega) (by omega)).2
            obtain ⟨hp1, hp2, hp3, hp4⟩ := id hpr
            have hg3 := hg.1.2.2.2.1
            have hg0 := hg.1.1
            refine lv_aload_n hx hb dX5_pass_75 rfl (lv_at hl 2 rfl) ?_
            refine lv_iload_n hx hb dX5_pass_76 rfl (lv_at hl 0 rfl) ?_
            refine wi_iconst hx hb dX5_pass_77 ?_
            refine wr_calli (va_runV (As := [.int (iI (p)), .int (iI (4))]) (rest := []) ⟨hx, hb, hml, hown, hts⟩ (c_X5_of l D cI cO cC cL b (sR (sU (sU (sR (sU μ 0 (2) (0)) 2 u3) 0 0 (pushK ((sU μ 0 (2) (0)) 0 0))) 1 (0) (((μ 1 (0)) + u))) 1 g) (p) (4) (by omega) (by omega)) (cwV 2 hts gX5_pass_X5_of rfl rfl rfl (by decide +kernel) ⟨Nat.le_of_ble_eq_true rfl, Nat.le_of_ble_eq_true rfl⟩) ⟨pcR_blind, va_recv hK hP (ci := 5) (q0 := 0) rfl rfl, pcR_of hP hK⟩ rfl rfl hl.1 rfl (lv_room (Nat.le_of_ble_eq_true rfl)) dX5_pass_78 ⟨(Nat.zero_le _), (Nat.zero_le _)⟩) (fun r4 hr4 => ?_)
            subst hr4
            refine wi_top (y := (g (35 + 5 * (p) + (4)))) rfl ?_
            refine lv_aload_n hx hb dX5_pass_81 rfl (lv_at hl 2 rfl) ?_
            refine va_get (D := D) (ci := 5) (v := .ref (b 1)) (C := RX5) (T := TX5) (N := 12) hx hb hts hin_X5 hown hK hP 0 rfl rfl 0 (by decide) hw_1 (fun _ h9 => h9) rfl dX5_pass_82 ?_
            refine wi_iconst hx hb dX5_pass_85 ?_
            refine wi_iald hx hb hK hP 1 0 (n := 115) (f := g) rfl rfl (i := 0) (by omega) (by decide) dX5_pass_86 ?_
            refine wi_icmp_gt (tgt := 97) hx hb dX5_pass_87 (by decide) (by omega) (fun c_87 => ?_) (fun c_87 => ?_)
            · skip
              refine wi_iinc (lv' := [(3, .int (iI ((p + (-1))))), (2, .int (iI ((μ 1 (3))))), (0, .ref (b 0)), (1, .int (iI (u)))]) hx hb dX5_pass_97 hl (k := 0) rfl (by decide) rfl (fun ls hl => ?_)
              refine lv_goto (tgt := 71) hx hb dX5_pass_100 (by decide) ?_
              exact ih71 (τ) (g) ((p + (-1))) (by omega) (by omega) (hti9) (hg) (hpq) (by rw [← hfin, show p + -1 + 1 = p by omega, lapI_s (k := p) (by omega)]; unfold lap1; rw [if_neg (by omega)]) _ _ hP hD hS ls (lv_sub hl [0, 1, 2, 3] rfl)
            · skip
              refine lv_aload_n hx hb dX5_pass_90 rfl (lv_at hl 2 rfl) ?_
              refine lv_iload_n hx hb dX5_pass_91 rfl (lv_at hl 0 rfl) ?_
              refine wi_bipush hx hb dX5_pass_92 (by decide) ?_
              have hFc := fl_free (SC := [mdW cI b (sR (sU (sU (sR (sU μ 0 (2) (0)) 2 u3) 0 0 (pushK ((sU μ 0 (2) (0)) 0 0))) 1 (0) (((μ 1 (0)) + u))) 1 g)]) hD hS hA [0] rfl
              refine va_callv (va_runV (As := [.int (iI (p)), .int (iI (29))]) (rest := []) ⟨hx, hb, hml, hown, hts⟩ (c_X5_ends l D cI cO cC cL H.size b (sR (sU (sU (sR (sU μ 0 (2) (0)) 2 u3) 0 0 (pushK ((sU μ 0 (2) (0)) 0 0))) 1 (0) (((μ 1 (0)) + u))) 1 g) τ (p) (29) 12 (by omega) (hpr) (by omega) (hg)) (cwV 2 hts gX5_pass_X5_ends rfl rfl rfl (by decide +kernel) ⟨Nat.le_of_ble_eq_true rfl, Nat.le_of_ble_eq_true rfl⟩) ⟨pcW_blind, va_recv hK hP (ci := 5) (q0 := 0) rfl rfl, pcW_of hP hK hD⟩ rfl rfl hl.1 rfl (lv_room (Nat.le_of_ble_eq_true rfl)) dX5_pass_94 ⟨(Nat.zero_le _), (Nat.zero_le _)⟩) hS (fun q _ h => hFc q h) hFc (fun  u6 t9 H1 locs ht9 hvm hcl5 hB hz1 hk1 hS => ?_)
              obtain ⟨hP1, hK1, hD1⟩ := hB
              rw [ht9] at hP1
              obtain ⟨hP, hD⟩ := fl_join (SR := []) (S1 := [mdW cI b (sR (sR (sU (sU (sR (sU μ 0 (2) (0)) 2 u3) 0 0 (pushK ((sU μ 0 (2) (0)) 0 0))) 1 (0) (((μ 1 (0)) + u))) 1 g) 1 u6)]) hP hD [0] [] rfl rfl (by decide) (by decide) hk1 hFc hP1 hD1
              generalize H1 = H at hP hS ⊢
              have hP : va_P D vwCl (fl [mdW cI b (sR (sR (sU (sU (sR (sU μ 0 (2) (0)) 2 u3) 0 0 (pushK ((sU μ 0 (2) (0)) 0 0))) 1 (0) (((μ 1 (0)) + u))) 1 g) 1 u6)]) H := hP
              have hD : va_D A (fl [mdW cI b (sR (sR (sU (sU (sR (sU μ 0 (2) (0)) 2 u3) 0 0 (pushK ((sU μ 0 (2) (0)) 0 0))) 1 (0) (((μ 1 (0)) + u))) 1 g) 1 u6)]) := hD
              refine wi_iinc (lv' := [(3, .int (iI ((p + (-1))))), (2, .int (iI ((μ 1 (3))))), (0, .ref (b 0)), (1, .int (iI (u)))]) hx hb dX5_pass_97 hl (k := 0) rfl (by decide) rfl (fun ls hl => ?_)
              refine lv_goto (tgt := 71) hx hb dX5_pass_100 (by decide) ?_
              exact ih71 ((lapS τ p)) (u6) ((p + (-1))) (by omega) (by have h9 : (lapS τ p) 0 1 = τ 0 1 - 1 := remS_n _ _; omega) (hti9) (hcl5) (hpq.lap (by omega)) (by rw [← hfin, show p + -1 + 1 = p by omega, lapI_s (k := p) (by omega)]; unfold lap1; rw [if_pos (by omega)]) _ _ hP hD hS ls (lv_sub hl [0, 1, 2, 3] rfl)
      exact L71 _ ((sU σ 0 0 (σ 0 0 + u))) ((uI (μ 1) (0) (((μ 1 (0)) + u)))) ((((uI (μ 1) (0) (((μ 1 (0)) + u))) (3)) - 1)) (Nat.lt_succ_self _) (by have h9 : sU σ 0 0 (σ 0 0 + u) 0 1 = σ 0 1 := rfl; have h8 : uI (μ 1) 0 (μ 1 0 + u) 3 = μ 1 3 := rfl; omega) (rfl) (by have h9 := RelN_sc hR (σ 0 0 + u); rw [← hm0] at h9 ⊢; exact h9) (hI.pq) (by unfold pasT; have h8 : uI (μ 1) 0 (μ 1 0 + u) 3 = μ 1 3 := rfl; rw [show uI (μ 1) 0 (μ 1 0 + u) 3 - 1 + 1 = σ 0 1 by omega]) _ _ hP hD hS ls (lv_sub hl [0, 1, 2, 3] rfl)
    · skip
      refine lv_aload_n hx hb dX5_pass_35 rfl (lv_at hl 0 rfl) ?_
      refine wi_iconst hx hb dX5_pass_36 ?_
      have hFc := fl_free (SC := [mdW cI b (sU μ 0 (2) (0))]) hD hS hA [0] rfl
      refine wq_calli (va_runV (As := [.int (iI (2))]) (rest := []) ⟨hx, hb, hml, hown, hts⟩ (c_X5_fails l D cI cO cC cL H.size b (sU μ 0 (2) (0)) (2) ) (cwV 1 hts gX5_pass_X5_fails rfl rfl rfl (by decide +kernel) ⟨Nat.le_of_ble_eq_true rfl, Nat.le_of_ble_eq_true rfl⟩) ⟨pcW_blind, va_recv hK hP (ci := 5) (q0 := 0) rfl rfl, pcW_of hP hK hD⟩ rfl rfl hl.1 rfl (lv_room (Nat.le_of_ble_eq_true rfl)) dX5_pass_37 ⟨(Nat.zero_le _), (Nat.zero_le _)⟩) hS (fun q _ h => hFc q h) hFc (fun r7 u9 t9 H1 locs ht9 hvm hcl8 hB hz1 hk1 hS => ?_)
      obtain ⟨hP1, hK1, hD1⟩ := hB
      rw [ht9] at hP1
      obtain ⟨hP, hD⟩ := fl_join (SR := []) (S1 := [mdW cI b (sU (sU μ 0 (2) (0)) 0 2 (2))]) hP hD [0] [] rfl rfl (by decide) (by decide) hk1 hFc hP1 hD1
      generalize H1 = H at hP hS ⊢
      have hP : va_P D vwCl (fl [mdW cI b (sU (sU μ 0 (2) (0)) 0 2 (2))]) H := hP
      have hD : va_D A (fl [mdW cI b (sU (sU μ 0 (2) (0)) 0 2 (2))]) := hD
      exact W.iret (v := iI (r7)) hx hb hr (fun t9 ht9 hW9 => ⟨⟨(r7), (sU (sU μ 0 (2) (0)) 0 2 (2)), rfl, (OPQ.bad (k := 2) (by unfold cd2; first | (rw [if_pos (by omega)] <;> rfl) | (rw [if_neg (by omega), if_pos (by omega)] <;> rfl) | (rw [if_neg (by omega), if_neg (by omega)] <;> rfl)) (by decide) rfl hM), ⟨by rw [ht9]; exact hP, va_K.moved hW9.alike hK, hD⟩⟩, hS.F ht9⟩) hS.2.2 dX5_pass_40 hlocks
  · skip
    refine lv_aload_n hx hb dX5_pass_15 rfl (lv_at hl 0 rfl) ?_
    refine wi_iconst hx hb dX5_pass_16 ?_
    have hFc := fl_free (SC := [mdW cI b (sU μ 0 (2) (0))]) hD hS hA [0] rfl
    refine wq_calli (va_runV (As := [.int (iI (1))]) (rest := []) ⟨hx, hb, hml, hown, hts⟩ (c_X5_fails l D cI cO cC cL H.size b (sU μ 0 (2) (0)) (1) ) (cwV 1 hts gX5_pass_X5_fails rfl rfl rfl (by decide +kernel) ⟨Nat.le_of_ble_eq_true rfl, Nat.le_of_ble_eq_true rfl⟩) ⟨pcW_blind, va_recv hK hP (ci := 5) (q0 := 0) rfl rfl, pcW_of hP hK hD⟩ rfl rfl hl.1 rfl (lv_room (Nat.le_of_ble_eq_true rfl)) dX5_pass_17 ⟨(Nat.zero_le _), (Nat.zero_le _)⟩) hS (fun q _ h => hFc q h) hFc (fun r10 u12 t9 H1 locs ht9 hvm hcl11 hB hz1 hk1 hS => ?_)
    obtain ⟨hP1, hK1, hD1⟩ := hB
    rw [ht9] at hP1
    obtain ⟨hP, hD⟩ := fl_join (SR := []) (S1 := [mdW cI b (sU (sU μ 0 (2) (0)) 0 2 (1))]) hP hD [0] [] rfl rfl (by decide) (by decide) hk1 hFc hP1 hD1
    generalize H1 = H at hP hS ⊢
    have hP : va_P D vwCl (fl [mdW cI b (sU (sU μ 0 (2) (0)) 0 2 (1))]) H := hP
    have hD : va_D A (fl [mdW cI b (sU (sU μ 0 (2) (0)) 0 2 (1))]) := hD
    exact W.iret (v := iI (r10)) hx hb hr (fun t9 ht9 hW9 => ⟨⟨(r10), (sU (sU μ 0 (2) (0)) 0 2 (1)), rfl, (OPQ.bad (k := 1) (by unfold cd2; first | (rw [if_pos (by omega)] <;> rfl) | (rw [if_neg (by omega), if_pos (by omega)] <;> rfl) | (rw [if_neg (by omega), if_neg (by omega)] <;> rfl)) (by decide) rfl hM), ⟨by rw [ht9]; exact hP, va_K.moved hW9.alike hK, hD⟩⟩, hS.F ht9⟩) hS.2.2 dX5_pass_20 hlocks
set_option maxHeartbeats 4000000 in
set_option maxRecDepth 100000 in
theorem c_X5_undo (l : Launch) (D : va_G) (cI cO cC cL : ClassId) (sz : Nat) (b : Nat → Nat) (μ σ : Nat → Int → Int) (ss : Nat → Nat → Int → Int) (β : Int → Int) (hM : RelM σ (μ 0 0) ss (μ 0 1) β μ) (hG : GI σ (μ 0 0) ss (μ 0 1) β) : Met l yX5_undo wsX5_undo ({ frames := 1, cells := 0, slots := 0, locals := 21 } : Room) (pcW D [(cI, FieldType.int)] [.ref (b 0)] (fl [mdW cI b μ]) sz) (wq_i (fun (r : Int) (μ' : Nat → Int → Int) => OPQ (cd1 (μ 0 0 ≠ 0)) r (μ 0 0 - 1) (μ' 0 2) (RelM σ (μ 0 0) ss (μ 0 1) β μ') (RelM (ss (μ 0 0 - 1).toNat) (μ 0 0 - 1) ss (μ 0 1) β μ')) (fun (μ' : Nat → Int → Int) => (bW D [(cI, FieldType.int)] (fl [mdW cI b μ']) (va_A (fl [mdW cI b μ]) sz))) (va_A (fl [mdW cI b μ]) sz)) 0 0 (va_A (fl [mdW cI b μ]) sz) := by
  refine Met.ofW (cc := cX5_undo) (maxL := 2) (ret := (some .int)) (by decide) rfl ?_
  intro p9 e9 s m args9 below9 meth9 c9 s₁ B hml hv
  obtain ⟨rfl, hsz, hP, hK, hD0⟩ := hv
  have hx := B.exec
  have hb := B.bytes
  have hr := B.returns
  have hts := atoms_spec (ws := wsX5_undo) B.pre
  have hown : s.vm.findClass RX5 = some m.cls := findClass_of_methodNamed B.named
  have hlocks := B.notSynchronized
  subst hsz
  have hD := hD0.self (sz := s.heap.size)
  generalize hAe : va_A (fl [mdW cI b μ]) s.heap.size = A at hD ⊢
  have hA : ∀ q : Nat, s.heap.size ≤ q → A q := fun q h => by rw [← hAe]; exact Or.inr h
  have hS : va_S A s.heap s.heap [] := va_S.rf
  have hP : va_P D vwCl (fl [mdW cI b μ]) s.heap := hP
  have hl := lv_entry ([.ref (b 0)]) (n := 2) (Nat.le_of_ble_eq_true rfl)
  rw [lg_entry_eq]
  generalize (lg_sl ([.ref (b 0)]) ++ List.replicate (2 - (lg_sl ([.ref (b 0)])).length) Slot.unset).toArray = ls at hl ⊢
  have hl : lv_has ls 2 [(0, .ref (b 0))] := hl
  have hw_0 := hts (.fieldLink RX5 25 "PromisedCountersModel" "thrown" "I") (by decide +kernel)
  have hin_X5 : ∀ w ∈ u_ws RX5 TX5 12, w ∈ wsX5_undo := by decide +kernel
  have hw_1 := hts (.fieldLink RX5 33 "PromisedCountersModel" "kept" "I") (by decide +kernel)
  have hw_2 := hts (.fieldLink RX5 7 "PromisedCountersModel" "now" "[I") (by decide +kernel)
  have hw_3 := hts (.fieldLink RX5 13 "PromisedCountersModel" "past" "[I") (by decide +kernel)
  have hI := hG.1
  have hR := hM.1
  have hn := hI.n
  have hti := hI.t
  obtain ⟨hm0, hm1, hm2, hm3, hm4⟩ := hR.1
  have he0 : uI (μ 0) 2 0 0 = μ 0 0 := rfl
  have hkk := hG.2.1
  have he2 : uI (uI (μ 0) 2 0) 0 (uI (μ 0) 2 0 0 - 1) 0 = μ 0 0 - 1 := rfl
  refine lv_aload_n hx hb dX5_undo_0 rfl (lv_at hl 0 rfl) ?_
  refine wi_iconst hx hb dX5_undo_1 ?_
  refine va_put (D := D) (ci := 5) (v := .int (iI (0))) (ty := .int) (C := RX5) (T := TX5) (N := 12) hx hb hts hin_X5 tyX5 tyX5_ok nmX5 hown hK hP hD hS 0 rfl rfl 5 (by decide) hw_0 (fun _ h9 => h9) rfl (by decide +kernel) rfl rfl (Nat.le_of_ble_eq_true rfl) dX5_undo_2 (fun H locs hP hD hS => ?_)
  have hP : va_P D vwCl (fl [mdW cI b (sU μ 0 (2) (0))]) H := hP
  have hD : va_D A (fl [mdW cI b (sU μ 0 (2) (0))]) := hD
  refine lv_aload_n hx hb dX5_undo_5 rfl (lv_at hl 0 rfl) ?_
  refine va_get (D := D) (ci := 5) (v := .int (iI (((uI (μ 0) (2) (0)) 0)))) (C := RX5) (T := TX5) (N := 12) hx hb hts hin_X5 hown hK hP 0 rfl rfl 2 (by decide) hw_1 (fun _ h9 => h9) rfl dX5_undo_6 ?_
  refine wi_if_ne (tgt := 18) hx hb dX5_undo_9 (by decide) (by omega) (fun c_9 => ?_) (fun c_9 => ?_)
  · skip
    refine lv_aload_n hx hb dX5_undo_18 rfl (lv_at hl 0 rfl) ?_
    refine lv_dup hx hb dX5_undo_19 rfl ?_
    refine va_get (D := D) (ci := 5) (v := .int (iI (((uI (μ 0) (2) (0)) 0)))) (C := RX5) (T := TX5) (N := 12) hx hb hts hin_X5 hown hK hP 0 rfl rfl 2 (by decide) hw_1 (fun _ h9 => h9) rfl dX5_undo_20 ?_
    refine wi_iconst hx hb dX5_undo_23 ?_
    refine wi_isub hx hb dX5_undo_24 ?_
    refine va_put (D := D) (ci := 5) (v := .int (iI ((((uI (μ 0) (2) (0)) 0) - 1)))) (ty := .int) (C := RX5) (T := TX5) (N := 12) hx hb hts hin_X5 tyX5 tyX5_ok nmX5 hown hK hP hD hS 0 rfl rfl 2 (by decide) hw_1 (fun _ h9 => h9) rfl (by decide +kernel) rfl rfl (Nat.le_of_ble_eq_true rfl) dX5_undo_25 (fun H locs hP hD hS => ?_)
    have hP : va_P D vwCl (fl [mdW cI b (sU (sU μ 0 (2) (0)) 0 (0) ((((uI (μ 0) (2) (0)) 0) - 1)))]) H := hP
    have hD : va_D A (fl [mdW cI b (sU (sU μ 0 (2) (0)) 0 (0) ((((uI (μ 0) (2) (0)) 0) - 1)))]) := hD
    refine wi_iconst hx hb dX5_undo_28 ?_
    refine lv_istore_n (lv' := [(1, .int (iI (0))), (0, .ref (b 0))]) hx hb dX5_undo_29 rfl hl (by decide) rfl (fun ls hl => ?_)
    have L30 : ∀ (k30 : Nat), ∀ (g : Int → Int) (k : Int), (115 - k).toNat < k30 → (0 ≤ k ∧ k ≤ 115) → (g = cpN (μ 1) (fun j => μ 2 (115 * (μ 0 0 - 1) + j)) 0 k) → ∀ (H : Heap) (locs : List Loc), va_P D vwCl (fl [mdW cI b (sR (sU (sU μ 0 (2) (0)) 0 (0) ((((uI (μ 0) (2) (0)) 0) - 1))) 1 g)]) H → va_D A (fl [mdW cI b (sR (sU (sU μ 0 (2) (0)) 0 (0) ((((uI (μ 0) (2) (0)) 0) - 1))) 1 g)]) → va_S A s.heap H locs → ∀ (ls : Array Slot), lv_has ls 2 [(1, .int (iI (k))), (0, .ref (b 0))] → W p9 l e9 ({ frames := 1, cells := 0, slots := 0, locals := 21 } : Room) s m ([.ref (b 0)] : List Value).toArray below9 meth9 c9 H locs 0 0 (MQ below9 (wq_i (fun (r : Int) (μ' : Nat → Int → Int) => OPQ (cd1 (μ 0 0 ≠ 0)) r (μ 0 0 - 1) (μ' 0 2) (RelM σ (μ 0 0) ss (μ 0 1) β μ') (RelM (ss (μ 0 0 - 1).toNat) (μ 0 0 - 1) ss (μ 0 1) β μ')) (fun (μ' : Nat → Int → Int) => (bW D [(cI, FieldType.int)] (fl [mdW cI b μ']) A)) A) ([.ref (b 0)] : List Value).toArray s 0 0 A) (F0 m 30 ls []) := by
      intro k30
      induction k30 with
      | zero =>
        intro g k hm
        exact absurd hm (Nat.not_lt_zero _)
      | succ k30 ih30 =>
        intro g k hm30 hk9 hg H locs hP hD hS ls hl
        refine lv_iload_n hx hb dX5_undo_30 rfl (lv_at hl 0 rfl) ?_
        refine wi_bipush hx hb dX5_undo_31 (by decide) ?_
        refine wi_icmp_ge (tgt := 62) hx hb dX5_undo_33 (by decide) (by omega) (fun c_33 => ?_) (fun c_33 => ?_)
        · skip
          refine lv_aload_n hx hb dX5_undo_62 rfl (lv_at hl 1 rfl) ?_
          refine va_get (D := D) (ci := 5) (v := .int (iI (((uI ((uI (μ 0) (2) (0))) (0) ((((uI (μ 0) (2) (0)) 0) - 1))) 0)))) (C := RX5) (T := TX5) (N := 12) hx hb hts hin_X5 hown hK hP 0 rfl rfl 2 (by decide) hw_1 (fun _ h9 => h9) rfl dX5_undo_63 ?_
          exact W.iret (v := iI (((uI ((uI (μ 0) (2) (0))) (0) ((((uI (μ 0) (2) (0)) 0) - 1))) 0))) hx hb hr (fun t9 ht9 hW9 => ⟨⟨(((uI ((uI (μ 0) (2) (0))) (0) ((((uI (μ 0) (2) (0)) 0) - 1))) 0)), (sR (sU (sU μ 0 (2) (0)) 0 (0) ((((uI (μ 0) (2) (0)) 0) - 1))) 1 g), rfl, (OPQ.good (by unfold cd1; first | (rw [if_pos (by omega)] <;> rfl) | (rw [if_neg (by omega)] <;> rfl)) rfl (rfl) (by have h9 := hM.2.2.1 (μ 0 0 - 1).toNat (by omega); have hi9 := (hG.2.2.1 (μ 0 0 - 1).toNat (by omega)).n; have h8 : RelN (ss (μ 0 0 - 1).toNat) g := h9.congr (by omega) (fun j j0 j1 => by rw [hg, show k = 115 by omega]; exact (if_pos (by omega)).trans (congrArg (μ 2) (by omega))); exact ⟨h8, rfl, fun k k1 => hM.2.2.1 k (by omega), rfl, hM.2.2.2.2⟩)), ⟨by rw [ht9]; exact hP, va_K.moved hW9.alike hK, hD⟩⟩, hS.F ht9⟩) hS.2.2 dX5_undo_66 hlocks
        · skip
          refine lv_aload_n hx hb dX5_undo_36 rfl (lv_at hl 1 rfl) ?_
          refine va_get (D := D) (ci := 5) (v := .ref (b 1)) (C := RX5) (T := TX5) (N := 12) hx hb hts hin_X5 hown hK hP 0 rfl rfl 0 (by decide) hw_2 (fun _ h9 => h9) rfl dX5_undo_37 ?_
          refine lv_iload_n hx hb dX5_undo_40 rfl (lv_at hl 0 rfl) ?_
          refine lv_aload_n hx hb dX5_undo_41 rfl (lv_at hl 1 rfl) ?_
          refine va_get (D := D) (ci := 5) (v := .ref (b 2)) (C := RX5) (T := TX5) (N := 12) hx hb hts hin_X5 hown hK hP 0 rfl rfl 1 (by decide) hw_3 (fun _ h9 => h9) rfl dX5_undo_42 ?_
          refine wi_bipush hx hb dX5_undo_45 (by decide) ?_
          refine lv_aload_n hx hb dX5_undo_47 rfl (lv_at hl 1 rfl) ?_
          refine va_get (D := D) (ci := 5) (v := .int (iI (((uI ((uI (μ 0) (2) (0))) (0) ((((uI (μ 0) (2) (0)) 0) - 1))) 0)))) (C := RX5) (T := TX5) (N := 12) hx hb hts hin_X5 hown hK hP 0 rfl rfl 2 (by decide) hw_1 (fun _ h9 => h9) rfl dX5_undo_48 ?_
          refine wi_imul hx hb dX5_undo_51 ?_
          refine lv_iload_n hx hb dX5_undo_52 rfl (lv_at hl 0 rfl) ?_
          refine wi_iadd hx hb dX5_undo_53 ?_
          refine wi_iald hx hb hK hP 2 0 (n := 690) (f := μ 2) rfl rfl (i := ((115 * ((uI ((uI (μ 0) (2) (0))) (0) ((((uI (μ 0) (2) (0)) 0) - 1))) 0)) + k)) (by omega) (by decide) dX5_undo_54 ?_
          refine wi_iast hx hb hK hP hD hS 1 0 (n := 115) (f := g) rfl rfl (i := k) (by omega) (by decide) dX5_undo_55 (fun H locs hP hD hS => ?_)
          have hP : va_P D vwCl (fl [mdW cI b (sU (sR (sU (sU μ 0 (2) (0)) 0 (0) ((((uI (μ 0) (2) (0)) 0) - 1))) 1 g) 1 (k) ((μ 2 (((115 * ((uI ((uI (μ 0) (2) (0))) (0) ((((uI (μ 0) (2) (0)) 0) - 1))) 0)) + k)))))]) H := hP
          have hD : va_D A (fl [mdW cI b (sU (sR (sU (sU μ 0 (2) (0)) 0 (0) ((((uI (μ 0) (2) (0)) 0) - 1))) 1 g) 1 (k) ((μ 2 (((115 * ((uI ((uI (μ 0) (2) (0))) (0) ((((uI (μ 0) (2) (0)) 0) - 1))) 0)) + k)))))]) := hD
          refine wi_iinc (lv' := [(1, .int (iI ((k + 1)))), (0, .ref (b 0))]) hx hb dX5_undo_56 hl (k := 0) rfl (by decide) rfl (fun ls hl => ?_)
          refine lv_goto (tgt := 30) hx hb dX5_undo_59 (by decide) ?_
          exact ih30 ((uI (g) (k) ((μ 2 (((115 * ((uI ((uI (μ 0) (2) (0))) (0) ((((uI (μ 0) (2) (0)) 0) - 1))) 0)) + k)))))) ((k + 1)) (by omega) (by omega) (by have h9 := cpN_s (f := μ 1) (g := fun j => μ 2 (115 * (μ 0 0 - 1) + j)) (B := 0) (k := k) (by omega); rw [Int.zero_add] at h9; rw [hg]; exact h9) _ _ hP hD hS ls (lv_sub hl [0, 1] rfl)
    exact L30 _ (μ 1) (0) (Nat.lt_succ_self _) (by omega) (cpN_0 _ _ _) _ _ hP hD hS ls (lv_sub hl [0, 1] rfl)
  · skip
    refine lv_aload_n hx hb dX5_undo_12 rfl (lv_at hl 0 rfl) ?_
    refine wi_iconst hx hb dX5_undo_13 ?_
    have hFc := fl_free (SC := [mdW cI b (sU μ 0 (2) (0))]) hD hS hA [0] rfl
    refine wq_calli (va_runV (As := [.int (iI (1))]) (rest := []) ⟨hx, hb, hml, hown, hts⟩ (c_X5_fails l D cI cO cC cL H.size b (sU μ 0 (2) (0)) (1) ) (cwV 1 hts gX5_undo_X5_fails rfl rfl rfl (by decide +kernel) ⟨Nat.le_of_ble_eq_true rfl, Nat.le_of_ble_eq_true rfl⟩) ⟨pcW_blind, va_recv hK hP (ci := 5) (q0 := 0) rfl rfl, pcW_of hP hK hD⟩ rfl rfl hl.1 rfl (lv_room (Nat.le_of_ble_eq_true rfl)) dX5_undo_14 ⟨(Nat.zero_le _), (Nat.zero_le _)⟩) hS (fun q _ h => hFc q h) hFc (fun r1 u3 t9 H1 locs ht9 hvm hcl2 hB hz1 hk1 hS => ?_)
    obtain ⟨hP1, hK1, hD1⟩ := hB
    rw [ht9] at hP1
    obtain ⟨hP, hD⟩ := fl_join (SR := []) (S1 := [mdW cI b (sU (sU μ 0 (2) (0)) 0 2 (1))]) hP hD [0] [] rfl rfl (by decide) (by decide) hk1 hFc hP1 hD1
    generalize H1 = H at hP hS ⊢
    have hP : va_P D vwCl (fl [mdW cI b (sU (sU μ 0 (2) (0)) 0 2 (1))]) H := hP
    have hD : va_D A (fl [mdW cI b (sU (sU μ 0 (2) (0)) 0 2 (1))]) := hD
    exact W.iret (v := iI (r1)) hx hb hr (fun t9 ht9 hW9 => ⟨⟨(r1), (sU (sU μ 0 (2) (0)) 0 2 (1)), rfl, (OPQ.bad (k := 1) (by unfold cd1; first | (rw [if_pos (by omega)] <;> rfl) | (rw [if_neg (by omega)] <;> rfl)) (by decide) rfl hM), ⟨by rw [ht9]; exact hP, va_K.moved hW9.alike hK, hD⟩⟩, hS.F ht9⟩) hS.2.2 dX5_undo_17 hlocks
set_option maxHeartbeats 4000000 in
set_option maxRecDepth 100000 in
theorem c_X5_clearBuffer (l : Launch) (D : va_G) (cI cO cC cL : ClassId) (sz : Nat) (b : Nat → Nat) (μ σ : Nat → Int → Int) (ss : Nat → Nat → Int → Int) (β : Int → Int) (hM : RelM σ (μ 0 0) ss (μ 0 1) β μ) (hG : GI σ (μ 0 0) ss (μ 0 1) β) : Met l yX5_clearBuffer wsX5_clearBuffer ({ frames := 0, cells := 0, slots := 0, locals := 0 } : Room) (pcW D [(cI, FieldType.int)] [.ref (b 0)] (fl [mdW cI b μ]) sz) (wq_i (fun (r : Int) (μ' : Nat → Int → Int) => r = μ 0 1 ∧ RelM σ (μ 0 0) ss 0 β μ') (fun (μ' : Nat → Int → Int) => (bW D [(cI, FieldType.int)] (fl [mdW cI b μ']) (va_A (fl [mdW cI b μ]) sz))) (va_A (fl [mdW cI b μ]) sz)) 0 0 (va_A (fl [mdW cI b μ]) sz) := by
  refine Met.ofW (cc := cX5_clearBuffer) (maxL := 2) (ret := (some .int)) (by decide) rfl ?_
  intro p9 e9 s m args9 below9 meth9 c9 s₁ B hml hv
  obtain ⟨rfl, hsz, hP, hK, hD0⟩ := hv
  have hx := B.exec
  have hb := B.bytes
  have hr := B.returns
  have hts := atoms_spec (ws := wsX5_clearBuffer) B.pre
  have hown : s.vm.findClass RX5 = some m.cls := findClass_of_methodNamed B.named
  have hlocks := B.notSynchronized
  subst hsz
  have hD := hD0.self (sz := s.heap.size)
  generalize hAe : va_A (fl [mdW cI b μ]) s.heap.size = A at hD ⊢
  have hA : ∀ q : Nat, s.heap.size ≤ q → A q := fun q h => by rw [← hAe]; exact Or.inr h
  have hS : va_S A s.heap s.heap [] := va_S.rf
  have hP : va_P D vwCl (fl [mdW cI b μ]) s.heap := hP
  have hl := lv_entry ([.ref (b 0)]) (n := 2) (Nat.le_of_ble_eq_true rfl)
  rw [lg_entry_eq]
  generalize (lg_sl ([.ref (b 0)]) ++ List.replicate (2 - (lg_sl ([.ref (b 0)])).length) Slot.unset).toArray = ls at hl ⊢
  have hl : lv_has ls 2 [(0, .ref (b 0))] := hl
  have hw_0 := hts (.fieldLink RX5 25 "PromisedCountersModel" "thrown" "I") (by decide +kernel)
  have hin_X5 : ∀ w ∈ u_ws RX5 TX5 12, w ∈ wsX5_clearBuffer := by decide +kernel
  have hw_1 := hts (.fieldLink RX5 94 "PromisedCountersModel" "typed" "I") (by decide +kernel)
  refine lv_aload_n hx hb dX5_clearBuffer_0 rfl (lv_at hl 0 rfl) ?_
  refine wi_iconst hx hb dX5_clearBuffer_1 ?_
  refine va_put (D := D) (ci := 5) (v := .int (iI (0))) (ty := .int) (C := RX5) (T := TX5) (N := 12) hx hb hts hin_X5 tyX5 tyX5_ok nmX5 hown hK hP hD hS 0 rfl rfl 5 (by decide) hw_0 (fun _ h9 => h9) rfl (by decide +kernel) rfl rfl (Nat.le_of_ble_eq_true rfl) dX5_clearBuffer_2 (fun H locs hP hD hS => ?_)
  have hP : va_P D vwCl (fl [mdW cI b (sU μ 0 (2) (0))]) H := hP
  have hD : va_D A (fl [mdW cI b (sU μ 0 (2) (0))]) := hD
  refine lv_aload_n hx hb dX5_clearBuffer_5 rfl (lv_at hl 0 rfl) ?_
  refine va_get (D := D) (ci := 5) (v := .int (iI (((uI (μ 0) (2) (0)) 1)))) (C := RX5) (T := TX5) (N := 12) hx hb hts hin_X5 hown hK hP 0 rfl rfl 4 (by decide) hw_1 (fun _ h9 => h9) rfl dX5_clearBuffer_6 ?_
  refine lv_istore_n (lv' := [(1, .int (iI (((uI (μ 0) (2) (0)) 1)))), (0, .ref (b 0))]) hx hb dX5_clearBuffer_9 rfl hl (by decide) rfl (fun ls hl => ?_)
  refine lv_aload_n hx hb dX5_clearBuffer_10 rfl (lv_at hl 1 rfl) ?_
  refine wi_iconst hx hb dX5_clearBuffer_11 ?_
  refine va_put (D := D) (ci := 5) (v := .int (iI (0))) (ty := .int) (C := RX5) (T := TX5) (N := 12) hx hb hts hin_X5 tyX5 tyX5_ok nmX5 hown hK hP hD hS 0 rfl rfl 4 (by decide) hw_1 (fun _ h9 => h9) rfl (by decide +kernel) rfl rfl (Nat.le_of_ble_eq_true rfl) dX5_clearBuffer_12 (fun H locs hP hD hS => ?_)
  have hP : va_P D vwCl (fl [mdW cI b (sU (sU μ 0 (2) (0)) 0 (1) (0))]) H := hP
  have hD : va_D A (fl [mdW cI b (sU (sU μ 0 (2) (0)) 0 (1) (0))]) := hD
  refine lv_iload_n hx hb dX5_clearBuffer_15 rfl (lv_at hl 0 rfl) ?_
  exact W.iret (v := iI (((uI (μ 0) (2) (0)) 1))) hx hb hr (fun t9 ht9 hW9 => ⟨⟨(((uI (μ 0) (2) (0)) 1)), (sU (sU μ 0 (2) (0)) 0 (1) (0)), rfl, (⟨rfl, hM.1, rfl, hM.2.2.1, rfl, fun j j0 j1 => by omega⟩), ⟨by rw [ht9]; exact hP, va_K.moved hW9.alike hK, hD⟩⟩, hS.F ht9⟩) hS.2.2 dX5_clearBuffer_16 hlocks
