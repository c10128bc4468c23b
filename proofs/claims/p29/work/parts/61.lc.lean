set_option maxHeartbeats 4000000 in
set_option maxRecDepth 100000 in
theorem c_L_counters (l : Launch) (D : va_G) (cI cO cC cL : ClassId) (sz : Nat) (x a sv o rd bu : Nat → Nat) (ln σ : Nat → Int → Int) (κ φ : Nat → Int → Int) (fs : Nat → Option Nat) (hI : Inv σ) : Met l yL_counters wsL_counters ({ frames := 8, cells := 0, slots := 0, locals := 164 } : Room) (pcW D [(cI, FieldType.int), (cO, FieldType.object "PromisedCounters$State"), (cC, FieldType.char)] [.ref (x 0)] (fl [mnW x a sv o rd bu ln, stW cI a σ, svO cO sv fs κ, ocW cI o φ]) sz) (wq_i (fun (r : Int) (ψ : Nat → Int → Int) => r = 1) (fun (ψ : Nat → Int → Int) => (bW D [(cI, FieldType.int), (cO, FieldType.object "PromisedCounters$State"), (cC, FieldType.char)] (fl [mnW x a sv o rd bu ln, stW cI a σ, svO cO sv fs κ, ocW cI o ψ]) (va_A (fl [mnW x a sv o rd bu ln, stW cI a σ, svO cO sv fs κ, ocW cI o φ]) sz))) (va_A (fl [mnW x a sv o rd bu ln, stW cI a σ, svO cO sv fs κ, ocW cI o φ]) sz)) 0 0 (va_A (fl [mnW x a sv o rd bu ln, stW cI a σ, svO cO sv fs κ, ocW cI o φ]) sz) := by
  refine Met.ofW (cc := cL_counters) (maxL := 8) (ret := (some .boolean)) (by decide) rfl ?_
  intro p9 e9 s m args9 below9 meth9 c9 s₁ B hml hv
  obtain ⟨rfl, hsz, hP, hK, hD0⟩ := hv
  have hx := B.exec
  have hb := B.bytes
  have hr := B.returns
  have hts := atoms_spec (ws := wsL_counters) B.pre
  have hown : s.vm.findClass RL = some m.cls := findClass_of_methodNamed B.named
  have hlocks := B.notSynchronized
  subst hsz
  have hD := hD0.self (sz := s.heap.size)
  generalize hAe : va_A (fl [mnW x a sv o rd bu ln, stW cI a σ, svO cO sv fs κ, ocW cI o φ]) s.heap.size = A at hD ⊢
  have hA : ∀ q : Nat, s.heap.size ≤ q → A q := fun q h => by rw [← hAe]; exact Or.inr h
  have hS : va_S A s.heap s.heap [] := va_S.rf
  have hP : va_P D vwCl (fl [mnW x a sv o rd bu ln, stW cI a σ, svO cO sv fs κ, ocW cI o φ]) s.heap := hP
  have hl := lv_entry ([.ref (x 0)]) (n := 8) (Nat.le_of_ble_eq_true rfl)
  rw [lg_entry_eq]
  generalize (lg_sl ([.ref (x 0)]) ++ List.replicate (8 - (lg_sl ([.ref (x 0)])).length) Slot.unset).toArray = ls at hl ⊢
  have hl : lv_has ls 8 [(0, .ref (x 0))] := hl
  have hn := hI.n
  have hti := hI.t
  refine wi_iconst hx hb dL_counters_0 ?_
  refine lv_istore_n (lv' := [(1, .int (iI (1))), (0, .ref (x 0))]) hx hb dL_counters_1 rfl hl (by decide) rfl (fun ls hl => ?_)
  refine wi_iconst hx hb dL_counters_2 ?_
  refine lv_istore_n (lv' := [(2, .int (iI (0))), (1, .int (iI (1))), (0, .ref (x 0))]) hx hb dL_counters_3 rfl hl (by decide) rfl (fun ls hl => ?_)
  have L4 : ∀ (k4 : Nat), ∀ (c : Int) (ω : Nat → Int → Int), (4 - c).toNat < k4 → (0 ≤ c ∧ c ≤ 4) → ∀ (H : Heap) (locs : List Loc), va_P D vwCl (fl [mnW x a sv o rd bu ln, stW cI a σ, svO cO sv fs κ, ocW cI o ω]) H → va_D A (fl [mnW x a sv o rd bu ln, stW cI a σ, svO cO sv fs κ, ocW cI o ω]) → va_S A s.heap H locs → ∀ (ls : Array Slot), lv_has ls 8 [(2, .int (iI (c))), (1, .int (iI (1))), (0, .ref (x 0))] → W p9 l e9 ({ frames := 8, cells := 0, slots := 0, locals := 164 } : Room) s m ([.ref (x 0)] : List Value).toArray below9 meth9 c9 H locs 0 0 (MQ below9 (wq_i (fun (r : Int) (ψ : Nat → Int → Int) => r = 1) (fun (ψ : Nat → Int → Int) => (bW D [(cI, FieldType.int), (cO, FieldType.object "PromisedCounters$State"), (cC, FieldType.char)] (fl [mnW x a sv o rd bu ln, stW cI a σ, svO cO sv fs κ, ocW cI o ψ]) A)) A) ([.ref (x 0)] : List Value).toArray s 0 0 A) (F0 m 4 ls []) := by
    intro k4
    induction k4 with
    | zero =>
      intro c ω hm
      exact absurd hm (Nat.not_lt_zero _)
    | succ k4 ih4 =>
      intro c ω hm4 hc H locs hP hD hS ls hl
      refine lv_iload_n hx hb dL_counters_4 rfl (lv_at hl 0 rfl) ?_
      refine wi_iconst hx hb dL_counters_5 ?_
      refine wi_icmp_ge (tgt := 375) hx hb dL_counters_6 (by decide) (by omega) (fun c_6 => ?_) (fun c_6 => ?_)
      · skip
        refine lv_iload_n hx hb dL_counters_375 rfl (lv_at hl 1 rfl) ?_
        refine wi_if_eq (tgt := 401) hx hb dL_counters_376 (by decide) (by omega) (fun c_376 => ?_) (fun c_376 => ?_)
        · skip
          exfalso; omega
        · skip
          refine lv_aload_n hx hb dL_counters_379 rfl (lv_at hl 2 rfl) ?_
          have hPc := fl_P (S' := [mnW x a sv o rd bu ln, stW cI a σ]) hP [0, 1] rfl
          refine wr_calld (va_runV (As := []) (rest := []) ⟨hx, hb, hml, hown, hts⟩ (c_X4_heldShare l D cI cO cC cL x a sv o rd bu ln σ (by first | assumption | omega)) (cwV 0 hts gL_counters_X4_heldShare rfl rfl rfl (by decide +kernel) ⟨Nat.le_of_ble_eq_true rfl, Nat.le_of_ble_eq_true rfl⟩) ⟨pcR_blind, va_recv hK hPc (ci := 4) (q0 := 0) rfl rfl, pcR_of hPc hK⟩ rfl rfl hl.1 rfl (lv_room (Nat.le_of_ble_eq_true rfl)) dL_counters_380 ⟨(Nat.zero_le _), (Nat.zero_le _)⟩) (fun r1 hr1 => ?_)
          subst hr1
          refine lv_dconst0 hx hb dL_counters_383 ?_
          obtain ⟨z384, hz384, hv384⟩ := shr_0 hI
          refine wi_dcmp hx hb hv384 dL_counters_384 ?_
          refine wi_if_lt (tgt := 401) hx hb dL_counters_385 (by decide) (by omega) (fun c_385 => ?_) (fun c_385 => ?_)
          · skip
            exfalso; omega
          · skip
            refine lv_aload_n hx hb dL_counters_388 rfl (lv_at hl 2 rfl) ?_
            have hPc := fl_P (S' := [mnW x a sv o rd bu ln, stW cI a σ]) hP [0, 1] rfl
            refine wr_calld (va_runV (As := []) (rest := []) ⟨hx, hb, hml, hown, hts⟩ (c_X4_heldShare l D cI cO cC cL x a sv o rd bu ln σ (by first | assumption | omega)) (cwV 0 hts gL_counters_X4_heldShare rfl rfl rfl (by decide +kernel) ⟨Nat.le_of_ble_eq_true rfl, Nat.le_of_ble_eq_true rfl⟩) ⟨pcR_blind, va_recv hK hPc (ci := 4) (q0 := 0) rfl rfl, pcR_of hPc hK⟩ rfl rfl hl.1 rfl (lv_room (Nat.le_of_ble_eq_true rfl)) dL_counters_389 ⟨(Nat.zero_le _), (Nat.zero_le _)⟩) (fun r2 hr2 => ?_)
            subst hr2
            refine lv_dconst1 hx hb dL_counters_392 ?_
            obtain ⟨z393, hz393, hv393⟩ := shr_1 hI
            refine wi_dcmp hx hb hv393 dL_counters_393 ?_
            refine wi_if_gt (tgt := 401) hx hb dL_counters_394 (by decide) (by omega) (fun c_394 => ?_) (fun c_394 => ?_)
            · skip
              exfalso; omega
            · skip
              refine wi_iconst hx hb dL_counters_397 ?_
              refine lv_goto (tgt := 402) hx hb dL_counters_398 (by decide) ?_
              exact W.zret (v := iI (1)) hx hb hr (nar_z (by omega)) (fun t9 ht9 hW9 => ⟨⟨(1), ω, rfl, (rfl), ⟨by rw [ht9]; exact hP, va_K.moved hW9.alike hK, hD⟩⟩, hS.F ht9⟩) hS.2.2 dL_counters_402 hlocks
      · skip
        refine lv_iload_n hx hb dL_counters_9 rfl (lv_at hl 1 rfl) ?_
        refine wi_if_eq (tgt := 375) hx hb dL_counters_10 (by decide) (by omega) (fun c_10 => ?_) (fun c_10 => ?_)
        · skip
          exfalso; omega
        · skip
          have hcc0 := hI.c (c := c) (by omega) (by omega)
          refine lv_aload_n hx hb dL_counters_13 rfl (lv_at hl 2 rfl) ?_
          refine lv_iload_n hx hb dL_counters_14 rfl (lv_at hl 0 rfl) ?_
          refine wi_iconst hx hb dL_counters_15 ?_
          have hPc := fl_P (S' := [mnW x a sv o rd bu ln, stW cI a σ, ocW cI o ω]) hP [0, 1, 3] rfl
          have hDc := fl_D (S' := [mnW x a sv o rd bu ln, stW cI a σ, ocW cI o ω]) hD [0, 1, 3] (by decide) rfl
          have hFc := fl_free (SC := [mnW x a sv o rd bu ln, stW cI a σ, ocW cI o ω]) hD hS hA [0, 1, 3] rfl
          refine wq_calli (va_runV (As := [.int (iI (c)), .int (iI (0))]) (rest := []) ⟨hx, hb, hml, hown, hts⟩ (c_X4_counter l D cI cO cC cL H.size x a sv o rd bu ln σ ω (c) (0) (by first | assumption | omega) (by first | assumption | omega) (by first | assumption | omega)) (cwV 2 hts gL_counters_X4_counter rfl rfl rfl (by decide +kernel) ⟨Nat.le_of_ble_eq_true rfl, Nat.le_of_ble_eq_true rfl⟩) ⟨pcW_blind, va_recv hK hPc (ci := 4) (q0 := 0) rfl rfl, pcW_of hPc hK hDc⟩ rfl rfl hl.1 rfl (lv_room (Nat.le_of_ble_eq_true rfl)) dL_counters_16 ⟨(Nat.zero_le _), (Nat.zero_le _)⟩) hS (fun q _ h => hFc q h) hFc (fun r3 u5 t9 H1 locs ht9 hvm hcl4 hB hz1 hk1 hS => ?_)
          obtain ⟨hP1, hK1, hD1⟩ := hB
          rw [ht9] at hP1
          obtain ⟨hP, hD⟩ := fl_join (SR := [svO cO sv fs κ]) (S1 := [mnW x a sv o rd bu ln, stW cI a σ, ocW cI o u5]) hP hD [0, 1, 3] [2] rfl rfl (by decide) (by decide) hk1 hFc hP1 hD1
          generalize H1 = H at hP hS ⊢
          have hP := fl_P (S' := [mnW x a sv o rd bu ln, stW cI a σ, svO cO sv fs κ, ocW cI o u5]) hP [1, 2, 0, 3] rfl
          have hD := fl_D (S' := [mnW x a sv o rd bu ln, stW cI a σ, svO cO sv fs κ, ocW cI o u5]) hD [1, 2, 0, 3] (by decide) rfl
          have hr39 : r3 = ctrS σ c (0) := hcl4
          subst hr39
          refine wi_top (y := (σ 2 c)) rfl ?_
          refine lv_istore_n (lv' := [(3, .int (iI ((σ 2 c)))), (2, .int (iI (c))), (1, .int (iI (1))), (0, .ref (x 0))]) hx hb dL_counters_19 rfl hl (by decide) rfl (fun ls hl => ?_)
          refine lv_iload_n hx hb dL_counters_20 rfl (lv_at hl 0 rfl) ?_
          refine lv_istore (lv' := [(4, .int (iI ((σ 2 c)))), (3, .int (iI ((σ 2 c)))), (2, .int (iI (c))), (1, .int (iI (1))), (0, .ref (x 0))]) hx hb dL_counters_21 hl (by decide) rfl (fun ls hl => ?_)
          refine wi_iconst hx hb dL_counters_23 ?_
          refine lv_istore (lv' := [(5, .int (iI (0))), (4, .int (iI ((σ 2 c)))), (3, .int (iI ((σ 2 c)))), (2, .int (iI (c))), (1, .int (iI (1))), (0, .ref (x 0))]) hx hb dL_counters_24 hl (by decide) rfl (fun ls hl => ?_)
          refine wi_iconst hx hb dL_counters_26 ?_
          refine lv_istore (lv' := [(6, .int (iI (0))), (5, .int (iI (0))), (4, .int (iI ((σ 2 c)))), (3, .int (iI ((σ 2 c)))), (2, .int (iI (c))), (1, .int (iI (1))), (0, .ref (x 0))]) hx hb dL_counters_27 hl (by decide) rfl (fun ls hl => ?_)
          have L29 : ∀ (k29 : Nat), ∀ (p : Int) (lo : Int) (hi : Int) (mn : Int), (σ 0 1 - p).toNat < k29 → (0 ≤ p ∧ p ≤ σ 0 1) → (lo = σ 2 c + mnS σ c p.toNat) → (hi = σ 2 c + mxS σ c p.toNat) → (mn = inC σ c p.toNat) → ∀ (ls : Array Slot), lv_has ls 8 [(6, .int (iI (p))), (5, .int (iI (mn))), (4, .int (iI (hi))), (3, .int (iI (lo))), (2, .int (iI (c))), (1, .int (iI (1))), (0, .ref (x 0))] → W p9 l e9 ({ frames := 8, cells := 0, slots := 0, locals := 164 } : Room) s m ([.ref (x 0)] : List Value).toArray below9 meth9 c9 H locs 0 0 (MQ below9 (wq_i (fun (r : Int) (ψ : Nat → Int → Int) => r = 1) (fun (ψ : Nat → Int → Int) => (bW D [(cI, FieldType.int), (cO, FieldType.object "PromisedCounters$State"), (cC, FieldType.char)] (fl [mnW x a sv o rd bu ln, stW cI a σ, svO cO sv fs κ, ocW cI o ψ]) A)) A) ([.ref (x 0)] : List Value).toArray s 0 0 A) (F0 m 29 ls []) := by
            intro k29
            induction k29 with
            | zero =>
              intro p lo hi mn hm
              exact absurd hm (Nat.not_lt_zero _)
            | succ k29 ih29 =>
              intro p lo hi mn hm29 hp hlo hhi hmn ls hl
              refine lv_iload hx hb dL_counters_29 (lv_at hl 0 rfl) ?_
              refine lv_aload_n hx hb dL_counters_31 rfl (lv_at hl 6 rfl) ?_
              refine wi_iconst hx hb dL_counters_32 ?_
              have hPc := fl_P (S' := [mnW x a sv o rd bu ln, stW cI a σ, svO cO sv fs κ]) hP [0, 1, 2] rfl
              refine wr_calli (va_runV (As := [.int (iI (1))]) (rest := [.int (iI (p))]) ⟨hx, hb, hml, hown, hts⟩ (c_X4_count l D cI cO cC cL x a sv o rd bu ln σ κ fs (1) (by first | assumption | omega) (by first | assumption | omega)) (cwV 1 hts gL_counters_X4_count rfl rfl rfl (by decide +kernel) ⟨Nat.le_of_ble_eq_true rfl, Nat.le_of_ble_eq_true rfl⟩) ⟨pcR_blind, va_recv hK hPc (ci := 4) (q0 := 0) rfl rfl, pcR_of hPc hK⟩ rfl rfl hl.1 rfl (lv_room (Nat.le_of_ble_eq_true rfl)) dL_counters_33 ⟨(Nat.zero_le _), (Nat.zero_le _)⟩) (fun r6 hr6 => ?_)
              subst hr6
              refine wi_top (y := (cntS σ (κ 0 0) (1))) rfl ?_
              refine wi_top (y := (σ 0 1)) rfl ?_
              refine wi_icmp_ge (tgt := 136) hx hb dL_counters_36 (by decide) (by omega) (fun c_36 => ?_) (fun c_36 => ?_)
              · skip
                have hp9 : p = σ 0 1 := by omega
                have e1 : lo = lowS σ c (σ 0 0) := by rw [hlo, low_mn hI c, hp9]
                have e2 : hi = highS σ c := by rw [hhi, high_mx, hp9]
                have e3 : mn = chN σ c := by rw [hmn, hp9]; rfl
                have hcc := hI.c (c := c) (by omega) (by omega)
                have hcw := cnt_r hI (c := c) (by omega) (by omega)
                have hch := chN_r hI c
                have hsp := span_ge hI c
                have hcs := chSum_lh hI c
                obtain ⟨hf1, hf2, hf3, hf4, hf5⟩ := few_lh hI (c := c) (by omega) (by omega)
                have hpw := pw2_r hch.1 hch.2
                rw [← e1] at hf1 hf3 hf4
                rw [← e2] at hf2 hf3 hf5
                rw [← e3] at hcw hch hsp hf3 hpw
                obtain ⟨hw1, hw2, hw3, hw4⟩ := hcw
                refine lv_aload_n hx hb dL_counters_136 rfl (lv_at hl 6 rfl) ?_
                refine lv_iload_n hx hb dL_counters_137 rfl (lv_at hl 4 rfl) ?_
                refine wi_iconst hx hb dL_counters_138 ?_
                have hPc := fl_P (S' := [mnW x a sv o rd bu ln, stW cI a σ, ocW cI o u5]) hP [0, 1, 3] rfl
                have hDc := fl_D (S' := [mnW x a sv o rd bu ln, stW cI a σ, ocW cI o u5]) hD [0, 1, 3] (by decide) rfl
                have hFc := fl_free (SC := [mnW x a sv o rd bu ln, stW cI a σ, ocW cI o u5]) hD hS hA [0, 1, 3] rfl
                refine wq_calli (va_runV (As := [.int (iI (c)), .int (iI (3))]) (rest := []) ⟨hx, hb, hml, hown, hts⟩ (c_X4_counter l D cI cO cC cL H.size x a sv o rd bu ln σ u5 (c) (3) (by first | assumption | omega) (by first | assumption | omega) (by first | assumption | omega)) (cwV 2 hts gL_counters_X4_counter rfl rfl rfl (by decide +kernel) ⟨Nat.le_of_ble_eq_true rfl, Nat.le_of_ble_eq_true rfl⟩) ⟨pcW_blind, va_recv hK hPc (ci := 4) (q0 := 0) rfl rfl, pcW_of hPc hK hDc⟩ rfl rfl hl.1 rfl (lv_room (Nat.le_of_ble_eq_true rfl)) dL_counters_139 ⟨(Nat.zero_le _), (Nat.zero_le _)⟩) hS (fun q _ h => hFc q h) hFc (fun r7 u9 t9 H1 locs ht9 hvm hcl8 hB hz1 hk1 hS => ?_)
                obtain ⟨hP1, hK1, hD1⟩ := hB
                rw [ht9] at hP1
                obtain ⟨hP, hD⟩ := fl_join (SR := [svO cO sv fs κ]) (S1 := [mnW x a sv o rd bu ln, stW cI a σ, ocW cI o u9]) hP hD [0, 1, 3] [2] rfl rfl (by decide) (by decide) hk1 hFc hP1 hD1
                generalize H1 = H at hP hS ⊢
                have hP := fl_P (S' := [mnW x a sv o rd bu ln, stW cI a σ, svO cO sv fs κ, ocW cI o u9]) hP [1, 2, 0, 3] rfl
                have hD := fl_D (S' := [mnW x a sv o rd bu ln, stW cI a σ, svO cO sv fs κ, ocW cI o u9]) hD [1, 2, 0, 3] (by decide) rfl
                have hr79 : r7 = ctrS σ c (3) := hcl8
                subst hr79
                refine wi_top (y := (lowS σ c (σ 0 0))) rfl ?_
                refine lv_iload_n hx hb dL_counters_142 rfl (lv_at hl 3 rfl) ?_
                refine wi_icmp_ne (tgt := 209) hx hb dL_counters_143 (by decide) (by omega) (fun c_143 => ?_) (fun c_143 => ?_)
                · skip
                  exfalso; omega
                · skip
                  refine lv_aload_n hx hb dL_counters_146 rfl (lv_at hl 6 rfl) ?_
                  refine lv_iload_n hx hb dL_counters_147 rfl (lv_at hl 4 rfl) ?_
                  refine wi_iconst hx hb dL_counters_148 ?_
                  have hPc := fl_P (S' := [mnW x a sv o rd bu ln, stW cI a σ, ocW cI o u9]) hP [0, 1, 3] rfl
                  have hDc := fl_D (S' := [mnW x a sv o rd bu ln, stW cI a σ, ocW cI o u9]) hD [0, 1, 3] (by decide) rfl
                  have hFc := fl_free (SC := [mnW x a sv o rd bu ln, stW cI a σ, ocW cI o u9]) hD hS hA [0, 1, 3] rfl
                  refine wq_calli (va_runV (As := [.int (iI (c)), .int (iI (4))]) (rest := []) ⟨hx, hb, hml, hown, hts⟩ (c_X4_counter l D cI cO cC cL H.size x a sv o rd bu ln σ u9 (c) (4) (by first | assumption | omega) (by first | assumption | omega) (by first | assumption | omega)) (cwV 2 hts gL_counters_X4_counter rfl rfl rfl (by decide +kernel) ⟨Nat.le_of_ble_eq_true rfl, Nat.le_of_ble_eq_true rfl⟩) ⟨pcW_blind, va_recv hK hPc (ci := 4) (q0 := 0) rfl rfl, pcW_of hPc hK hDc⟩ rfl rfl hl.1 rfl (lv_room (Nat.le_of_ble_eq_true rfl)) dL_counters_149 ⟨(Nat.zero_le _), (Nat.zero_le _)⟩) hS (fun q _ h => hFc q h) hFc (fun r10 u12 t9 H1 locs ht9 hvm hcl11 hB hz1 hk1 hS => ?_)
                  obtain ⟨hP1, hK1, hD1⟩ := hB
                  rw [ht9] at hP1
                  obtain ⟨hP, hD⟩ := fl_join (SR := [svO cO sv fs κ]) (S1 := [mnW x a sv o rd bu ln, stW cI a σ, ocW cI o u12]) hP hD [0, 1, 3] [2] rfl rfl (by decide) (by decide) hk1 hFc hP1 hD1
                  generalize H1 = H at hP hS ⊢
                  have hP := fl_P (S' := [mnW x a sv o rd bu ln, stW cI a σ, svO cO sv fs κ, ocW cI o u12]) hP [1, 2, 0, 3] rfl
                  have hD := fl_D (S' := [mnW x a sv o rd bu ln, stW cI a σ, svO cO sv fs κ, ocW cI o u12]) hD [1, 2, 0, 3] (by decide) rfl
                  have hr109 : r10 = ctrS σ c (4) := hcl11
                  subst hr109
                  refine wi_top (y := (highS σ c)) rfl ?_
                  refine lv_iload hx hb dL_counters_152 (lv_at hl 2 rfl) ?_
                  refine wi_icmp_ne (tgt := 209) hx hb dL_counters_154 (by decide) (by omega) (fun c_154 => ?_) (fun c_154 => ?_)
                  · skip
                    exfalso; omega
                  · skip
                    refine lv_aload_n hx hb dL_counters_157 rfl (lv_at hl 6 rfl) ?_
                    refine lv_iload_n hx hb dL_counters_158 rfl (lv_at hl 4 rfl) ?_
                    refine wi_iconst hx hb dL_counters_159 ?_
                    have hPc := fl_P (S' := [mnW x a sv o rd bu ln, stW cI a σ, ocW cI o u12]) hP [0, 1, 3] rfl
                    have hDc := fl_D (S' := [mnW x a sv o rd bu ln, stW cI a σ, ocW cI o u12]) hD [0, 1, 3] (by decide) rfl
                    have hFc := fl_free (SC := [mnW x a sv o rd bu ln, stW cI a σ, ocW cI o u12]) hD hS hA [0, 1, 3] rfl
                    refine wq_calli (va_runV (As := [.int (iI (c)), .int (iI (5))]) (rest := []) ⟨hx, hb, hml, hown, hts⟩ (c_X4_counter l D cI cO cC cL H.size x a sv o rd bu ln σ u12 (c) (5) (by first | assumption | omega) (by first | assumption | omega) (by first | assumption | omega)) (cwV 2 hts gL_counters_X4_counter rfl rfl rfl (by decide +kernel) ⟨Nat.le_of_ble_eq_true rfl, Nat.le_of_ble_eq_true rfl⟩) ⟨pcW_blind, va_recv hK hPc (ci := 4) (q0 := 0) rfl rfl, pcW_of hPc hK hDc⟩ rfl rfl hl.1 rfl (lv_room (Nat.le_of_ble_eq_true rfl)) dL_counters_160 ⟨(Nat.zero_le _), (Nat.zero_le _)⟩) hS (fun q _ h => hFc q h) hFc (fun r13 u15 t9 H1 locs ht9 hvm hcl14 hB hz1 hk1 hS => ?_)
                    obtain ⟨hP1, hK1, hD1⟩ := hB
                    rw [ht9] at hP1
                    obtain ⟨hP, hD⟩ := fl_join (SR := [svO cO sv fs κ]) (S1 := [mnW x a sv o rd bu ln, stW cI a σ, ocW cI o u15]) hP hD [0, 1, 3] [2] rfl rfl (by decide) (by decide) hk1 hFc hP1 hD1
                    generalize H1 = H at hP hS ⊢
                    have hP := fl_P (S' := [mnW x a sv o rd bu ln, stW cI a σ, svO cO sv fs κ, ocW cI o u15]) hP [1, 2, 0, 3] rfl
                    have hD := fl_D (S' := [mnW x a sv o rd bu ln, stW cI a σ, svO cO sv fs κ, ocW cI o u15]) hD [1, 2, 0, 3] (by decide) rfl
                    have hr139 : r13 = ctrS σ c (5) := hcl14
                    subst hr139
                    refine wi_top (y := (chN σ c)) rfl ?_
                    refine lv_iload hx hb dL_counters_163 (lv_at hl 1 rfl) ?_
                    refine wi_icmp_ne (tgt := 209) hx hb dL_counters_165 (by decide) (by omega) (fun c_165 => ?_) (fun c_165 => ?_)
                    · skip
                      exfalso; omega
                    · skip
                      refine lv_aload_n hx hb dL_counters_168 rfl (lv_at hl 6 rfl) ?_
                      refine lv_iload_n hx hb dL_counters_169 rfl (lv_at hl 4 rfl) ?_
                      refine wi_bipush hx hb dL_counters_170 (by decide) ?_
                      have hPc := fl_P (S' := [mnW x a sv o rd bu ln, stW cI a σ, ocW cI o u15]) hP [0, 1, 3] rfl
                      have hDc := fl_D (S' := [mnW x a sv o rd bu ln, stW cI a σ, ocW cI o u15]) hD [0, 1, 3] (by decide) rfl
                      have hFc := fl_free (SC := [mnW x a sv o rd bu ln, stW cI a σ, ocW cI o u15]) hD hS hA [0, 1, 3] rfl
                      refine wq_calli (va_runV (As := [.int (iI (c)), .int (iI (7))]) (rest := []) ⟨hx, hb, hml, hown, hts⟩ (c_X4_counter l D cI cO cC cL H.size x a sv o rd bu ln σ u15 (c) (7) (by first | assumption | omega) (by first | assumption | omega) (by first | assumption | omega)) (cwV 2 hts gL_counters_X4_counter rfl rfl rfl (by decide +kernel) ⟨Nat.le_of_ble_eq_true rfl, Nat.le_of_ble_eq_true rfl⟩) ⟨pcW_blind, va_recv hK hPc (ci := 4) (q0 := 0) rfl rfl, pcW_of hPc hK hDc⟩ rfl rfl hl.1 rfl (lv_room (Nat.le_of_ble_eq_true rfl)) dL_counters_172 ⟨(Nat.zero_le _), (Nat.zero_le _)⟩) hS (fun q _ h => hFc q h) hFc (fun r16 u18 t9 H1 locs ht9 hvm hcl17 hB hz1 hk1 hS => ?_)
                      obtain ⟨hP1, hK1, hD1⟩ := hB
                      rw [ht9] at hP1
                      obtain ⟨hP, hD⟩ := fl_join (SR := [svO cO sv fs κ]) (S1 := [mnW x a sv o rd bu ln, stW cI a σ, ocW cI o u18]) hP hD [0, 1, 3] [2] rfl rfl (by decide) (by decide) hk1 hFc hP1 hD1
                      generalize H1 = H at hP hS ⊢
                      have hP := fl_P (S' := [mnW x a sv o rd bu ln, stW cI a σ, svO cO sv fs κ, ocW cI o u18]) hP [1, 2, 0, 3] rfl
                      have hD := fl_D (S' := [mnW x a sv o rd bu ln, stW cI a σ, svO cO sv fs κ, ocW cI o u18]) hD [1, 2, 0, 3] (by decide) rfl
                      have hr169 : r16 = ctrS σ c (7) := hcl17
                      subst hr169
                      refine wi_top (y := (lowS σ c (σ 0 0) - σ 3 c)) rfl ?_
                      refine lv_iload_n hx hb dL_counters_175 rfl (lv_at hl 3 rfl) ?_
                      refine lv_aload_n hx hb dL_counters_176 rfl (lv_at hl 6 rfl) ?_
                      refine lv_iload_n hx hb dL_counters_177 rfl (lv_at hl 4 rfl) ?_
                      refine wi_iconst hx hb dL_counters_178 ?_
                      have hPc := fl_P (S' := [mnW x a sv o rd bu ln, stW cI a σ, ocW cI o u18]) hP [0, 1, 3] rfl
                      have hDc := fl_D (S' := [mnW x a sv o rd bu ln, stW cI a σ, ocW cI o u18]) hD [0, 1, 3] (by decide) rfl
                      have hFc := fl_free (SC := [mnW x a sv o rd bu ln, stW cI a σ, ocW cI o u18]) hD hS hA [0, 1, 3] rfl
                      refine wq_calli (va_runV (As := [.int (iI (c)), .int (iI (1))]) (rest := [.int (iI (lo)), .int (iI ((lowS σ c (σ 0 0) - σ 3 c)))]) ⟨hx, hb, hml, hown, hts⟩ (c_X4_counter l D cI cO cC cL H.size x a sv o rd bu ln σ u18 (c) (1) (by first | assumption | omega) (by first | assumption | omega) (by first | assumption | omega)) (cwV 2 hts gL_counters_X4_counter rfl rfl rfl (by decide +kernel) ⟨Nat.le_of_ble_eq_true rfl, Nat.le_of_ble_eq_true rfl⟩) ⟨pcW_blind, va_recv hK hPc (ci := 4) (q0 := 0) rfl rfl, pcW_of hPc hK hDc⟩ rfl rfl hl.1 rfl (lv_room (Nat.le_of_ble_eq_true rfl)) dL_counters_179 ⟨(Nat.zero_le _), (Nat.zero_le _)⟩) hS (fun q _ h => hFc q h) hFc (fun r19 u21 t9 H1 locs ht9 hvm hcl20 hB hz1 hk1 hS => ?_)
                      obtain ⟨hP1, hK1, hD1⟩ := hB
                      rw [ht9] at hP1
                      obtain ⟨hP, hD⟩ := fl_join (SR := [svO cO sv fs κ]) (S1 := [mnW x a sv o rd bu ln, stW cI a σ, ocW cI o u21]) hP hD [0, 1, 3] [2] rfl rfl (by decide) (by decide) hk1 hFc hP1 hD1
                      generalize H1 = H at hP hS ⊢
                      have hP := fl_P (S' := [mnW x a sv o rd bu ln, stW cI a σ, svO cO sv fs κ, ocW cI o u21]) hP [1, 2, 0, 3] rfl
                      have hD := fl_D (S' := [mnW x a sv o rd bu ln, stW cI a σ, svO cO sv fs κ, ocW cI o u21]) hD [1, 2, 0, 3] (by decide) rfl
                      have hr199 : r19 = ctrS σ c (1) := hcl20
                      subst hr199
                      refine wi_top (y := (σ 3 c)) rfl ?_
                      refine wi_isub hx hb dL_counters_182 ?_
                      refine wi_icmp_ne (tgt := 209) hx hb dL_counters_183 (by decide) (by omega) (fun c_183 => ?_) (fun c_183 => ?_)
                      · skip
                        exfalso; omega
                      · skip
                        refine lv_aload_n hx hb dL_counters_186 rfl (lv_at hl 6 rfl) ?_
                        refine lv_iload_n hx hb dL_counters_187 rfl (lv_at hl 4 rfl) ?_
                        refine wi_bipush hx hb dL_counters_188 (by decide) ?_
                        have hPc := fl_P (S' := [mnW x a sv o rd bu ln, stW cI a σ, ocW cI o u21]) hP [0, 1, 3] rfl
                        have hDc := fl_D (S' := [mnW x a sv o rd bu ln, stW cI a σ, ocW cI o u21]) hD [0, 1, 3] (by decide) rfl
                        have hFc := fl_free (SC := [mnW x a sv o rd bu ln, stW cI a σ, ocW cI o u21]) hD hS hA [0, 1, 3] rfl
                        refine wq_calli (va_runV (As := [.int (iI (c)), .int (iI (8))]) (rest := []) ⟨hx, hb, hml, hown, hts⟩ (c_X4_counter l D cI cO cC cL H.size x a sv o rd bu ln σ u21 (c) (8) (by first | assumption | omega) (by first | assumption | omega) (by first | assumption | omega)) (cwV 2 hts gL_counters_X4_counter rfl rfl rfl (by decide +kernel) ⟨Nat.le_of_ble_eq_true rfl, Nat.le_of_ble_eq_true rfl⟩) ⟨pcW_blind, va_recv hK hPc (ci := 4) (q0 := 0) rfl rfl, pcW_of hPc hK hDc⟩ rfl rfl hl.1 rfl (lv_room (Nat.le_of_ble_eq_true rfl)) dL_counters_190 ⟨(Nat.zero_le _), (Nat.zero_le _)⟩) hS (fun q _ h => hFc q h) hFc (fun r22 u24 t9 H1 locs ht9 hvm hcl23 hB hz1 hk1 hS => ?_)
                        obtain ⟨hP1, hK1, hD1⟩ := hB
                        rw [ht9] at hP1
                        obtain ⟨hP, hD⟩ := fl_join (SR := [svO cO sv fs κ]) (S1 := [mnW x a sv o rd bu ln, stW cI a σ, ocW cI o u24]) hP hD [0, 1, 3] [2] rfl rfl (by decide) (by decide) hk1 hFc hP1 hD1
                        generalize H1 = H at hP hS ⊢
                        have hP := fl_P (S' := [mnW x a sv o rd bu ln, stW cI a σ, svO cO sv fs κ, ocW cI o u24]) hP [1, 2, 0, 3] rfl
                        have hD := fl_D (S' := [mnW x a sv o rd bu ln, stW cI a σ, svO cO sv fs κ, ocW cI o u24]) hD [1, 2, 0, 3] (by decide) rfl
                        have hr229 : r22 = ctrS σ c (8) := hcl23
                        subst hr229
                        refine wi_top (y := (σ 4 c - highS σ c)) rfl ?_
                        refine lv_aload_n hx hb dL_counters_193 rfl (lv_at hl 6 rfl) ?_
                        refine lv_iload_n hx hb dL_counters_194 rfl (lv_at hl 4 rfl) ?_
                        refine wi_iconst hx hb dL_counters_195 ?_
                        have hPc := fl_P (S' := [mnW x a sv o rd bu ln, stW cI a σ, ocW cI o u24]) hP [0, 1, 3] rfl
                        have hDc := fl_D (S' := [mnW x a sv o rd bu ln, stW cI a σ, ocW cI o u24]) hD [0, 1, 3] (by decide) rfl
                        have hFc := fl_free (SC := [mnW x a sv o rd bu ln, stW cI a σ, ocW cI o u24]) hD hS hA [0, 1, 3] rfl
                        refine wq_calli (va_runV (As := [.int (iI (c)), .int (iI (2))]) (rest := [.int (iI ((σ 4 c - highS σ c)))]) ⟨hx, hb, hml, hown, hts⟩ (c_X4_counter l D cI cO cC cL H.size x a sv o rd bu ln σ u24 (c) (2) (by first | assumption | omega) (by first | assumption | omega) (by first | assumption | omega)) (cwV 2 hts gL_counters_X4_counter rfl rfl rfl (by decide +kernel) ⟨Nat.le_of_ble_eq_true rfl, Nat.le_of_ble_eq_true rfl⟩) ⟨pcW_blind, va_recv hK hPc (ci := 4) (q0 := 0) rfl rfl, pcW_of hPc hK hDc⟩ rfl rfl hl.1 rfl (lv_room (Nat.le_of_ble_eq_true rfl)) dL_counters_196 ⟨(Nat.zero_le _), (Nat.zero_le _)⟩) hS (fun q _ h => hFc q h) hFc (fun r25 u27 t9 H1 locs ht9 hvm hcl26 hB hz1 hk1 hS => ?_)
                        obtain ⟨hP1, hK1, hD1⟩ := hB
                        rw [ht9] at hP1
                        obtain ⟨hP, hD⟩ := fl_join (SR := [svO cO sv fs κ]) (S1 := [mnW x a sv o rd bu ln, stW cI a σ, ocW cI o u27]) hP hD [0, 1, 3] [2] rfl rfl (by decide) (by decide) hk1 hFc hP1 hD1
                        generalize H1 = H at hP hS ⊢
                        have hP := fl_P (S' := [mnW x a sv o rd bu ln, stW cI a σ, svO cO sv fs κ, ocW cI o u27]) hP [1, 2, 0, 3] rfl
                        have hD := fl_D (S' := [mnW x a sv o rd bu ln, stW cI a σ, svO cO sv fs κ, ocW cI o u27]) hD [1, 2, 0, 3] (by decide) rfl
                        have hr259 : r25 = ctrS σ c (2) := hcl26
                        subst hr259
                        refine wi_top (y := (σ 4 c)) rfl ?_
                        refine lv_iload hx hb dL_counters_199 (lv_at hl 2 rfl) ?_
                        refine wi_isub hx hb dL_counters_201 ?_
                        refine wi_icmp_ne (tgt := 209) hx hb dL_counters_202 (by decide) (by omega) (fun c_202 => ?_) (fun c_202 => ?_)
                        · skip
                          exfalso; omega
                        · skip
                          refine wi_iconst hx hb dL_counters_205 ?_
                          refine lv_goto (tgt := 210) hx hb dL_counters_206 (by decide) ?_
                          refine lv_istore_n (lv' := [(1, .int (iI (1))), (6, .int (iI (p))), (5, .int (iI (mn))), (4, .int (iI (hi))), (3, .int (iI (lo))), (2, .int (iI (c))), (0, .ref (x 0))]) hx hb dL_counters_210 rfl hl (by decide) rfl (fun ls hl => ?_)
                          refine lv_iload_n hx hb dL_counters_211 rfl (lv_at hl 0 rfl) ?_
                          refine wi_if_eq (tgt := 296) hx hb dL_counters_212 (by decide) (by omega) (fun c_212 => ?_) (fun c_212 => ?_)
                          · skip
                            exfalso; omega
                          · skip
                            refine lv_aload_n hx hb dL_counters_215 rfl (lv_at hl 6 rfl) ?_
                            refine lv_iload_n hx hb dL_counters_216 rfl (lv_at hl 5 rfl) ?_
                            refine wi_bipush hx hb dL_counters_217 (by decide) ?_
                            have hPc := fl_P (S' := [mnW x a sv o rd bu ln, stW cI a σ, ocW cI o u27]) hP [0, 1, 3] rfl
                            have hDc := fl_D (S' := [mnW x a sv o rd bu ln, stW cI a σ, ocW cI o u27]) hD [0, 1, 3] (by decide) rfl
                            have hFc := fl_free (SC := [mnW x a sv o rd bu ln, stW cI a σ, ocW cI o u27]) hD hS hA [0, 1, 3] rfl
                            refine wq_calli (va_runV (As := [.int (iI (c)), .int (iI (7))]) (rest := []) ⟨hx, hb, hml, hown, hts⟩ (c_X4_counter l D cI cO cC cL H.size x a sv o rd bu ln σ u27 (c) (7) (by first | assumption | omega) (by first | assumption | omega) (by first | assumption | omega)) (cwV 2 hts gL_counters_X4_counter rfl rfl rfl (by decide +kernel) ⟨Nat.le_of_ble_eq_true rfl, Nat.le_of_ble_eq_true rfl⟩) ⟨pcW_blind, va_recv hK hPc (ci := 4) (q0 := 0) rfl rfl, pcW_of hPc hK hDc⟩ rfl rfl hl.1 rfl (lv_room (Nat.le_of_ble_eq_true rfl)) dL_counters_219 ⟨(Nat.zero_le _), (Nat.zero_le _)⟩) hS (fun q _ h => hFc q h) hFc (fun r28 u30 t9 H1 locs ht9 hvm hcl29 hB hz1 hk1 hS => ?_)
                            obtain ⟨hP1, hK1, hD1⟩ := hB
                            rw [ht9] at hP1
                            obtain ⟨hP, hD⟩ := fl_join (SR := [svO cO sv fs κ]) (S1 := [mnW x a sv o rd bu ln, stW cI a σ, ocW cI o u30]) hP hD [0, 1, 3] [2] rfl rfl (by decide) (by decide) hk1 hFc hP1 hD1
                            generalize H1 = H at hP hS ⊢
                            have hP := fl_P (S' := [mnW x a sv o rd bu ln, stW cI a σ, svO cO sv fs κ, ocW cI o u30]) hP [1, 2, 0, 3] rfl
                            have hD := fl_D (S' := [mnW x a sv o rd bu ln, stW cI a σ, svO cO sv fs κ, ocW cI o u30]) hD [1, 2, 0, 3] (by decide) rfl
                            have hr289 : r28 = ctrS σ c (7) := hcl29
                            subst hr289
                            refine wi_top (y := (lowS σ c (σ 0 0) - σ 3 c)) rfl ?_
                            refine wi_if_lt (tgt := 296) hx hb dL_counters_222 (by decide) (by omega) (fun c_222 => ?_) (fun c_222 => ?_)
                            · skip
                              exfalso; omega
                            · skip
                              refine lv_aload_n hx hb dL_counters_225 rfl (lv_at hl 6 rfl) ?_
                              refine lv_iload_n hx hb dL_counters_226 rfl (lv_at hl 5 rfl) ?_
                              refine wi_bipush hx hb dL_counters_227 (by decide) ?_
                              have hPc := fl_P (S' := [mnW x a sv o rd bu ln, stW cI a σ, ocW cI o u30]) hP [0, 1, 3] rfl
                              have hDc := fl_D (S' := [mnW x a sv o rd bu ln, stW cI a σ, ocW cI o u30]) hD [0, 1, 3] (by decide) rfl
                              have hFc := fl_free (SC := [mnW x a sv o rd bu ln, stW cI a σ, ocW cI o u30]) hD hS hA [0, 1, 3] rfl
                              refine wq_calli (va_runV (As := [.int (iI (c)), .int (iI (8))]) (rest := []) ⟨hx, hb, hml, hown, hts⟩ (c_X4_counter l D cI cO cC cL H.size x a sv o rd bu ln σ u30 (c) (8) (by first | assumption | omega) (by first | assumption | omega) (by first | assumption | omega)) (cwV 2 hts gL_counters_X4_counter rfl rfl rfl (by decide +kernel) ⟨Nat.le_of_ble_eq_true rfl, Nat.le_of_ble_eq_true rfl⟩) ⟨pcW_blind, va_recv hK hPc (ci := 4) (q0 := 0) rfl rfl, pcW_of hPc hK hDc⟩ rfl rfl hl.1 rfl (lv_room (Nat.le_of_ble_eq_true rfl)) dL_counters_229 ⟨(Nat.zero_le _), (Nat.zero_le _)⟩) hS (fun q _ h => hFc q h) hFc (fun r31 u33 t9 H1 locs ht9 hvm hcl32 hB hz1 hk1 hS => ?_)
                              obtain ⟨hP1, hK1, hD1⟩ := hB
                              rw [ht9] at hP1
                              obtain ⟨hP, hD⟩ := fl_join (SR := [svO cO sv fs κ]) (S1 := [mnW x a sv o rd bu ln, stW cI a σ, ocW cI o u33]) hP hD [0, 1, 3] [2] rfl rfl (by decide) (by decide) hk1 hFc hP1 hD1
                              generalize H1 = H at hP hS ⊢
                              have hP := fl_P (S' := [mnW x a sv o rd bu ln, stW cI a σ, svO cO sv fs κ, ocW cI o u33]) hP [1, 2, 0, 3] rfl
                              have hD := fl_D (S' := [mnW x a sv o rd bu ln, stW cI a σ, svO cO sv fs κ, ocW cI o u33]) hD [1, 2, 0, 3] (by decide) rfl
                              have hr319 : r31 = ctrS σ c (8) := hcl32
                              subst hr319
                              refine wi_top (y := (σ 4 c - highS σ c)) rfl ?_
                              refine wi_if_lt (tgt := 296) hx hb dL_counters_232 (by decide) (by omega) (fun c_232 => ?_) (fun c_232 => ?_)
                              · skip
                                exfalso; omega
                              · skip
                                refine lv_aload_n hx hb dL_counters_235 rfl (lv_at hl 6 rfl) ?_
                                refine lv_iload_n hx hb dL_counters_236 rfl (lv_at hl 5 rfl) ?_
                                refine wi_bipush hx hb dL_counters_237 (by decide) ?_
                                have hPc := fl_P (S' := [mnW x a sv o rd bu ln, stW cI a σ, ocW cI o u33]) hP [0, 1, 3] rfl
                                have hDc := fl_D (S' := [mnW x a sv o rd bu ln, stW cI a σ, ocW cI o u33]) hD [0, 1, 3] (by decide) rfl
                                have hFc := fl_free (SC := [mnW x a sv o rd bu ln, stW cI a σ, ocW cI o u33]) hD hS hA [0, 1, 3] rfl
                                refine wq_calli (va_runV (As := [.int (iI (c)), .int (iI (9))]) (rest := []) ⟨hx, hb, hml, hown, hts⟩ (c_X4_counter l D cI cO cC cL H.size x a sv o rd bu ln σ u33 (c) (9) (by first | assumption | omega) (by first | assumption | omega) (by first | assumption | omega)) (cwV 2 hts gL_counters_X4_counter rfl rfl rfl (by decide +kernel) ⟨Nat.le_of_ble_eq_true rfl, Nat.le_of_ble_eq_true rfl⟩) ⟨pcW_blind, va_recv hK hPc (ci := 4) (q0 := 0) rfl rfl, pcW_of hPc hK hDc⟩ rfl rfl hl.1 rfl (lv_room (Nat.le_of_ble_eq_true rfl)) dL_counters_239 ⟨(Nat.zero_le _), (Nat.zero_le _)⟩) hS (fun q _ h => hFc q h) hFc (fun r34 u36 t9 H1 locs ht9 hvm hcl35 hB hz1 hk1 hS => ?_)
                                obtain ⟨hP1, hK1, hD1⟩ := hB
                                rw [ht9] at hP1
                                obtain ⟨hP, hD⟩ := fl_join (SR := [svO cO sv fs κ]) (S1 := [mnW x a sv o rd bu ln, stW cI a σ, ocW cI o u36]) hP hD [0, 1, 3] [2] rfl rfl (by decide) (by decide) hk1 hFc hP1 hD1
                                generalize H1 = H at hP hS ⊢
                                have hP := fl_P (S' := [mnW x a sv o rd bu ln, stW cI a σ, svO cO sv fs κ, ocW cI o u36]) hP [1, 2, 0, 3] rfl
                                have hD := fl_D (S' := [mnW x a sv o rd bu ln, stW cI a σ, svO cO sv fs κ, ocW cI o u36]) hD [1, 2, 0, 3] (by decide) rfl
                                have hr349 : r34 = ctrS σ c (9) := hcl35
                                subst hr349
                                refine wi_top (y := (cntW σ c)) rfl ?_
                                refine wi_iconst hx hb dL_counters_242 ?_
                                refine wi_icmp_lt (tgt := 296) hx hb dL_counters_243 (by decide) (by omega) (fun c_243 => ?_) (fun c_243 => ?_)
                                · skip
                                  exfalso; omega
                                · skip
                                  refine lv_aload_n hx hb dL_counters_246 rfl (lv_at hl 6 rfl) ?_
                                  refine lv_iload_n hx hb dL_counters_247 rfl (lv_at hl 5 rfl) ?_
                                  refine wi_bipush hx hb dL_counters_248 (by decide) ?_
                                  have hPc := fl_P (S' := [mnW x a sv o rd bu ln, stW cI a σ, ocW cI o u36]) hP [0, 1, 3] rfl
                                  have hDc := fl_D (S' := [mnW x a sv o rd bu ln, stW cI a σ, ocW cI o u36]) hD [0, 1, 3] (by decide) rfl
                                  have hFc := fl_free (SC := [mnW x a sv o rd bu ln, stW cI a σ, ocW cI o u36]) hD hS hA [0, 1, 3] rfl
                                  refine wq_calli (va_runV (As := [.int (iI (c)), .int (iI (9))]) (rest := []) ⟨hx, hb, hml, hown, hts⟩ (c_X4_counter l D cI cO cC cL H.size x a sv o rd bu ln σ u36 (c) (9) (by first | assumption | omega) (by first | assumption | omega) (by first | assumption | omega)) (cwV 2 hts gL_counters_X4_counter rfl rfl rfl (by decide +kernel) ⟨Nat.le_of_ble_eq_true rfl, Nat.le_of_ble_eq_true rfl⟩) ⟨pcW_blind, va_recv hK hPc (ci := 4) (q0 := 0) rfl rfl, pcW_of hPc hK hDc⟩ rfl rfl hl.1 rfl (lv_room (Nat.le_of_ble_eq_true rfl)) dL_counters_250 ⟨(Nat.zero_le _), (Nat.zero_le _)⟩) hS (fun q _ h => hFc q h) hFc (fun r37 u39 t9 H1 locs ht9 hvm hcl38 hB hz1 hk1 hS => ?_)
                                  obtain ⟨hP1, hK1, hD1⟩ := hB
                                  rw [ht9] at hP1
                                  obtain ⟨hP, hD⟩ := fl_join (SR := [svO cO sv fs κ]) (S1 := [mnW x a sv o rd bu ln, stW cI a σ, ocW cI o u39]) hP hD [0, 1, 3] [2] rfl rfl (by decide) (by decide) hk1 hFc hP1 hD1
                                  generalize H1 = H at hP hS ⊢
                                  have hP := fl_P (S' := [mnW x a sv o rd bu ln, stW cI a σ, svO cO sv fs κ, ocW cI o u39]) hP [1, 2, 0, 3] rfl
                                  have hD := fl_D (S' := [mnW x a sv o rd bu ln, stW cI a σ, svO cO sv fs κ, ocW cI o u39]) hD [1, 2, 0, 3] (by decide) rfl
                                  have hr379 : r37 = ctrS σ c (9) := hcl38
                                  subst hr379
                                  refine wi_top (y := (cntW σ c)) rfl ?_
                                  refine wi_iconst hx hb dL_counters_253 ?_
                                  refine lv_iload hx hb dL_counters_254 (lv_at hl 2 rfl) ?_
                                  refine wi_shl1 hx hb (by omega) dL_counters_256 ?_
                                  refine wi_icmp_gt (tgt := 296) hx hb dL_counters_257 (by decide) (by omega) (fun c_257 => ?_) (fun c_257 => ?_)
                                  · skip
                                    exfalso; omega
                                  · skip
                                    refine lv_aload_n hx hb dL_counters_260 rfl (lv_at hl 6 rfl) ?_
                                    refine lv_iload_n hx hb dL_counters_261 rfl (lv_at hl 5 rfl) ?_
                                    refine wi_bipush hx hb dL_counters_262 (by decide) ?_
                                    have hPc := fl_P (S' := [mnW x a sv o rd bu ln, stW cI a σ, ocW cI o u39]) hP [0, 1, 3] rfl
                                    have hDc := fl_D (S' := [mnW x a sv o rd bu ln, stW cI a σ, ocW cI o u39]) hD [0, 1, 3] (by decide) rfl
                                    have hFc := fl_free (SC := [mnW x a sv o rd bu ln, stW cI a σ, ocW cI o u39]) hD hS hA [0, 1, 3] rfl
                                    refine wq_calli (va_runV (As := [.int (iI (c)), .int (iI (9))]) (rest := []) ⟨hx, hb, hml, hown, hts⟩ (c_X4_counter l D cI cO cC cL H.size x a sv o rd bu ln σ u39 (c) (9) (by first | assumption | omega) (by first | assumption | omega) (by first | assumption | omega)) (cwV 2 hts gL_counters_X4_counter rfl rfl rfl (by decide +kernel) ⟨Nat.le_of_ble_eq_true rfl, Nat.le_of_ble_eq_true rfl⟩) ⟨pcW_blind, va_recv hK hPc (ci := 4) (q0 := 0) rfl rfl, pcW_of hPc hK hDc⟩ rfl rfl hl.1 rfl (lv_room (Nat.le_of_ble_eq_true rfl)) dL_counters_264 ⟨(Nat.zero_le _), (Nat.zero_le _)⟩) hS (fun q _ h => hFc q h) hFc (fun r40 u42 t9 H1 locs ht9 hvm hcl41 hB hz1 hk1 hS => ?_)
                                    obtain ⟨hP1, hK1, hD1⟩ := hB
                                    rw [ht9] at hP1
                                    obtain ⟨hP, hD⟩ := fl_join (SR := [svO cO sv fs κ]) (S1 := [mnW x a sv o rd bu ln, stW cI a σ, ocW cI o u42]) hP hD [0, 1, 3] [2] rfl rfl (by decide) (by decide) hk1 hFc hP1 hD1
                                    generalize H1 = H at hP hS ⊢
                                    have hP := fl_P (S' := [mnW x a sv o rd bu ln, stW cI a σ, svO cO sv fs κ, ocW cI o u42]) hP [1, 2, 0, 3] rfl
                                    have hD := fl_D (S' := [mnW x a sv o rd bu ln, stW cI a σ, svO cO sv fs κ, ocW cI o u42]) hD [1, 2, 0, 3] (by decide) rfl
                                    have hr409 : r40 = ctrS σ c (9) := hcl41
                                    subst hr409
                                    refine wi_top (y := (cntW σ c)) rfl ?_
                                    refine lv_iload hx hb dL_counters_267 (lv_at hl 3 rfl) ?_
                                    refine lv_iload_n hx hb dL_counters_269 rfl (lv_at hl 4 rfl) ?_
                                    refine wi_isub hx hb dL_counters_270 ?_
                                    refine wi_iconst hx hb dL_counters_271 ?_
                                    refine wi_iadd hx hb dL_counters_272 ?_
                                    refine wi_icmp_gt (tgt := 296) hx hb dL_counters_273 (by decide) (by omega) (fun c_273 => ?_) (fun c_273 => ?_)
                                    · skip
                                      exfalso; omega
                                    · skip
                                      refine lv_iload hx hb dL_counters_276 (lv_at hl 2 rfl) ?_
                                      refine wi_if_eq (tgt := 292) hx hb dL_counters_278 (by decide) (by omega) (fun c_278 => ?_) (fun c_278 => ?_)
                                      · skip
                                        refine wi_iconst hx hb dL_counters_292 ?_
                                        refine lv_goto (tgt := 297) hx hb dL_counters_293 (by decide) ?_
                                        refine lv_istore_n (lv' := [(1, .int (iI (1))), (6, .int (iI (p))), (5, .int (iI (mn))), (4, .int (iI (hi))), (3, .int (iI (lo))), (2, .int (iI (c))), (0, .ref (x 0))]) hx hb dL_counters_297 rfl hl (by decide) rfl (fun ls hl => ?_)
                                        refine lv_iload_n hx hb dL_counters_298 rfl (lv_at hl 0 rfl) ?_
                                        refine wi_if_eq (tgt := 367) hx hb dL_counters_299 (by decide) (by omega) (fun c_299 => ?_) (fun c_299 => ?_)
                                        · skip
                                          exfalso; omega
                                        · skip
                                          refine lv_aload_n hx hb dL_counters_302 rfl (lv_at hl 6 rfl) ?_
                                          refine lv_iload_n hx hb dL_counters_303 rfl (lv_at hl 5 rfl) ?_
                                          refine lv_iload_n hx hb dL_counters_304 rfl (lv_at hl 4 rfl) ?_
                                          have hPc := fl_P (S' := [mnW x a sv o rd bu ln, stW cI a σ, ocW cI o u42]) hP [0, 1, 3] rfl
                                          have hDc := fl_D (S' := [mnW x a sv o rd bu ln, stW cI a σ, ocW cI o u42]) hD [0, 1, 3] (by decide) rfl
                                          have hFc := fl_free (SC := [mnW x a sv o rd bu ln, stW cI a σ, ocW cI o u42]) hD hS hA [0, 1, 3] rfl
                                          refine wq_calli (va_runV (As := [.int (iI (c)), .int (iI (lo))]) (rest := []) ⟨hx, hb, hml, hown, hts⟩ (c_X4_canBe l D cI cO cC cL H.size x a sv o rd bu ln σ u42 (c) (lo) (by first | assumption | omega) (by first | assumption | omega) (by first | assumption | omega)) (cwV 2 hts gL_counters_X4_canBe rfl rfl rfl (by decide +kernel) ⟨Nat.le_of_ble_eq_true rfl, Nat.le_of_ble_eq_true rfl⟩) ⟨pcW_blind, va_recv hK hPc (ci := 4) (q0 := 0) rfl rfl, pcW_of hPc hK hDc⟩ rfl rfl hl.1 rfl (lv_room (Nat.le_of_ble_eq_true rfl)) dL_counters_305 ⟨(Nat.zero_le _), (Nat.zero_le _)⟩) hS (fun q _ h => hFc q h) hFc (fun r43 u45 t9 H1 locs ht9 hvm hcl44 hB hz1 hk1 hS => ?_)
                                          obtain ⟨hP1, hK1, hD1⟩ := hB
                                          rw [ht9] at hP1
                                          obtain ⟨hP, hD⟩ := fl_join (SR := [svO cO sv fs κ]) (S1 := [mnW x a sv o rd bu ln, stW cI a σ, ocW cI o u45]) hP hD [0, 1, 3] [2] rfl rfl (by decide) (by decide) hk1 hFc hP1 hD1
                                          generalize H1 = H at hP hS ⊢
                                          have hP := fl_P (S' := [mnW x a sv o rd bu ln, stW cI a σ, svO cO sv fs κ, ocW cI o u45]) hP [1, 2, 0, 3] rfl
                                          have hD := fl_D (S' := [mnW x a sv o rd bu ln, stW cI a σ, svO cO sv fs κ, ocW cI o u45]) hD [1, 2, 0, 3] (by decide) rfl
                                          have hr439 : r43 = fewS σ c lo := hcl44
                                          subst hr439
                                          refine wi_if_lt (tgt := 367) hx hb dL_counters_308 (by decide) (by omega) (fun c_308 => ?_) (fun c_308 => ?_)
                                          · skip
                                            exfalso; omega
                                          · skip
                                            refine lv_aload_n hx hb dL_counters_311 rfl (lv_at hl 6 rfl) ?_
                                            refine lv_iload_n hx hb dL_counters_312 rfl (lv_at hl 5 rfl) ?_
                                            refine lv_iload hx hb dL_counters_313 (lv_at hl 3 rfl) ?_
                                            have hPc := fl_P (S' := [mnW x a sv o rd bu ln, stW cI a σ, ocW cI o u45]) hP [0, 1, 3] rfl
                                            have hDc := fl_D (S' := [mnW x a sv o rd bu ln, stW cI a σ, ocW cI o u45]) hD [0, 1, 3] (by decide) rfl
                                            have hFc := fl_free (SC := [mnW x a sv o rd bu ln, stW cI a σ, ocW cI o u45]) hD hS hA [0, 1, 3] rfl
                                            refine wq_calli (va_runV (As := [.int (iI (c)), .int (iI (hi))]) (rest := []) ⟨hx, hb, hml, hown, hts⟩ (c_X4_canBe l D cI cO cC cL H.size x a sv o rd bu ln σ u45 (c) (hi) (by first | assumption | omega) (by first | assumption | omega) (by first | assumption | omega)) (cwV 2 hts gL_counters_X4_canBe rfl rfl rfl (by decide +kernel) ⟨Nat.le_of_ble_eq_true rfl, Nat.le_of_ble_eq_true rfl⟩) ⟨pcW_blind, va_recv hK hPc (ci := 4) (q0 := 0) rfl rfl, pcW_of hPc hK hDc⟩ rfl rfl hl.1 rfl (lv_room (Nat.le_of_ble_eq_true rfl)) dL_counters_315 ⟨(Nat.zero_le _), (Nat.zero_le _)⟩) hS (fun q _ h => hFc q h) hFc (fun r46 u48 t9 H1 locs ht9 hvm hcl47 hB hz1 hk1 hS => ?_)
                                            obtain ⟨hP1, hK1, hD1⟩ := hB
                                            rw [ht9] at hP1
                                            obtain ⟨hP, hD⟩ := fl_join (SR := [svO cO sv fs κ]) (S1 := [mnW x a sv o rd bu ln, stW cI a σ, ocW cI o u48]) hP hD [0, 1, 3] [2] rfl rfl (by decide) (by decide) hk1 hFc hP1 hD1
                                            generalize H1 = H at hP hS ⊢
                                            have hP := fl_P (S' := [mnW x a sv o rd bu ln, stW cI a σ, svO cO sv fs κ, ocW cI o u48]) hP [1, 2, 0, 3] rfl
                                            have hD := fl_D (S' := [mnW x a sv o rd bu ln, stW cI a σ, svO cO sv fs κ, ocW cI o u48]) hD [1, 2, 0, 3] (by decide) rfl
                                            have hr469 : r46 = fewS σ c hi := hcl47
                                            subst hr469
                                            refine wi_if_lt (tgt := 367) hx hb dL_counters_318 (by decide) (by omega) (fun c_318 => ?_) (fun c_318 => ?_)
                                            · skip
                                              exfalso; omega
                                            · skip
                                              refine lv_aload_n hx hb dL_counters_321 rfl (lv_at hl 6 rfl) ?_
                                              refine lv_iload_n hx hb dL_counters_322 rfl (lv_at hl 5 rfl) ?_
                                              refine lv_iload_n hx hb dL_counters_323 rfl (lv_at hl 4 rfl) ?_
                                              have hPc := fl_P (S' := [mnW x a sv o rd bu ln, stW cI a σ, ocW cI o u48]) hP [0, 1, 3] rfl
                                              have hDc := fl_D (S' := [mnW x a sv o rd bu ln, stW cI a σ, ocW cI o u48]) hD [0, 1, 3] (by decide) rfl
                                              have hFc := fl_free (SC := [mnW x a sv o rd bu ln, stW cI a σ, ocW cI o u48]) hD hS hA [0, 1, 3] rfl
                                              refine wq_calli (va_runV (As := [.int (iI (c)), .int (iI (lo))]) (rest := []) ⟨hx, hb, hml, hown, hts⟩ (c_X4_canBe l D cI cO cC cL H.size x a sv o rd bu ln σ u48 (c) (lo) (by first | assumption | omega) (by first | assumption | omega) (by first | assumption | omega)) (cwV 2 hts gL_counters_X4_canBe rfl rfl rfl (by decide +kernel) ⟨Nat.le_of_ble_eq_true rfl, Nat.le_of_ble_eq_true rfl⟩) ⟨pcW_blind, va_recv hK hPc (ci := 4) (q0 := 0) rfl rfl, pcW_of hPc hK hDc⟩ rfl rfl hl.1 rfl (lv_room (Nat.le_of_ble_eq_true rfl)) dL_counters_324 ⟨(Nat.zero_le _), (Nat.zero_le _)⟩) hS (fun q _ h => hFc q h) hFc (fun r49 u51 t9 H1 locs ht9 hvm hcl50 hB hz1 hk1 hS => ?_)
                                              obtain ⟨hP1, hK1, hD1⟩ := hB
                                              rw [ht9] at hP1
                                              obtain ⟨hP, hD⟩ := fl_join (SR := [svO cO sv fs κ]) (S1 := [mnW x a sv o rd bu ln, stW cI a σ, ocW cI o u51]) hP hD [0, 1, 3] [2] rfl rfl (by decide) (by decide) hk1 hFc hP1 hD1
                                              generalize H1 = H at hP hS ⊢
                                              have hP := fl_P (S' := [mnW x a sv o rd bu ln, stW cI a σ, svO cO sv fs κ, ocW cI o u51]) hP [1, 2, 0, 3] rfl
                                              have hD := fl_D (S' := [mnW x a sv o rd bu ln, stW cI a σ, svO cO sv fs κ, ocW cI o u51]) hD [1, 2, 0, 3] (by decide) rfl
                                              have hr499 : r49 = fewS σ c lo := hcl50
                                              subst hr499
                                              refine lv_aload_n hx hb dL_counters_327 rfl (lv_at hl 6 rfl) ?_
                                              refine lv_iload_n hx hb dL_counters_328 rfl (lv_at hl 5 rfl) ?_
                                              refine lv_iload hx hb dL_counters_329 (lv_at hl 3 rfl) ?_
                                              have hPc := fl_P (S' := [mnW x a sv o rd bu ln, stW cI a σ, ocW cI o u51]) hP [0, 1, 3] rfl
                                              have hDc := fl_D (S' := [mnW x a sv o rd bu ln, stW cI a σ, ocW cI o u51]) hD [0, 1, 3] (by decide) rfl
                                              have hFc := fl_free (SC := [mnW x a sv o rd bu ln, stW cI a σ, ocW cI o u51]) hD hS hA [0, 1, 3] rfl
                                              refine wq_calli (va_runV (As := [.int (iI (c)), .int (iI (hi))]) (rest := [.int (iI ((fewS σ c lo)))]) ⟨hx, hb, hml, hown, hts⟩ (c_X4_canBe l D cI cO cC cL H.size x a sv o rd bu ln σ u51 (c) (hi) (by first | assumption | omega) (by first | assumption | omega) (by first | assumption | omega)) (cwV 2 hts gL_counters_X4_canBe rfl rfl rfl (by decide +kernel) ⟨Nat.le_of_ble_eq_true rfl, Nat.le_of_ble_eq_true rfl⟩) ⟨pcW_blind, va_recv hK hPc (ci := 4) (q0 := 0) rfl rfl, pcW_of hPc hK hDc⟩ rfl rfl hl.1 rfl (lv_room (Nat.le_of_ble_eq_true rfl)) dL_counters_331 ⟨(Nat.zero_le _), (Nat.zero_le _)⟩) hS (fun q _ h => hFc q h) hFc (fun r52 u54 t9 H1 locs ht9 hvm hcl53 hB hz1 hk1 hS => ?_)
                                              obtain ⟨hP1, hK1, hD1⟩ := hB
                                              rw [ht9] at hP1
                                              obtain ⟨hP, hD⟩ := fl_join (SR := [svO cO sv fs κ]) (S1 := [mnW x a sv o rd bu ln, stW cI a σ, ocW cI o u54]) hP hD [0, 1, 3] [2] rfl rfl (by decide) (by decide) hk1 hFc hP1 hD1
                                              generalize H1 = H at hP hS ⊢
                                              have hP := fl_P (S' := [mnW x a sv o rd bu ln, stW cI a σ, svO cO sv fs κ, ocW cI o u54]) hP [1, 2, 0, 3] rfl
                                              have hD := fl_D (S' := [mnW x a sv o rd bu ln, stW cI a σ, svO cO sv fs κ, ocW cI o u54]) hD [1, 2, 0, 3] (by decide) rfl
                                              have hr529 : r52 = fewS σ c hi := hcl53
                                              subst hr529
                                              refine wi_iadd hx hb dL_counters_334 ?_
                                              refine lv_iload hx hb dL_counters_335 (lv_at hl 2 rfl) ?_
                                              refine wi_icmp_gt (tgt := 367) hx hb dL_counters_337 (by decide) (by omega) (fun c_337 => ?_) (fun c_337 => ?_)
                                              · skip
                                                exfalso; omega
                                              · skip
                                                refine lv_aload_n hx hb dL_counters_340 rfl (lv_at hl 6 rfl) ?_
                                                refine lv_iload_n hx hb dL_counters_341 rfl (lv_at hl 5 rfl) ?_
                                                refine wi_bipush hx hb dL_counters_342 (by decide) ?_
                                                have hPc := fl_P (S' := [mnW x a sv o rd bu ln, stW cI a σ, ocW cI o u54]) hP [0, 1, 3] rfl
                                                have hDc := fl_D (S' := [mnW x a sv o rd bu ln, stW cI a σ, ocW cI o u54]) hD [0, 1, 3] (by decide) rfl
                                                have hFc := fl_free (SC := [mnW x a sv o rd bu ln, stW cI a σ, ocW cI o u54]) hD hS hA [0, 1, 3] rfl
                                                refine wq_calli (va_runV (As := [.int (iI (c)), .int (iI (6))]) (rest := []) ⟨hx, hb, hml, hown, hts⟩ (c_X4_counter l D cI cO cC cL H.size x a sv o rd bu ln σ u54 (c) (6) (by first | assumption | omega) (by first | assumption | omega) (by first | assumption | omega)) (cwV 2 hts gL_counters_X4_counter rfl rfl rfl (by decide +kernel) ⟨Nat.le_of_ble_eq_true rfl, Nat.le_of_ble_eq_true rfl⟩) ⟨pcW_blind, va_recv hK hPc (ci := 4) (q0 := 0) rfl rfl, pcW_of hPc hK hDc⟩ rfl rfl hl.1 rfl (lv_room (Nat.le_of_ble_eq_true rfl)) dL_counters_344 ⟨(Nat.zero_le _), (Nat.zero_le _)⟩) hS (fun q _ h => hFc q h) hFc (fun r55 u57 t9 H1 locs ht9 hvm hcl56 hB hz1 hk1 hS => ?_)
                                                obtain ⟨hP1, hK1, hD1⟩ := hB
                                                rw [ht9] at hP1
                                                obtain ⟨hP, hD⟩ := fl_join (SR := [svO cO sv fs κ]) (S1 := [mnW x a sv o rd bu ln, stW cI a σ, ocW cI o u57]) hP hD [0, 1, 3] [2] rfl rfl (by decide) (by decide) hk1 hFc hP1 hD1
                                                generalize H1 = H at hP hS ⊢
                                                have hP := fl_P (S' := [mnW x a sv o rd bu ln, stW cI a σ, svO cO sv fs κ, ocW cI o u57]) hP [1, 2, 0, 3] rfl
                                                have hD := fl_D (S' := [mnW x a sv o rd bu ln, stW cI a σ, svO cO sv fs κ, ocW cI o u57]) hD [1, 2, 0, 3] (by decide) rfl
                                                have hr559 : r55 = ctrS σ c (6) := hcl56
                                                subst hr559
                                                refine wi_top (y := (chSum σ c)) rfl ?_
                                                refine lv_iload_n hx hb dL_counters_347 rfl (lv_at hl 4 rfl) ?_
                                                refine lv_iload hx hb dL_counters_348 (lv_at hl 3 rfl) ?_
                                                refine wi_iadd hx hb dL_counters_350 ?_
                                                refine wi_iconst hx hb dL_counters_351 ?_
                                                refine lv_aload_n hx hb dL_counters_352 rfl (lv_at hl 6 rfl) ?_
                                                refine lv_iload_n hx hb dL_counters_353 rfl (lv_at hl 5 rfl) ?_
                                                refine wi_iconst hx hb dL_counters_354 ?_
                                                have hPc := fl_P (S' := [mnW x a sv o rd bu ln, stW cI a σ, ocW cI o u57]) hP [0, 1, 3] rfl
                                                have hDc := fl_D (S' := [mnW x a sv o rd bu ln, stW cI a σ, ocW cI o u57]) hD [0, 1, 3] (by decide) rfl
                                                have hFc := fl_free (SC := [mnW x a sv o rd bu ln, stW cI a σ, ocW cI o u57]) hD hS hA [0, 1, 3] rfl
                                                refine wq_calli (va_runV (As := [.int (iI (c)), .int (iI (0))]) (rest := [.int (iI (2)), .int (iI ((lo + hi))), .int (iI ((chSum σ c)))]) ⟨hx, hb, hml, hown, hts⟩ (c_X4_counter l D cI cO cC cL H.size x a sv o rd bu ln σ u57 (c) (0) (by first | assumption | omega) (by first | assumption | omega) (by first | assumption | omega)) (cwV 2 hts gL_counters_X4_counter rfl rfl rfl (by decide +kernel) ⟨Nat.le_of_ble_eq_true rfl, Nat.le_of_ble_eq_true rfl⟩) ⟨pcW_blind, va_recv hK hPc (ci := 4) (q0 := 0) rfl rfl, pcW_of hPc hK hDc⟩ rfl rfl hl.1 rfl (lv_room (Nat.le_of_ble_eq_true rfl)) dL_counters_355 ⟨(Nat.zero_le _), (Nat.zero_le _)⟩) hS (fun q _ h => hFc q h) hFc (fun r58 u60 t9 H1 locs ht9 hvm hcl59 hB hz1 hk1 hS => ?_)
                                                obtain ⟨hP1, hK1, hD1⟩ := hB
                                                rw [ht9] at hP1
                                                obtain ⟨hP, hD⟩ := fl_join (SR := [svO cO sv fs κ]) (S1 := [mnW x a sv o rd bu ln, stW cI a σ, ocW cI o u60]) hP hD [0, 1, 3] [2] rfl rfl (by decide) (by decide) hk1 hFc hP1 hD1
                                                generalize H1 = H at hP hS ⊢
                                                have hP := fl_P (S' := [mnW x a sv o rd bu ln, stW cI a σ, svO cO sv fs κ, ocW cI o u60]) hP [1, 2, 0, 3] rfl
                                                have hD := fl_D (S' := [mnW x a sv o rd bu ln, stW cI a σ, svO cO sv fs κ, ocW cI o u60]) hD [1, 2, 0, 3] (by decide) rfl
                                                have hr589 : r58 = ctrS σ c (0) := hcl59
                                                subst hr589
                                                refine wi_top (y := (σ 2 c)) rfl ?_
                                                refine wi_imul hx hb dL_counters_358 ?_
                                                refine wi_isub hx hb dL_counters_359 ?_
                                                refine wi_icmp_ne (tgt := 367) hx hb dL_counters_360 (by decide) (by omega) (fun c_360 => ?_) (fun c_360 => ?_)
                                                · skip
                                                  exfalso; omega
                                                · skip
                                                  refine wi_iconst hx hb dL_counters_363 ?_
                                                  refine lv_goto (tgt := 368) hx hb dL_counters_364 (by decide) ?_
                                                  refine lv_istore_n (lv' := [(1, .int (iI (1))), (6, .int (iI (p))), (5, .int (iI (mn))), (4, .int (iI (hi))), (3, .int (iI (lo))), (2, .int (iI (c))), (0, .ref (x 0))]) hx hb dL_counters_368 rfl hl (by decide) rfl (fun ls hl => ?_)
                                                  refine wi_iinc (lv' := [(2, .int (iI ((c + 1)))), (1, .int (iI (1))), (6, .int (iI (p))), (5, .int (iI (mn))), (4, .int (iI (hi))), (3, .int (iI (lo))), (0, .ref (x 0))]) hx hb dL_counters_369 hl (k := 5) rfl (by decide) rfl (fun ls hl => ?_)
                                                  refine lv_goto (tgt := 4) hx hb dL_counters_372 (by decide) ?_
                                                  exact ih4 ((c + 1)) (u60) (by omega) (by omega) _ _ hP hD hS ls (lv_sub hl [0, 1, 6] rfl)
                                      · skip
                                        refine lv_aload_n hx hb dL_counters_281 rfl (lv_at hl 6 rfl) ?_
                                        refine lv_iload_n hx hb dL_counters_282 rfl (lv_at hl 5 rfl) ?_
                                        refine wi_bipush hx hb dL_counters_283 (by decide) ?_
                                        have hPc := fl_P (S' := [mnW x a sv o rd bu ln, stW cI a σ, ocW cI o u42]) hP [0, 1, 3] rfl
                                        have hDc := fl_D (S' := [mnW x a sv o rd bu ln, stW cI a σ, ocW cI o u42]) hD [0, 1, 3] (by decide) rfl
                                        have hFc := fl_free (SC := [mnW x a sv o rd bu ln, stW cI a σ, ocW cI o u42]) hD hS hA [0, 1, 3] rfl
                                        refine wq_calli (va_runV (As := [.int (iI (c)), .int (iI (9))]) (rest := []) ⟨hx, hb, hml, hown, hts⟩ (c_X4_counter l D cI cO cC cL H.size x a sv o rd bu ln σ u42 (c) (9) (by first | assumption | omega) (by first | assumption | omega) (by first | assumption | omega)) (cwV 2 hts gL_counters_X4_counter rfl rfl rfl (by decide +kernel) ⟨Nat.le_of_ble_eq_true rfl, Nat.le_of_ble_eq_true rfl⟩) ⟨pcW_blind, va_recv hK hPc (ci := 4) (q0 := 0) rfl rfl, pcW_of hPc hK hDc⟩ rfl rfl hl.1 rfl (lv_room (Nat.le_of_ble_eq_true rfl)) dL_counters_285 ⟨(Nat.zero_le _), (Nat.zero_le _)⟩) hS (fun q _ h => hFc q h) hFc (fun r61 u63 t9 H1 locs ht9 hvm hcl62 hB hz1 hk1 hS => ?_)
                                        obtain ⟨hP1, hK1, hD1⟩ := hB
                                        rw [ht9] at hP1
                                        obtain ⟨hP, hD⟩ := fl_join (SR := [svO cO sv fs κ]) (S1 := [mnW x a sv o rd bu ln, stW cI a σ, ocW cI o u63]) hP hD [0, 1, 3] [2] rfl rfl (by decide) (by decide) hk1 hFc hP1 hD1
                                        generalize H1 = H at hP hS ⊢
                                        have hP := fl_P (S' := [mnW x a sv o rd bu ln, stW cI a σ, svO cO sv fs κ, ocW cI o u63]) hP [1, 2, 0, 3] rfl
                                        have hD := fl_D (S' := [mnW x a sv o rd bu ln, stW cI a σ, svO cO sv fs κ, ocW cI o u63]) hD [1, 2, 0, 3] (by decide) rfl
                                        have hr619 : r61 = ctrS σ c (9) := hcl62
                                        subst hr619
                                        refine wi_top (y := (cntW σ c)) rfl ?_
                                        refine wi_iconst hx hb dL_counters_288 ?_
                                        refine wi_icmp_le (tgt := 296) hx hb dL_counters_289 (by decide) (by omega) (fun c_289 => ?_) (fun c_289 => ?_)
                                        · skip
                                          exfalso; omega
                                        · skip
                                          refine wi_iconst hx hb dL_counters_292 ?_
                                          refine lv_goto (tgt := 297) hx hb dL_counters_293 (by decide) ?_
                                          refine lv_istore_n (lv' := [(1, .int (iI (1))), (6, .int (iI (p))), (5, .int (iI (mn))), (4, .int (iI (hi))), (3, .int (iI (lo))), (2, .int (iI (c))), (0, .ref (x 0))]) hx hb dL_counters_297 rfl hl (by decide) rfl (fun ls hl => ?_)
                                          refine lv_iload_n hx hb dL_counters_298 rfl (lv_at hl 0 rfl) ?_
                                          refine wi_if_eq (tgt := 367) hx hb dL_counters_299 (by decide) (by omega) (fun c_299 => ?_) (fun c_299 => ?_)
                                          · skip
                                            exfalso; omega
                                          · skip
                                            refine lv_aload_n hx hb dL_counters_302 rfl (lv_at hl 6 rfl) ?_
                                            refine lv_iload_n hx hb dL_counters_303 rfl (lv_at hl 5 rfl) ?_
                                            refine lv_iload_n hx hb dL_counters_304 rfl (lv_at hl 4 rfl) ?_
                                            have hPc := fl_P (S' := [mnW x a sv o rd bu ln, stW cI a σ, ocW cI o u63]) hP [0, 1, 3] rfl
                                            have hDc := fl_D (S' := [mnW x a sv o rd bu ln, stW cI a σ, ocW cI o u63]) hD [0, 1, 3] (by decide) rfl
                                            have hFc := fl_free (SC := [mnW x a sv o rd bu ln, stW cI a σ, ocW cI o u63]) hD hS hA [0, 1, 3] rfl
                                            refine wq_calli (va_runV (As := [.int (iI (c)), .int (iI (lo))]) (rest := []) ⟨hx, hb, hml, hown, hts⟩ (c_X4_canBe l D cI cO cC cL H.size x a sv o rd bu ln σ u63 (c) (lo) (by first | assumption | omega) (by first | assumption | omega) (by first | assumption | omega)) (cwV 2 hts gL_counters_X4_canBe rfl rfl rfl (by decide +kernel) ⟨Nat.le_of_ble_eq_true rfl, Nat.le_of_ble_eq_true rfl⟩) ⟨pcW_blind, va_recv hK hPc (ci := 4) (q0 := 0) rfl rfl, pcW_of hPc hK hDc⟩ rfl rfl hl.1 rfl (lv_room (Nat.le_of_ble_eq_true rfl)) dL_counters_305 ⟨(Nat.zero_le _), (Nat.zero_le _)⟩) hS (fun q _ h => hFc q h) hFc (fun r64 u66 t9 H1 locs ht9 hvm hcl65 hB hz1 hk1 hS => ?_)
                                            obtain ⟨hP1, hK1, hD1⟩ := hB
                                            rw [ht9] at hP1
                                            obtain ⟨hP, hD⟩ := fl_join (SR := [svO cO sv fs κ]) (S1 := [mnW x a sv o rd bu ln, stW cI a σ, ocW cI o u66]) hP hD [0, 1, 3] [2] rfl rfl (by decide) (by decide) hk1 hFc hP1 hD1
                                            generalize H1 = H at hP hS ⊢
                                            have hP := fl_P (S' := [mnW x a sv o rd bu ln, stW cI a σ, svO cO sv fs κ, ocW cI o u66]) hP [1, 2, 0, 3] rfl
                                            have hD := fl_D (S' := [mnW x a sv o rd bu ln, stW cI a σ, svO cO sv fs κ, ocW cI o u66]) hD [1, 2, 0, 3] (by decide) rfl
                                            have hr649 : r64 = fewS σ c lo := hcl65
                                            subst hr649
                                            refine wi_if_lt (tgt := 367) hx hb dL_counters_308 (by decide) (by omega) (fun c_308 => ?_) (fun c_308 => ?_)
                                            · skip
                                              exfalso; omega
                                            · skip
                                              refine lv_aload_n hx hb dL_counters_311 rfl (lv_at hl 6 rfl) ?_
                                              refine lv_iload_n hx hb dL_counters_312 rfl (lv_at hl 5 rfl) ?_
                                              refine lv_iload hx hb dL_counters_313 (lv_at hl 3 rfl) ?_
                                              have hPc := fl_P (S' := [mnW x a sv o rd bu ln, stW cI a σ, ocW cI o u66]) hP [0, 1, 3] rfl
                                              have hDc := fl_D (S' := [mnW x a sv o rd bu ln, stW cI a σ, ocW cI o u66]) hD [0, 1, 3] (by decide) rfl
                                              have hFc := fl_free (SC := [mnW x a sv o rd bu ln, stW cI a σ, ocW cI o u66]) hD hS hA [0, 1, 3] rfl
                                              refine wq_calli (va_runV (As := [.int (iI (c)), .int (iI (hi))]) (rest := []) ⟨hx, hb, hml, hown, hts⟩ (c_X4_canBe l D cI cO cC cL H.size x a sv o rd bu ln σ u66 (c) (hi) (by first | assumption | omega) (by first | assumption | omega) (by first | assumption | omega)) (cwV 2 hts gL_counters_X4_canBe rfl rfl rfl (by decide +kernel) ⟨Nat.le_of_ble_eq_true rfl, Nat.le_of_ble_eq_true rfl⟩) ⟨pcW_blind, va_recv hK hPc (ci := 4) (q0 := 0) rfl rfl, pcW_of hPc hK hDc⟩ rfl rfl hl.1 rfl (lv_room (Nat.le_of_ble_eq_true rfl)) dL_counters_315 ⟨(Nat.zero_le _), (Nat.zero_le _)⟩) hS (fun q _ h => hFc q h) hFc (fun r67 u69 t9 H1 locs ht9 hvm hcl68 hB hz1 hk1 hS => ?_)
                                              obtain ⟨hP1, hK1, hD1⟩ := hB
                                              rw [ht9] at hP1
                                              obtain ⟨hP, hD⟩ := fl_join (SR := [svO cO sv fs κ]) (S1 := [mnW x a sv o rd bu ln, stW cI a σ, ocW cI o u69]) hP hD [0, 1, 3] [2] rfl rfl (by decide) (by decide) hk1 hFc hP1 hD1
                                              generalize H1 = H at hP hS ⊢
                                              have hP := fl_P (S' := [mnW x a sv o rd bu ln, stW cI a σ, svO cO sv fs κ, ocW cI o u69]) hP [1, 2, 0, 3] rfl
                                              have hD := fl_D (S' := [mnW x a sv o rd bu ln, stW cI a σ, svO cO sv fs κ, ocW cI o u69]) hD [1, 2, 0, 3] (by decide) rfl
                                              have hr679 : r67 = fewS σ c hi := hcl68
                                              subst hr679
                                              refine wi_if_lt (tgt := 367) hx hb dL_counters_318 (by decide) (by omega) (fun c_318 => ?_) (fun c_318 => ?_)
                                              · skip
                                                exfalso; omega
                                              · skip
                                                refine lv_aload_n hx hb dL_counters_321 rfl (lv_at hl 6 rfl) ?_
                                                refine lv_iload_n hx hb dL_counters_322 rfl (lv_at hl 5 rfl) ?_
                                                refine lv_iload_n hx hb dL_counters_323 rfl (lv_at hl 4 rfl) ?_
                                                have hPc := fl_P (S' := [mnW x a sv o rd bu ln, stW cI a σ, ocW cI o u69]) hP [0, 1, 3] rfl
                                                have hDc := fl_D (S' := [mnW x a sv o rd bu ln, stW cI a σ, ocW cI o u69]) hD [0, 1, 3] (by decide) rfl
                                                have hFc := fl_free (SC := [mnW x a sv o rd bu ln, stW cI a σ, ocW cI o u69]) hD hS hA [0, 1, 3] rfl
                                                refine wq_calli (va_runV (As := [.int (iI (c)), .int (iI (lo))]) (rest := []) ⟨hx, hb, hml, hown, hts⟩ (c_X4_canBe l D cI cO cC cL H.size x a sv o rd bu ln σ u69 (c) (lo) (by first | assumption | omega) (by first | assumption | omega) (by first | assumption | omega)) (cwV 2 hts gL_counters_X4_canBe rfl rfl rfl (by decide +kernel) ⟨Nat.le_of_ble_eq_true rfl, Nat.le_of_ble_eq_true rfl⟩) ⟨pcW_blind, va_recv hK hPc (ci := 4) (q0 := 0) rfl rfl, pcW_of hPc hK hDc⟩ rfl rfl hl.1 rfl (lv_room (Nat.le_of_ble_eq_true rfl)) dL_counters_324 ⟨(Nat.zero_le _), (Nat.zero_le _)⟩) hS (fun q _ h => hFc q h) hFc (fun r70 u72 t9 H1 locs ht9 hvm hcl71 hB hz1 hk1 hS => ?_)
                                                obtain ⟨hP1, hK1, hD1⟩ := hB
                                                rw [ht9] at hP1
                                                obtain ⟨hP, hD⟩ := fl_join (SR := [svO cO sv fs κ]) (S1 := [mnW x a sv o rd bu ln, stW cI a σ, ocW cI o u72]) hP hD [0, 1, 3] [2] rfl rfl (by decide) (by decide) hk1 hFc hP1 hD1
                                                generalize H1 = H at hP hS ⊢
                                                have hP := fl_P (S' := [mnW x a sv o rd bu ln, stW cI a σ, svO cO sv fs κ, ocW cI o u72]) hP [1, 2, 0, 3] rfl
                                                have hD := fl_D (S' := [mnW x a sv o rd bu ln, stW cI a σ, svO cO sv fs κ, ocW cI o u72]) hD [1, 2, 0, 3] (by decide) rfl
                                                have hr709 : r70 = fewS σ c lo := hcl71
                                                subst hr709
                                                refine lv_aload_n hx hb dL_counters_327 rfl (lv_at hl 6 rfl) ?_
                                                refine lv_iload_n hx hb dL_counters_328 rfl (lv_at hl 5 rfl) ?_
                                                refine lv_iload hx hb dL_counters_329 (lv_at hl 3 rfl) ?_
                                                have hPc := fl_P (S' := [mnW x a sv o rd bu ln, stW cI a σ, ocW cI o u72]) hP [0, 1, 3] rfl
                                                have hDc := fl_D (S' := [mnW x a sv o rd bu ln, stW cI a σ, ocW cI o u72]) hD [0, 1, 3] (by decide) rfl
                                                have hFc := fl_free (SC := [mnW x a sv o rd bu ln, stW cI a σ, ocW cI o u72]) hD hS hA [0, 1, 3] rfl
                                                refine wq_calli (va_runV (As := [.int (iI (c)), .int (iI (hi))]) (rest := [.int (iI ((fewS σ c lo)))]) ⟨hx, hb, hml, hown, hts⟩ (c_X4_canBe l D cI cO cC cL H.size x a sv o rd bu ln σ u72 (c) (hi) (by first | assumption | omega) (by first | assumption | omega) (by first | assumption | omega)) (cwV 2 hts gL_counters_X4_canBe rfl rfl rfl (by decide +kernel) ⟨Nat.le_of_ble_eq_true rfl, Nat.le_of_ble_eq_true rfl⟩) ⟨pcW_blind, va_recv hK hPc (ci := 4) (q0 := 0) rfl rfl, pcW_of hPc hK hDc⟩ rfl rfl hl.1 rfl (lv_room (Nat.le_of_ble_eq_true rfl)) dL_counters_331 ⟨(Nat.zero_le _), (Nat.zero_le _)⟩) hS (fun q _ h => hFc q h) hFc (fun r73 u75 t9 H1 locs ht9 hvm hcl74 hB hz1 hk1 hS => ?_)
                                                obtain ⟨hP1, hK1, hD1⟩ := hB
                                                rw [ht9] at hP1
                                                obtain ⟨hP, hD⟩ := fl_join (SR := [svO cO sv fs κ]) (S1 := [mnW x a sv o rd bu ln, stW cI a σ, ocW cI o u75]) hP hD [0, 1, 3] [2] rfl rfl (by decide) (by decide) hk1 hFc hP1 hD1
                                                generalize H1 = H at hP hS ⊢
                                                have hP := fl_P (S' := [mnW x a sv o rd bu ln, stW cI a σ, svO cO sv fs κ, ocW cI o u75]) hP [1, 2, 0, 3] rfl
                                                have hD := fl_D (S' := [mnW x a sv o rd bu ln, stW cI a σ, svO cO sv fs κ, ocW cI o u75]) hD [1, 2, 0, 3] (by decide) rfl
                                                have hr739 : r73 = fewS σ c hi := hcl74
                                                subst hr739
                                                refine wi_iadd hx hb dL_counters_334 ?_
                                                refine lv_iload hx hb dL_counters_335 (lv_at hl 2 rfl) ?_
                                                refine wi_icmp_gt (tgt := 367) hx hb dL_counters_337 (by decide) (by omega) (fun c_337 => ?_) (fun c_337 => ?_)
                                                · skip
                                                  exfalso; omega
                                                · skip
                                                  refine lv_aload_n hx hb dL_counters_340 rfl (lv_at hl 6 rfl) ?_
                                                  refine lv_iload_n hx hb dL_counters_341 rfl (lv_at hl 5 rfl) ?_
                                                  refine wi_bipush hx hb dL_counters_342 (by decide) ?_
                                                  have hPc := fl_P (S' := [mnW x a sv o rd bu ln, stW cI a σ, ocW cI o u75]) hP [0, 1, 3] rfl
                                                  have hDc := fl_D (S' := [mnW x a sv o rd bu ln, stW cI a σ, ocW cI o u75]) hD [0, 1, 3] (by decide) rfl
                                                  have hFc := fl_free (SC := [mnW x a sv o rd bu ln, stW cI a σ, ocW cI o u75]) hD hS hA [0, 1, 3] rfl
                                                  refine wq_calli (va_runV (As := [.int (iI (c)), .int (iI (6))]) (rest := []) ⟨hx, hb, hml, hown, hts⟩ (c_X4_counter l D cI cO cC cL H.size x a sv o rd bu ln σ u75 (c) (6) (by first | assumption | omega) (by first | assumption | omega) (by first | assumption | omega)) (cwV 2 hts gL_counters_X4_counter rfl rfl rfl (by decide +kernel) ⟨Nat.le_of_ble_eq_true rfl, Nat.le_of_ble_eq_true rfl⟩) ⟨pcW_blind, va_recv hK hPc (ci := 4) (q0 := 0) rfl rfl, pcW_of hPc hK hDc⟩ rfl rfl hl.1 rfl (lv_room (Nat.le_of_ble_eq_true rfl)) dL_counters_344 ⟨(Nat.zero_le _), (Nat.zero_le _)⟩) hS (fun q _ h => hFc q h) hFc (fun r76 u78 t9 H1 locs ht9 hvm hcl77 hB hz1 hk1 hS => ?_)
                                                  obtain ⟨hP1, hK1, hD1⟩ := hB
                                                  rw [ht9] at hP1
                                                  obtain ⟨hP, hD⟩ := fl_join (SR := [svO cO sv fs κ]) (S1 := [mnW x a sv o rd bu ln, stW cI a σ, ocW cI o u78]) hP hD [0, 1, 3] [2] rfl rfl (by decide) (by decide) hk1 hFc hP1 hD1
                                                  generalize H1 = H at hP hS ⊢
                                                  have hP := fl_P (S' := [mnW x a sv o rd bu ln, stW cI a σ, svO cO sv fs κ, ocW cI o u78]) hP [1, 2, 0, 3] rfl
                                                  have hD := fl_D (S' := [mnW x a sv o rd bu ln, stW cI a σ, svO cO sv fs κ, ocW cI o u78]) hD [1, 2, 0, 3] (by decide) rfl
                                                  have hr769 : r76 = ctrS σ c (6) := hcl77
                                                  subst hr769
                                                  refine wi_top (y := (chSum σ c)) rfl ?_
                                                  refine lv_iload_n hx hb dL_counters_347 rfl (lv_at hl 4 rfl) ?_
                                                  refine lv_iload hx hb dL_counters_348 (lv_at hl 3 rfl) ?_
                                                  refine wi_iadd hx hb dL_counters_350 ?_
                                                  refine wi_iconst hx hb dL_counters_351 ?_
                                                  refine lv_aload_n hx hb dL_counters_352 rfl (lv_at hl 6 rfl) ?_
                                                  refine lv_iload_n hx hb dL_counters_353 rfl (lv_at hl 5 rfl) ?_
                                                  refine wi_iconst hx hb dL_counters_354 ?_
                                                  have hPc := fl_P (S' := [mnW x a sv o rd bu ln, stW cI a σ, ocW cI o u78]) hP [0, 1, 3] rfl
                                                  have hDc := fl_D (S' := [mnW x a sv o rd bu ln, stW cI a σ, ocW cI o u78]) hD [0, 1, 3] (by decide) rfl
                                                  have hFc := fl_free (SC := [mnW x a sv o rd bu ln, stW cI a σ, ocW cI o u78]) hD hS hA [0, 1, 3] rfl
                                                  refine wq_calli (va_runV (As := [.int (iI (c)), .int (iI (0))]) (rest := [.int (iI (2)), .int (iI ((lo + hi))), .int (iI ((chSum σ c)))]) ⟨hx, hb, hml, hown, hts⟩ (c_X4_counter l D cI cO cC cL H.size x a sv o rd bu ln σ u78 (c) (0) (by first | assumption | omega) (by first | assumption | omega) (by first | assumption | omega)) (cwV 2 hts gL_counters_X4_counter rfl rfl rfl (by decide +kernel) ⟨Nat.le_of_ble_eq_true rfl, Nat.le_of_ble_eq_true rfl⟩) ⟨pcW_blind, va_recv hK hPc (ci := 4) (q0 := 0) rfl rfl, pcW_of hPc hK hDc⟩ rfl rfl hl.1 rfl (lv_room (Nat.le_of_ble_eq_true rfl)) dL_counters_355 ⟨(Nat.zero_le _), (Nat.zero_le _)⟩) hS (fun q _ h => hFc q h) hFc (fun r79 u81 t9 H1 locs ht9 hvm hcl80 hB hz1 hk1 hS => ?_)
                                                  obtain ⟨hP1, hK1, hD1⟩ := hB
                                                  rw [ht9] at hP1
                                                  obtain ⟨hP, hD⟩ := fl_join (SR := [svO cO sv fs κ]) (S1 := [mnW x a sv o rd bu ln, stW cI a σ, ocW cI o u81]) hP hD [0, 1, 3] [2] rfl rfl (by decide) (by decide) hk1 hFc hP1 hD1
                                                  generalize H1 = H at hP hS ⊢
                                                  have hP := fl_P (S' := [mnW x a sv o rd bu ln, stW cI a σ, svO cO sv fs κ, ocW cI o u81]) hP [1, 2, 0, 3] rfl
                                                  have hD := fl_D (S' := [mnW x a sv o rd bu ln, stW cI a σ, svO cO sv fs κ, ocW cI o u81]) hD [1, 2, 0, 3] (by decide) rfl
                                                  have hr799 : r79 = ctrS σ c (0) := hcl80
                                                  subst hr799
                                                  refine wi_top (y := (σ 2 c)) rfl ?_
                                                  refine wi_imul hx hb dL_counters_358 ?_
                                                  refine wi_isub hx hb dL_counters_359 ?_
                                                  refine wi_icmp_ne (tgt := 367) hx hb dL_counters_360 (by decide) (by omega) (fun c_360 => ?_) (fun c_360 => ?_)
                                                  · skip
                                                    exfalso; omega
                                                  · skip
                                                    refine wi_iconst hx hb dL_counters_363 ?_
                                                    refine lv_goto (tgt := 368) hx hb dL_counters_364 (by decide) ?_
                                                    refine lv_istore_n (lv' := [(1, .int (iI (1))), (6, .int (iI (p))), (5, .int (iI (mn))), (4, .int (iI (hi))), (3, .int (iI (lo))), (2, .int (iI (c))), (0, .ref (x 0))]) hx hb dL_counters_368 rfl hl (by decide) rfl (fun ls hl => ?_)
                                                    refine wi_iinc (lv' := [(2, .int (iI ((c + 1)))), (1, .int (iI (1))), (6, .int (iI (p))), (5, .int (iI (mn))), (4, .int (iI (hi))), (3, .int (iI (lo))), (0, .ref (x 0))]) hx hb dL_counters_369 hl (k := 5) rfl (by decide) rfl (fun ls hl => ?_)
                                                    refine lv_goto (tgt := 4) hx hb dL_counters_372 (by decide) ?_
                                                    exact ih4 ((c + 1)) (u81) (by omega) (by omega) _ _ hP hD hS ls (lv_sub hl [0, 1, 6] rfl)
              · skip
                have hpr := hI.pr (p := p) (by omega) (by omega)
                obtain ⟨hp1, hp2, hp3, hp4, hp5⟩ := id hpr
                have hcr := chg_r hpr c
                have hq1 := (mx_r hI c (k := p.toNat) (by omega))
                have hs1 : mnS σ c (p + 1).toNat = mnS σ c p.toNat + min (chg σ p c) 0 := sm_step (by omega)
                have hs2 : mxS σ c (p + 1).toNat = mxS σ c p.toNat + max (chg σ p c) 0 := sm_step (by omega)
                have hs3 : inC σ c (p + 1).toNat = inC σ c p.toNat + (if chg σ p c = 0 then (0 : Int) else 1) := sm_step (by omega)
                have hin : 0 ≤ inC σ c p.toNat ∧ inC σ c p.toNat ≤ p.toNat := sm_01 (fun j _ _ => by show 0 ≤ (if chg σ j c = 0 then (0 : Int) else 1) ∧ (if chg σ j c = 0 then (0 : Int) else 1) ≤ 1; split <;> omega)
                have hcg : chg σ p c = if σ 6 p = c then σ 7 p else if σ 8 p = c then -σ 7 p else 0 := rfl
                have L83 : ∀ (by9 : Int), (by9 = chg σ p c) → ∀ (ls : Array Slot), lv_has ls 8 [(6, .int (iI (p))), (5, .int (iI (mn))), (4, .int (iI (hi))), (3, .int (iI (lo))), (2, .int (iI (c))), (1, .int (iI (1))), (0, .ref (x 0))] → W p9 l e9 ({ frames := 8, cells := 0, slots := 0, locals := 164 } : Room) s m ([.ref (x 0)] : List Value).toArray below9 meth9 c9 H locs 0 0 (MQ below9 (wq_i (fun (r : Int) (ψ : Nat → Int → Int) => r = 1) (fun (ψ : Nat → Int → Int) => (bW D [(cI, FieldType.int), (cO, FieldType.object "PromisedCounters$State"), (cC, FieldType.char)] (fl [mnW x a sv o rd bu ln, stW cI a σ, svO cO sv fs κ, ocW cI o ψ]) A)) A) ([.ref (x 0)] : List Value).toArray s 0 0 A) (F0 m 83 ls [.int (iI (by9))]) := by
                  intro by9 hby ls hl
                  refine lv_istore (lv' := [(7, .int (iI (by9))), (6, .int (iI (p))), (5, .int (iI (mn))), (4, .int (iI (hi))), (3, .int (iI (lo))), (2, .int (iI (c))), (1, .int (iI (1))), (0, .ref (x 0))]) hx hb dL_counters_83 hl (by decide) rfl (fun ls hl => ?_)
                  refine lv_iload_n hx hb dL_counters_85 rfl (lv_at hl 4 rfl) ?_
                  refine lv_iload hx hb dL_counters_86 (lv_at hl 0 rfl) ?_
                  refine wi_if_ge (tgt := 96) hx hb dL_counters_88 (by decide) (by omega) (fun c_88 => ?_) (fun c_88 => ?_)
                  · skip
                    refine wi_iconst hx hb dL_counters_96 ?_
                    refine wi_iadd hx hb dL_counters_97 ?_
                    refine lv_istore_n (lv' := [(3, .int (iI ((lo + 0)))), (7, .int (iI (by9))), (6, .int (iI (p))), (5, .int (iI (mn))), (4, .int (iI (hi))), (2, .int (iI (c))), (1, .int (iI (1))), (0, .ref (x 0))]) hx hb dL_counters_98 rfl hl (by decide) rfl (fun ls hl => ?_)
                    refine lv_iload hx hb dL_counters_99 (lv_at hl 4 rfl) ?_
                    refine lv_iload hx hb dL_counters_101 (lv_at hl 1 rfl) ?_
                    refine wi_if_le (tgt := 111) hx hb dL_counters_103 (by decide) (by omega) (fun c_103 => ?_) (fun c_103 => ?_)
                    · skip
                      refine wi_iconst hx hb dL_counters_111 ?_
                      refine wi_iadd hx hb dL_counters_112 ?_
                      refine lv_istore (lv' := [(4, .int (iI ((hi + 0)))), (3, .int (iI ((lo + 0)))), (7, .int (iI (by9))), (6, .int (iI (p))), (5, .int (iI (mn))), (2, .int (iI (c))), (1, .int (iI (1))), (0, .ref (x 0))]) hx hb dL_counters_113 hl (by decide) rfl (fun ls hl => ?_)
                      refine lv_iload hx hb dL_counters_115 (lv_at hl 4 rfl) ?_
                      refine lv_iload hx hb dL_counters_117 (lv_at hl 2 rfl) ?_
                      refine wi_if_ne (tgt := 126) hx hb dL_counters_119 (by decide) (by omega) (fun c_119 => ?_) (fun c_119 => ?_)
                      · skip
                        refine wi_iconst hx hb dL_counters_126 ?_
                        refine wi_iadd hx hb dL_counters_127 ?_
                        refine lv_istore (lv' := [(5, .int (iI ((mn + 1)))), (4, .int (iI ((hi + 0)))), (3, .int (iI ((lo + 0)))), (7, .int (iI (by9))), (6, .int (iI (p))), (2, .int (iI (c))), (1, .int (iI (1))), (0, .ref (x 0))]) hx hb dL_counters_128 hl (by decide) rfl (fun ls hl => ?_)
                        refine wi_iinc (lv' := [(6, .int (iI ((p + 1)))), (5, .int (iI ((mn + 1)))), (4, .int (iI ((hi + 0)))), (3, .int (iI ((lo + 0)))), (7, .int (iI (by9))), (2, .int (iI (c))), (1, .int (iI (1))), (0, .ref (x 0))]) hx hb dL_counters_130 hl (k := 4) rfl (by decide) rfl (fun ls hl => ?_)
                        refine lv_goto (tgt := 29) hx hb dL_counters_133 (by decide) ?_
                        exact ih29 ((p + 1)) ((lo + 0)) ((hi + 0)) ((mn + 1)) (by omega) (by omega) (by omega) (by omega) (by rw [hs3]; first | rw [if_pos (by omega)] ; omega | rw [if_neg (by omega)] ; omega)  ls (lv_sub hl [0, 1, 2, 3, 5, 6, 7] rfl)
                      · skip
                        refine wi_iconst hx hb dL_counters_122 ?_
                        refine lv_goto (tgt := 127) hx hb dL_counters_123 (by decide) ?_
                        refine wi_iadd hx hb dL_counters_127 ?_
                        refine lv_istore (lv' := [(5, .int (iI ((mn + 0)))), (4, .int (iI ((hi + 0)))), (3, .int (iI ((lo + 0)))), (7, .int (iI (by9))), (6, .int (iI (p))), (2, .int (iI (c))), (1, .int (iI (1))), (0, .ref (x 0))]) hx hb dL_counters_128 hl (by decide) rfl (fun ls hl => ?_)
                        refine wi_iinc (lv' := [(6, .int (iI ((p + 1)))), (5, .int (iI ((mn + 0)))), (4, .int (iI ((hi + 0)))), (3, .int (iI ((lo + 0)))), (7, .int (iI (by9))), (2, .int (iI (c))), (1, .int (iI (1))), (0, .ref (x 0))]) hx hb dL_counters_130 hl (k := 4) rfl (by decide) rfl (fun ls hl => ?_)
                        refine lv_goto (tgt := 29) hx hb dL_counters_133 (by decide) ?_
                        exact ih29 ((p + 1)) ((lo + 0)) ((hi + 0)) ((mn + 0)) (by omega) (by omega) (by omega) (by omega) (by rw [hs3]; first | rw [if_pos (by omega)] ; omega | rw [if_neg (by omega)] ; omega)  ls (lv_sub hl [0, 1, 2, 3, 5, 6, 7] rfl)
                    · skip
                      refine lv_iload hx hb dL_counters_106 (lv_at hl 1 rfl) ?_
                      refine lv_goto (tgt := 112) hx hb dL_counters_108 (by decide) ?_
                      refine wi_iadd hx hb dL_counters_112 ?_
                      refine lv_istore (lv' := [(4, .int (iI ((hi + by9)))), (3, .int (iI ((lo + 0)))), (7, .int (iI (by9))), (6, .int (iI (p))), (5, .int (iI (mn))), (2, .int (iI (c))), (1, .int (iI (1))), (0, .ref (x 0))]) hx hb dL_counters_113 hl (by decide) rfl (fun ls hl => ?_)
                      refine lv_iload hx hb dL_counters_115 (lv_at hl 4 rfl) ?_
                      refine lv_iload hx hb dL_counters_117 (lv_at hl 2 rfl) ?_
                      refine wi_if_ne (tgt := 126) hx hb dL_counters_119 (by decide) (by omega) (fun c_119 => ?_) (fun c_119 => ?_)
                      · skip
                        refine wi_iconst hx hb dL_counters_126 ?_
                        refine wi_iadd hx hb dL_counters_127 ?_
                        refine lv_istore (lv' := [(5, .int (iI ((mn + 1)))), (4, .int (iI ((hi + by9)))), (3, .int (iI ((lo + 0)))), (7, .int (iI (by9))), (6, .int (iI (p))), (2, .int (iI (c))), (1, .int (iI (1))), (0, .ref (x 0))]) hx hb dL_counters_128 hl (by decide) rfl (fun ls hl => ?_)
                        refine wi_iinc (lv' := [(6, .int (iI ((p + 1)))), (5, .int (iI ((mn + 1)))), (4, .int (iI ((hi + by9)))), (3, .int (iI ((lo + 0)))), (7, .int (iI (by9))), (2, .int (iI (c))), (1, .int (iI (1))), (0, .ref (x 0))]) hx hb dL_counters_130 hl (k := 4) rfl (by decide) rfl (fun ls hl => ?_)
                        refine lv_goto (tgt := 29) hx hb dL_counters_133 (by decide) ?_
                        exact ih29 ((p + 1)) ((lo + 0)) ((hi + by9)) ((mn + 1)) (by omega) (by omega) (by omega) (by omega) (by rw [hs3]; first | rw [if_pos (by omega)] ; omega | rw [if_neg (by omega)] ; omega)  ls (lv_sub hl [0, 1, 2, 3, 5, 6, 7] rfl)
                      · skip
                        refine wi_iconst hx hb dL_counters_122 ?_
                        refine lv_goto (tgt := 127) hx hb dL_counters_123 (by decide) ?_
                        refine wi_iadd hx hb dL_counters_127 ?_
                        refine lv_istore (lv' := [(5, .int (iI ((mn + 0)))), (4, .int (iI ((hi + by9)))), (3, .int (iI ((lo + 0)))), (7, .int (iI (by9))), (6, .int (iI (p))), (2, .int (iI (c))), (1, .int (iI (1))), (0, .ref (x 0))]) hx hb dL_counters_128 hl (by decide) rfl (fun ls hl => ?_)
                        refine wi_iinc (lv' := [(6, .int (iI ((p + 1)))), (5, .int (iI ((mn + 0)))), (4, .int (iI ((hi + by9)))), (3, .int (iI ((lo + 0)))), (7, .int (iI (by9))), (2, .int (iI (c))), (1, .int (iI (1))), (0, .ref (x 0))]) hx hb dL_counters_130 hl (k := 4) rfl (by decide) rfl (fun ls hl => ?_)
                        refine lv_goto (tgt := 29) hx hb dL_counters_133 (by decide) ?_
                        exact ih29 ((p + 1)) ((lo + 0)) ((hi + by9)) ((mn + 0)) (by omega) (by omega) (by omega) (by omega) (by rw [hs3]; first | rw [if_pos (by omega)] ; omega | rw [if_neg (by omega)] ; omega)  ls (lv_sub hl [0, 1, 2, 3, 5, 6, 7] rfl)
                  · skip
                    refine lv_iload hx hb dL_counters_91 (lv_at hl 0 rfl) ?_
                    refine lv_goto (tgt := 97) hx hb dL_counters_93 (by decide) ?_
                    refine wi_iadd hx hb dL_counters_97 ?_
                    refine lv_istore_n (lv' := [(3, .int (iI ((lo + by9)))), (7, .int (iI (by9))), (6, .int (iI (p))), (5, .int (iI (mn))), (4, .int (iI (hi))), (2, .int (iI (c))), (1, .int (iI (1))), (0, .ref (x 0))]) hx hb dL_counters_98 rfl hl (by decide) rfl (fun ls hl => ?_)
                    refine lv_iload hx hb dL_counters_99 (lv_at hl 4 rfl) ?_
                    refine lv_iload hx hb dL_counters_101 (lv_at hl 1 rfl) ?_
                    refine wi_if_le (tgt := 111) hx hb dL_counters_103 (by decide) (by omega) (fun c_103 => ?_) (fun c_103 => ?_)
                    · skip
                      refine wi_iconst hx hb dL_counters_111 ?_
                      refine wi_iadd hx hb dL_counters_112 ?_
                      refine lv_istore (lv' := [(4, .int (iI ((hi + 0)))), (3, .int (iI ((lo + by9)))), (7, .int (iI (by9))), (6, .int (iI (p))), (5, .int (iI (mn))), (2, .int (iI (c))), (1, .int (iI (1))), (0, .ref (x 0))]) hx hb dL_counters_113 hl (by decide) rfl (fun ls hl => ?_)
                      refine lv_iload hx hb dL_counters_115 (lv_at hl 4 rfl) ?_
                      refine lv_iload hx hb dL_counters_117 (lv_at hl 2 rfl) ?_
                      refine wi_if_ne (tgt := 126) hx hb dL_counters_119 (by decide) (by omega) (fun c_119 => ?_) (fun c_119 => ?_)
                      · skip
                        refine wi_iconst hx hb dL_counters_126 ?_
                        refine wi_iadd hx hb dL_counters_127 ?_
                        refine lv_istore (lv' := [(5, .int (iI ((mn + 1)))), (4, .int (iI ((hi + 0)))), (3, .int (iI ((lo + by9)))), (7, .int (iI (by9))), (6, .int (iI (p))), (2, .int (iI (c))), (1, .int (iI (1))), (0, .ref (x 0))]) hx hb dL_counters_128 hl (by decide) rfl (fun ls hl => ?_)
                        refine wi_iinc (lv' := [(6, .int (iI ((p + 1)))), (5, .int (iI ((mn + 1)))), (4, .int (iI ((hi + 0)))), (3, .int (iI ((lo + by9)))), (7, .int (iI (by9))), (2, .int (iI (c))), (1, .int (iI (1))), (0, .ref (x 0))]) hx hb dL_counters_130 hl (k := 4) rfl (by decide) rfl (fun ls hl => ?_)
                        refine lv_goto (tgt := 29) hx hb dL_counters_133 (by decide) ?_
                        exact ih29 ((p + 1)) ((lo + by9)) ((hi + 0)) ((mn + 1)) (by omega) (by omega) (by omega) (by omega) (by rw [hs3]; first | rw [if_pos (by omega)] ; omega | rw [if_neg (by omega)] ; omega)  ls (lv_sub hl [0, 1, 2, 3, 5, 6, 7] rfl)
                      · skip
                        refine wi_iconst hx hb dL_counters_122 ?_
                        refine lv_goto (tgt := 127) hx hb dL_counters_123 (by decide) ?_
                        refine wi_iadd hx hb dL_counters_127 ?_
                        refine lv_istore (lv' := [(5, .int (iI ((mn + 0)))), (4, .int (iI ((hi + 0)))), (3, .int (iI ((lo + by9)))), (7, .int (iI (by9))), (6, .int (iI (p))), (2, .int (iI (c))), (1, .int (iI (1))), (0, .ref (x 0))]) hx hb dL_counters_128 hl (by decide) rfl (fun ls hl => ?_)
                        refine wi_iinc (lv' := [(6, .int (iI ((p + 1)))), (5, .int (iI ((mn + 0)))), (4, .int (iI ((hi + 0)))), (3, .int (iI ((lo + by9)))), (7, .int (iI (by9))), (2, .int (iI (c))), (1, .int (iI (1))), (0, .ref (x 0))]) hx hb dL_counters_130 hl (k := 4) rfl (by decide) rfl (fun ls hl => ?_)
                        refine lv_goto (tgt := 29) hx hb dL_counters_133 (by decide) ?_
                        exact ih29 ((p + 1)) ((lo + by9)) ((hi + 0)) ((mn + 0)) (by omega) (by omega) (by omega) (by omega) (by rw [hs3]; first | rw [if_pos (by omega)] ; omega | rw [if_neg (by omega)] ; omega)  ls (lv_sub hl [0, 1, 2, 3, 5, 6, 7] rfl)
                    · skip
                      refine lv_iload hx hb dL_counters_106 (lv_at hl 1 rfl) ?_
                      refine lv_goto (tgt := 112) hx hb dL_counters_108 (by decide) ?_
                      refine wi_iadd hx hb dL_counters_112 ?_
                      refine lv_istore (lv' := [(4, .int (iI ((hi + by9)))), (3, .int (iI ((lo + by9)))), (7, .int (iI (by9))), (6, .int (iI (p))), (5, .int (iI (mn))), (2, .int (iI (c))), (1, .int (iI (1))), (0, .ref (x 0))]) hx hb dL_counters_113 hl (by decide) rfl (fun ls hl => ?_)
                      refine lv_iload hx hb dL_counters_115 (lv_at hl 4 rfl) ?_
                      refine lv_iload hx hb dL_counters_117 (lv_at hl 2 rfl) ?_
                      refine wi_if_ne (tgt := 126) hx hb dL_counters_119 (by decide) (by omega) (fun c_119 => ?_) (fun c_119 => ?_)
                      · skip
                        refine wi_iconst hx hb dL_counters_126 ?_
                        refine wi_iadd hx hb dL_counters_127 ?_
                        refine lv_istore (lv' := [(5, .int (iI ((mn + 1)))), (4, .int (iI ((hi + by9)))), (3, .int (iI ((lo + by9)))), (7, .int (iI (by9))), (6, .int (iI (p))), (2, .int (iI (c))), (1, .int (iI (1))), (0, .ref (x 0))]) hx hb dL_counters_128 hl (by decide) rfl (fun ls hl => ?_)
                        refine wi_iinc (lv' := [(6, .int (iI ((p + 1)))), (5, .int (iI ((mn + 1)))), (4, .int (iI ((hi + by9)))), (3, .int (iI ((lo + by9)))), (7, .int (iI (by9))), (2, .int (iI (c))), (1, .int (iI (1))), (0, .ref (x 0))]) hx hb dL_counters_130 hl (k := 4) rfl (by decide) rfl (fun ls hl => ?_)
                        refine lv_goto (tgt := 29) hx hb dL_counters_133 (by decide) ?_
                        exact ih29 ((p + 1)) ((lo + by9)) ((hi + by9)) ((mn + 1)) (by omega) (by omega) (by omega) (by omega) (by rw [hs3]; first | rw [if_pos (by omega)] ; omega | rw [if_neg (by omega)] ; omega)  ls (lv_sub hl [0, 1, 2, 3, 5, 6, 7] rfl)
                      · skip
                        refine wi_iconst hx hb dL_counters_122 ?_
                        refine lv_goto (tgt := 127) hx hb dL_counters_123 (by decide) ?_
                        refine wi_iadd hx hb dL_counters_127 ?_
                        refine lv_istore (lv' := [(5, .int (iI ((mn + 0)))), (4, .int (iI ((hi + by9)))), (3, .int (iI ((lo + by9)))), (7, .int (iI (by9))), (6, .int (iI (p))), (2, .int (iI (c))), (1, .int (iI (1))), (0, .ref (x 0))]) hx hb dL_counters_128 hl (by decide) rfl (fun ls hl => ?_)
                        refine wi_iinc (lv' := [(6, .int (iI ((p + 1)))), (5, .int (iI ((mn + 0)))), (4, .int (iI ((hi + by9)))), (3, .int (iI ((lo + by9)))), (7, .int (iI (by9))), (2, .int (iI (c))), (1, .int (iI (1))), (0, .ref (x 0))]) hx hb dL_counters_130 hl (k := 4) rfl (by decide) rfl (fun ls hl => ?_)
                        refine lv_goto (tgt := 29) hx hb dL_counters_133 (by decide) ?_
                        exact ih29 ((p + 1)) ((lo + by9)) ((hi + by9)) ((mn + 0)) (by omega) (by omega) (by omega) (by omega) (by rw [hs3]; first | rw [if_pos (by omega)] ; omega | rw [if_neg (by omega)] ; omega)  ls (lv_sub hl [0, 1, 2, 3, 5, 6, 7] rfl)
                refine lv_aload_n hx hb dL_counters_39 rfl (lv_at hl 6 rfl) ?_
                refine lv_iload hx hb dL_counters_40 (lv_at hl 0 rfl) ?_
                refine wi_iconst hx hb dL_counters_42 ?_
                have hPc := fl_P (S' := [mnW x a sv o rd bu ln, stW cI a σ]) hP [0, 1] rfl
                refine wr_calli (va_runV (As := [.int (iI (p)), .int (iI (1))]) (rest := []) ⟨hx, hb, hml, hown, hts⟩ (c_X4_promiseOf l D cI cO cC cL x a sv o rd bu ln σ (p) (1) (by first | assumption | omega) (by first | assumption | omega) (by first | assumption | omega)) (cwV 2 hts gL_counters_X4_promiseOf rfl rfl rfl (by decide +kernel) ⟨Nat.le_of_ble_eq_true rfl, Nat.le_of_ble_eq_true rfl⟩) ⟨pcR_blind, va_recv hK hPc (ci := 4) (q0 := 0) rfl rfl, pcR_of hPc hK⟩ rfl rfl hl.1 rfl (lv_room (Nat.le_of_ble_eq_true rfl)) dL_counters_43 ⟨(Nat.zero_le _), (Nat.zero_le _)⟩) (fun r82 hr82 => ?_)
                subst hr82
                refine wi_top (y := (σ 6 p)) rfl ?_
                refine lv_iload_n hx hb dL_counters_46 rfl (lv_at hl 4 rfl) ?_
                refine wi_icmp_ne (tgt := 60) hx hb dL_counters_47 (by decide) (by omega) (fun c_47 => ?_) (fun c_47 => ?_)
                · skip
                  refine lv_aload_n hx hb dL_counters_60 rfl (lv_at hl 6 rfl) ?_
                  refine lv_iload hx hb dL_counters_61 (lv_at hl 0 rfl) ?_
                  refine wi_iconst hx hb dL_counters_63 ?_
                  have hPc := fl_P (S' := [mnW x a sv o rd bu ln, stW cI a σ]) hP [0, 1] rfl
                  refine wr_calli (va_runV (As := [.int (iI (p)), .int (iI (3))]) (rest := []) ⟨hx, hb, hml, hown, hts⟩ (c_X4_promiseOf l D cI cO cC cL x a sv o rd bu ln σ (p) (3) (by first | assumption | omega) (by first | assumption | omega) (by first | assumption | omega)) (cwV 2 hts gL_counters_X4_promiseOf rfl rfl rfl (by decide +kernel) ⟨Nat.le_of_ble_eq_true rfl, Nat.le_of_ble_eq_true rfl⟩) ⟨pcR_blind, va_recv hK hPc (ci := 4) (q0 := 0) rfl rfl, pcR_of hPc hK⟩ rfl rfl hl.1 rfl (lv_room (Nat.le_of_ble_eq_true rfl)) dL_counters_64 ⟨(Nat.zero_le _), (Nat.zero_le _)⟩) (fun r83 hr83 => ?_)
                  subst hr83
                  refine wi_top (y := (σ 8 p)) rfl ?_
                  refine lv_iload_n hx hb dL_counters_67 rfl (lv_at hl 4 rfl) ?_
                  refine wi_icmp_ne (tgt := 82) hx hb dL_counters_68 (by decide) (by omega) (fun c_68 => ?_) (fun c_68 => ?_)
                  · skip
                    refine wi_iconst hx hb dL_counters_82 ?_
                    exact L83 (0) (by rw [hcg]; first | rw [if_pos (by omega)] | (rw [if_neg (by omega)]; first | rw [if_pos (by omega)] | rw [if_neg (by omega)]))  ls (lv_sub hl [0, 1, 2, 3, 4, 5, 6] rfl)
                  · skip
                    refine lv_aload_n hx hb dL_counters_71 rfl (lv_at hl 6 rfl) ?_
                    refine lv_iload hx hb dL_counters_72 (lv_at hl 0 rfl) ?_
                    refine wi_iconst hx hb dL_counters_74 ?_
                    have hPc := fl_P (S' := [mnW x a sv o rd bu ln, stW cI a σ]) hP [0, 1] rfl
                    refine wr_calli (va_runV (As := [.int (iI (p)), .int (iI (2))]) (rest := []) ⟨hx, hb, hml, hown, hts⟩ (c_X4_promiseOf l D cI cO cC cL x a sv o rd bu ln σ (p) (2) (by first | assumption | omega) (by first | assumption | omega) (by first | assumption | omega)) (cwV 2 hts gL_counters_X4_promiseOf rfl rfl rfl (by decide +kernel) ⟨Nat.le_of_ble_eq_true rfl, Nat.le_of_ble_eq_true rfl⟩) ⟨pcR_blind, va_recv hK hPc (ci := 4) (q0 := 0) rfl rfl, pcR_of hPc hK⟩ rfl rfl hl.1 rfl (lv_room (Nat.le_of_ble_eq_true rfl)) dL_counters_75 ⟨(Nat.zero_le _), (Nat.zero_le _)⟩) (fun r84 hr84 => ?_)
                    subst hr84
                    refine wi_top (y := (σ 7 p)) rfl ?_
                    refine wi_ineg hx hb dL_counters_78 ?_
                    refine lv_goto (tgt := 83) hx hb dL_counters_79 (by decide) ?_
                    exact L83 ((-(σ 7 p))) (by rw [hcg]; first | rw [if_pos (by omega)] | (rw [if_neg (by omega)]; first | rw [if_pos (by omega)] | rw [if_neg (by omega)]))  ls (lv_sub hl [0, 1, 2, 3, 4, 5, 6] rfl)
                · skip
                  refine lv_aload_n hx hb dL_counters_50 rfl (lv_at hl 6 rfl) ?_
                  refine lv_iload hx hb dL_counters_51 (lv_at hl 0 rfl) ?_
                  refine wi_iconst hx hb dL_counters_53 ?_
                  have hPc := fl_P (S' := [mnW x a sv o rd bu ln, stW cI a σ]) hP [0, 1] rfl
                  refine wr_calli (va_runV (As := [.int (iI (p)), .int (iI (2))]) (rest := []) ⟨hx, hb, hml, hown, hts⟩ (c_X4_promiseOf l D cI cO cC cL x a sv o rd bu ln σ (p) (2) (by first | assumption | omega) (by first | assumption | omega) (by first | assumption | omega)) (cwV 2 hts gL_counters_X4_promiseOf rfl rfl rfl (by decide +kernel) ⟨Nat.le_of_ble_eq_true rfl, Nat.le_of_ble_eq_true rfl⟩) ⟨pcR_blind, va_recv hK hPc (ci := 4) (q0 := 0) rfl rfl, pcR_of hPc hK⟩ rfl rfl hl.1 rfl (lv_room (Nat.le_of_ble_eq_true rfl)) dL_counters_54 ⟨(Nat.zero_le _), (Nat.zero_le _)⟩) (fun r85 hr85 => ?_)
                  subst hr85
                  refine wi_top (y := (σ 7 p)) rfl ?_
                  refine lv_goto (tgt := 83) hx hb dL_counters_57 (by decide) ?_
                  exact L83 ((σ 7 p)) (by rw [hcg]; first | rw [if_pos (by omega)] | (rw [if_neg (by omega)]; first | rw [if_pos (by omega)] | rw [if_neg (by omega)]))  ls (lv_sub hl [0, 1, 2, 3, 4, 5, 6] rfl)
          exact L29 _ (0) ((σ 2 c)) ((σ 2 c)) (0) (Nat.lt_succ_self _) (by omega) (by show σ 2 c = σ 2 c + 0; omega) (by show σ 2 c = σ 2 c + 0; omega) (rfl)  ls (lv_sub hl [0, 1, 2, 3, 4, 5, 6] rfl)
  exact L4 _ (0) (φ) (Nat.lt_succ_self _) (by omega) _ _ hP hD hS ls (lv_sub hl [0, 1, 2] rfl)
