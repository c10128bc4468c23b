set_option maxHeartbeats 4000000 in
set_option maxRecDepth 100000 in
theorem c_X5_promiseAll (l : Launch) (D : va_G) (cI cO cC cL : ClassId) (sz : Nat) (b : Nat → Nat) (μ σ : Nat → Int → Int) (ss : Nat → Nat → Int → Int) (β : Int → Int) (δ : Int → Int) (cd : Int) (hM : RelM σ (μ 0 0) ss (μ 0 1) β μ) (hG : GI σ (μ 0 0) ss (μ 0 1) β) (hd0 : δ 0 = 0) (hcd : (cd = 0 ∧ VAL β (μ 0 1) δ) ∨ (cd = 1 ∧ ¬ VAL β (μ 0 1) δ)) : Met l yX5_promiseAll wsX5_promiseAll ({ frames := 6, cells := 0, slots := 0, locals := 139 } : Room) (pcW D [(cI, FieldType.int)] [.ref (b 0)] (fl [mdW cI b μ]) sz) (wq_i (fun (r : Int) (μ' : Nat → Int → Int) => OPQ cd r (prC (plR β (μ 0 1 - 0).toNat δ 0) σ) (μ' 0 2) (RelM σ (μ 0 0) ss (μ 0 1) β μ') (RelM (prS (plR β (μ 0 1 - 0).toNat δ 0) σ) (pushK (μ 0 0)) (pushS (μ 0 0) ss σ) 0 β μ')) (fun (μ' : Nat → Int → Int) => (bW D [(cI, FieldType.int)] (fl [mdW cI b μ']) (va_A (fl [mdW cI b μ]) sz))) (va_A (fl [mdW cI b μ]) sz)) 0 0 (va_A (fl [mdW cI b μ]) sz) := by
  refine Met.ofW (cc := cX5_promiseAll) (maxL := 2) (ret := (some .int)) (by decide) rfl ?_
  intro p9 e9 s m args9 below9 meth9 c9 s₁ B hml hv
  obtain ⟨rfl, hsz, hP, hK, hD0⟩ := hv
  have hx := B.exec
  have hb := B.bytes
  have hr := B.returns
  have hts := atoms_spec (ws := wsX5_promiseAll) B.pre
  have hown : s.vm.findClass RX5 = some m.cls := findClass_of_methodNamed B.named
  have hlocks := B.notSynchronized
  subst hsz
  have hD := hD0.self (sz := s.heap.size)
  generalize hAe : va_A (fl [mdW cI b μ]) s.heap.size = A at hD ⊢
  have hA : ∀ q : Nat, s.heap.size ≤ q → A q := fun q h => by rw [← hAe]; exact Or.inr h
  have hS : va_S A s.heap s.heap [] := va_S.rf
  have hP : va_P D vwCl (fl [mdW cI b μ]) s.heap := hP
  have hl := lv_entry ([.ref (b 0)]) (n := 2) (Nat.le_of_ble_eq_true rfl)
  rw [lg_entry_eq]
  generalize (lg_sl ([.ref (b 0)]) ++ List.replicate (2 - (lg_sl ([.ref (b 0)])).length) Slot.unset).toArray = ls at hl ⊢
  have hl : lv_has ls 2 [(0, .ref (b 0))] := hl
  have hw_0 := hts (.fieldLink RX5 25 "PromisedCountersModel" "thrown" "I") (by decide +kernel)
  have hin_X5 : ∀ w ∈ u_ws RX5 TX5 12, w ∈ wsX5_promiseAll := by decide +kernel
  have hw_1 := hts (.fieldLink RX5 94 "PromisedCountersModel" "typed" "I") (by decide +kernel)
  have hw_2 := hts (.fieldLink RX5 115 "PromisedCountersModel" "tolds" "I") (by decide +kernel)
  have hw_3 := hts (.fieldLink RX5 19 "PromisedCountersModel" "told" "[I") (by decide +kernel)
  have hln := hG.2.2.2.1
  have htx : TXT (μ 0 1) (μ 3) := fun j j0 j1 => by rw [hM.2.2.2.2 j j0 j1]; have := hG.2.2.2.2 j j0 j1; omega
  have hI := hG.1
  have hR := hM.1
  have hn := hI.n
  have hti := hI.t
  obtain ⟨hm0, hm1, hm2, hm3, hm4⟩ := hR.1
  refine lv_aload_n hx hb dX5_promiseAll_0 rfl (lv_at hl 0 rfl) ?_
  refine wi_iconst hx hb dX5_promiseAll_1 ?_
  refine va_put (D := D) (ci := 5) (v := .int (iI (0))) (ty := .int) (C := RX5) (T := TX5) (N := 12) hx hb hts hin_X5 tyX5 tyX5_ok nmX5 hown hK hP hD hS 0 rfl rfl 5 (by decide) hw_0 (fun _ h9 => h9) rfl (by decide +kernel) rfl rfl (Nat.le_of_ble_eq_true rfl) dX5_promiseAll_2 (fun H locs hP hD hS => ?_)
  have hP : va_P D vwCl (fl [mdW cI b (sU μ 0 (2) (0))]) H := hP
  have hD : va_D A (fl [mdW cI b (sU μ 0 (2) (0))]) := hD
  refine lv_aload_n hx hb dX5_promiseAll_5 rfl (lv_at hl 0 rfl) ?_
  have hFc := fl_free (SC := [mdW cI b (sU μ 0 (2) (0))]) hD hS hA [0] rfl
  refine wq_calli (va_runV (As := []) (rest := []) ⟨hx, hb, hml, hown, hts⟩ (c_X5_isText l D cI cO cC cL H.size b (sU μ 0 (2) (0)) δ ((show 0 ≤ μ 0 1 ∧ μ 0 1 ≤ 60 from hln)) (htx) (hd0)) (cwV 0 hts gX5_promiseAll_X5_isText rfl rfl rfl (by decide +kernel) ⟨Nat.le_of_ble_eq_true rfl, Nat.le_of_ble_eq_true rfl⟩) ⟨pcW_blind, va_recv hK hP (ci := 5) (q0 := 0) rfl rfl, pcW_of hP hK hD⟩ rfl rfl hl.1 rfl (lv_room (Nat.le_of_ble_eq_true rfl)) dX5_promiseAll_6 ⟨(Nat.zero_le _), (Nat.zero_le _)⟩) hS (fun q _ h => hFc q h) hFc (fun r1 u3 t9 H1 locs ht9 hvm hcl2 hB hz1 hk1 hS => ?_)
  obtain ⟨hP1, hK1, hD1⟩ := hB
  rw [ht9] at hP1
  obtain ⟨hP, hD⟩ := fl_join (SR := []) (S1 := [mdW cI b (sR (sR (sU μ 0 (2) (0)) 0 (u3 0)) 4 (u3 4))]) hP hD [0] [] rfl rfl (by decide) (by decide) hk1 hFc hP1 hD1
  generalize H1 = H at hP hS ⊢
  have hP : va_P D vwCl (fl [mdW cI b (sR (sR (sU μ 0 (2) (0)) 0 (u3 0)) 4 (u3 4))]) H := hP
  have hD : va_D A (fl [mdW cI b (sR (sR (sU μ 0 (2) (0)) 0 (u3 0)) 4 (u3 4))]) := hD
  have hT : TTQ (μ 3) (μ 0 1) δ r1 (u3 0) (u3 4) ∧ u3 0 0 = μ 0 0 ∧ u3 0 1 = μ 0 1 ∧ u3 0 2 = 0 := hcl2
  clear hcl2
  obtain ⟨hT, hu0, hu1, hu2⟩ := hT
  have hr9 := hT.1
  have h49 := hT.2.2.2.2.1
  have hff := hT.2.2.2.2.2
  have h33 := hT.2.2.2.1
  refine wi_if_ne (tgt := 18) hx hb dX5_promiseAll_9 (by decide) (by omega) (fun c_9 => ?_) (fun c_9 => ?_)
  · skip
    obtain ⟨hv3, hpl, h60, h61⟩ := hT.2.1 (by omega)
    rw [plR_c (μ 0 1 - 0).toNat δ 0 (fun j j0 j1 => hM.2.2.2.2 j j0 (by omega))] at hpl
    have hv := (VAL_c (δ := δ) (by omega) (fun j j0 j1 => hM.2.2.2.2 j j0 j1)).mp hv3
    have hcd0 := hcd.elim (fun q => q.1) (fun q => absurd hv q.2)
    have hN16 : σ 0 1 ≤ 16 := hn.2
    refine lv_aload_n hx hb dX5_promiseAll_18 rfl (lv_at hl 0 rfl) ?_
    have hFc := fl_free (SC := [mdW cI b (sR (sR (sU μ 0 (2) (0)) 0 (u3 0)) 4 (u3 4))]) hD hS hA [0] rfl
    refine va_callv (va_runV (As := []) (rest := []) ⟨hx, hb, hml, hown, hts⟩ (c_X5_saves l D cI cO cC cL H.size b (sR (sR (sU μ 0 (2) (0)) 0 (u3 0)) 4 (u3 4)) σ ss ((show 0 ≤ u3 0 0 ∧ u3 0 0 ≤ 6 by have := hG.2.1; omega)) (hN16) (hR) ((fun k hk => hM.2.2.1 k (by have h : (k : Int) < u3 0 0 := hk; omega))) ((fun k hk => hG.2.2.1 k (by have h : (k : Int) < u3 0 0 := hk; omega)))) (cwV 0 hts gX5_promiseAll_X5_saves rfl rfl rfl (by decide +kernel) ⟨Nat.le_of_ble_eq_true rfl, Nat.le_of_ble_eq_true rfl⟩) ⟨pcW_blind, va_recv hK hP (ci := 5) (q0 := 0) rfl rfl, pcW_of hP hK hD⟩ rfl rfl hl.1 rfl (lv_room (Nat.le_of_ble_eq_true rfl)) dX5_promiseAll_19 ⟨(Nat.zero_le _), (Nat.zero_le _)⟩) hS (fun q _ h => hFc q h) hFc (fun  u5 t9 H1 locs ht9 hvm hcl4 hB hz1 hk1 hS => ?_)
    obtain ⟨hP1, hK1, hD1⟩ := hB
    rw [ht9] at hP1
    obtain ⟨hP, hD⟩ := fl_join (SR := []) (S1 := [mdW cI b (sU (sR (sR (sR (sU μ 0 (2) (0)) 0 (u3 0)) 4 (u3 4)) 2 u5) 0 0 (pushK ((sR (sR (sU μ 0 (2) (0)) 0 (u3 0)) 4 (u3 4)) 0 0)))]) hP hD [0] [] rfl rfl (by decide) (by decide) hk1 hFc hP1 hD1
    generalize H1 = H at hP hS ⊢
    have hP : va_P D vwCl (fl [mdW cI b (sU (sR (sR (sR (sU μ 0 (2) (0)) 0 (u3 0)) 4 (u3 4)) 2 u5) 0 0 (pushK ((sR (sR (sU μ 0 (2) (0)) 0 (u3 0)) 4 (u3 4)) 0 0)))]) H := hP
    have hD : va_D A (fl [mdW cI b (sU (sR (sR (sR (sU μ 0 (2) (0)) 0 (u3 0)) 4 (u3 4)) 2 u5) 0 0 (pushK ((sR (sR (sU μ 0 (2) (0)) 0 (u3 0)) 4 (u3 4)) 0 0)))]) := hD
    have hs9 : ∀ k : Nat, (k : Int) < pushK (u3 0 0) → RelN (pushS (u3 0 0) ss σ k) (fun j => u5 (115 * (k : Int) + j)) := hcl4
    rw [hu0] at hs9
    refine lv_aload_n hx hb dX5_promiseAll_22 rfl (lv_at hl 0 rfl) ?_
    refine wi_iconst hx hb dX5_promiseAll_23 ?_
    refine va_put (D := D) (ci := 5) (v := .int (iI (0))) (ty := .int) (C := RX5) (T := TX5) (N := 12) hx hb hts hin_X5 tyX5 tyX5_ok nmX5 hown hK hP hD hS 0 rfl rfl 4 (by decide) hw_1 (fun _ h9 => h9) rfl (by decide +kernel) rfl rfl (Nat.le_of_ble_eq_true rfl) dX5_promiseAll_24 (fun H locs hP hD hS => ?_)
    have hP : va_P D vwCl (fl [mdW cI b (sU (sU (sR (sR (sR (sU μ 0 (2) (0)) 0 (u3 0)) 4 (u3 4)) 2 u5) 0 0 (pushK ((sR (sR (sU μ 0 (2) (0)) 0 (u3 0)) 4 (u3 4)) 0 0))) 0 (1) (0))]) H := hP
    have hD : va_D A (fl [mdW cI b (sU (sU (sR (sR (sR (sU μ 0 (2) (0)) 0 (u3 0)) 4 (u3 4)) 2 u5) 0 0 (pushK ((sR (sR (sU μ 0 (2) (0)) 0 (u3 0)) 4 (u3 4)) 0 0))) 0 (1) (0))]) := hD
    refine wi_iconst hx hb dX5_promiseAll_27 ?_
    refine lv_istore_n (lv' := [(1, .int (iI (0))), (0, .ref (b 0))]) hx hb dX5_promiseAll_28 rfl hl (by decide) rfl (fun ls hl => ?_)
    have L29 : ∀ (k29 : Nat), ∀ (ψ : Nat → Int → Int) (g : Int → Int) (k : Int), (u3 0 6 - k).toNat < k29 → (0 ≤ k ∧ k ≤ u3 0 6) → (RelN ψ g) → (Inv ψ) → (∀ q ∈ (tlR (u3 4) (u3 0 6 - k).toNat k), PO q) → (prS (tlR (u3 4) (u3 0 6 - k).toNat k) ψ = prS (plR β (μ 0 1 - 0).toNat δ 0) σ) → (prC (tlR (u3 4) (u3 0 6 - k).toNat k) ψ + k = prC (plR β (μ 0 1 - 0).toNat δ 0) σ) → ∀ (H : Heap) (locs : List Loc), va_P D vwCl (fl [mdW cI b (sR (sU (sU (sR (sR (sR (sU μ 0 (2) (0)) 0 (u3 0)) 4 (u3 4)) 2 u5) 0 0 (pushK ((sR (sR (sU μ 0 (2) (0)) 0 (u3 0)) 4 (u3 4)) 0 0))) 0 (1) (0)) 1 g)]) H → va_D A (fl [mdW cI b (sR (sU (sU (sR (sR (sR (sU μ 0 (2) (0)) 0 (u3 0)) 4 (u3 4)) 2 u5) 0 0 (pushK ((sR (sR (sU μ 0 (2) (0)) 0 (u3 0)) 4 (u3 4)) 0 0))) 0 (1) (0)) 1 g)]) → va_S A s.heap H locs → ∀ (ls : Array Slot), lv_has ls 2 [(1, .int (iI (k))), (0, .ref (b 0))] → W p9 l e9 ({ frames := 6, cells := 0, slots := 0, locals := 139 } : Room) s m ([.ref (b 0)] : List Value).toArray below9 meth9 c9 H locs 0 0 (MQ below9 (wq_i (fun (r : Int) (μ' : Nat → Int → Int) => OPQ cd r (prC (plR β (μ 0 1 - 0).toNat δ 0) σ) (μ' 0 2) (RelM σ (μ 0 0) ss (μ 0 1) β μ') (RelM (prS (plR β (μ 0 1 - 0).toNat δ 0) σ) (pushK (μ 0 0)) (pushS (μ 0 0) ss σ) 0 β μ')) (fun (μ' : Nat → Int → Int) => (bW D [(cI, FieldType.int)] (fl [mdW cI b μ']) A)) A) ([.ref (b 0)] : List Value).toArray s 0 0 A) (F0 m 29 ls []) := by
      intro k29
      induction k29 with
      | zero =>
        intro ψ g k hm
        exact absurd hm (Nat.not_lt_zero _)
      | succ k29 ih29 =>
        intro ψ g k hm29 hk9 hg hi hpo hps hpc H locs hP hD hS ls hl
        have h6 : (uI ((uI (((u3 0))) 0 (pushK (((u3 0)) 0)))) (1) (0)) 6 = u3 0 6 := by rw [uI_n (by omega), uI_n (by omega)]
        refine lv_iload_n hx hb dX5_promiseAll_29 rfl (lv_at hl 0 rfl) ?_
        refine lv_aload_n hx hb dX5_promiseAll_30 rfl (lv_at hl 1 rfl) ?_
        refine va_get (D := D) (ci := 5) (v := .int (iI (((uI ((uI (((u3 0))) 0 (pushK (((u3 0)) 0)))) (1) (0)) 6)))) (C := RX5) (T := TX5) (N := 12) hx hb hts hin_X5 hown hK hP 0 rfl rfl 10 (by decide) hw_2 (fun _ h9 => h9) rfl dX5_promiseAll_31 ?_
        refine wi_icmp_ge (tgt := 94) hx hb dX5_promiseAll_34 (by decide) (by omega) (fun c_34 => ?_) (fun c_34 => ?_)
        · skip
          have hstop : ψ = prS (plR β (μ 0 1 - 0).toNat δ 0) σ ∧ k = prC (plR β (μ 0 1 - 0).toNat δ 0) σ := by
            rw [← hps, ← hpc]
            by_cases q : k < u3 0 6
            · rw [tl_s q, (pr_stop (q := ((u3 4 (4 * k + 3), u3 4 (4 * k), u3 4 (4 * k + 1), u3 4 (4 * k + 2)) : Int × Int × Int × Int)) (by show 0 < reasonS ψ (u3 4 (4 * k + 3)) (u3 4 (4 * k)) (u3 4 (4 * k + 1)) (u3 4 (4 * k + 2)); have := reason_r ψ (u3 4 (4 * k + 3)) (u3 4 (4 * k)) (u3 4 (4 * k + 1)) (u3 4 (4 * k + 2)); omega)).1, (pr_stop (q := ((u3 4 (4 * k + 3), u3 4 (4 * k), u3 4 (4 * k + 1), u3 4 (4 * k + 2)) : Int × Int × Int × Int)) (by show 0 < reasonS ψ (u3 4 (4 * k + 3)) (u3 4 (4 * k)) (u3 4 (4 * k + 1)) (u3 4 (4 * k + 2)); have := reason_r ψ (u3 4 (4 * k + 3)) (u3 4 (4 * k)) (u3 4 (4 * k + 1)) (u3 4 (4 * k + 2)); omega)).2]; exact ⟨rfl, by omega⟩
            · rw [tl_e (by omega)]; exact ⟨rfl, by show k = 0 + k; omega⟩
          refine lv_iload_n hx hb dX5_promiseAll_94 rfl (lv_at hl 0 rfl) ?_
          exact W.iret (v := iI (k)) hx hb hr (fun t9 ht9 hW9 => ⟨⟨(k), (sR (sU (sU (sR (sR (sR (sU μ 0 (2) (0)) 0 (u3 0)) 4 (u3 4)) 2 u5) 0 0 (pushK ((sR (sR (sU μ 0 (2) (0)) 0 (u3 0)) 4 (u3 4)) 0 0))) 0 (1) (0)) 1 g), rfl, (OPQ.good hcd0 hu2 (hstop.2 ▸ by omega) ⟨hstop.1 ▸ hg, congrArg pushK hu0, hs9, rfl, fun j j0 j1 => by omega⟩), ⟨by rw [ht9]; exact hP, va_K.moved hW9.alike hK, hD⟩⟩, hS.F ht9⟩) hS.2.2 dX5_promiseAll_95 hlocks
        · skip
          have hq0 := hpo ((u3 4 (4 * k + 3), u3 4 (4 * k), u3 4 (4 * k + 1), u3 4 (4 * k + 2)) : Int × Int × Int × Int) (by rw [tl_s (by omega)]; exact List.mem_cons_self)
          obtain ⟨hq1, hq2, hq3, hq4⟩ := id hq0
          refine lv_aload_n hx hb dX5_promiseAll_37 rfl (lv_at hl 1 rfl) ?_
          refine lv_iload_n hx hb dX5_promiseAll_38 rfl (lv_at hl 0 rfl) ?_
          refine wr_calli (va_runV (As := [.int (iI (k))]) (rest := []) ⟨hx, hb, hml, hown, hts⟩ (c_X5_mayCome l D cI cO cC cL b (sR (sU (sU (sR (sR (sR (sU μ 0 (2) (0)) 0 (u3 0)) 4 (u3 4)) 2 u5) 0 0 (pushK ((sR (sR (sU μ 0 (2) (0)) 0 (u3 0)) 4 (u3 4)) 0 0))) 0 (1) (0)) 1 g) ψ (k) (by omega) ((show PO ((u3 4 (4 * k + 3), u3 4 (4 * k), u3 4 (4 * k + 1), u3 4 (4 * k + 2)) : Int × Int × Int × Int) from hq0)) (hg) (hi)) (cwV 1 hts gX5_promiseAll_X5_mayCome rfl rfl rfl (by decide +kernel) ⟨Nat.le_of_ble_eq_true rfl, Nat.le_of_ble_eq_true rfl⟩) ⟨pcR_blind, va_recv hK hP (ci := 5) (q0 := 0) rfl rfl, pcR_of hP hK⟩ rfl rfl hl.1 rfl (lv_room (Nat.le_of_ble_eq_true rfl)) dX5_promiseAll_39 ⟨(Nat.zero_le _), (Nat.zero_le _)⟩) (fun r6 hr6 => ?_)
          have hr8 : r6 = (if reasonS ψ (u3 4 (4 * k + 3)) (u3 4 (4 * k)) (u3 4 (4 * k + 1)) (u3 4 (4 * k + 2)) = 0 then 1 else 0) := hr6
          refine wi_if_eq (tgt := 94) hx hb dX5_promiseAll_42 (by decide) (by omega) (fun c_42 => ?_) (fun c_42 => ?_)
          · skip
            have hstop : ψ = prS (plR β (μ 0 1 - 0).toNat δ 0) σ ∧ k = prC (plR β (μ 0 1 - 0).toNat δ 0) σ := by
              rw [← hps, ← hpc]
              by_cases q : k < u3 0 6
              · rw [tl_s q, (pr_stop (q := ((u3 4 (4 * k + 3), u3 4 (4 * k), u3 4 (4 * k + 1), u3 4 (4 * k + 2)) : Int × Int × Int × Int)) (by show 0 < reasonS ψ (u3 4 (4 * k + 3)) (u3 4 (4 * k)) (u3 4 (4 * k + 1)) (u3 4 (4 * k + 2)); have := reason_r ψ (u3 4 (4 * k + 3)) (u3 4 (4 * k)) (u3 4 (4 * k + 1)) (u3 4 (4 * k + 2)); omega)).1, (pr_stop (q := ((u3 4 (4 * k + 3), u3 4 (4 * k), u3 4 (4 * k + 1), u3 4 (4 * k + 2)) : Int × Int × Int × Int)) (by show 0 < reasonS ψ (u3 4 (4 * k + 3)) (u3 4 (4 * k)) (u3 4 (4 * k + 1)) (u3 4 (4 * k + 2)); have := reason_r ψ (u3 4 (4 * k + 3)) (u3 4 (4 * k)) (u3 4 (4 * k + 1)) (u3 4 (4 * k + 2)); omega)).2]; exact ⟨rfl, by omega⟩
              · rw [tl_e (by omega)]; exact ⟨rfl, by show k = 0 + k; omega⟩
            refine lv_iload_n hx hb dX5_promiseAll_94 rfl (lv_at hl 0 rfl) ?_
            exact W.iret (v := iI (k)) hx hb hr (fun t9 ht9 hW9 => ⟨⟨(k), (sR (sU (sU (sR (sR (sR (sU μ 0 (2) (0)) 0 (u3 0)) 4 (u3 4)) 2 u5) 0 0 (pushK ((sR (sR (sU μ 0 (2) (0)) 0 (u3 0)) 4 (u3 4)) 0 0))) 0 (1) (0)) 1 g), rfl, (OPQ.good hcd0 hu2 (hstop.2 ▸ by omega) ⟨hstop.1 ▸ hg, congrArg pushK hu0, hs9, rfl, fun j j0 j1 => by omega⟩), ⟨by rw [ht9]; exact hP, va_K.moved hW9.alike hK, hD⟩⟩, hS.F ht9⟩) hS.2.2 dX5_promiseAll_95 hlocks
          · skip
            refine lv_aload_n hx hb dX5_promiseAll_45 rfl (lv_at hl 1 rfl) ?_
            refine lv_aload_n hx hb dX5_promiseAll_46 rfl (lv_at hl 1 rfl) ?_
            refine va_get (D := D) (ci := 5) (v := .ref (b 4)) (C := RX5) (T := TX5) (N := 12) hx hb hts hin_X5 hown hK hP 0 rfl rfl 9 (by decide) hw_3 (fun _ h9 => h9) rfl dX5_promiseAll_47 ?_
            refine wi_iconst hx hb dX5_promiseAll_50 ?_
            refine lv_iload_n hx hb dX5_promiseAll_51 rfl (lv_at hl 0 rfl) ?_
            refine wi_imul hx hb dX5_promiseAll_52 ?_
            refine wi_iconst hx hb dX5_promiseAll_53 ?_
            refine wi_iadd hx hb dX5_promiseAll_54 ?_
            refine wi_iald hx hb hK hP 4 0 (n := 68) (f := (u3 4)) rfl rfl (i := ((4 * k) + 3)) (by omega) (by decide) dX5_promiseAll_55 ?_
            refine lv_aload_n hx hb dX5_promiseAll_56 rfl (lv_at hl 1 rfl) ?_
            refine va_get (D := D) (ci := 5) (v := .ref (b 4)) (C := RX5) (T := TX5) (N := 12) hx hb hts hin_X5 hown hK hP 0 rfl rfl 9 (by decide) hw_3 (fun _ h9 => h9) rfl dX5_promiseAll_57 ?_
            refine wi_iconst hx hb dX5_promiseAll_60 ?_
            refine lv_iload_n hx hb dX5_promiseAll_61 rfl (lv_at hl 0 rfl) ?_
            refine wi_imul hx hb dX5_promiseAll_62 ?_
            refine wi_iald hx hb hK hP 4 0 (n := 68) (f := (u3 4)) rfl rfl (i := (4 * k)) (by omega) (by decide) dX5_promiseAll_63 ?_
            refine lv_aload_n hx hb dX5_promiseAll_64 rfl (lv_at hl 1 rfl) ?_
            refine va_get (D := D) (ci := 5) (v := .ref (b 4)) (C := RX5) (T := TX5) (N := 12) hx hb hts hin_X5 hown hK hP 0 rfl rfl 9 (by decide) hw_3 (fun _ h9 => h9) rfl dX5_promiseAll_65 ?_
            refine wi_iconst hx hb dX5_promiseAll_68 ?_
            refine lv_iload_n hx hb dX5_promiseAll_69 rfl (lv_at hl 0 rfl) ?_
            refine wi_imul hx hb dX5_promiseAll_70 ?_
            refine wi_iconst hx hb dX5_promiseAll_71 ?_
            refine wi_iadd hx hb dX5_promiseAll_72 ?_
            refine wi_iald hx hb hK hP 4 0 (n := 68) (f := (u3 4)) rfl rfl (i := ((4 * k) + 1)) (by omega) (by decide) dX5_promiseAll_73 ?_
            refine lv_aload_n hx hb dX5_promiseAll_74 rfl (lv_at hl 1 rfl) ?_
            refine va_get (D := D) (ci := 5) (v := .ref (b 4)) (C := RX5) (T := TX5) (N := 12) hx hb hts hin_X5 hown hK hP 0 rfl rfl 9 (by decide) hw_3 (fun _ h9 => h9) rfl dX5_promiseAll_75 ?_
            refine wi_iconst hx hb dX5_promiseAll_78 ?_
            refine lv_iload_n hx hb dX5_promiseAll_79 rfl (lv_at hl 0 rfl) ?_
            refine wi_imul hx hb dX5_promiseAll_80 ?_
            refine wi_iconst hx hb dX5_promiseAll_81 ?_
            refine wi_iadd hx hb dX5_promiseAll_82 ?_
            refine wi_iald hx hb hK hP 4 0 (n := 68) (f := (u3 4)) rfl rfl (i := ((4 * k) + 2)) (by omega) (by decide) dX5_promiseAll_83 ?_
            have hFc := fl_free (SC := [mdW cI b (sR (sU (sU (sR (sR (sR (sU μ 0 (2) (0)) 0 (u3 0)) 4 (u3 4)) 2 u5) 0 0 (pushK ((sR (sR (sU μ 0 (2) (0)) 0 (u3 0)) 4 (u3 4)) 0 0))) 0 (1) (0)) 1 g)]) hD hS hA [0] rfl
            refine wq_calli (va_runV (As := [.int (iI (((u3 4) (((4 * k) + 3))))), .int (iI (((u3 4) ((4 * k))))), .int (iI (((u3 4) (((4 * k) + 1))))), .int (iI (((u3 4) (((4 * k) + 2)))))]) (rest := []) ⟨hx, hb, hml, hown, hts⟩ (c_X5_comes l D cI cO cC cL H.size b (sR (sU (sU (sR (sR (sR (sU μ 0 (2) (0)) 0 (u3 0)) 4 (u3 4)) 2 u5) 0 0 (pushK ((sR (sR (sU μ 0 (2) (0)) 0 (u3 0)) 4 (u3 4)) 0 0))) 0 (1) (0)) 1 g) ψ (((u3 4) (((4 * k) + 3)))) (((u3 4) ((4 * k)))) (((u3 4) (((4 * k) + 1)))) (((u3 4) (((4 * k) + 2)))) ((by have := hi.n; have := (reason_0 (σ := ψ) (o := u3 4 (4 * k + 3)) (c := u3 4 (4 * k)) (y := u3 4 (4 * k + 1)) (to := u3 4 (4 * k + 2)) (by omega)).1; omega)) (hg)) (cwV 4 hts gX5_promiseAll_X5_comes rfl rfl rfl (by decide +kernel) ⟨Nat.le_of_ble_eq_true rfl, Nat.le_of_ble_eq_true rfl⟩) ⟨pcW_blind, va_recv hK hP (ci := 5) (q0 := 0) rfl rfl, pcW_of hP hK hD⟩ rfl rfl hl.1 rfl (lv_room (Nat.le_of_ble_eq_true rfl)) dX5_promiseAll_84 ⟨(Nat.zero_le _), (Nat.zero_le _)⟩) hS (fun q _ h => hFc q h) hFc (fun r7 u9 t9 H1 locs ht9 hvm hcl8 hB hz1 hk1 hS => ?_)
            obtain ⟨hP1, hK1, hD1⟩ := hB
            rw [ht9] at hP1
            obtain ⟨hP, hD⟩ := fl_join (SR := []) (S1 := [mdW cI b (sR (sR (sU (sU (sR (sR (sR (sU μ 0 (2) (0)) 0 (u3 0)) 4 (u3 4)) 2 u5) 0 0 (pushK ((sR (sR (sU μ 0 (2) (0)) 0 (u3 0)) 4 (u3 4)) 0 0))) 0 (1) (0)) 1 g) 1 u9)]) hP hD [0] [] rfl rfl (by decide) (by decide) hk1 hFc hP1 hD1
            generalize H1 = H at hP hS ⊢
            have hP : va_P D vwCl (fl [mdW cI b (sR (sR (sU (sU (sR (sR (sR (sU μ 0 (2) (0)) 0 (u3 0)) 4 (u3 4)) 2 u5) 0 0 (pushK ((sR (sR (sU μ 0 (2) (0)) 0 (u3 0)) 4 (u3 4)) 0 0))) 0 (1) (0)) 1 g) 1 u9)]) H := hP
            have hD : va_D A (fl [mdW cI b (sR (sR (sU (sU (sR (sR (sR (sU μ 0 (2) (0)) 0 (u3 0)) 4 (u3 4)) 2 u5) 0 0 (pushK ((sR (sR (sU μ 0 (2) (0)) 0 (u3 0)) 4 (u3 4)) 0 0))) 0 (1) (0)) 1 g) 1 u9)]) := hD
            have hcm : r7 = ψ 0 1 ∧ RelN (addS ψ (u3 4 (4 * k + 3)) (u3 4 (4 * k)) (u3 4 (4 * k + 1)) (u3 4 (4 * k + 2))) u9 := hcl8
            refine lv_pop hx hb dX5_promiseAll_87 rfl ?_
            refine wi_iinc (lv' := [(1, .int (iI ((k + 1)))), (0, .ref (b 0))]) hx hb dX5_promiseAll_88 hl (k := 0) rfl (by decide) rfl (fun ls hl => ?_)
            refine lv_goto (tgt := 29) hx hb dX5_promiseAll_91 (by decide) ?_
            exact ih29 ((addS ψ (u3 4 (4 * k + 3)) (u3 4 (4 * k)) (u3 4 (4 * k + 1)) (u3 4 (4 * k + 2)))) (u9) ((k + 1)) (by omega) (by omega) (hcm.2) (hi.add hq1 (by have := hq2; omega) hq3 hq4 (by omega)) (fun q hq => hpo q (by rw [tl_s (by omega)]; exact List.mem_cons_of_mem _ hq)) (by rw [tl_s (by omega)] at hps; rw [← hps]; exact (pr_on4 (by omega)).1.symm) (by rw [tl_s (by omega), (pr_on4 (by omega)).2] at hpc; rw [← hpc]; omega) _ _ hP hD hS ls (lv_sub hl [0, 1] rfl)
    exact L29 _ (σ) (μ 1) (0) (Nat.lt_succ_self _) (by omega) (hR) (hI) (by rw [Int.sub_zero, ← hpl]; exact hv.po (by omega) hd0) (by rw [Int.sub_zero, ← hpl]) (by rw [Int.sub_zero, ← hpl]; omega) _ _ hP hD hS ls (lv_sub hl [0, 1] rfl)
  · skip
    have hcdb : ¬ VAL β (μ 0 1) δ := fun q => hT.2.2.1 (by omega) ((VAL_c (δ := δ) (by omega) (fun j j0 j1 => hM.2.2.2.2 j j0 j1)).mpr q)
    refine lv_aload_n hx hb dX5_promiseAll_12 rfl (lv_at hl 0 rfl) ?_
    refine wi_iconst hx hb dX5_promiseAll_13 ?_
    have hFc := fl_free (SC := [mdW cI b (sR (sR (sU μ 0 (2) (0)) 0 (u3 0)) 4 (u3 4))]) hD hS hA [0] rfl
    refine wq_calli (va_runV (As := [.int (iI (1))]) (rest := []) ⟨hx, hb, hml, hown, hts⟩ (c_X5_fails l D cI cO cC cL H.size b (sR (sR (sU μ 0 (2) (0)) 0 (u3 0)) 4 (u3 4)) (1) ) (cwV 1 hts gX5_promiseAll_X5_fails rfl rfl rfl (by decide +kernel) ⟨Nat.le_of_ble_eq_true rfl, Nat.le_of_ble_eq_true rfl⟩) ⟨pcW_blind, va_recv hK hP (ci := 5) (q0 := 0) rfl rfl, pcW_of hP hK hD⟩ rfl rfl hl.1 rfl (lv_room (Nat.le_of_ble_eq_true rfl)) dX5_promiseAll_14 ⟨(Nat.zero_le _), (Nat.zero_le _)⟩) hS (fun q _ h => hFc q h) hFc (fun r10 u12 t9 H1 locs ht9 hvm hcl11 hB hz1 hk1 hS => ?_)
    obtain ⟨hP1, hK1, hD1⟩ := hB
    rw [ht9] at hP1
    obtain ⟨hP, hD⟩ := fl_join (SR := []) (S1 := [mdW cI b (sU (sR (sR (sU μ 0 (2) (0)) 0 (u3 0)) 4 (u3 4)) 0 2 (1))]) hP hD [0] [] rfl rfl (by decide) (by decide) hk1 hFc hP1 hD1
    generalize H1 = H at hP hS ⊢
    have hP : va_P D vwCl (fl [mdW cI b (sU (sR (sR (sU μ 0 (2) (0)) 0 (u3 0)) 4 (u3 4)) 0 2 (1))]) H := hP
    have hD : va_D A (fl [mdW cI b (sU (sR (sR (sU μ 0 (2) (0)) 0 (u3 0)) 4 (u3 4)) 0 2 (1))]) := hD
    exact W.iret (v := iI (r10)) hx hb hr (fun t9 ht9 hW9 => ⟨⟨(r10), (sU (sR (sR (sU μ 0 (2) (0)) 0 (u3 0)) 4 (u3 4)) 0 2 (1)), rfl, (OPQ.bad (k := 1) (hcd.elim (fun q => absurd q.2 hcdb) (fun q => q.1)) (by decide) rfl ⟨hM.1, hu0, hM.2.2.1, hu1, hM.2.2.2.2⟩), ⟨by rw [ht9]; exact hP, va_K.moved hW9.alike hK, hD⟩⟩, hS.F ht9⟩) hS.2.2 dX5_promiseAll_17 hlocks
