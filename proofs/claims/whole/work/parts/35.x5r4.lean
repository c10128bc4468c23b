set_option maxHeartbeats 4000000 in
set_option maxRecDepth 100000 in
theorem c_X5_isText (l : Launch) (D : va_G) (cI cO cC cL : ClassId) (sz : Nat) (b : Nat → Nat) (μ : Nat → Int → Int) (δ : Int → Int) (hx9 : 0 ≤ μ 0 1 ∧ μ 0 1 ≤ 60) (htx : TXT (μ 0 1) (μ 3)) (hd0 : δ 0 = 0) : Met l yX5_isText wsX5_isText ({ frames := 4, cells := 0, slots := 0, locals := 89 } : Room) (pcW D [(cI, FieldType.int)] [.ref (b 0)] (fl [mdW cI b μ]) sz) (wq_i (fun (r : Int) (ν : Nat → Int → Int) => TTQ (μ 3) (μ 0 1) δ r (ν 0) (ν 4) ∧ ν 0 0 = μ 0 0 ∧ ν 0 1 = μ 0 1 ∧ ν 0 2 = μ 0 2) (fun (ν : Nat → Int → Int) => (bW D [(cI, FieldType.int)] (fl [mdW cI b (sR (sR μ 0 (ν 0)) 4 (ν 4))]) (va_A (fl [mdW cI b μ]) sz))) (va_A (fl [mdW cI b μ]) sz)) 0 0 (va_A (fl [mdW cI b μ]) sz) := by
  refine Met.ofW (cc := cX5_isText) (maxL := 2) (ret := (some .boolean)) (by decide) rfl ?_
  intro p9 e9 s m args9 below9 meth9 c9 s₁ B hml hv
  obtain ⟨rfl, hsz, hP, hK, hD0⟩ := hv
  have hx := B.exec
  have hb := B.bytes
  have hr := B.returns
  have hts := atoms_spec (ws := wsX5_isText) B.pre
  have hown : s.vm.findClass RX5 = some m.cls := findClass_of_methodNamed B.named
  have hlocks := B.notSynchronized
  subst hsz
  have hD := hD0.self (sz := s.heap.size)
  generalize hAe : va_A (fl [mdW cI b μ]) s.heap.size = A at hD ⊢
  have hA : ∀ q : Nat, s.heap.size ≤ q → A q := fun q h => by rw [← hAe]; exact Or.inr h
  have hS : va_S A s.heap s.heap [] := va_S.rf
  have hP : va_P D vwCl (fl [mdW cI b μ]) s.heap := hP
  have hl := lv_entry ([.ref (b 0)]) (n := 2) (Nat.le_of_ble_eq_true rfl)
  rw [lg_entry_eq]
  generalize (lg_sl ([.ref (b 0)]) ++ List.replicate (2 - (lg_sl ([.ref (b 0)])).length) Slot.unset).toArray = ls at hl ⊢
  have hl : lv_has ls 2 [(0, .ref (b 0))] := hl
  have hw_0 := hts (.fieldLink RX5 97 "PromisedCountersModel" "at" "I") (by decide +kernel)
  have hin_X5 : ∀ w ∈ u_ws RX5 TX5 12, w ∈ wsX5_isText := by decide +kernel
  have hw_1 := hts (.fieldLink RX5 115 "PromisedCountersModel" "tolds" "I") (by decide +kernel)
  have hw_2 := hts (.fieldLink RX5 100 "PromisedCountersModel" "isFault" "Z") (by decide +kernel)
  have hw_3 := hts (.fieldLink RX5 94 "PromisedCountersModel" "typed" "I") (by decide +kernel)
  refine lv_aload_n hx hb dX5_isText_0 rfl (lv_at hl 0 rfl) ?_
  refine wi_iconst hx hb dX5_isText_1 ?_
  refine va_put (D := D) (ci := 5) (v := .int (iI (0))) (ty := .int) (C := RX5) (T := TX5) (N := 12) hx hb hts hin_X5 tyX5 tyX5_ok nmX5 hown hK hP hD hS 0 rfl rfl 6 (by decide) hw_0 (fun _ h9 => h9) rfl (by decide +kernel) rfl rfl (Nat.le_of_ble_eq_true rfl) dX5_isText_2 (fun H locs hP hD hS => ?_)
  have hP : va_P D vwCl (fl [mdW cI b (sU μ 0 (3) (0))]) H := hP
  have hD : va_D A (fl [mdW cI b (sU μ 0 (3) (0))]) := hD
  refine lv_aload_n hx hb dX5_isText_5 rfl (lv_at hl 0 rfl) ?_
  refine wi_iconst hx hb dX5_isText_6 ?_
  refine va_put (D := D) (ci := 5) (v := .int (iI (0))) (ty := .int) (C := RX5) (T := TX5) (N := 12) hx hb hts hin_X5 tyX5 tyX5_ok nmX5 hown hK hP hD hS 0 rfl rfl 10 (by decide) hw_1 (fun _ h9 => h9) rfl (by decide +kernel) rfl rfl (Nat.le_of_ble_eq_true rfl) dX5_isText_7 (fun H locs hP hD hS => ?_)
  have hP : va_P D vwCl (fl [mdW cI b (sU (sU μ 0 (3) (0)) 0 (6) (0))]) H := hP
  have hD : va_D A (fl [mdW cI b (sU (sU μ 0 (3) (0)) 0 (6) (0))]) := hD
  refine lv_aload_n hx hb dX5_isText_10 rfl (lv_at hl 0 rfl) ?_
  refine wi_iconst hx hb dX5_isText_11 ?_
  refine va_put (D := D) (ci := 5) (v := .int (iI (0))) (ty := .boolean) (C := RX5) (T := TX5) (N := 12) hx hb hts hin_X5 tyX5 tyX5_ok nmX5 hown hK hP hD hS 0 rfl rfl 7 (by decide) hw_2 (fun _ h9 => h9) rfl (by decide +kernel) (nar_z (by omega)) rfl (Nat.le_of_ble_eq_true rfl) dX5_isText_12 (fun H locs hP hD hS => ?_)
  have hP : va_P D vwCl (fl [mdW cI b (sU (sU (sU μ 0 (3) (0)) 0 (6) (0)) 0 (4) (0))]) H := hP
  have hD : va_D A (fl [mdW cI b (sU (sU (sU μ 0 (3) (0)) 0 (6) (0)) 0 (4) (0))]) := hD
  refine wi_iconst hx hb dX5_isText_15 ?_
  refine lv_istore_n (lv' := [(1, .int (iI (1))), (0, .ref (b 0))]) hx hb dX5_isText_16 rfl hl (by decide) rfl (fun ls hl => ?_)
  have L17 : ∀ (k17 : Nat), ∀ (η : Int → Int) (τ : Int → Int) (g : Int) (δ1 : Int → Int), (μ 0 1 - η 3 + g).toNat < k17 → (η 0 = μ 0 0 ∧ η 1 = μ 0 1 ∧ η 2 = μ 0 2) → (g = 0 ∨ g = 1) → ((0 ≤ η 3 ∧ η 3 ≤ μ 0 1) ∧ 0 ≤ η 6 ∧ 4 * η 6 ≤ η 3 + 1) → (g = 1 → 4 * η 6 ≤ η 3) → (g = 1 → δ1 0 = 0 ∧ ONQ (μ 3) (μ 0 1) δ (η 3) δ1 (η 6) τ) → (g = 0 → ENQ (μ 3) (μ 0 1) δ (η 3) (η 6) τ) → ∀ (H : Heap) (locs : List Loc), va_P D vwCl (fl [mdW cI b (sR (sR μ 0 η) 4 τ)]) H → va_D A (fl [mdW cI b (sR (sR μ 0 η) 4 τ)]) → va_S A s.heap H locs → ∀ (ls : Array Slot), lv_has ls 2 [(1, .int (iI (g))), (0, .ref (b 0))] → W p9 l e9 ({ frames := 4, cells := 0, slots := 0, locals := 89 } : Room) s m ([.ref (b 0)] : List Value).toArray below9 meth9 c9 H locs 0 0 (MQ below9 (wq_i (fun (r : Int) (ν : Nat → Int → Int) => TTQ (μ 3) (μ 0 1) δ r (ν 0) (ν 4) ∧ ν 0 0 = μ 0 0 ∧ ν 0 1 = μ 0 1 ∧ ν 0 2 = μ 0 2) (fun (ν : Nat → Int → Int) => (bW D [(cI, FieldType.int)] (fl [mdW cI b (sR (sR μ 0 (ν 0)) 4 (ν 4))]) A)) A) ([.ref (b 0)] : List Value).toArray s 0 0 A) (F0 m 17 ls []) := by
    intro k17
    induction k17 with
    | zero =>
      intro η τ g δ1 hm
      exact absurd hm (Nat.not_lt_zero _)
    | succ k17 ih17 =>
      intro η τ g δ1 hm17 hF hm h3 h4 hon hend H locs hP hD hS ls hl
      obtain ⟨hF0, hF1, hF2⟩ := id hF
      refine lv_iload_n hx hb dX5_isText_17 rfl (lv_at hl 0 rfl) ?_
      refine wi_if_eq (tgt := 70) hx hb dX5_isText_18 (by decide) (by omega) (fun c_18 => ?_) (fun c_18 => ?_)
      · skip
        refine lv_aload_n hx hb dX5_isText_70 rfl (lv_at hl 1 rfl) ?_
        refine lv_aload_n hx hb dX5_isText_71 rfl (lv_at hl 1 rfl) ?_
        refine va_get (D := D) (ci := 5) (v := .int (iI ((η 3)))) (C := RX5) (T := TX5) (N := 12) hx hb hts hin_X5 hown hK hP 0 rfl rfl 6 (by decide) hw_0 (fun _ h9 => h9) rfl dX5_isText_72 ?_
        refine lv_aload_n hx hb dX5_isText_75 rfl (lv_at hl 1 rfl) ?_
        refine va_get (D := D) (ci := 5) (v := .int (iI ((η 1)))) (C := RX5) (T := TX5) (N := 12) hx hb hts hin_X5 hown hK hP 0 rfl rfl 4 (by decide) hw_3 (fun _ h9 => h9) rfl dX5_isText_76 ?_
        refine wi_icmp_ge (tgt := 86) hx hb dX5_isText_79 (by decide) (by omega) (fun c_79 => ?_) (fun c_79 => ?_)
        · skip
          refine wi_iconst hx hb dX5_isText_86 ?_
          refine va_put (D := D) (ci := 5) (v := .int (iI (0))) (ty := .boolean) (C := RX5) (T := TX5) (N := 12) hx hb hts hin_X5 tyX5 tyX5_ok nmX5 hown hK hP hD hS 0 rfl rfl 7 (by decide) hw_2 (fun _ h9 => h9) rfl (by decide +kernel) (nar_z (by omega)) rfl (Nat.le_of_ble_eq_true rfl) dX5_isText_87 (fun H locs hP hD hS => ?_)
          have hP : va_P D vwCl (fl [mdW cI b (sU (sR (sR μ 0 η) 4 τ) 0 (4) (0))]) H := hP
          have hD : va_D A (fl [mdW cI b (sU (sR (sR μ 0 η) 4 τ) 0 (4) (0))]) := hD
          have he0 : (uI (η) (4) (0)) 0 = η 0 := uI_n (by omega)
          have he1 : (uI (η) (4) (0)) 1 = η 1 := uI_n (by omega)
          have he2 : (uI (η) (4) (0)) 2 = η 2 := uI_n (by omega)
          have he3 : (uI (η) (4) (0)) 3 = η 3 := uI_n (by omega)
          have he6 : (uI (η) (4) (0)) 6 = η 6 := uI_n (by omega)
          have he4 : (uI (η) (4) (0)) 4 = 0 := uI_s _ _ _
          refine lv_aload_n hx hb dX5_isText_90 rfl (lv_at hl 1 rfl) ?_
          refine va_get (D := D) (ci := 5) (v := .int (iI (((uI (η) (4) (0)) 3)))) (C := RX5) (T := TX5) (N := 12) hx hb hts hin_X5 hown hK hP 0 rfl rfl 6 (by decide) hw_0 (fun _ h9 => h9) rfl dX5_isText_91 ?_
          refine lv_aload_n hx hb dX5_isText_94 rfl (lv_at hl 1 rfl) ?_
          refine va_get (D := D) (ci := 5) (v := .int (iI (((uI (η) (4) (0)) 1)))) (C := RX5) (T := TX5) (N := 12) hx hb hts hin_X5 hown hK hP 0 rfl rfl 4 (by decide) hw_3 (fun _ h9 => h9) rfl dX5_isText_95 ?_
          refine wi_icmp_ne (tgt := 105) hx hb dX5_isText_98 (by decide) (by omega) (fun c_98 => ?_) (fun c_98 => ?_)
          · skip
            refine wi_iconst hx hb dX5_isText_105 ?_
            have hP : va_P D vwCl (fl [mdW cI b (sR (sR μ 0 ((fun k : Nat => if k = 0 then (uI (η) (4) (0)) else τ) 0)) 4 ((fun k : Nat => if k = 0 then (uI (η) (4) (0)) else τ) 4))]) H := hP
            have hD : va_D A (fl [mdW cI b (sR (sR μ 0 ((fun k : Nat => if k = 0 then (uI (η) (4) (0)) else τ) 0)) 4 ((fun k : Nat => if k = 0 then (uI (η) (4) (0)) else τ) 4))]) := hD
            exact W.zret (v := iI (0)) hx hb hr (nar_z (by omega)) (fun t9 ht9 hW9 => ⟨⟨(0), (fun k : Nat => if k = 0 then (uI (η) (4) (0)) else τ), rfl, (⟨show TTQ (μ 3) (μ 0 1) δ 0 (uI (η) (4) (0)) τ from TTQ.done (hend (by omega)) (by omega) he3 he6 (by omega) (by omega), he0.trans hF.1, he1.trans hF.2.1, he2.trans hF.2.2⟩), ⟨by rw [ht9]; exact hP, va_K.moved hW9.alike hK, hD⟩⟩, hS.F ht9⟩) hS.2.2 dX5_isText_106 hlocks
          · skip
            refine wi_iconst hx hb dX5_isText_101 ?_
            refine lv_goto (tgt := 106) hx hb dX5_isText_102 (by decide) ?_
            have hP : va_P D vwCl (fl [mdW cI b (sR (sR μ 0 ((fun k : Nat => if k = 0 then (uI (η) (4) (0)) else τ) 0)) 4 ((fun k : Nat => if k = 0 then (uI (η) (4) (0)) else τ) 4))]) H := hP
            have hD : va_D A (fl [mdW cI b (sR (sR μ 0 ((fun k : Nat => if k = 0 then (uI (η) (4) (0)) else τ) 0)) 4 ((fun k : Nat => if k = 0 then (uI (η) (4) (0)) else τ) 4))]) := hD
            exact W.zret (v := iI (1)) hx hb hr (nar_z (by omega)) (fun t9 ht9 hW9 => ⟨⟨(1), (fun k : Nat => if k = 0 then (uI (η) (4) (0)) else τ), rfl, (⟨show TTQ (μ 3) (μ 0 1) δ 1 (uI (η) (4) (0)) τ from TTQ.done (hend (by omega)) (by omega) he3 he6 (by omega) (by omega), he0.trans hF.1, he1.trans hF.2.1, he2.trans hF.2.2⟩), ⟨by rw [ht9]; exact hP, va_K.moved hW9.alike hK, hD⟩⟩, hS.F ht9⟩) hS.2.2 dX5_isText_106 hlocks
        · skip
          refine wi_iconst hx hb dX5_isText_82 ?_
          refine lv_goto (tgt := 87) hx hb dX5_isText_83 (by decide) ?_
          refine va_put (D := D) (ci := 5) (v := .int (iI (1))) (ty := .boolean) (C := RX5) (T := TX5) (N := 12) hx hb hts hin_X5 tyX5 tyX5_ok nmX5 hown hK hP hD hS 0 rfl rfl 7 (by decide) hw_2 (fun _ h9 => h9) rfl (by decide +kernel) (nar_z (by omega)) rfl (Nat.le_of_ble_eq_true rfl) dX5_isText_87 (fun H locs hP hD hS => ?_)
          have hP : va_P D vwCl (fl [mdW cI b (sU (sR (sR μ 0 η) 4 τ) 0 (4) (1))]) H := hP
          have hD : va_D A (fl [mdW cI b (sU (sR (sR μ 0 η) 4 τ) 0 (4) (1))]) := hD
          have he0 : (uI (η) (4) (1)) 0 = η 0 := uI_n (by omega)
          have he1 : (uI (η) (4) (1)) 1 = η 1 := uI_n (by omega)
          have he2 : (uI (η) (4) (1)) 2 = η 2 := uI_n (by omega)
          have he3 : (uI (η) (4) (1)) 3 = η 3 := uI_n (by omega)
          have he6 : (uI (η) (4) (1)) 6 = η 6 := uI_n (by omega)
          have he4 : (uI (η) (4) (1)) 4 = 1 := uI_s _ _ _
          refine lv_aload_n hx hb dX5_isText_90 rfl (lv_at hl 1 rfl) ?_
          refine va_get (D := D) (ci := 5) (v := .int (iI (((uI (η) (4) (1)) 3)))) (C := RX5) (T := TX5) (N := 12) hx hb hts hin_X5 hown hK hP 0 rfl rfl 6 (by decide) hw_0 (fun _ h9 => h9) rfl dX5_isText_91 ?_
          refine lv_aload_n hx hb dX5_isText_94 rfl (lv_at hl 1 rfl) ?_
          refine va_get (D := D) (ci := 5) (v := .int (iI (((uI (η) (4) (1)) 1)))) (C := RX5) (T := TX5) (N := 12) hx hb hts hin_X5 hown hK hP 0 rfl rfl 4 (by decide) hw_3 (fun _ h9 => h9) rfl dX5_isText_95 ?_
          refine wi_icmp_ne (tgt := 105) hx hb dX5_isText_98 (by decide) (by omega) (fun c_98 => ?_) (fun c_98 => ?_)
          · skip
            refine wi_iconst hx hb dX5_isText_105 ?_
            have hP : va_P D vwCl (fl [mdW cI b (sR (sR μ 0 ((fun k : Nat => if k = 0 then (uI (η) (4) (1)) else τ) 0)) 4 ((fun k : Nat => if k = 0 then (uI (η) (4) (1)) else τ) 4))]) H := hP
            have hD : va_D A (fl [mdW cI b (sR (sR μ 0 ((fun k : Nat => if k = 0 then (uI (η) (4) (1)) else τ) 0)) 4 ((fun k : Nat => if k = 0 then (uI (η) (4) (1)) else τ) 4))]) := hD
            exact W.zret (v := iI (0)) hx hb hr (nar_z (by omega)) (fun t9 ht9 hW9 => ⟨⟨(0), (fun k : Nat => if k = 0 then (uI (η) (4) (1)) else τ), rfl, (⟨show TTQ (μ 3) (μ 0 1) δ 0 (uI (η) (4) (1)) τ from TTQ.done (hend (by omega)) (by omega) he3 he6 (by omega) (by omega), he0.trans hF.1, he1.trans hF.2.1, he2.trans hF.2.2⟩), ⟨by rw [ht9]; exact hP, va_K.moved hW9.alike hK, hD⟩⟩, hS.F ht9⟩) hS.2.2 dX5_isText_106 hlocks
          · skip
            refine wi_iconst hx hb dX5_isText_101 ?_
            refine lv_goto (tgt := 106) hx hb dX5_isText_102 (by decide) ?_
            have hP : va_P D vwCl (fl [mdW cI b (sR (sR μ 0 ((fun k : Nat => if k = 0 then (uI (η) (4) (1)) else τ) 0)) 4 ((fun k : Nat => if k = 0 then (uI (η) (4) (1)) else τ) 4))]) H := hP
            have hD : va_D A (fl [mdW cI b (sR (sR μ 0 ((fun k : Nat => if k = 0 then (uI (η) (4) (1)) else τ) 0)) 4 ((fun k : Nat => if k = 0 then (uI (η) (4) (1)) else τ) 4))]) := hD
            exact W.zret (v := iI (1)) hx hb hr (nar_z (by omega)) (fun t9 ht9 hW9 => ⟨⟨(1), (fun k : Nat => if k = 0 then (uI (η) (4) (1)) else τ), rfl, (⟨show TTQ (μ 3) (μ 0 1) δ 1 (uI (η) (4) (1)) τ from TTQ.done (hend (by omega)) (by omega) he3 he6 (by omega) (by omega), he0.trans hF.1, he1.trans hF.2.1, he2.trans hF.2.2⟩), ⟨by rw [ht9]; exact hP, va_K.moved hW9.alike hK, hD⟩⟩, hS.F ht9⟩) hS.2.2 dX5_isText_106 hlocks
      · skip
        refine lv_aload_n hx hb dX5_isText_21 rfl (lv_at hl 1 rfl) ?_
        have hFc := fl_free (SC := [mdW cI b (sR (sR μ 0 η) 4 τ)]) hD hS hA [0] rfl
        refine wq_calli (va_runV (As := []) (rest := []) ⟨hx, hb, hml, hown, hts⟩ (c_X5_isPart l D cI cO cC cL H.size b (sR (sR μ 0 η) 4 τ) δ1 ((show 0 ≤ η 3 ∧ η 3 ≤ η 1 ∧ η 1 ≤ 60 by omega)) (htx.mv hF1) ((show 0 ≤ η 6 ∧ η 6 ≤ 16 by omega)) ((hon (by omega)).1)) (cwV 0 hts gX5_isText_X5_isPart rfl rfl rfl (by decide +kernel) ⟨Nat.le_of_ble_eq_true rfl, Nat.le_of_ble_eq_true rfl⟩) ⟨pcW_blind, va_recv hK hP (ci := 5) (q0 := 0) rfl rfl, pcW_of hP hK hD⟩ rfl rfl hl.1 rfl (lv_room (Nat.le_of_ble_eq_true rfl)) dX5_isText_22 ⟨(Nat.zero_le _), (Nat.zero_le _)⟩) hS (fun q _ h => hFc q h) hFc (fun r1 u3 t9 H1 locs ht9 hvm hcl2 hB hz1 hk1 hS => ?_)
        obtain ⟨hP1, hK1, hD1⟩ := hB
        rw [ht9] at hP1
        obtain ⟨hP, hD⟩ := fl_join (SR := []) (S1 := [mdW cI b (sR (sR (sR (sR μ 0 η) 4 τ) 0 (u3 0)) 4 (u3 4))]) hP hD [0] [] rfl rfl (by decide) (by decide) hk1 hFc hP1 hD1
        generalize H1 = H at hP hS ⊢
        have hP : va_P D vwCl (fl [mdW cI b (sR (sR (sR (sR μ 0 η) 4 τ) 0 (u3 0)) 4 (u3 4))]) H := hP
        have hD : va_D A (fl [mdW cI b (sR (sR (sR (sR μ 0 η) 4 τ) 0 (u3 0)) 4 (u3 4))]) := hD
        have hpp : PTQ (μ 3) (η 1) δ1 (η 3) (η 6) τ r1 (u3 0) (u3 4) ∧ FRW η (u3 0) := hcl2
        clear hcl2
        obtain ⟨hp9, hpF⟩ := hpp
        rw [hF.2.1] at hp9
        have hpz := hp9.2.2.1
        refine wi_if_ne (tgt := 30) hx hb dX5_isText_25 (by decide) (by omega) (fun c_25 => ?_) (fun c_25 => ?_)
        · skip
          obtain ⟨hp3, δ', hrun, hfin, hmx, ht0, ht1, ht2, ht3⟩ := hp9.part (by omega)
          have hlow := hp9.2.2.2
          obtain ⟨hu0, hu1, hu2, hu6⟩ := id hpF
          obtain ⟨hr1, hr2, -⟩ := id hrun
          refine lv_aload_n hx hb dX5_isText_30 rfl (lv_at hl 1 rfl) ?_
          refine lv_dup hx hb dX5_isText_31 rfl ?_
          refine va_get (D := D) (ci := 5) (v := .int (iI (((u3 0) 6)))) (C := RX5) (T := TX5) (N := 12) hx hb hts hin_X5 hown hK hP 0 rfl rfl 10 (by decide) hw_1 (fun _ h9 => h9) rfl dX5_isText_32 ?_
          refine wi_iconst hx hb dX5_isText_35 ?_
          refine wi_iadd hx hb dX5_isText_36 ?_
          refine va_put (D := D) (ci := 5) (v := .int (iI ((((u3 0) 6) + 1)))) (ty := .int) (C := RX5) (T := TX5) (N := 12) hx hb hts hin_X5 tyX5 tyX5_ok nmX5 hown hK hP hD hS 0 rfl rfl 10 (by decide) hw_1 (fun _ h9 => h9) rfl (by decide +kernel) rfl rfl (Nat.le_of_ble_eq_true rfl) dX5_isText_37 (fun H locs hP hD hS => ?_)
          have hP : va_P D vwCl (fl [mdW cI b (sU (sR (sR (sR (sR μ 0 η) 4 τ) 0 (u3 0)) 4 (u3 4)) 0 (6) ((((u3 0) 6) + 1)))]) H := hP
          have hD : va_D A (fl [mdW cI b (sU (sR (sR (sR (sR μ 0 η) 4 τ) 0 (u3 0)) 4 (u3 4)) 0 (6) ((((u3 0) 6) + 1)))]) := hD
          have L40 : ∀ (θ : Int → Int), (θ 0 = μ 0 0 ∧ θ 1 = μ 0 1 ∧ θ 2 = μ 0 2 ∧ θ 3 = u3 0 3 ∧ θ 6 = η 6 + 1) → ∀ (H : Heap) (locs : List Loc), va_P D vwCl (fl [mdW cI b (sR (sR μ 0 θ) 4 ((u3 4)))]) H → va_D A (fl [mdW cI b (sR (sR μ 0 θ) 4 ((u3 4)))]) → va_S A s.heap H locs → ∀ (ls : Array Slot), lv_has ls 2 [(1, .int (iI (g))), (0, .ref (b 0))] → W p9 l e9 ({ frames := 4, cells := 0, slots := 0, locals := 89 } : Room) s m ([.ref (b 0)] : List Value).toArray below9 meth9 c9 H locs 0 0 (MQ below9 (wq_i (fun (r : Int) (ν : Nat → Int → Int) => TTQ (μ 3) (μ 0 1) δ r (ν 0) (ν 4) ∧ ν 0 0 = μ 0 0 ∧ ν 0 1 = μ 0 1 ∧ ν 0 2 = μ 0 2) (fun (ν : Nat → Int → Int) => (bW D [(cI, FieldType.int)] (fl [mdW cI b (sR (sR μ 0 (ν 0)) 4 (ν 4))]) A)) A) ([.ref (b 0)] : List Value).toArray s 0 0 A) (F0 m 40 ls []) := by
            intro θ hθ H locs hP hD hS ls hl
            refine lv_aload_n hx hb dX5_isText_40 rfl (lv_at hl 1 rfl) ?_
            refine wi_bipush hx hb dX5_isText_41 (by decide) ?_
            refine wi_bipush hx hb dX5_isText_43 (by decide) ?_
            refine wr_calli (va_runV (As := [.int (iI (59)), .int (iI (59))]) (rest := []) ⟨hx, hb, hml, hown, hts⟩ (c_X5_isAt l D cI cO cC cL b (sR (sR μ 0 θ) 4 ((u3 4))) (59) (59) ((show 0 ≤ θ 3 ∧ θ 3 ≤ θ 1 ∧ θ 1 ≤ 60 by omega)) (htx.mv hθ.2.1) (by omega) (by omega)) (cwV 2 hts gX5_isText_X5_isAt rfl rfl rfl (by decide +kernel) ⟨Nat.le_of_ble_eq_true rfl, Nat.le_of_ble_eq_true rfl⟩) ⟨pcR_blind, va_recv hK hP (ci := 5) (q0 := 0) rfl rfl, pcR_of hP hK⟩ rfl rfl hl.1 rfl (lv_room (Nat.le_of_ble_eq_true rfl)) dX5_isText_45 ⟨(Nat.zero_le _), (Nat.zero_le _)⟩) (fun r4 hr4 => ?_)
            subst hr4
            refine wi_top (y := (if θ 3 < θ 1 ∧ (59) ≤ μ 3 (θ 3) ∧ μ 3 (θ 3) ≤ (59) then (1 : Int) else 0)) rfl ?_
            refine lv_istore_n (lv' := [(1, .int (iI ((if θ 3 < θ 1 ∧ (59) ≤ μ 3 (θ 3) ∧ μ 3 (θ 3) ≤ (59) then (1 : Int) else 0)))), (0, .ref (b 0))]) hx hb dX5_isText_48 rfl hl (by decide) rfl (fun ls hl => ?_)
            refine lv_aload_n hx hb dX5_isText_49 rfl (lv_at hl 1 rfl) ?_
            refine lv_dup hx hb dX5_isText_50 rfl ?_
            refine va_get (D := D) (ci := 5) (v := .int (iI ((θ 3)))) (C := RX5) (T := TX5) (N := 12) hx hb hts hin_X5 hown hK hP 0 rfl rfl 6 (by decide) hw_0 (fun _ h9 => h9) rfl dX5_isText_51 ?_
            refine lv_iload_n hx hb dX5_isText_54 rfl (lv_at hl 0 rfl) ?_
            refine wi_if_eq (tgt := 62) hx hb dX5_isText_55 (by decide) (by omega) (fun c_55 => ?_) (fun c_55 => ?_)
            · skip
              refine wi_iconst hx hb dX5_isText_62 ?_
              refine wi_iadd hx hb dX5_isText_63 ?_
              refine va_put (D := D) (ci := 5) (v := .int (iI (((θ 3) + 0)))) (ty := .int) (C := RX5) (T := TX5) (N := 12) hx hb hts hin_X5 tyX5 tyX5_ok nmX5 hown hK hP hD hS 0 rfl rfl 6 (by decide) hw_0 (fun _ h9 => h9) rfl (by decide +kernel) rfl rfl (Nat.le_of_ble_eq_true rfl) dX5_isText_64 (fun H locs hP hD hS => ?_)
              have hP : va_P D vwCl (fl [mdW cI b (sU (sR (sR μ 0 θ) 4 ((u3 4))) 0 (3) (((θ 3) + 0)))]) H := hP
              have hD : va_D A (fl [mdW cI b (sU (sR (sR μ 0 θ) 4 ((u3 4))) 0 (3) (((θ 3) + 0)))]) := hD
              refine lv_goto (tgt := 17) hx hb dX5_isText_67 (by decide) ?_
              exact ih17 ((uI (θ) (3) (((θ 3) + 0)))) ((u3 4)) ((if θ 3 < θ 1 ∧ (59) ≤ μ 3 (θ 3) ∧ μ 3 (θ 3) ≤ (59) then (1 : Int) else 0)) ((dNx δ' 59)) (by rw [uI_s]; omega) (by rw [uI_n (by omega), uI_n (by omega), uI_n (by omega)]; exact ⟨hθ.1, hθ.2.1, hθ.2.2.1⟩) (by omega) (by rw [uI_s, uI_n (by omega)]; omega) (by rw [uI_s, uI_n (by omega)]; omega) (fun h9 => by omega) (fun _ => by rw [uI_s, uI_n (by omega), hθ.2.2.2.1, hθ.2.2.2.2, Int.add_zero]; exact ONQ.fin (hon (by omega)).2 (by omega) hrun (by omega) hfin hmx (by rw [← hθ.2.2.2.1]; omega) ht0 ht1 ht2 ht3 hlow) _ _ hP hD hS ls (lv_sub hl [0, 1] rfl)
            · skip
              refine wi_iconst hx hb dX5_isText_58 ?_
              refine lv_goto (tgt := 63) hx hb dX5_isText_59 (by decide) ?_
              refine wi_iadd hx hb dX5_isText_63 ?_
              refine va_put (D := D) (ci := 5) (v := .int (iI (((θ 3) + 1)))) (ty := .int) (C := RX5) (T := TX5) (N := 12) hx hb hts hin_X5 tyX5 tyX5_ok nmX5 hown hK hP hD hS 0 rfl rfl 6 (by decide) hw_0 (fun _ h9 => h9) rfl (by decide +kernel) rfl rfl (Nat.le_of_ble_eq_true rfl) dX5_isText_64 (fun H locs hP hD hS => ?_)
              have hP : va_P D vwCl (fl [mdW cI b (sU (sR (sR μ 0 θ) 4 ((u3 4))) 0 (3) (((θ 3) + 1)))]) H := hP
              have hD : va_D A (fl [mdW cI b (sU (sR (sR μ 0 θ) 4 ((u3 4))) 0 (3) (((θ 3) + 1)))]) := hD
              refine lv_goto (tgt := 17) hx hb dX5_isText_67 (by decide) ?_
              exact ih17 ((uI (θ) (3) (((θ 3) + 1)))) ((u3 4)) ((if θ 3 < θ 1 ∧ (59) ≤ μ 3 (θ 3) ∧ μ 3 (θ 3) ≤ (59) then (1 : Int) else 0)) ((dNx δ' 59)) (by rw [uI_s]; omega) (by rw [uI_n (by omega), uI_n (by omega), uI_n (by omega)]; exact ⟨hθ.1, hθ.2.1, hθ.2.2.1⟩) (by omega) (by rw [uI_s, uI_n (by omega)]; omega) (by rw [uI_s, uI_n (by omega)]; omega) (fun _ => ⟨(nx_f hfin).2, by rw [uI_s, uI_n (by omega), hθ.2.2.2.1, hθ.2.2.2.2]; exact ONQ.next (hon (by omega)).2 (by omega) hrun (by omega) hfin (by omega) (by rw [← hθ.2.2.2.1]; omega) ht0 ht1 ht2 ht3 hlow⟩) (fun h9 => by omega) _ _ hP hD hS ls (lv_sub hl [0, 1] rfl)
          exact L40 ((uI ((u3 0)) (6) ((((u3 0) 6) + 1)))) (⟨by rw [uI_n (by omega)]; omega, by rw [uI_n (by omega)]; omega, by rw [uI_n (by omega)]; omega, by rw [uI_n (by omega)], by rw [uI_s]; omega⟩) _ _ hP hD hS ls (lv_sub hl [0, 1] rfl)
        · skip
          refine wi_iconst hx hb dX5_isText_28 ?_
          have hP : va_P D vwCl (fl [mdW cI b (sR (sR μ 0 ((fun k : Nat => if k = 0 then (u3 0) else (u3 4)) 0)) 4 ((fun k : Nat => if k = 0 then (u3 0) else (u3 4)) 4))]) H := hP
          have hD : va_D A (fl [mdW cI b (sR (sR μ 0 ((fun k : Nat => if k = 0 then (u3 0) else (u3 4)) 0)) 4 ((fun k : Nat => if k = 0 then (u3 0) else (u3 4)) 4))]) := hD
          exact W.zret (v := iI (0)) hx hb hr (nar_z (by omega)) (fun t9 ht9 hW9 => ⟨⟨(0), (fun k : Nat => if k = 0 then (u3 0) else (u3 4)), rfl, (⟨TTQ.fail (hon (by omega)).2 (by omega) hp9 (by omega), hpF.1.trans hF.1, hpF.2.1.trans hF.2.1, hpF.2.2.1.trans hF.2.2⟩), ⟨by rw [ht9]; exact hP, va_K.moved hW9.alike hK, hD⟩⟩, hS.F ht9⟩) hS.2.2 dX5_isText_29 hlocks
  exact L17 _ ((uI ((uI ((uI (μ 0) (3) (0))) (6) (0))) (4) (0))) (μ 4) (1) (δ) (Nat.lt_succ_self _) (⟨by simp (disch := omega) only [uI_e, uI_n], by simp (disch := omega) only [uI_e, uI_n], by simp (disch := omega) only [uI_e, uI_n]⟩) (by omega) (by simp (disch := omega) only [uI_e, uI_n]; omega) (by simp (disch := omega) only [uI_e, uI_n]; omega) (fun _ => ⟨hd0, by simp (disch := omega) only [uI_e, uI_n]; exact ONQ.rf _ _ _ _⟩) (fun h9 => by omega) _ _ hP hD hS ls (lv_sub hl [0, 1] rfl)
