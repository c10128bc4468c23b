set_option maxHeartbeats 4000000 in
set_option maxRecDepth 100000 in
theorem c_X5_isPart (l : Launch) (D : va_G) (cI cO cC cL : ClassId) (sz : Nat) (b : Nat → Nat) (μ : Nat → Int → Int) (δ : Int → Int) (hx9 : 0 ≤ μ 0 3 ∧ μ 0 3 ≤ μ 0 1 ∧ μ 0 1 ≤ 60) (htx : TXT (μ 0 1) (μ 3)) (htl : 0 ≤ μ 0 6 ∧ μ 0 6 ≤ 16) (hd0 : δ 0 = 0) : Met l yX5_isPart wsX5_isPart ({ frames := 3, cells := 0, slots := 0, locals := 66 } : Room) (pcW D [(cI, FieldType.int)] [.ref (b 0)] (fl [mdW cI b μ]) sz) (wq_i (fun (r : Int) (ν : Nat → Int → Int) => PTQ (μ 3) (μ 0 1) δ (μ 0 3) (μ 0 6) (μ 4) r (ν 0) (ν 4) ∧ FRW (μ 0) (ν 0)) (fun (ν : Nat → Int → Int) => (bW D [(cI, FieldType.int)] (fl [mdW cI b (sR (sR μ 0 (ν 0)) 4 (ν 4))]) (va_A (fl [mdW cI b μ]) sz))) (va_A (fl [mdW cI b μ]) sz)) 0 0 (va_A (fl [mdW cI b μ]) sz) := by
  refine Met.ofW (cc := cX5_isPart) (maxL := 4) (ret := (some .boolean)) (by decide) rfl ?_
  intro p9 e9 s m args9 below9 meth9 c9 s₁ B hml hv
  obtain ⟨rfl, hsz, hP, hK, hD0⟩ := hv
  have hx := B.exec
  have hb := B.bytes
  have hr := B.returns
  have hts := atoms_spec (ws := wsX5_isPart) B.pre
  have hown : s.vm.findClass RX5 = some m.cls := findClass_of_methodNamed B.named
  have hlocks := B.notSynchronized
  subst hsz
  have hD := hD0.self (sz := s.heap.size)
  generalize hAe : va_A (fl [mdW cI b μ]) s.heap.size = A at hD ⊢
  have hA : ∀ q : Nat, s.heap.size ≤ q → A q := fun q h => by rw [← hAe]; exact Or.inr h
  have hS : va_S A s.heap s.heap [] := va_S.rf
  have hP : va_P D vwCl (fl [mdW cI b μ]) s.heap := hP
  have hl := lv_entry ([.ref (b 0)]) (n := 4) (Nat.le_of_ble_eq_true rfl)
  rw [lg_entry_eq]
  generalize (lg_sl ([.ref (b 0)]) ++ List.replicate (4 - (lg_sl ([.ref (b 0)])).length) Slot.unset).toArray = ls at hl ⊢
  have hl : lv_has ls 4 [(0, .ref (b 0))] := hl
  have hw_0 := hts (.fieldLink RX5 19 "PromisedCountersModel" "told" "[I") (by decide +kernel)
  have hin_X5 : ∀ w ∈ u_ws RX5 TX5 12, w ∈ wsX5_isPart := by decide +kernel
  have hw_1 := hts (.fieldLink RX5 112 "PromisedCountersModel" "value" "I") (by decide +kernel)
  have hw_2 := hts (.fieldLink RX5 97 "PromisedCountersModel" "at" "I") (by decide +kernel)
  have hw_3 := hts (.fieldLink RX5 115 "PromisedCountersModel" "tolds" "I") (by decide +kernel)
  have hw_4 := hts (.fieldLink RX5 94 "PromisedCountersModel" "typed" "I") (by decide +kernel)
  have hw_5 := hts (.fieldLink RX5 16 "PromisedCountersModel" "text" "[I") (by decide +kernel)
  have L224 : ∀ (η : Int → Int) (τ : Int → Int) (δ3 : Int → Int), (FRW (μ 0) η) → (μ 0 3 + 4 ≤ η 3 ∧ η 3 ≤ μ 0 1) → (RUN (μ 3) (μ 0 1) δ (μ 0 3) δ3 (η 3)) → (δ3 0 = 7 ∧ τ (4 * μ 0 6) = δ3 3 ∧ τ (4 * μ 0 6 + 1) = byD δ3 ∧ τ (4 * μ 0 6 + 2) = δ3 4) → (∀ j : Int, j < 4 * μ 0 6 → τ j = μ 4 j) → ∀ (H : Heap) (locs : List Loc), va_P D vwCl (fl [mdW cI b (sR (sR μ 0 η) 4 τ)]) H → va_D A (fl [mdW cI b (sR (sR μ 0 η) 4 τ)]) → va_S A s.heap H locs → ∀ (ls : Array Slot), lv_has ls 4 [(1, .int (iI ((4 * (μ 0 6))))), (0, .ref (b 0))] → W p9 l e9 ({ frames := 3, cells := 0, slots := 0, locals := 66 } : Room) s m ([.ref (b 0)] : List Value).toArray below9 meth9 c9 H locs 0 0 (MQ below9 (wq_i (fun (r : Int) (ν : Nat → Int → Int) => PTQ (μ 3) (μ 0 1) δ (μ 0 3) (μ 0 6) (μ 4) r (ν 0) (ν 4) ∧ FRW (μ 0) (ν 0)) (fun (ν : Nat → Int → Int) => (bW D [(cI, FieldType.int)] (fl [mdW cI b (sR (sR μ 0 (ν 0)) 4 (ν 4))]) A)) A) ([.ref (b 0)] : List Value).toArray s 0 0 A) (F0 m 224 ls []) := by
    intro η τ δ3 hF h3 hrun hd hlow H locs hP hD hS ls hl
    have hF1 := hF.2.1
    refine lv_aload_n hx hb dX5_isPart_224 rfl (lv_at hl 1 rfl) ?_
    refine wi_bipush hx hb dX5_isPart_225 (by decide) ?_
    refine wi_iconst hx hb dX5_isPart_227 ?_
    have hFc := fl_free (SC := [mdW cI b (sR (sR μ 0 η) 4 τ)]) hD hS hA [0] rfl
    refine wq_calli (va_runV (As := [.int (iI (53)), .int (iI (-1))]) (rest := []) ⟨hx, hb, hml, hown, hts⟩ (c_X5_isFigure l D cI cO cC cL H.size b (sR (sR μ 0 η) 4 τ) (53) (-1) ((show 0 ≤ η 3 ∧ η 3 ≤ η 1 ∧ η 1 ≤ 60 by omega)) (htx.mv hF1) (by omega) (by omega)) (cwV 2 hts gX5_isPart_X5_isFigure rfl rfl rfl (by decide +kernel) ⟨Nat.le_of_ble_eq_true rfl, Nat.le_of_ble_eq_true rfl⟩) ⟨pcW_blind, va_recv hK hP (ci := 5) (q0 := 0) rfl rfl, pcW_of hP hK hD⟩ rfl rfl hl.1 rfl (lv_room (Nat.le_of_ble_eq_true rfl)) dX5_isPart_228 ⟨(Nat.zero_le _), (Nat.zero_le _)⟩) hS (fun q _ h => hFc q h) hFc (fun r1 u3 t9 H1 locs ht9 hvm hcl2 hB hz1 hk1 hS => ?_)
    obtain ⟨hP1, hK1, hD1⟩ := hB
    rw [ht9] at hP1
    obtain ⟨hP, hD⟩ := fl_join (SR := []) (S1 := [mdW cI b (sR (sR (sR μ 0 η) 4 τ) 0 u3)]) hP hD [0] [] rfl rfl (by decide) (by decide) hk1 hFc hP1 hD1
    generalize H1 = H at hP hS ⊢
    have hP : va_P D vwCl (fl [mdW cI b (sR (sR (sR μ 0 η) 4 τ) 0 u3)]) H := hP
    have hD : va_D A (fl [mdW cI b (sR (sR (sR μ 0 η) 4 τ) 0 u3)]) := hD
    have hf6 : FGQ η (μ 3) 53 (-1) r1 u3 := hcl2
    clear hcl2
    have hf6z := hf6.z
    refine lv_istore_n (lv' := [(3, .int (iI (r1))), (1, .int (iI ((4 * (μ 0 6))))), (0, .ref (b 0))]) hx hb dX5_isPart_231 rfl hl (by decide) rfl (fun ls hl => ?_)
    refine lv_aload_n hx hb dX5_isPart_232 rfl (lv_at hl 2 rfl) ?_
    refine va_get (D := D) (ci := 5) (v := .ref (b 4)) (C := RX5) (T := TX5) (N := 12) hx hb hts hin_X5 hown hK hP 0 rfl rfl 9 (by decide) hw_0 (fun _ h9 => h9) rfl dX5_isPart_233 ?_
    refine lv_iload_n hx hb dX5_isPart_236 rfl (lv_at hl 1 rfl) ?_
    refine wi_iconst hx hb dX5_isPart_237 ?_
    refine wi_iadd hx hb dX5_isPart_238 ?_
    refine lv_aload_n hx hb dX5_isPart_239 rfl (lv_at hl 2 rfl) ?_
    refine va_get (D := D) (ci := 5) (v := .int (iI ((u3 5)))) (C := RX5) (T := TX5) (N := 12) hx hb hts hin_X5 hown hK hP 0 rfl rfl 8 (by decide) hw_1 (fun _ h9 => h9) rfl dX5_isPart_240 ?_
    refine wi_iast hx hb hK hP hD hS 4 0 (n := 68) (f := τ) rfl rfl (i := ((4 * (μ 0 6)) + 3)) (by omega) (by decide) dX5_isPart_243 (fun H locs hP hD hS => ?_)
    have hP : va_P D vwCl (fl [mdW cI b (sU (sR (sR (sR μ 0 η) 4 τ) 0 u3) 4 (((4 * (μ 0 6)) + 3)) ((u3 5)))]) H := hP
    have hD : va_D A (fl [mdW cI b (sU (sR (sR (sR μ 0 η) 4 τ) 0 u3) 4 (((4 * (μ 0 6)) + 3)) ((u3 5)))]) := hD
    refine lv_iload_n hx hb dX5_isPart_244 rfl (lv_at hl 0 rfl) ?_
    refine Or.elim (Decidable.em (r1 = 1)) (fun hcs => ?_) (fun hcs => ?_)
    · skip
      obtain ⟨hf6r, hf6y, hf63, hf65⟩ := hf6.yes (by omega)
      obtain ⟨hf60, hf61, hf62, hf66⟩ := id hf6.1
      have hx7 := nx_7 (δ := δ3) (c := μ 3 (η 3)) hd.1
      have hb1 := byD_def δ3
      have hb2 := byD_def (dNx δ3 (μ 3 (η 3)))
      have hP : va_P D vwCl (fl [mdW cI b (sR (sR μ 0 ((fun k : Nat => if k = 0 then u3 else (uI (τ) (((4 * (μ 0 6)) + 3)) ((u3 5)))) 0)) 4 ((fun k : Nat => if k = 0 then u3 else (uI (τ) (((4 * (μ 0 6)) + 3)) ((u3 5)))) 4))]) H := hP
      have hD : va_D A (fl [mdW cI b (sR (sR μ 0 ((fun k : Nat => if k = 0 then u3 else (uI (τ) (((4 * (μ 0 6)) + 3)) ((u3 5)))) 0)) 4 ((fun k : Nat => if k = 0 then u3 else (uI (τ) (((4 * (μ 0 6)) + 3)) ((u3 5)))) 4))]) := hD
      exact W.zret (v := iI (r1)) hx hb hr (nar_z hf6z) (fun t9 ht9 hW9 => ⟨⟨(r1), (fun k : Nat => if k = 0 then u3 else (uI (τ) (((4 * (μ 0 6)) + 3)) ((u3 5)))), rfl, (⟨PTQ.ok hf6r (δ' := dNx δ3 (μ 3 (η 3))) (by show μ 0 3 + 3 ≤ u3 3; omega) (by show RUN (μ 3) (μ 0 1) δ (μ 0 3) _ (u3 3); rw [hf63]; exact hrun.step (by omega) (ok7 hd.1 ⟨hf6y.2.1, hf6y.2.2.1⟩) (fun h9 => by omega)) (Or.inr (Or.inr hx7.1)) (fun h9 h8 => no8 hx7.1 h8) (by show uI τ _ _ _ = _; rw [uI_n (by omega)]; omega) (by show uI τ _ _ _ = _; rw [uI_n (by omega)]; omega) (by show uI τ _ _ _ = _; rw [uI_n (by omega)]; omega) (by show uI τ _ _ _ = _; rw [uI_s]; omega) (fun j hj => by show uI τ _ _ j = _; rw [uI_n (by omega)]; exact hlow j hj), hF.tr hf6.1⟩), ⟨by rw [ht9]; exact hP, va_K.moved hW9.alike hK, hD⟩⟩, hS.F ht9⟩) hS.2.2 dX5_isPart_245 hlocks
    · skip
      obtain ⟨hf6r, hf6n, hf63, hf64⟩ := hf6.no hcs
      obtain ⟨hf60, hf61, hf62, hf66⟩ := id hf6.1
      have hP : va_P D vwCl (fl [mdW cI b (sR (sR μ 0 ((fun k : Nat => if k = 0 then u3 else (uI (τ) (((4 * (μ 0 6)) + 3)) ((u3 5)))) 0)) 4 ((fun k : Nat => if k = 0 then u3 else (uI (τ) (((4 * (μ 0 6)) + 3)) ((u3 5)))) 4))]) H := hP
      have hD : va_D A (fl [mdW cI b (sR (sR μ 0 ((fun k : Nat => if k = 0 then u3 else (uI (τ) (((4 * (μ 0 6)) + 3)) ((u3 5)))) 0)) 4 ((fun k : Nat => if k = 0 then u3 else (uI (τ) (((4 * (μ 0 6)) + 3)) ((u3 5)))) 4))]) := hD
      exact W.zret (v := iI (r1)) hx hb hr (nar_z hf6z) (fun t9 ht9 hW9 => ⟨⟨(r1), (fun k : Nat => if k = 0 then u3 else (uI (τ) (((4 * (μ 0 6)) + 3)) ((u3 5)))), rfl, (⟨PTQ.no hf6r (δ' := δ3) (by show RUN (μ 3) (μ 0 1) δ (μ 0 3) _ (u3 3); rw [hf63]; exact hrun) (by show u3 3 < μ 0 1 → ¬ dOk _ (μ 3 (u3 3)); rw [hf63]; exact fun h9 => no7 hd.1 (fun q => hf6n (by omega) ⟨q.1, q.2, by omega⟩)) (nf hd.1 (by omega)) (by show u3 4 = if u3 3 < μ 0 1 then 1 else 0; omega) (fun j hj => by show uI τ _ _ j = _; rw [uI_n (by omega)]; exact hlow j hj), hF.tr hf6.1⟩), ⟨by rw [ht9]; exact hP, va_K.moved hW9.alike hK, hD⟩⟩, hS.F ht9⟩) hS.2.2 dX5_isPart_245 hlocks
  have L201 : ∀ (η : Int → Int) (τ : Int → Int) (δ2 : Int → Int), (FRW (μ 0) η) → (μ 0 3 + 3 ≤ η 3 ∧ η 3 ≤ μ 0 1) → (RUN (μ 3) (μ 0 1) δ (μ 0 3) δ2 (η 3)) → ((δ2 0 = 5 ∨ δ2 0 = 6) ∧ τ (4 * μ 0 6) = δ2 3 ∧ τ (4 * μ 0 6 + 1) = byD δ2 ∧ τ (4 * μ 0 6 + 2) = δ2 4 ∧ τ (4 * μ 0 6 + 3) = δ2 5) → (δ2 0 = 5 → η 3 < μ 0 1 → ¬ (48 ≤ μ 3 (η 3) ∧ μ 3 (η 3) ≤ 57)) → (∀ j : Int, j < 4 * μ 0 6 → τ j = μ 4 j) → ∀ (H : Heap) (locs : List Loc), va_P D vwCl (fl [mdW cI b (sR (sR μ 0 η) 4 τ)]) H → va_D A (fl [mdW cI b (sR (sR μ 0 η) 4 τ)]) → va_S A s.heap H locs → ∀ (ls : Array Slot), lv_has ls 4 [(1, .int (iI ((4 * (μ 0 6))))), (0, .ref (b 0))] → W p9 l e9 ({ frames := 3, cells := 0, slots := 0, locals := 66 } : Room) s m ([.ref (b 0)] : List Value).toArray below9 meth9 c9 H locs 0 0 (MQ below9 (wq_i (fun (r : Int) (ν : Nat → Int → Int) => PTQ (μ 3) (μ 0 1) δ (μ 0 3) (μ 0 6) (μ 4) r (ν 0) (ν 4) ∧ FRW (μ 0) (ν 0)) (fun (ν : Nat → Int → Int) => (bW D [(cI, FieldType.int)] (fl [mdW cI b (sR (sR μ 0 (ν 0)) 4 (ν 4))]) A)) A) ([.ref (b 0)] : List Value).toArray s 0 0 A) (F0 m 201 ls []) := by
    intro η τ δ2 hF h3 hrun hd hmx hlow H locs hP hD hS ls hl
    have hF1 := hF.2.1
    refine lv_aload_n hx hb dX5_isPart_201 rfl (lv_at hl 1 rfl) ?_
    refine wi_bipush hx hb dX5_isPart_202 (by decide) ?_
    refine wi_bipush hx hb dX5_isPart_204 (by decide) ?_
    refine wr_calli (va_runV (As := [.int (iI (111)), .int (iI (111))]) (rest := []) ⟨hx, hb, hml, hown, hts⟩ (c_X5_isAt l D cI cO cC cL b (sR (sR μ 0 η) 4 τ) (111) (111) ((show 0 ≤ η 3 ∧ η 3 ≤ η 1 ∧ η 1 ≤ 60 by omega)) (htx.mv hF1) (by omega) (by omega)) (cwV 2 hts gX5_isPart_X5_isAt rfl rfl rfl (by decide +kernel) ⟨Nat.le_of_ble_eq_true rfl, Nat.le_of_ble_eq_true rfl⟩) ⟨pcR_blind, va_recv hK hP (ci := 5) (q0 := 0) rfl rfl, pcR_of hP hK⟩ rfl rfl hl.1 rfl (lv_room (Nat.le_of_ble_eq_true rfl)) dX5_isPart_206 ⟨(Nat.zero_le _), (Nat.zero_le _)⟩) (fun r4 hr4 => ?_)
    subst hr4
    refine wi_top (y := (if η 3 < η 1 ∧ (111) ≤ μ 3 (η 3) ∧ μ 3 (η 3) ≤ (111) then (1 : Int) else 0)) rfl ?_
    refine wi_if_ne (tgt := 214) hx hb dX5_isPart_209 (by decide) (by omega) (fun c_209 => ?_) (fun c_209 => ?_)
    · skip
      have ht8 := htx (η 3) (by omega) (by omega)
      have h9o := nx_o (δ := δ2) (c := μ 3 (η 3)) hd.1 (by omega)
      have hb1 := byD_def δ2
      have hb2 := byD_def (dNx δ2 (μ 3 (η 3)))
      refine lv_aload_n hx hb dX5_isPart_214 rfl (lv_at hl 1 rfl) ?_
      refine lv_dup hx hb dX5_isPart_215 rfl ?_
      refine va_get (D := D) (ci := 5) (v := .int (iI ((η 3)))) (C := RX5) (T := TX5) (N := 12) hx hb hts hin_X5 hown hK hP 0 rfl rfl 6 (by decide) hw_2 (fun _ h9 => h9) rfl dX5_isPart_216 ?_
      refine wi_iconst hx hb dX5_isPart_219 ?_
      refine wi_iadd hx hb dX5_isPart_220 ?_
      refine va_put (D := D) (ci := 5) (v := .int (iI (((η 3) + 1)))) (ty := .int) (C := RX5) (T := TX5) (N := 12) hx hb hts hin_X5 tyX5 tyX5_ok nmX5 hown hK hP hD hS 0 rfl rfl 6 (by decide) hw_2 (fun _ h9 => h9) rfl (by decide +kernel) rfl rfl (Nat.le_of_ble_eq_true rfl) dX5_isPart_221 (fun H locs hP hD hS => ?_)
      have hP : va_P D vwCl (fl [mdW cI b (sU (sR (sR μ 0 η) 4 τ) 0 (3) (((η 3) + 1)))]) H := hP
      have hD : va_D A (fl [mdW cI b (sU (sR (sR μ 0 η) 4 τ) 0 (3) (((η 3) + 1)))]) := hD
      exact L224 ((uI (η) (3) (((η 3) + 1)))) (τ) ((dNx δ2 (μ 3 (η 3)))) (hF.u 3 _ (by omega)) (by rw [uI_s]; omega) (by rw [uI_s]; exact hrun.step (by omega) (okO hd.1 (by omega)) (fun h9 => by omega)) (⟨h9o.1, by omega, by rw [hb2, h9o.2.1, h9o.2.2.1, ← hb1]; exact hd.2.2.1, by omega⟩) (hlow) _ _ hP hD hS ls (lv_sub hl [0, 1] rfl)
    · skip
      refine wi_iconst hx hb dX5_isPart_212 ?_
      have hP : va_P D vwCl (fl [mdW cI b (sR (sR μ 0 ((fun k : Nat => if k = 0 then η else τ) 0)) 4 ((fun k : Nat => if k = 0 then η else τ) 4))]) H := hP
      have hD : va_D A (fl [mdW cI b (sR (sR μ 0 ((fun k : Nat => if k = 0 then η else τ) 0)) 4 ((fun k : Nat => if k = 0 then η else τ) 4))]) := hD
      exact W.zret (v := iI (1)) hx hb hr (nar_z (by omega)) (fun t9 ht9 hW9 => ⟨⟨(1), (fun k : Nat => if k = 0 then η else τ), rfl, (⟨PTQ.ok rfl (δ' := δ2) (by show μ 0 3 + 3 ≤ η 3; omega) hrun (hd.1.elim Or.inl (fun q => Or.inr (Or.inl q))) (fun h9 h8 => noF hd.1 (fun q => hmx q h9) (fun q => by have q2 : μ 3 (η 3) = 111 := q; have q3 : η 3 < μ 0 1 := h9; omega) h8) hd.2.1 hd.2.2.1 hd.2.2.2.1 hd.2.2.2.2 hlow, hF⟩), ⟨by rw [ht9]; exact hP, va_K.moved hW9.alike hK, hD⟩⟩, hS.F ht9⟩) hS.2.2 dX5_isPart_213 hlocks
  have L166 : ∀ (η : Int → Int) (τ : Int → Int) (g : Int) (δ1 : Int → Int), (FRW (μ 0) η) → (g = 43 ∨ g = 45 ∨ g = 62) → (μ 0 3 + 2 ≤ η 3 ∧ η 3 ≤ μ 0 1) → (RUN (μ 3) (μ 0 1) δ (μ 0 3) δ1 (η 3)) → (δ1 0 = 4 ∧ δ1 1 = (if g = 43 then 0 else 1) ∧ δ1 3 = τ (4 * μ 0 6) ∧ δ1 4 = τ (4 * μ 0 6 + 2) ∧ δ1 5 = 0 ∧ τ (4 * μ 0 6 + 3) = 0) → (∀ j : Int, j < 4 * μ 0 6 → τ j = μ 4 j) → ∀ (H : Heap) (locs : List Loc), va_P D vwCl (fl [mdW cI b (sR (sR μ 0 η) 4 τ)]) H → va_D A (fl [mdW cI b (sR (sR μ 0 η) 4 τ)]) → va_S A s.heap H locs → ∀ (ls : Array Slot), lv_has ls 4 [(2, .int (iI (g))), (1, .int (iI ((4 * (μ 0 6))))), (0, .ref (b 0))] → W p9 l e9 ({ frames := 3, cells := 0, slots := 0, locals := 66 } : Room) s m ([.ref (b 0)] : List Value).toArray below9 meth9 c9 H locs 0 0 (MQ below9 (wq_i (fun (r : Int) (ν : Nat → Int → Int) => PTQ (μ 3) (μ 0 1) δ (μ 0 3) (μ 0 6) (μ 4) r (ν 0) (ν 4) ∧ FRW (μ 0) (ν 0)) (fun (ν : Nat → Int → Int) => (bW D [(cI, FieldType.int)] (fl [mdW cI b (sR (sR μ 0 (ν 0)) 4 (ν 4))]) A)) A) ([.ref (b 0)] : List Value).toArray s 0 0 A) (F0 m 166 ls []) := by
    intro η τ g δ1 hF hgg h3 hrun hd hlow H locs hP hD hS ls hl
    have hF1 := hF.2.1
    have hF3 := hF.2.2.2
    refine lv_aload_n hx hb dX5_isPart_166 rfl (lv_at hl 2 rfl) ?_
    have hFc := fl_free (SC := [mdW cI b (sR (sR μ 0 η) 4 τ)]) hD hS hA [0] rfl
    refine wq_calli (va_runV (As := []) (rest := []) ⟨hx, hb, hml, hown, hts⟩ (c_X5_isNumber l D cI cO cC cL H.size b (sR (sR μ 0 η) 4 τ) ((show 0 ≤ η 3 ∧ η 3 ≤ η 1 ∧ η 1 ≤ 60 by omega)) (htx.mv hF1)) (cwV 0 hts gX5_isPart_X5_isNumber rfl rfl rfl (by decide +kernel) ⟨Nat.le_of_ble_eq_true rfl, Nat.le_of_ble_eq_true rfl⟩) ⟨pcW_blind, va_recv hK hP (ci := 5) (q0 := 0) rfl rfl, pcW_of hP hK hD⟩ rfl rfl hl.1 rfl (lv_room (Nat.le_of_ble_eq_true rfl)) dX5_isPart_167 ⟨(Nat.zero_le _), (Nat.zero_le _)⟩) hS (fun q _ h => hFc q h) hFc (fun r5 u7 t9 H1 locs ht9 hvm hcl6 hB hz1 hk1 hS => ?_)
    obtain ⟨hP1, hK1, hD1⟩ := hB
    rw [ht9] at hP1
    obtain ⟨hP, hD⟩ := fl_join (SR := []) (S1 := [mdW cI b (sR (sR (sR μ 0 η) 4 τ) 0 u7)]) hP hD [0] [] rfl rfl (by decide) (by decide) hk1 hFc hP1 hD1
    generalize H1 = H at hP hS ⊢
    have hP : va_P D vwCl (fl [mdW cI b (sR (sR (sR μ 0 η) 4 τ) 0 u7)]) H := hP
    have hD : va_D A (fl [mdW cI b (sR (sR (sR μ 0 η) 4 τ) 0 u7)]) := hD
    have hn5 : NMQ η (μ 3) r5 u7 := hcl6
    clear hcl6
    have hn5z : r5 = 0 ∨ r5 = 1 := (Decidable.em (r5 = 1)).elim Or.inr (fun q => Or.inl (hn5.no q).1)
    refine wi_if_ne (tgt := 175) hx hb dX5_isPart_170 (by decide) (by omega) (fun c_170 => ?_) (fun c_170 => ?_)
    · skip
      obtain ⟨-, DD2, h201r, h201d, h201e, h201f, h201m⟩ := hn5.yes (by assumption) hF1 hrun (by omega) hd.1
      obtain ⟨hn50, hn51, hn52, hn56⟩ := id hn5.1
      have hb1 := byD_def DD2
      refine lv_aload_n hx hb dX5_isPart_175 rfl (lv_at hl 2 rfl) ?_
      refine va_get (D := D) (ci := 5) (v := .ref (b 4)) (C := RX5) (T := TX5) (N := 12) hx hb hts hin_X5 hown hK hP 0 rfl rfl 9 (by decide) hw_0 (fun _ h9 => h9) rfl dX5_isPart_176 ?_
      refine lv_iload_n hx hb dX5_isPart_179 rfl (lv_at hl 1 rfl) ?_
      refine wi_iconst hx hb dX5_isPart_180 ?_
      refine wi_iadd hx hb dX5_isPart_181 ?_
      refine lv_iload_n hx hb dX5_isPart_182 rfl (lv_at hl 0 rfl) ?_
      refine wi_bipush hx hb dX5_isPart_183 (by decide) ?_
      refine wi_icmp_ne (tgt := 195) hx hb dX5_isPart_185 (by decide) (by omega) (fun c_185 => ?_) (fun c_185 => ?_)
      · skip
        refine lv_aload_n hx hb dX5_isPart_195 rfl (lv_at hl 2 rfl) ?_
        refine va_get (D := D) (ci := 5) (v := .int (iI ((u7 5)))) (C := RX5) (T := TX5) (N := 12) hx hb hts hin_X5 hown hK hP 0 rfl rfl 8 (by decide) hw_1 (fun _ h9 => h9) rfl dX5_isPart_196 ?_
        refine wi_ineg hx hb dX5_isPart_199 ?_
        refine wi_iast hx hb hK hP hD hS 4 0 (n := 68) (f := τ) rfl rfl (i := ((4 * (μ 0 6)) + 1)) (by omega) (by decide) dX5_isPart_200 (fun H locs hP hD hS => ?_)
        have hP : va_P D vwCl (fl [mdW cI b (sU (sR (sR (sR μ 0 η) 4 τ) 0 u7) 4 (((4 * (μ 0 6)) + 1)) ((-(u7 5))))]) H := hP
        have hD : va_D A (fl [mdW cI b (sU (sR (sR (sR μ 0 η) 4 τ) 0 u7) 4 (((4 * (μ 0 6)) + 1)) ((-(u7 5))))]) := hD
        exact L201 (u7) ((uI (τ) (((4 * (μ 0 6)) + 1)) ((-(u7 5))))) (DD2) (hF.tr hn5.1) (by omega) (h201r) (⟨h201d.1, by rw [uI_n (by omega)]; omega, by rw [uI_s, hb1]; rw [if_neg (by omega)]; omega, by rw [uI_n (by omega)]; omega, by rw [uI_n (by omega)]; omega⟩) (h201m) (fun j hj => by rw [uI_n (by omega)]; exact hlow j hj) _ _ hP hD hS ls (lv_sub hl [1, 2] rfl)
      · skip
        refine lv_aload_n hx hb dX5_isPart_188 rfl (lv_at hl 2 rfl) ?_
        refine va_get (D := D) (ci := 5) (v := .int (iI ((u7 5)))) (C := RX5) (T := TX5) (N := 12) hx hb hts hin_X5 hown hK hP 0 rfl rfl 8 (by decide) hw_1 (fun _ h9 => h9) rfl dX5_isPart_189 ?_
        refine lv_goto (tgt := 200) hx hb dX5_isPart_192 (by decide) ?_
        refine wi_iast hx hb hK hP hD hS 4 0 (n := 68) (f := τ) rfl rfl (i := ((4 * (μ 0 6)) + 1)) (by omega) (by decide) dX5_isPart_200 (fun H locs hP hD hS => ?_)
        have hP : va_P D vwCl (fl [mdW cI b (sU (sR (sR (sR μ 0 η) 4 τ) 0 u7) 4 (((4 * (μ 0 6)) + 1)) ((u7 5)))]) H := hP
        have hD : va_D A (fl [mdW cI b (sU (sR (sR (sR μ 0 η) 4 τ) 0 u7) 4 (((4 * (μ 0 6)) + 1)) ((u7 5)))]) := hD
        exact L201 (u7) ((uI (τ) (((4 * (μ 0 6)) + 1)) ((u7 5)))) (DD2) (hF.tr hn5.1) (by omega) (h201r) (⟨h201d.1, by rw [uI_n (by omega)]; omega, by rw [uI_s, hb1]; rw [if_pos (by omega)]; omega, by rw [uI_n (by omega)]; omega, by rw [uI_n (by omega)]; omega⟩) (h201m) (fun j hj => by rw [uI_n (by omega)]; exact hlow j hj) _ _ hP hD hS ls (lv_sub hl [1, 2] rfl)
    · skip
      obtain ⟨-, hn5n, hn53, hn54⟩ := hn5.no (by omega)
      obtain ⟨hn50, hn51, hn52, hn56⟩ := id hn5.1
      refine wi_iconst hx hb dX5_isPart_173 ?_
      have hP : va_P D vwCl (fl [mdW cI b (sR (sR μ 0 ((fun k : Nat => if k = 0 then u7 else τ) 0)) 4 ((fun k : Nat => if k = 0 then u7 else τ) 4))]) H := hP
      have hD : va_D A (fl [mdW cI b (sR (sR μ 0 ((fun k : Nat => if k = 0 then u7 else τ) 0)) 4 ((fun k : Nat => if k = 0 then u7 else τ) 4))]) := hD
      exact W.zret (v := iI (0)) hx hb hr (nar_z (by omega)) (fun t9 ht9 hW9 => ⟨⟨(0), (fun k : Nat => if k = 0 then u7 else τ), rfl, (⟨PTQ.no rfl (δ' := δ1) (by show RUN (μ 3) (μ 0 1) δ (μ 0 3) _ (u7 3); rw [hn53]; exact hrun) (by show u7 3 < μ 0 1 → ¬ dOk _ (μ 3 (u7 3)); rw [hn53]; exact fun h9 => no4 hd.1 (hn5n (by omega))) (nf hd.1 (by omega)) (by show u7 4 = if u7 3 < μ 0 1 then 1 else 0; omega) (hlow), hF.tr hn5.1⟩), ⟨by rw [ht9]; exact hP, va_K.moved hW9.alike hK, hD⟩⟩, hS.F ht9⟩) hS.2.2 dX5_isPart_174 hlocks
  have L105 : ∀ (η : Int → Int) (τ : Int → Int) (g : Int), (FRW (μ 0) η) → (η 3 = μ 0 3 + 2) → (μ 0 3 < μ 0 1 ∧ 48 ≤ μ 3 (μ 0 3) ∧ μ 3 (μ 0 3) ≤ 51) → (τ (4 * μ 0 6) = μ 3 (μ 0 3) - 48 ∧ τ (4 * μ 0 6 + 2) = -1 ∧ τ (4 * μ 0 6 + 3) = 0) → (∀ j : Int, j < 4 * μ 0 6 → τ j = μ 4 j) → ((g = 43 ∨ g = 45 ∨ g = 62) ∧ g = μ 3 (μ 0 3 + 1) ∧ μ 0 3 + 2 ≤ μ 0 1) → ∀ (H : Heap) (locs : List Loc), va_P D vwCl (fl [mdW cI b (sR (sR μ 0 η) 4 τ)]) H → va_D A (fl [mdW cI b (sR (sR μ 0 η) 4 τ)]) → va_S A s.heap H locs → ∀ (ls : Array Slot), lv_has ls 4 [(2, .int (iI (g))), (1, .int (iI ((4 * (μ 0 6))))), (0, .ref (b 0))] → W p9 l e9 ({ frames := 3, cells := 0, slots := 0, locals := 66 } : Room) s m ([.ref (b 0)] : List Value).toArray below9 meth9 c9 H locs 0 0 (MQ below9 (wq_i (fun (r : Int) (ν : Nat → Int → Int) => PTQ (μ 3) (μ 0 1) δ (μ 0 3) (μ 0 6) (μ 4) r (ν 0) (ν 4) ∧ FRW (μ 0) (ν 0)) (fun (ν : Nat → Int → Int) => (bW D [(cI, FieldType.int)] (fl [mdW cI b (sR (sR μ 0 (ν 0)) 4 (ν 4))]) A)) A) ([.ref (b 0)] : List Value).toArray s 0 0 A) (F0 m 105 ls []) := by
    intro η τ g hF he3 hc0 htt hlow hk3 H locs hP hD hS ls hl
    have hF1 := hF.2.1
    have hx1 := nx_0 (δ := δ) (c := μ 3 (μ 0 3)) hd0
    have hx2 := nx_1 (δ := dNx δ (μ 3 (μ 0 3))) (c := μ 3 (μ 0 3 + 1)) hx1.1
    have hrun : RUN (μ 3) (μ 0 1) δ (μ 0 3) (dNx (dNx δ (μ 3 (μ 0 3))) (μ 3 (μ 0 3 + 1))) (μ 0 3 + 1 + 1) := ((RUN.rf (by omega)).step hc0.1 (ok0 hd0 hc0.2) (fun h9 => by omega)).step (by omega) (ok1 hx1.1 (by omega)) (fun h9 => by omega)
    rw [show μ 0 3 + 1 + 1 = μ 0 3 + 2 by omega] at hrun
    refine lv_iload_n hx hb dX5_isPart_105 rfl (lv_at hl 0 rfl) ?_
    refine wi_bipush hx hb dX5_isPart_106 (by decide) ?_
    refine wi_icmp_ne (tgt := 166) hx hb dX5_isPart_108 (by decide) (by omega) (fun c_108 => ?_) (fun c_108 => ?_)
    · skip
      exact L166 (η) (τ) (g) (dNx (dNx δ (μ 3 (μ 0 3))) (μ 3 (μ 0 3 + 1))) (hF) (hk3.1) (by omega) (by rw [he3]; exact hrun) (⟨by rw [hx2.1, if_neg (by omega)], by rw [hx2.2.1]; omega, by omega, by omega, by omega, by omega⟩) (hlow) _ _ hP hD hS ls (lv_sub hl [0, 1, 2] rfl)
    · skip
      have hx20 := hx2.1
      rw [if_pos (by omega)] at hx20
      refine lv_aload_n hx hb dX5_isPart_111 rfl (lv_at hl 2 rfl) ?_
      refine wi_bipush hx hb dX5_isPart_112 (by decide) ?_
      refine lv_aload_n hx hb dX5_isPart_114 rfl (lv_at hl 2 rfl) ?_
      refine va_get (D := D) (ci := 5) (v := .ref (b 4)) (C := RX5) (T := TX5) (N := 12) hx hb hts hin_X5 hown hK hP 0 rfl rfl 9 (by decide) hw_0 (fun _ h9 => h9) rfl dX5_isPart_115 ?_
      refine lv_iload_n hx hb dX5_isPart_118 rfl (lv_at hl 1 rfl) ?_
      refine wi_iald hx hb hK hP 4 0 (n := 68) (f := τ) rfl rfl (i := (4 * (μ 0 6))) (by omega) (by decide) dX5_isPart_119 ?_
      have hFc := fl_free (SC := [mdW cI b (sR (sR μ 0 η) 4 τ)]) hD hS hA [0] rfl
      refine wq_calli (va_runV (As := [.int (iI (51)), .int (iI ((τ ((4 * (μ 0 6))))))]) (rest := []) ⟨hx, hb, hml, hown, hts⟩ (c_X5_isFigure l D cI cO cC cL H.size b (sR (sR μ 0 η) 4 τ) (51) ((τ ((4 * (μ 0 6))))) ((show 0 ≤ η 3 ∧ η 3 ≤ η 1 ∧ η 1 ≤ 60 by omega)) (htx.mv hF1) (by omega) (by omega)) (cwV 2 hts gX5_isPart_X5_isFigure rfl rfl rfl (by decide +kernel) ⟨Nat.le_of_ble_eq_true rfl, Nat.le_of_ble_eq_true rfl⟩) ⟨pcW_blind, va_recv hK hP (ci := 5) (q0 := 0) rfl rfl, pcW_of hP hK hD⟩ rfl rfl hl.1 rfl (lv_room (Nat.le_of_ble_eq_true rfl)) dX5_isPart_120 ⟨(Nat.zero_le _), (Nat.zero_le _)⟩) hS (fun q _ h => hFc q h) hFc (fun r8 u10 t9 H1 locs ht9 hvm hcl9 hB hz1 hk1 hS => ?_)
      obtain ⟨hP1, hK1, hD1⟩ := hB
      rw [ht9] at hP1
      obtain ⟨hP, hD⟩ := fl_join (SR := []) (S1 := [mdW cI b (sR (sR (sR μ 0 η) 4 τ) 0 u10)]) hP hD [0] [] rfl rfl (by decide) (by decide) hk1 hFc hP1 hD1
      generalize H1 = H at hP hS ⊢
      have hP : va_P D vwCl (fl [mdW cI b (sR (sR (sR μ 0 η) 4 τ) 0 u10)]) H := hP
      have hD : va_D A (fl [mdW cI b (sR (sR (sR μ 0 η) 4 τ) 0 u10)]) := hD
      have hf2 : FGQ η (μ 3) 51 (τ (4 * μ 0 6)) r8 u10 := hcl9
      clear hcl9
      have hf2z := hf2.z
      refine wi_if_ne (tgt := 128) hx hb dX5_isPart_123 (by decide) (by omega) (fun c_123 => ?_) (fun c_123 => ?_)
      · skip
        obtain ⟨-, hf2y, hf23, hf25⟩ := hf2.yes (by assumption)
        obtain ⟨hf20, hf21, hf22, hf26⟩ := id hf2.1
        have h23 : u10 3 = μ 0 3 + 3 := by omega
        have hx3 := nx_2 (δ := dNx (dNx δ (μ 3 (μ 0 3))) (μ 3 (μ 0 3 + 1))) (c := μ 3 (μ 0 3 + 2)) hx20
        rw [he3] at hf2y hf25
        have hrun2 : RUN (μ 3) (μ 0 1) δ (μ 0 3) (dNx (dNx (dNx δ (μ 3 (μ 0 3))) (μ 3 (μ 0 3 + 1))) (μ 3 (μ 0 3 + 2))) (μ 0 3 + 2 + 1) := hrun.step (by omega) (ok2 hx20 ⟨hf2y.2.1, hf2y.2.2.1, by omega⟩) (fun h9 => by omega)
        rw [show μ 0 3 + 2 + 1 = μ 0 3 + 3 by omega] at hrun2
        refine lv_aload_n hx hb dX5_isPart_128 rfl (lv_at hl 2 rfl) ?_
        refine va_get (D := D) (ci := 5) (v := .ref (b 4)) (C := RX5) (T := TX5) (N := 12) hx hb hts hin_X5 hown hK hP 0 rfl rfl 9 (by decide) hw_0 (fun _ h9 => h9) rfl dX5_isPart_129 ?_
        refine lv_iload_n hx hb dX5_isPart_132 rfl (lv_at hl 1 rfl) ?_
        refine wi_iconst hx hb dX5_isPart_133 ?_
        refine wi_iadd hx hb dX5_isPart_134 ?_
        refine lv_aload_n hx hb dX5_isPart_135 rfl (lv_at hl 2 rfl) ?_
        refine va_get (D := D) (ci := 5) (v := .int (iI ((u10 5)))) (C := RX5) (T := TX5) (N := 12) hx hb hts hin_X5 hown hK hP 0 rfl rfl 8 (by decide) hw_1 (fun _ h9 => h9) rfl dX5_isPart_136 ?_
        refine wi_iast hx hb hK hP hD hS 4 0 (n := 68) (f := τ) rfl rfl (i := ((4 * (μ 0 6)) + 2)) (by omega) (by decide) dX5_isPart_139 (fun H locs hP hD hS => ?_)
        have hP : va_P D vwCl (fl [mdW cI b (sU (sR (sR (sR μ 0 η) 4 τ) 0 u10) 4 (((4 * (μ 0 6)) + 2)) ((u10 5)))]) H := hP
        have hD : va_D A (fl [mdW cI b (sU (sR (sR (sR μ 0 η) 4 τ) 0 u10) 4 (((4 * (μ 0 6)) + 2)) ((u10 5)))]) := hD
        refine lv_aload_n hx hb dX5_isPart_140 rfl (lv_at hl 2 rfl) ?_
        refine wi_bipush hx hb dX5_isPart_141 (by decide) ?_
        refine wi_bipush hx hb dX5_isPart_143 (by decide) ?_
        refine wr_calli (va_runV (As := [.int (iI (58)), .int (iI (58))]) (rest := []) ⟨hx, hb, hml, hown, hts⟩ (c_X5_isAt l D cI cO cC cL b (sU (sR (sR (sR μ 0 η) 4 τ) 0 u10) 4 (((4 * (μ 0 6)) + 2)) ((u10 5))) (58) (58) ((show 0 ≤ u10 3 ∧ u10 3 ≤ u10 1 ∧ u10 1 ≤ 60 by omega)) (htx.mv (hf21.trans hF1)) (by omega) (by omega)) (cwV 2 hts gX5_isPart_X5_isAt rfl rfl rfl (by decide +kernel) ⟨Nat.le_of_ble_eq_true rfl, Nat.le_of_ble_eq_true rfl⟩) ⟨pcR_blind, va_recv hK hP (ci := 5) (q0 := 0) rfl rfl, pcR_of hP hK⟩ rfl rfl hl.1 rfl (lv_room (Nat.le_of_ble_eq_true rfl)) dX5_isPart_145 ⟨(Nat.zero_le _), (Nat.zero_le _)⟩) (fun r11 hr11 => ?_)
        subst hr11
        refine wi_top (y := (if u10 3 < u10 1 ∧ (58) ≤ μ 3 (u10 3) ∧ μ 3 (u10 3) ≤ (58) then (1 : Int) else 0)) rfl ?_
        refine wi_if_ne (tgt := 156) hx hb dX5_isPart_148 (by decide) (by omega) (fun c_148 => ?_) (fun c_148 => ?_)
        · skip
          have hx4 := nx_3 (δ := dNx (dNx (dNx δ (μ 3 (μ 0 3))) (μ 3 (μ 0 3 + 1))) (μ 3 (μ 0 3 + 2))) (c := μ 3 (μ 0 3 + 3)) hx3.1
          have h58 : μ 3 (μ 0 3 + 3) = 58 := by rw [h23] at c_148; omega
          refine lv_aload_n hx hb dX5_isPart_156 rfl (lv_at hl 2 rfl) ?_
          refine lv_dup hx hb dX5_isPart_157 rfl ?_
          refine va_get (D := D) (ci := 5) (v := .int (iI ((u10 3)))) (C := RX5) (T := TX5) (N := 12) hx hb hts hin_X5 hown hK hP 0 rfl rfl 6 (by decide) hw_2 (fun _ h9 => h9) rfl dX5_isPart_158 ?_
          refine wi_iconst hx hb dX5_isPart_161 ?_
          refine wi_iadd hx hb dX5_isPart_162 ?_
          refine va_put (D := D) (ci := 5) (v := .int (iI (((u10 3) + 1)))) (ty := .int) (C := RX5) (T := TX5) (N := 12) hx hb hts hin_X5 tyX5 tyX5_ok nmX5 hown hK hP hD hS 0 rfl rfl 6 (by decide) hw_2 (fun _ h9 => h9) rfl (by decide +kernel) rfl rfl (Nat.le_of_ble_eq_true rfl) dX5_isPart_163 (fun H locs hP hD hS => ?_)
          have hP : va_P D vwCl (fl [mdW cI b (sU (sU (sR (sR (sR μ 0 η) 4 τ) 0 u10) 4 (((4 * (μ 0 6)) + 2)) ((u10 5))) 0 (3) (((u10 3) + 1)))]) H := hP
          have hD : va_D A (fl [mdW cI b (sU (sU (sR (sR (sR μ 0 η) 4 τ) 0 u10) 4 (((4 * (μ 0 6)) + 2)) ((u10 5))) 0 (3) (((u10 3) + 1)))]) := hD
          exact L166 ((uI (u10) (3) (((u10 3) + 1)))) ((uI (τ) (((4 * (μ 0 6)) + 2)) ((u10 5)))) (g) (dNx (dNx (dNx (dNx δ (μ 3 (μ 0 3))) (μ 3 (μ 0 3 + 1))) (μ 3 (μ 0 3 + 2))) (μ 3 (μ 0 3 + 3))) ((hF.tr hf2.1).u 3 _ (by omega)) (hk3.1) (by rw [uI_s]; omega) (by rw [uI_s, h23]; exact hrun2.step (by omega) (ok3 hx3.1 h58) (fun h9 => by omega)) (⟨hx4.1, by rw [if_neg (by omega)]; omega, by rw [uI_n (by omega)]; omega, by rw [uI_s]; omega, by omega, by rw [uI_n (by omega)]; omega⟩) (fun j hj => by rw [uI_n (by omega)]; exact hlow j hj) _ _ hP hD hS ls (lv_sub hl [0, 1, 2] rfl)
        · skip
          refine lv_aload_n hx hb dX5_isPart_151 rfl (lv_at hl 2 rfl) ?_
          have hFc := fl_free (SC := [mdW cI b (sU (sR (sR (sR μ 0 η) 4 τ) 0 u10) 4 (((4 * (μ 0 6)) + 2)) ((u10 5)))]) hD hS hA [0] rfl
          refine wq_calli (va_runV (As := []) (rest := []) ⟨hx, hb, hml, hown, hts⟩ (c_X5_stops l D cI cO cC cL H.size b (sU (sR (sR (sR μ 0 η) 4 τ) 0 u10) 4 (((4 * (μ 0 6)) + 2)) ((u10 5))) ((show R32 (u10 3) ∧ R32 (u10 1) by omega))) (cwV 0 hts gX5_isPart_X5_stops rfl rfl rfl (by decide +kernel) ⟨Nat.le_of_ble_eq_true rfl, Nat.le_of_ble_eq_true rfl⟩) ⟨pcW_blind, va_recv hK hP (ci := 5) (q0 := 0) rfl rfl, pcW_of hP hK hD⟩ rfl rfl hl.1 rfl (lv_room (Nat.le_of_ble_eq_true rfl)) dX5_isPart_152 ⟨(Nat.zero_le _), (Nat.zero_le _)⟩) hS (fun q _ h => hFc q h) hFc (fun r12 u14 t9 H1 locs ht9 hvm hcl13 hB hz1 hk1 hS => ?_)
          obtain ⟨hP1, hK1, hD1⟩ := hB
          rw [ht9] at hP1
          obtain ⟨hP, hD⟩ := fl_join (SR := []) (S1 := [mdW cI b (sR (sU (sR (sR (sR μ 0 η) 4 τ) 0 u10) 4 (((4 * (μ 0 6)) + 2)) ((u10 5))) 0 u14)]) hP hD [0] [] rfl rfl (by decide) (by decide) hk1 hFc hP1 hD1
          generalize H1 = H at hP hS ⊢
          have hP : va_P D vwCl (fl [mdW cI b (sR (sU (sR (sR (sR μ 0 η) 4 τ) 0 u10) 4 (((4 * (μ 0 6)) + 2)) ((u10 5))) 0 u14)]) H := hP
          have hD : va_D A (fl [mdW cI b (sR (sU (sR (sR (sR μ 0 η) 4 τ) 0 u10) 4 (((4 * (μ 0 6)) + 2)) ((u10 5))) 0 u14)]) := hD
          have hst : STQ u10 r12 u14 := hcl13
          obtain ⟨hz9, hsF, hs3, hs4⟩ := id hst
          have hP : va_P D vwCl (fl [mdW cI b (sR (sR μ 0 ((fun k : Nat => if k = 0 then u14 else (uI (τ) (((4 * (μ 0 6)) + 2)) ((u10 5)))) 0)) 4 ((fun k : Nat => if k = 0 then u14 else (uI (τ) (((4 * (μ 0 6)) + 2)) ((u10 5)))) 4))]) H := hP
          have hD : va_D A (fl [mdW cI b (sR (sR μ 0 ((fun k : Nat => if k = 0 then u14 else (uI (τ) (((4 * (μ 0 6)) + 2)) ((u10 5)))) 0)) 4 ((fun k : Nat => if k = 0 then u14 else (uI (τ) (((4 * (μ 0 6)) + 2)) ((u10 5)))) 4))]) := hD
          exact W.zret (v := iI (r12)) hx hb hr (nar_z (by omega)) (fun t9 ht9 hW9 => ⟨⟨(r12), (fun k : Nat => if k = 0 then u14 else (uI (τ) (((4 * (μ 0 6)) + 2)) ((u10 5)))), rfl, (⟨PTQ.no hz9 (δ' := dNx (dNx (dNx δ (μ 3 (μ 0 3))) (μ 3 (μ 0 3 + 1))) (μ 3 (μ 0 3 + 2))) (by show RUN (μ 3) (μ 0 1) δ (μ 0 3) _ (u14 3); rw [hs3, h23]; exact hrun2) (by show u14 3 < μ 0 1 → ¬ dOk _ (μ 3 (u14 3)); rw [hs3, h23]; exact fun h9 => no3 hx3.1 (fun q => by rw [h23] at c_148; rw [q] at c_148; omega)) (nf hx3.1 (by omega)) (by show u14 4 = if u14 3 < μ 0 1 then 1 else 0; omega) (fun j hj => by show uI τ _ _ j = _; rw [uI_n (by omega)]; exact hlow j hj), (hF.tr hf2.1).tr hsF⟩), ⟨by rw [ht9]; exact hP, va_K.moved hW9.alike hK, hD⟩⟩, hS.F ht9⟩) hS.2.2 dX5_isPart_155 hlocks
      · skip
        obtain ⟨hf2r, hf2n, hf23, hf24⟩ := hf2.no (by omega)
        obtain ⟨hf20, hf21, hf22, hf26⟩ := id hf2.1
        refine wi_iconst hx hb dX5_isPart_126 ?_
        have hP : va_P D vwCl (fl [mdW cI b (sR (sR μ 0 ((fun k : Nat => if k = 0 then u10 else τ) 0)) 4 ((fun k : Nat => if k = 0 then u10 else τ) 4))]) H := hP
        have hD : va_D A (fl [mdW cI b (sR (sR μ 0 ((fun k : Nat => if k = 0 then u10 else τ) 0)) 4 ((fun k : Nat => if k = 0 then u10 else τ) 4))]) := hD
        exact W.zret (v := iI (0)) hx hb hr (nar_z (by omega)) (fun t9 ht9 hW9 => ⟨⟨(0), (fun k : Nat => if k = 0 then u10 else τ), rfl, (⟨PTQ.no rfl (δ' := dNx (dNx δ (μ 3 (μ 0 3))) (μ 3 (μ 0 3 + 1))) (by show RUN (μ 3) (μ 0 1) δ (μ 0 3) _ (u10 3); rw [hf23, he3]; exact hrun) (by show u10 3 < μ 0 1 → ¬ dOk _ (μ 3 (u10 3)); rw [hf23, he3]; exact fun h9 => no2 hx20 (fun q => by rw [he3] at hf2n; exact hf2n (by omega) ⟨q.1, q.2.1, by omega⟩)) (nf hx20 (by omega)) (by show u10 4 = if u10 3 < μ 0 1 then 1 else 0; omega) (hlow), hF.tr hf2.1⟩), ⟨by rw [ht9]; exact hP, va_K.moved hW9.alike hK, hD⟩⟩, hS.F ht9⟩) hS.2.2 dX5_isPart_127 hlocks
  have L72 : ∀ (η : Int → Int) (τ : Int → Int) (g : Int), (FRW (μ 0) η) → (η 3 = μ 0 3 + 1) → (μ 0 3 < μ 0 1 ∧ 48 ≤ μ 3 (μ 0 3) ∧ μ 3 (μ 0 3) ≤ 51) → (g = if μ 0 3 + 1 < μ 0 1 then μ 3 (μ 0 3 + 1) else 0) → (0 ≤ g ∧ g ≤ 65535) → (τ (4 * μ 0 6) = μ 3 (μ 0 3) - 48 ∧ τ (4 * μ 0 6 + 2) = -1 ∧ τ (4 * μ 0 6 + 3) = 0) → (∀ j : Int, j < 4 * μ 0 6 → τ j = μ 4 j) → ∀ (H : Heap) (locs : List Loc), va_P D vwCl (fl [mdW cI b (sR (sR μ 0 η) 4 τ)]) H → va_D A (fl [mdW cI b (sR (sR μ 0 η) 4 τ)]) → va_S A s.heap H locs → ∀ (ls : Array Slot), lv_has ls 4 [(2, .int (iI (g))), (1, .int (iI ((4 * (μ 0 6))))), (0, .ref (b 0))] → W p9 l e9 ({ frames := 3, cells := 0, slots := 0, locals := 66 } : Room) s m ([.ref (b 0)] : List Value).toArray below9 meth9 c9 H locs 0 0 (MQ below9 (wq_i (fun (r : Int) (ν : Nat → Int → Int) => PTQ (μ 3) (μ 0 1) δ (μ 0 3) (μ 0 6) (μ 4) r (ν 0) (ν 4) ∧ FRW (μ 0) (ν 0)) (fun (ν : Nat → Int → Int) => (bW D [(cI, FieldType.int)] (fl [mdW cI b (sR (sR μ 0 (ν 0)) 4 (ν 4))]) A)) A) ([.ref (b 0)] : List Value).toArray s 0 0 A) (F0 m 72 ls []) := by
    intro η τ g hF he3 hc0 hg hg2 htt hlow H locs hP hD hS ls hl
    have hF1 := hF.2.1
    have hx1 := nx_0 (δ := δ) (c := μ 3 (μ 0 3)) hd0
    refine lv_iload_n hx hb dX5_isPart_72 rfl (lv_at hl 0 rfl) ?_
    refine wi_bipush hx hb dX5_isPart_73 (by decide) ?_
    refine wi_icmp_eq (tgt := 95) hx hb dX5_isPart_75 (by decide) (by omega) (fun c_75 => ?_) (fun c_75 => ?_)
    · skip
      refine lv_aload_n hx hb dX5_isPart_95 rfl (lv_at hl 2 rfl) ?_
      refine lv_dup hx hb dX5_isPart_96 rfl ?_
      refine va_get (D := D) (ci := 5) (v := .int (iI ((η 3)))) (C := RX5) (T := TX5) (N := 12) hx hb hts hin_X5 hown hK hP 0 rfl rfl 6 (by decide) hw_2 (fun _ h9 => h9) rfl dX5_isPart_97 ?_
      refine wi_iconst hx hb dX5_isPart_100 ?_
      refine wi_iadd hx hb dX5_isPart_101 ?_
      refine va_put (D := D) (ci := 5) (v := .int (iI (((η 3) + 1)))) (ty := .int) (C := RX5) (T := TX5) (N := 12) hx hb hts hin_X5 tyX5 tyX5_ok nmX5 hown hK hP hD hS 0 rfl rfl 6 (by decide) hw_2 (fun _ h9 => h9) rfl (by decide +kernel) rfl rfl (Nat.le_of_ble_eq_true rfl) dX5_isPart_102 (fun H locs hP hD hS => ?_)
      have hP : va_P D vwCl (fl [mdW cI b (sU (sR (sR μ 0 η) 4 τ) 0 (3) (((η 3) + 1)))]) H := hP
      have hD : va_D A (fl [mdW cI b (sU (sR (sR μ 0 η) 4 τ) 0 (3) (((η 3) + 1)))]) := hD
      exact L105 ((uI (η) (3) (((η 3) + 1)))) (τ) (g) (hF.u 3 _ (by omega)) (by rw [uI_s]; omega) (hc0) (htt) (hlow) (by omega) _ _ hP hD hS ls (lv_sub hl [0, 1, 2] rfl)
    · skip
      refine lv_iload_n hx hb dX5_isPart_78 rfl (lv_at hl 0 rfl) ?_
      refine wi_bipush hx hb dX5_isPart_79 (by decide) ?_
      refine wi_icmp_eq (tgt := 95) hx hb dX5_isPart_81 (by decide) (by omega) (fun c_81 => ?_) (fun c_81 => ?_)
      · skip
        refine lv_aload_n hx hb dX5_isPart_95 rfl (lv_at hl 2 rfl) ?_
        refine lv_dup hx hb dX5_isPart_96 rfl ?_
        refine va_get (D := D) (ci := 5) (v := .int (iI ((η 3)))) (C := RX5) (T := TX5) (N := 12) hx hb hts hin_X5 hown hK hP 0 rfl rfl 6 (by decide) hw_2 (fun _ h9 => h9) rfl dX5_isPart_97 ?_
        refine wi_iconst hx hb dX5_isPart_100 ?_
        refine wi_iadd hx hb dX5_isPart_101 ?_
        refine va_put (D := D) (ci := 5) (v := .int (iI (((η 3) + 1)))) (ty := .int) (C := RX5) (T := TX5) (N := 12) hx hb hts hin_X5 tyX5 tyX5_ok nmX5 hown hK hP hD hS 0 rfl rfl 6 (by decide) hw_2 (fun _ h9 => h9) rfl (by decide +kernel) rfl rfl (Nat.le_of_ble_eq_true rfl) dX5_isPart_102 (fun H locs hP hD hS => ?_)
        have hP : va_P D vwCl (fl [mdW cI b (sU (sR (sR μ 0 η) 4 τ) 0 (3) (((η 3) + 1)))]) H := hP
        have hD : va_D A (fl [mdW cI b (sU (sR (sR μ 0 η) 4 τ) 0 (3) (((η 3) + 1)))]) := hD
        exact L105 ((uI (η) (3) (((η 3) + 1)))) (τ) (g) (hF.u 3 _ (by omega)) (by rw [uI_s]; omega) (hc0) (htt) (hlow) (by omega) _ _ hP hD hS ls (lv_sub hl [0, 1, 2] rfl)
      · skip
        refine lv_iload_n hx hb dX5_isPart_84 rfl (lv_at hl 0 rfl) ?_
        refine wi_bipush hx hb dX5_isPart_85 (by decide) ?_
        refine wi_icmp_eq (tgt := 95) hx hb dX5_isPart_87 (by decide) (by omega) (fun c_87 => ?_) (fun c_87 => ?_)
        · skip
          refine lv_aload_n hx hb dX5_isPart_95 rfl (lv_at hl 2 rfl) ?_
          refine lv_dup hx hb dX5_isPart_96 rfl ?_
          refine va_get (D := D) (ci := 5) (v := .int (iI ((η 3)))) (C := RX5) (T := TX5) (N := 12) hx hb hts hin_X5 hown hK hP 0 rfl rfl 6 (by decide) hw_2 (fun _ h9 => h9) rfl dX5_isPart_97 ?_
          refine wi_iconst hx hb dX5_isPart_100 ?_
          refine wi_iadd hx hb dX5_isPart_101 ?_
          refine va_put (D := D) (ci := 5) (v := .int (iI (((η 3) + 1)))) (ty := .int) (C := RX5) (T := TX5) (N := 12) hx hb hts hin_X5 tyX5 tyX5_ok nmX5 hown hK hP hD hS 0 rfl rfl 6 (by decide) hw_2 (fun _ h9 => h9) rfl (by decide +kernel) rfl rfl (Nat.le_of_ble_eq_true rfl) dX5_isPart_102 (fun H locs hP hD hS => ?_)
          have hP : va_P D vwCl (fl [mdW cI b (sU (sR (sR μ 0 η) 4 τ) 0 (3) (((η 3) + 1)))]) H := hP
          have hD : va_D A (fl [mdW cI b (sU (sR (sR μ 0 η) 4 τ) 0 (3) (((η 3) + 1)))]) := hD
          exact L105 ((uI (η) (3) (((η 3) + 1)))) (τ) (g) (hF.u 3 _ (by omega)) (by rw [uI_s]; omega) (hc0) (htt) (hlow) (by omega) _ _ hP hD hS ls (lv_sub hl [0, 1, 2] rfl)
        · skip
          refine lv_aload_n hx hb dX5_isPart_90 rfl (lv_at hl 2 rfl) ?_
          have hFc := fl_free (SC := [mdW cI b (sR (sR μ 0 η) 4 τ)]) hD hS hA [0] rfl
          refine wq_calli (va_runV (As := []) (rest := []) ⟨hx, hb, hml, hown, hts⟩ (c_X5_stops l D cI cO cC cL H.size b (sR (sR μ 0 η) 4 τ) ((show R32 (η 3) ∧ R32 (η 1) by omega))) (cwV 0 hts gX5_isPart_X5_stops rfl rfl rfl (by decide +kernel) ⟨Nat.le_of_ble_eq_true rfl, Nat.le_of_ble_eq_true rfl⟩) ⟨pcW_blind, va_recv hK hP (ci := 5) (q0 := 0) rfl rfl, pcW_of hP hK hD⟩ rfl rfl hl.1 rfl (lv_room (Nat.le_of_ble_eq_true rfl)) dX5_isPart_91 ⟨(Nat.zero_le _), (Nat.zero_le _)⟩) hS (fun q _ h => hFc q h) hFc (fun r15 u17 t9 H1 locs ht9 hvm hcl16 hB hz1 hk1 hS => ?_)
          obtain ⟨hP1, hK1, hD1⟩ := hB
          rw [ht9] at hP1
          obtain ⟨hP, hD⟩ := fl_join (SR := []) (S1 := [mdW cI b (sR (sR (sR μ 0 η) 4 τ) 0 u17)]) hP hD [0] [] rfl rfl (by decide) (by decide) hk1 hFc hP1 hD1
          generalize H1 = H at hP hS ⊢
          have hP : va_P D vwCl (fl [mdW cI b (sR (sR (sR μ 0 η) 4 τ) 0 u17)]) H := hP
          have hD : va_D A (fl [mdW cI b (sR (sR (sR μ 0 η) 4 τ) 0 u17)]) := hD
          have hst : STQ η r15 u17 := hcl16
          obtain ⟨hz9, hsF, hs3, hs4⟩ := id hst
          have hP : va_P D vwCl (fl [mdW cI b (sR (sR μ 0 ((fun k : Nat => if k = 0 then u17 else τ) 0)) 4 ((fun k : Nat => if k = 0 then u17 else τ) 4))]) H := hP
          have hD : va_D A (fl [mdW cI b (sR (sR μ 0 ((fun k : Nat => if k = 0 then u17 else τ) 0)) 4 ((fun k : Nat => if k = 0 then u17 else τ) 4))]) := hD
          exact W.zret (v := iI (r15)) hx hb hr (nar_z (by omega)) (fun t9 ht9 hW9 => ⟨⟨(r15), (fun k : Nat => if k = 0 then u17 else τ), rfl, (⟨PTQ.no hz9 (δ' := dNx δ (μ 3 (μ 0 3))) (by show RUN (μ 3) (μ 0 1) δ (μ 0 3) _ (u17 3); rw [hs3, he3]; exact (RUN.rf (by omega)).step hc0.1 (ok0 hd0 hc0.2) (fun h9 => by omega)) (by show u17 3 < μ 0 1 → ¬ dOk _ (μ 3 (u17 3)); rw [hs3, he3]; exact fun h9 => no1 hx1.1 (by rw [if_pos h9] at hg; omega)) (nf hx1.1 (by omega)) (by show u17 4 = if u17 3 < μ 0 1 then 1 else 0; omega) (hlow), hF.tr hsF⟩), ⟨by rw [ht9]; exact hP, va_K.moved hW9.alike hK, hD⟩⟩, hS.F ht9⟩) hS.2.2 dX5_isPart_94 hlocks
  refine wi_iconst hx hb dX5_isPart_0 ?_
  refine lv_aload_n hx hb dX5_isPart_1 rfl (lv_at hl 0 rfl) ?_
  refine va_get (D := D) (ci := 5) (v := .int (iI ((μ 0 6)))) (C := RX5) (T := TX5) (N := 12) hx hb hts hin_X5 hown hK hP 0 rfl rfl 10 (by decide) hw_3 (fun _ h9 => h9) rfl dX5_isPart_2 ?_
  refine wi_imul hx hb dX5_isPart_5 ?_
  refine lv_istore_n (lv' := [(1, .int (iI ((4 * (μ 0 6))))), (0, .ref (b 0))]) hx hb dX5_isPart_6 rfl hl (by decide) rfl (fun ls hl => ?_)
  refine lv_aload_n hx hb dX5_isPart_7 rfl (lv_at hl 1 rfl) ?_
  refine wi_bipush hx hb dX5_isPart_8 (by decide) ?_
  refine wi_iconst hx hb dX5_isPart_10 ?_
  have hFc := fl_free (SC := [mdW cI b μ]) hD hS hA [0] rfl
  refine wq_calli (va_runV (As := [.int (iI (51)), .int (iI (-1))]) (rest := []) ⟨hx, hb, hml, hown, hts⟩ (c_X5_isFigure l D cI cO cC cL s.heap.size b μ (51) (-1) (hx9) (htx) (by omega) (by omega)) (cwV 2 hts gX5_isPart_X5_isFigure rfl rfl rfl (by decide +kernel) ⟨Nat.le_of_ble_eq_true rfl, Nat.le_of_ble_eq_true rfl⟩) ⟨pcW_blind, va_recv hK hP (ci := 5) (q0 := 0) rfl rfl, pcW_of hP hK hD⟩ rfl rfl hl.1 rfl (lv_room (Nat.le_of_ble_eq_true rfl)) dX5_isPart_11 ⟨(Nat.zero_le _), (Nat.zero_le _)⟩) hS (fun q _ h => hFc q h) hFc (fun r18 u20 t9 H1 locs ht9 hvm hcl19 hB hz1 hk1 hS => ?_)
  obtain ⟨hP1, hK1, hD1⟩ := hB
  rw [ht9] at hP1
  obtain ⟨hP, hD⟩ := fl_join (SR := []) (S1 := [mdW cI b (sR μ 0 u20)]) hP hD [0] [] rfl rfl (by decide) (by decide) hk1 hFc hP1 hD1
  generalize H1 = H at hP hS ⊢
  have hP : va_P D vwCl (fl [mdW cI b (sR μ 0 u20)]) H := hP
  have hD : va_D A (fl [mdW cI b (sR μ 0 u20)]) := hD
  have hf1 : FGQ (μ 0) (μ 3) 51 (-1) r18 u20 := hcl19
  clear hcl19
  have hf1z := hf1.z
  refine wi_if_ne (tgt := 19) hx hb dX5_isPart_14 (by decide) (by omega) (fun c_14 => ?_) (fun c_14 => ?_)
  · skip
    obtain ⟨-, hf1y, hf13, hf15⟩ := hf1.yes (by assumption)
    obtain ⟨hf10, hf11, hf12, hf16⟩ := id hf1.1
    have hx1 := nx_0 (δ := δ) (c := μ 3 (μ 0 3)) hd0
    refine lv_aload_n hx hb dX5_isPart_19 rfl (lv_at hl 1 rfl) ?_
    refine va_get (D := D) (ci := 5) (v := .ref (b 4)) (C := RX5) (T := TX5) (N := 12) hx hb hts hin_X5 hown hK hP 0 rfl rfl 9 (by decide) hw_0 (fun _ h9 => h9) rfl dX5_isPart_20 ?_
    refine lv_iload_n hx hb dX5_isPart_23 rfl (lv_at hl 0 rfl) ?_
    refine lv_aload_n hx hb dX5_isPart_24 rfl (lv_at hl 1 rfl) ?_
    refine va_get (D := D) (ci := 5) (v := .int (iI ((u20 5)))) (C := RX5) (T := TX5) (N := 12) hx hb hts hin_X5 hown hK hP 0 rfl rfl 8 (by decide) hw_1 (fun _ h9 => h9) rfl dX5_isPart_25 ?_
    refine wi_iast hx hb hK hP hD hS 4 0 (n := 68) (f := μ 4) rfl rfl (i := (4 * (μ 0 6))) (by omega) (by decide) dX5_isPart_28 (fun H locs hP hD hS => ?_)
    have hP : va_P D vwCl (fl [mdW cI b (sU (sR μ 0 u20) 4 ((4 * (μ 0 6))) ((u20 5)))]) H := hP
    have hD : va_D A (fl [mdW cI b (sU (sR μ 0 u20) 4 ((4 * (μ 0 6))) ((u20 5)))]) := hD
    refine lv_aload_n hx hb dX5_isPart_29 rfl (lv_at hl 1 rfl) ?_
    refine va_get (D := D) (ci := 5) (v := .ref (b 4)) (C := RX5) (T := TX5) (N := 12) hx hb hts hin_X5 hown hK hP 0 rfl rfl 9 (by decide) hw_0 (fun _ h9 => h9) rfl dX5_isPart_30 ?_
    refine lv_iload_n hx hb dX5_isPart_33 rfl (lv_at hl 0 rfl) ?_
    refine wi_iconst hx hb dX5_isPart_34 ?_
    refine wi_iadd hx hb dX5_isPart_35 ?_
    refine wi_iconst hx hb dX5_isPart_36 ?_
    refine wi_iast hx hb hK hP hD hS 4 0 (n := 68) (f := (uI (μ 4) ((4 * (μ 0 6))) ((u20 5)))) rfl rfl (i := ((4 * (μ 0 6)) + 2)) (by omega) (by decide) dX5_isPart_37 (fun H locs hP hD hS => ?_)
    have hP : va_P D vwCl (fl [mdW cI b (sU (sU (sR μ 0 u20) 4 ((4 * (μ 0 6))) ((u20 5))) 4 (((4 * (μ 0 6)) + 2)) (-1))]) H := hP
    have hD : va_D A (fl [mdW cI b (sU (sU (sR μ 0 u20) 4 ((4 * (μ 0 6))) ((u20 5))) 4 (((4 * (μ 0 6)) + 2)) (-1))]) := hD
    refine lv_aload_n hx hb dX5_isPart_38 rfl (lv_at hl 1 rfl) ?_
    refine va_get (D := D) (ci := 5) (v := .ref (b 4)) (C := RX5) (T := TX5) (N := 12) hx hb hts hin_X5 hown hK hP 0 rfl rfl 9 (by decide) hw_0 (fun _ h9 => h9) rfl dX5_isPart_39 ?_
    refine lv_iload_n hx hb dX5_isPart_42 rfl (lv_at hl 0 rfl) ?_
    refine wi_iconst hx hb dX5_isPart_43 ?_
    refine wi_iadd hx hb dX5_isPart_44 ?_
    refine wi_iconst hx hb dX5_isPart_45 ?_
    refine wi_iast hx hb hK hP hD hS 4 0 (n := 68) (f := (uI ((uI (μ 4) ((4 * (μ 0 6))) ((u20 5)))) (((4 * (μ 0 6)) + 2)) (-1))) rfl rfl (i := ((4 * (μ 0 6)) + 3)) (by omega) (by decide) dX5_isPart_46 (fun H locs hP hD hS => ?_)
    have hP : va_P D vwCl (fl [mdW cI b (sU (sU (sU (sR μ 0 u20) 4 ((4 * (μ 0 6))) ((u20 5))) 4 (((4 * (μ 0 6)) + 2)) (-1)) 4 (((4 * (μ 0 6)) + 3)) (0))]) H := hP
    have hD : va_D A (fl [mdW cI b (sU (sU (sU (sR μ 0 u20) 4 ((4 * (μ 0 6))) ((u20 5))) 4 (((4 * (μ 0 6)) + 2)) (-1)) 4 (((4 * (μ 0 6)) + 3)) (0))]) := hD
    refine lv_aload_n hx hb dX5_isPart_47 rfl (lv_at hl 1 rfl) ?_
    refine va_get (D := D) (ci := 5) (v := .int (iI ((u20 3)))) (C := RX5) (T := TX5) (N := 12) hx hb hts hin_X5 hown hK hP 0 rfl rfl 6 (by decide) hw_2 (fun _ h9 => h9) rfl dX5_isPart_48 ?_
    refine lv_aload_n hx hb dX5_isPart_51 rfl (lv_at hl 1 rfl) ?_
    refine va_get (D := D) (ci := 5) (v := .int (iI ((u20 1)))) (C := RX5) (T := TX5) (N := 12) hx hb hts hin_X5 hown hK hP 0 rfl rfl 4 (by decide) hw_4 (fun _ h9 => h9) rfl dX5_isPart_52 ?_
    refine wi_icmp_ge (tgt := 70) hx hb dX5_isPart_55 (by decide) (by omega) (fun c_55 => ?_) (fun c_55 => ?_)
    · skip
      refine wi_iconst hx hb dX5_isPart_70 ?_
      refine lv_istore_n (lv' := [(2, .int (iI (0))), (1, .int (iI ((4 * (μ 0 6))))), (0, .ref (b 0))]) hx hb dX5_isPart_71 rfl hl (by decide) rfl (fun ls hl => ?_)
      exact L72 (u20) ((uI ((uI ((uI (μ 4) ((4 * (μ 0 6))) ((u20 5)))) (((4 * (μ 0 6)) + 2)) (-1))) (((4 * (μ 0 6)) + 3)) (0))) (0) (hf1.1) (hf13) (⟨hf1y.1, hf1y.2.1, hf1y.2.2.1⟩) (by rw [← hf13]; first | rw [if_pos (by omega)] | rw [if_neg (by omega)]) (by omega) (⟨by simp (disch := omega) only [uI_e, uI_n]; omega, by simp (disch := omega) only [uI_e, uI_n], by simp (disch := omega) only [uI_e, uI_n]⟩) (fun j hj => by simp (disch := omega) only [uI_e, uI_n]) _ _ hP hD hS ls (lv_sub hl [0, 1, 2] rfl)
    · skip
      have ht8 := htx (u20 3) (by omega) (by omega)
      refine lv_aload_n hx hb dX5_isPart_58 rfl (lv_at hl 1 rfl) ?_
      refine va_get (D := D) (ci := 5) (v := .ref (b 3)) (C := RX5) (T := TX5) (N := 12) hx hb hts hin_X5 hown hK hP 0 rfl rfl 3 (by decide) hw_5 (fun _ h9 => h9) rfl dX5_isPart_59 ?_
      refine lv_aload_n hx hb dX5_isPart_62 rfl (lv_at hl 1 rfl) ?_
      refine va_get (D := D) (ci := 5) (v := .int (iI ((u20 3)))) (C := RX5) (T := TX5) (N := 12) hx hb hts hin_X5 hown hK hP 0 rfl rfl 6 (by decide) hw_2 (fun _ h9 => h9) rfl dX5_isPart_63 ?_
      refine wi_iald hx hb hK hP 3 0 (n := 60) (f := μ 3) rfl rfl (i := (u20 3)) (by omega) (by decide) dX5_isPart_66 ?_
      refine lv_goto (tgt := 71) hx hb dX5_isPart_67 (by decide) ?_
      refine lv_istore_n (lv' := [(2, .int (iI ((μ 3 ((u20 3)))))), (1, .int (iI ((4 * (μ 0 6))))), (0, .ref (b 0))]) hx hb dX5_isPart_71 rfl hl (by decide) rfl (fun ls hl => ?_)
      exact L72 (u20) ((uI ((uI ((uI (μ 4) ((4 * (μ 0 6))) ((u20 5)))) (((4 * (μ 0 6)) + 2)) (-1))) (((4 * (μ 0 6)) + 3)) (0))) ((μ 3 ((u20 3)))) (hf1.1) (hf13) (⟨hf1y.1, hf1y.2.1, hf1y.2.2.1⟩) (by rw [← hf13]; first | rw [if_pos (by omega)] | rw [if_neg (by omega)]) (by omega) (⟨by simp (disch := omega) only [uI_e, uI_n]; omega, by simp (disch := omega) only [uI_e, uI_n], by simp (disch := omega) only [uI_e, uI_n]⟩) (fun j hj => by simp (disch := omega) only [uI_e, uI_n]) _ _ hP hD hS ls (lv_sub hl [0, 1, 2] rfl)
  · skip
    obtain ⟨hf1r, hf1n, hf13, hf14⟩ := hf1.no (by omega)
    obtain ⟨hf10, hf11, hf12, hf16⟩ := id hf1.1
    refine wi_iconst hx hb dX5_isPart_17 ?_
    have hP : va_P D vwCl (fl [mdW cI b (sR (sR μ 0 ((fun k : Nat => if k = 0 then u20 else μ 4) 0)) 4 ((fun k : Nat => if k = 0 then u20 else μ 4) 4))]) H := hP
    have hD : va_D A (fl [mdW cI b (sR (sR μ 0 ((fun k : Nat => if k = 0 then u20 else μ 4) 0)) 4 ((fun k : Nat => if k = 0 then u20 else μ 4) 4))]) := hD
    exact W.zret (v := iI (0)) hx hb hr (nar_z (by omega)) (fun t9 ht9 hW9 => ⟨⟨(0), (fun k : Nat => if k = 0 then u20 else μ 4), rfl, (⟨PTQ.no rfl (δ' := δ) (by show RUN (μ 3) (μ 0 1) δ (μ 0 3) _ (u20 3); rw [hf13]; exact RUN.rf (by omega)) (by show u20 3 < μ 0 1 → ¬ dOk _ (μ 3 (u20 3)); rw [hf13]; exact fun h9 => no0 hd0 (fun q => hf1n h9 ⟨q.1, q.2, by omega⟩)) (nf hd0 (by omega)) (by show u20 4 = if u20 3 < μ 0 1 then 1 else 0; omega) (fun j _ => rfl), hf1.1⟩), ⟨by rw [ht9]; exact hP, va_K.moved hW9.alike hK, hD⟩⟩, hS.F ht9⟩) hS.2.2 dX5_isPart_18 hlocks
