set_option maxHeartbeats 4000000 in
set_option maxRecDepth 100000 in
theorem c_X5_sums (l : Launch) (D : va_G) (cI cO cC cL : ClassId) (sz : Nat) (b : Nat → Nat) (μ σ : Nat → Int → Int) (c : Int) (hc : 0 ≤ c ∧ c < 4) (hR : RelN σ (μ 1)) (hI : Inv σ) : Met l yX5_sums wsX5_sums ({ frames := 2, cells := 0, slots := 0, locals := 44 } : Room) (pcW D [(cI, FieldType.int)] [.ref (b 0), .int (iI (c))] (fl [mdW cI b μ]) sz) (wq_i (fun (r : Int) (f : Int → Int) => r = cntW σ c ∧ ∀ k : Int, 0 ≤ k → k ≤ 3168 → f k = FW σ c (σ 0 1).toNat (k - 1584)) (fun (f : Int → Int) => (bW D [(cI, FieldType.int)] (fl [mdW cI b (sR μ 5 f)]) (va_A (fl [mdW cI b μ]) sz))) (va_A (fl [mdW cI b μ]) sz)) 0 0 (va_A (fl [mdW cI b μ]) sz) := by
  refine Met.ofW (cc := cX5_sums) (maxL := 9) (ret := (some .int)) (by decide) rfl ?_
  intro p9 e9 s m args9 below9 meth9 c9 s₁ B hml hv
  obtain ⟨rfl, hsz, hP, hK, hD0⟩ := hv
  have hx := B.exec
  have hb := B.bytes
  have hr := B.returns
  have hts := atoms_spec (ws := wsX5_sums) B.pre
  have hown : s.vm.findClass RX5 = some m.cls := findClass_of_methodNamed B.named
  have hlocks := B.notSynchronized
  subst hsz
  have hD := hD0.self (sz := s.heap.size)
  generalize hAe : va_A (fl [mdW cI b μ]) s.heap.size = A at hD ⊢
  have hA : ∀ q : Nat, s.heap.size ≤ q → A q := fun q h => by rw [← hAe]; exact Or.inr h
  have hS : va_S A s.heap s.heap [] := va_S.rf
  have hP : va_P D vwCl (fl [mdW cI b μ]) s.heap := hP
  have hl := lv_entry ([.ref (b 0), .int (iI (c))]) (n := 9) (Nat.le_of_ble_eq_true rfl)
  rw [lg_entry_eq]
  generalize (lg_sl ([.ref (b 0), .int (iI (c))]) ++ List.replicate (9 - (lg_sl ([.ref (b 0), .int (iI (c))])).length) Slot.unset).toArray = ls at hl ⊢
  have hl : lv_has ls 9 [(0, .ref (b 0)), (1, .int (iI (c)))] := hl
  have hw_0 := hts (.fieldLink RX5 22 "PromisedCountersModel" "fewest" "[I") (by decide +kernel)
  have hin_X5 : ∀ w ∈ u_ws RX5 TX5 12, w ∈ wsX5_sums := by decide +kernel
  have hw_1 := hts (.fieldLink RX5 7 "PromisedCountersModel" "now" "[I") (by decide +kernel)
  have hn := hI.n
  have hti := hI.t
  obtain ⟨hm0, hm1, hm2, hm3, hm4⟩ := hR.1
  refine wi_iconst hx hb dX5_sums_0 ?_
  refine lv_istore_n (lv' := [(2, .int (iI (0))), (0, .ref (b 0)), (1, .int (iI (c)))]) hx hb dX5_sums_1 rfl hl (by decide) rfl (fun ls hl => ?_)
  have L2 : ∀ (k2 : Nat), ∀ (g : Int → Int) (k : Int), (3169 - k).toNat < k2 → (0 ≤ k ∧ k ≤ 3169) → (∀ j : Int, 0 ≤ j → j < k → g j = -1) → ∀ (H : Heap) (locs : List Loc), va_P D vwCl (fl [mdW cI b (sR μ 5 g)]) H → va_D A (fl [mdW cI b (sR μ 5 g)]) → va_S A s.heap H locs → ∀ (ls : Array Slot), lv_has ls 9 [(2, .int (iI (k))), (0, .ref (b 0)), (1, .int (iI (c)))] → W p9 l e9 ({ frames := 2, cells := 0, slots := 0, locals := 44 } : Room) s m ([.ref (b 0), .int (iI (c))] : List Value).toArray below9 meth9 c9 H locs 0 0 (MQ below9 (wq_i (fun (r : Int) (f : Int → Int) => r = cntW σ c ∧ ∀ k : Int, 0 ≤ k → k ≤ 3168 → f k = FW σ c (σ 0 1).toNat (k - 1584)) (fun (f : Int → Int) => (bW D [(cI, FieldType.int)] (fl [mdW cI b (sR μ 5 f)]) A)) A) ([.ref (b 0), .int (iI (c))] : List Value).toArray s 0 0 A) (F0 m 2 ls []) := by
    intro k2
    induction k2 with
    | zero =>
      intro g k hm
      exact absurd hm (Nat.not_lt_zero _)
    | succ k2 ih2 =>
      intro g k hm2 hk hg H locs hP hD hS ls hl
      refine lv_iload_n hx hb dX5_sums_2 rfl (lv_at hl 0 rfl) ?_
      refine wi_sipush hx hb dX5_sums_3 (by decide) ?_
      refine wi_icmp_ge (tgt := 22) hx hb dX5_sums_6 (by decide) (by omega) (fun c_6 => ?_) (fun c_6 => ?_)
      · skip
        refine lv_aload_n hx hb dX5_sums_22 rfl (lv_at hl 1 rfl) ?_
        refine va_get (D := D) (ci := 5) (v := .ref (b 5)) (C := RX5) (T := TX5) (N := 12) hx hb hts hin_X5 hown hK hP 0 rfl rfl 11 (by decide) hw_0 (fun _ h9 => h9) rfl dX5_sums_23 ?_
        refine wi_sipush hx hb dX5_sums_26 (by decide) ?_
        refine wi_iconst hx hb dX5_sums_29 ?_
        refine wi_iast hx hb hK hP hD hS 5 0 (n := 3169) (f := g) rfl rfl (i := 1584) (by omega) (by decide) dX5_sums_30 (fun H locs hP hD hS => ?_)
        have hP : va_P D vwCl (fl [mdW cI b (sU (sR μ 5 g) 5 (1584) (0))]) H := hP
        have hD : va_D A (fl [mdW cI b (sU (sR μ 5 g) 5 (1584) (0))]) := hD
        refine wi_iconst hx hb dX5_sums_31 ?_
        refine lv_istore_n (lv' := [(2, .int (iI (0))), (0, .ref (b 0)), (1, .int (iI (c)))]) hx hb dX5_sums_32 rfl hl (by decide) rfl (fun ls hl => ?_)
        have L33 : ∀ (k33 : Nat), ∀ (g : Int → Int) (p : Int), (σ 0 1 - p).toNat < k33 → (0 ≤ p ∧ p ≤ σ 0 1) → (∀ k : Int, 0 ≤ k → k ≤ 3168 → g k = FW σ c p.toNat (k - 1584)) → ∀ (H : Heap) (locs : List Loc), va_P D vwCl (fl [mdW cI b (sR μ 5 g)]) H → va_D A (fl [mdW cI b (sR μ 5 g)]) → va_S A s.heap H locs → ∀ (ls : Array Slot), lv_has ls 9 [(2, .int (iI (p))), (0, .ref (b 0)), (1, .int (iI (c)))] → W p9 l e9 ({ frames := 2, cells := 0, slots := 0, locals := 44 } : Room) s m ([.ref (b 0), .int (iI (c))] : List Value).toArray below9 meth9 c9 H locs 0 0 (MQ below9 (wq_i (fun (r : Int) (f : Int → Int) => r = cntW σ c ∧ ∀ k : Int, 0 ≤ k → k ≤ 3168 → f k = FW σ c (σ 0 1).toNat (k - 1584)) (fun (f : Int → Int) => (bW D [(cI, FieldType.int)] (fl [mdW cI b (sR μ 5 f)]) A)) A) ([.ref (b 0), .int (iI (c))] : List Value).toArray s 0 0 A) (F0 m 33 ls []) := by
          intro k33
          induction k33 with
          | zero =>
            intro g p hm
            exact absurd hm (Nat.not_lt_zero _)
          | succ k33 ih33 =>
            intro g p hm33 hp hg H locs hP hD hS ls hl
            refine lv_iload_n hx hb dX5_sums_33 rfl (lv_at hl 0 rfl) ?_
            refine lv_aload_n hx hb dX5_sums_34 rfl (lv_at hl 1 rfl) ?_
            refine va_get (D := D) (ci := 5) (v := .ref (b 1)) (C := RX5) (T := TX5) (N := 12) hx hb hts hin_X5 hown hK hP 0 rfl rfl 0 (by decide) hw_1 (fun _ h9 => h9) rfl dX5_sums_35 ?_
            refine wi_iconst hx hb dX5_sums_38 ?_
            refine wi_iald hx hb hK hP 1 0 (n := 115) (f := μ 1) rfl rfl (i := 3) (by omega) (by decide) dX5_sums_39 ?_
            refine wi_icmp_ge (tgt := 199) hx hb dX5_sums_40 (by decide) (by omega) (fun c_40 => ?_) (fun c_40 => ?_)
            · skip
              have hf : ∀ k : Int, 0 ≤ k → k ≤ 3168 → g k = FW σ c (σ 0 1).toNat (k - 1584) := fun k h0 h1 => by rw [hg k h0 h1, show p = σ 0 1 by omega]
              refine wi_iconst hx hb dX5_sums_199 ?_
              refine lv_istore_n (lv' := [(2, .int (iI (0))), (0, .ref (b 0)), (1, .int (iI (c)))]) hx hb dX5_sums_200 rfl hl (by decide) rfl (fun ls hl => ?_)
              refine wi_iconst hx hb dX5_sums_201 ?_
              refine lv_istore_n (lv' := [(3, .int (iI (0))), (2, .int (iI (0))), (0, .ref (b 0)), (1, .int (iI (c)))]) hx hb dX5_sums_202 rfl hl (by decide) rfl (fun ls hl => ?_)
              have L203 : ∀ (k203 : Nat), ∀ (q : Int) (acc : Int), (3169 - q).toNat < k203 → (0 ≤ q ∧ q ≤ 3169) → (acc = sm (fun k => if FW σ c (σ 0 1).toNat (k - 1584) = -1 then 0 else 1) q.toNat) → ∀ (ls : Array Slot), lv_has ls 9 [(3, .int (iI (q))), (2, .int (iI (acc))), (0, .ref (b 0)), (1, .int (iI (c)))] → W p9 l e9 ({ frames := 2, cells := 0, slots := 0, locals := 44 } : Room) s m ([.ref (b 0), .int (iI (c))] : List Value).toArray below9 meth9 c9 H locs 0 0 (MQ below9 (wq_i (fun (r : Int) (f : Int → Int) => r = cntW σ c ∧ ∀ k : Int, 0 ≤ k → k ≤ 3168 → f k = FW σ c (σ 0 1).toNat (k - 1584)) (fun (f : Int → Int) => (bW D [(cI, FieldType.int)] (fl [mdW cI b (sR μ 5 f)]) A)) A) ([.ref (b 0), .int (iI (c))] : List Value).toArray s 0 0 A) (F0 m 203 ls []) := by
                intro k203
                induction k203 with
                | zero =>
                  intro q acc hm
                  exact absurd hm (Nat.not_lt_zero _)
                | succ k203 ih203 =>
                  intro q acc hm203 hq9 hacc ls hl
                  have hfw := fun z => FW_r σ c (σ 0 1).toNat z
                  refine lv_iload_n hx hb dX5_sums_203 rfl (lv_at hl 0 rfl) ?_
                  refine wi_sipush hx hb dX5_sums_204 (by decide) ?_
                  refine wi_icmp_ge (tgt := 234) hx hb dX5_sums_207 (by decide) (by omega) (fun c_207 => ?_) (fun c_207 => ?_)
                  · skip
                    refine lv_iload_n hx hb dX5_sums_234 rfl (lv_at hl 1 rfl) ?_
                    exact W.iret (v := iI (acc)) hx hb hr (fun t9 ht9 hW9 => ⟨⟨(acc), g, rfl, (⟨by rw [hacc, show q = 3169 by omega]; rfl, hf⟩), ⟨by rw [ht9]; exact hP, va_K.moved hW9.alike hK, hD⟩⟩, hS.F ht9⟩) hS.2.2 dX5_sums_235 hlocks
                  · skip
                    have hfk := hf q (by omega) (by omega)
                    have hfk2 := FW_r σ c (σ 0 1).toNat (q - 1584)
                    refine lv_iload_n hx hb dX5_sums_210 rfl (lv_at hl 1 rfl) ?_
                    refine lv_aload_n hx hb dX5_sums_211 rfl (lv_at hl 2 rfl) ?_
                    refine va_get (D := D) (ci := 5) (v := .ref (b 5)) (C := RX5) (T := TX5) (N := 12) hx hb hts hin_X5 hown hK hP 0 rfl rfl 11 (by decide) hw_0 (fun _ h9 => h9) rfl dX5_sums_212 ?_
                    refine lv_iload_n hx hb dX5_sums_215 rfl (lv_at hl 0 rfl) ?_
                    refine wi_iald hx hb hK hP 5 0 (n := 3169) (f := g) rfl rfl (i := q) (by omega) (by decide) dX5_sums_216 ?_
                    refine wi_iconst hx hb dX5_sums_217 ?_
                    refine wi_icmp_ne (tgt := 225) hx hb dX5_sums_218 (by decide) (by omega) (fun c_218 => ?_) (fun c_218 => ?_)
                    · skip
                      refine wi_iconst hx hb dX5_sums_225 ?_
                      refine wi_iadd hx hb dX5_sums_226 ?_
                      refine lv_istore_n (lv' := [(2, .int (iI ((acc + 1)))), (3, .int (iI (q))), (0, .ref (b 0)), (1, .int (iI (c)))]) hx hb dX5_sums_227 rfl hl (by decide) rfl (fun ls hl => ?_)
                      refine wi_iinc (lv' := [(3, .int (iI ((q + 1)))), (2, .int (iI ((acc + 1)))), (0, .ref (b 0)), (1, .int (iI (c)))]) hx hb dX5_sums_228 hl (k := 1) rfl (by decide) rfl (fun ls hl => ?_)
                      refine lv_goto (tgt := 203) hx hb dX5_sums_231 (by decide) ?_
                      exact ih203 ((q + 1)) ((acc + 1)) (by omega) (by omega) (by rw [sm_step (by omega)]; omega)  ls (lv_sub hl [0, 1, 2, 3] rfl)
                    · skip
                      refine wi_iconst hx hb dX5_sums_221 ?_
                      refine lv_goto (tgt := 226) hx hb dX5_sums_222 (by decide) ?_
                      refine wi_iadd hx hb dX5_sums_226 ?_
                      refine lv_istore_n (lv' := [(2, .int (iI ((acc + 0)))), (3, .int (iI (q))), (0, .ref (b 0)), (1, .int (iI (c)))]) hx hb dX5_sums_227 rfl hl (by decide) rfl (fun ls hl => ?_)
                      refine wi_iinc (lv' := [(3, .int (iI ((q + 1)))), (2, .int (iI ((acc + 0)))), (0, .ref (b 0)), (1, .int (iI (c)))]) hx hb dX5_sums_228 hl (k := 1) rfl (by decide) rfl (fun ls hl => ?_)
                      refine lv_goto (tgt := 203) hx hb dX5_sums_231 (by decide) ?_
                      exact ih203 ((q + 1)) ((acc + 0)) (by omega) (by omega) (by rw [sm_step (by omega)]; omega)  ls (lv_sub hl [0, 1, 2, 3] rfl)
              exact L203 _ (0) (0) (Nat.lt_succ_self _) (by omega) (rfl)  ls (lv_sub hl [0, 1, 2, 3] rfl)
            · skip
              have hpr := hI.pr (p := p) (by omega) (by omega)
              obtain ⟨hp1, hp2, hp3, hp4, hp5⟩ := id hpr
              have hcr := chg_r hpr c
              refine lv_aload_n hx hb dX5_sums_43 rfl (lv_at hl 1 rfl) ?_
              refine lv_iload_n hx hb dX5_sums_44 rfl (lv_at hl 0 rfl) ?_
              refine lv_iload_n hx hb dX5_sums_45 rfl (lv_at hl 2 rfl) ?_
              refine wr_calli (va_runV (As := [.int (iI (p)), .int (iI (c))]) (rest := []) ⟨hx, hb, hml, hown, hts⟩ (c_X5_change l D cI cO cC cL b (sR μ 5 g) σ (p) (c) (by omega) (by omega) (hR) (hI)) (cwV 2 hts gX5_sums_X5_change rfl rfl rfl (by decide +kernel) ⟨Nat.le_of_ble_eq_true rfl, Nat.le_of_ble_eq_true rfl⟩) ⟨pcR_blind, va_recv hK hP (ci := 5) (q0 := 0) rfl rfl, pcR_of hP hK⟩ rfl rfl hl.1 rfl (lv_room (Nat.le_of_ble_eq_true rfl)) dX5_sums_46 ⟨(Nat.zero_le _), (Nat.zero_le _)⟩) (fun r1 hr1 => ?_)
              subst hr1
              refine lv_istore_n (lv' := [(3, .int (iI ((chg σ (p) (c))))), (2, .int (iI (p))), (0, .ref (b 0)), (1, .int (iI (c)))]) hx hb dX5_sums_49 rfl hl (by decide) rfl (fun ls hl => ?_)
              refine lv_iload_n hx hb dX5_sums_50 rfl (lv_at hl 0 rfl) ?_
              refine wi_if_le (tgt := 60) hx hb dX5_sums_51 (by decide) (by omega) (fun c_51 => ?_) (fun c_51 => ?_)
              · skip
                refine wi_iconst hx hb dX5_sums_60 ?_
                refine lv_istore (lv' := [(4, .int (iI (0))), (3, .int (iI ((chg σ (p) (c))))), (2, .int (iI (p))), (0, .ref (b 0)), (1, .int (iI (c)))]) hx hb dX5_sums_61 hl (by decide) rfl (fun ls hl => ?_)
                refine wi_iconst hx hb dX5_sums_63 ?_
                refine lv_istore (lv' := [(5, .int (iI (0))), (4, .int (iI (0))), (3, .int (iI ((chg σ (p) (c))))), (2, .int (iI (p))), (0, .ref (b 0)), (1, .int (iI (c)))]) hx hb dX5_sums_64 hl (by decide) rfl (fun ls hl => ?_)
                have L66 : ∀ (k66 : Nat), ∀ (h : Int → Int) (n : Int), (3169 - n).toNat < k66 → (0 ≤ n ∧ n ≤ 3169 ∧ (n = 0 ∨ chg σ p c ≠ 0)) → (h = mapM g (chg σ p c) 0 (n - 1)) → ∀ (H : Heap) (locs : List Loc), va_P D vwCl (fl [mdW cI b (sR μ 5 h)]) H → va_D A (fl [mdW cI b (sR μ 5 h)]) → va_S A s.heap H locs → ∀ (ls : Array Slot), lv_has ls 9 [(5, .int (iI (n))), (4, .int (iI (0))), (3, .int (iI ((chg σ (p) (c))))), (2, .int (iI (p))), (0, .ref (b 0)), (1, .int (iI (c)))] → W p9 l e9 ({ frames := 2, cells := 0, slots := 0, locals := 44 } : Room) s m ([.ref (b 0), .int (iI (c))] : List Value).toArray below9 meth9 c9 H locs 0 0 (MQ below9 (wq_i (fun (r : Int) (f : Int → Int) => r = cntW σ c ∧ ∀ k : Int, 0 ≤ k → k ≤ 3168 → f k = FW σ c (σ 0 1).toNat (k - 1584)) (fun (f : Int → Int) => (bW D [(cI, FieldType.int)] (fl [mdW cI b (sR μ 5 f)]) A)) A) ([.ref (b 0), .int (iI (c))] : List Value).toArray s 0 0 A) (F0 m 66 ls []) := by
                  intro k66
                  induction k66 with
                  | zero =>
                    intro h n hm
                    exact absurd hm (Nat.not_lt_zero _)
                  | succ k66 ih66 =>
                    intro h n hm66 hn9 hh H locs hP hD hS ls hl
                    have hbh : ∀ k : Int, 0 ≤ k → k ≤ 3168 → -1 ≤ h k ∧ h k ≤ 17 + 1 := by
                      rw [hh]
                      exact mapM_r (by omega) (fun k h0 h1 => by rw [hg k h0 h1]; have := FW_r σ c p.toNat (k - 1584); omega)
                    refine lv_iload hx hb dX5_sums_66 (lv_at hl 0 rfl) ?_
                    refine wi_sipush hx hb dX5_sums_68 (by decide) ?_
                    refine wi_icmp_ge (tgt := 193) hx hb dX5_sums_71 (by decide) (by omega) (fun c_71 => ?_) (fun c_71 => ?_)
                    · skip
                      refine wi_iinc (lv' := [(2, .int (iI ((p + 1)))), (5, .int (iI (n))), (4, .int (iI (0))), (3, .int (iI ((chg σ (p) (c))))), (0, .ref (b 0)), (1, .int (iI (c)))]) hx hb dX5_sums_193 hl (k := 3) rfl (by decide) rfl (fun ls hl => ?_)
                      refine lv_goto (tgt := 33) hx hb dX5_sums_196 (by decide) ?_
                      exact ih33 (h) ((p + 1)) (by omega) (by omega) (fun j h0 h1 => by first | (rw [FW_step σ c _ (by omega), if_pos (by omega), hh, ← mapM_0 (by omega)]; exact hg j h0 h1) | (rw [hh, show (3169 : Int) - n = 0 by omega]; exact FW_mapM hI (by omega) hg (by omega) j h0 h1) | (rw [hh, show n - 1 = (3168 : Int) by omega]; exact FW_mapM hI (by omega) hg (by omega) j h0 h1)) _ _ hP hD hS ls (lv_sub hl [0, 4, 5] rfl)
                    · skip
                      refine lv_iload_n hx hb dX5_sums_74 rfl (lv_at hl 2 rfl) ?_
                      refine wi_if_eq (tgt := 193) hx hb dX5_sums_75 (by decide) (by omega) (fun c_75 => ?_) (fun c_75 => ?_)
                      · skip
                        refine wi_iinc (lv' := [(2, .int (iI ((p + 1)))), (5, .int (iI (n))), (4, .int (iI (0))), (3, .int (iI ((chg σ (p) (c))))), (0, .ref (b 0)), (1, .int (iI (c)))]) hx hb dX5_sums_193 hl (k := 3) rfl (by decide) rfl (fun ls hl => ?_)
                        refine lv_goto (tgt := 33) hx hb dX5_sums_196 (by decide) ?_
                        exact ih33 (h) ((p + 1)) (by omega) (by omega) (fun j h0 h1 => by first | (rw [FW_step σ c _ (by omega), if_pos (by omega), hh, ← mapM_0 (by omega)]; exact hg j h0 h1) | (rw [hh, show (3169 : Int) - n = 0 by omega]; exact FW_mapM hI (by omega) hg (by omega) j h0 h1) | (rw [hh, show n - 1 = (3168 : Int) by omega]; exact FW_mapM hI (by omega) hg (by omega) j h0 h1)) _ _ hP hD hS ls (lv_sub hl [0, 4, 5] rfl)
                      · skip
                        refine lv_iload_n hx hb dX5_sums_78 rfl (lv_at hl 2 rfl) ?_
                        refine wi_if_le (tgt := 90) hx hb dX5_sums_79 (by decide) (by omega) (fun c_79 => ?_) (fun c_79 => ?_)
                        · skip
                          refine lv_iload hx hb dX5_sums_90 (lv_at hl 0 rfl) ?_
                          refine lv_istore (lv' := [(6, .int (iI (n))), (5, .int (iI (n))), (4, .int (iI (0))), (3, .int (iI ((chg σ (p) (c))))), (2, .int (iI (p))), (0, .ref (b 0)), (1, .int (iI (c)))]) hx hb dX5_sums_92 hl (by decide) rfl (fun ls hl => ?_)
                          have hv1 := hbh n (by omega) (by omega)
                          refine lv_iload hx hb dX5_sums_94 (lv_at hl 0 rfl) ?_
                          refine lv_iload_n hx hb dX5_sums_96 rfl (lv_at hl 3 rfl) ?_
                          refine wi_isub hx hb dX5_sums_97 ?_
                          refine wi_iconst hx hb dX5_sums_98 ?_
                          refine wi_sipush hx hb dX5_sums_99 (by decide) ?_
                          refine wr_calli (va_runS (As := [.int (iI ((n - (chg σ (p) (c))))), .int (iI (0)), .int (iI (3168))]) (rest := []) ⟨hx, hb, hml, hown, hts⟩ (c_X5_in l D cI cO cC cL ((n - (chg σ (p) (c)))) (0) (3168) (by omega) (by omega) (by omega)) (cwS 3 hts gX5_sums_X5_in rfl rfl rfl (by decide +kernel) ⟨Nat.le_of_ble_eq_true rfl, Nat.le_of_ble_eq_true rfl⟩) ⟨fun _ _ _ _ h => h, fun U hU hW => ⟨rfl, trivial⟩⟩ rfl rfl hl.1 rfl (lv_room (Nat.le_of_ble_eq_true rfl)) dX5_sums_102 ⟨(Nat.zero_le _), (Nat.zero_le _)⟩) (fun r2 hr2 => ?_)
                          subst hr2
                          refine wi_if_eq (tgt := 120) hx hb dX5_sums_105 (by decide) (by omega) (fun c_105 => ?_) (fun c_105 => ?_)
                          · skip
                            refine wi_iconst hx hb dX5_sums_120 ?_
                            refine lv_istore (lv' := [(7, .int (iI (-1))), (6, .int (iI (n))), (5, .int (iI (n))), (4, .int (iI (0))), (3, .int (iI ((chg σ (p) (c))))), (2, .int (iI (p))), (0, .ref (b 0)), (1, .int (iI (c)))]) hx hb dX5_sums_121 hl (by decide) rfl (fun ls hl => ?_)
                            refine lv_iload hx hb dX5_sums_123 (lv_at hl 0 rfl) ?_
                            refine wi_iconst hx hb dX5_sums_125 ?_
                            refine wi_icmp_eq (tgt := 158) hx hb dX5_sums_126 (by decide) (by omega) (fun c_126 => ?_) (fun c_126 => ?_)
                            · skip
                              refine wi_iconst hx hb dX5_sums_158 ?_
                              refine lv_istore (lv' := [(8, .int (iI (0))), (7, .int (iI (-1))), (6, .int (iI (n))), (5, .int (iI (n))), (4, .int (iI (0))), (3, .int (iI ((chg σ (p) (c))))), (2, .int (iI (p))), (0, .ref (b 0)), (1, .int (iI (c)))]) hx hb dX5_sums_159 hl (by decide) rfl (fun ls hl => ?_)
                              refine lv_aload_n hx hb dX5_sums_161 rfl (lv_at hl 7 rfl) ?_
                              refine va_get (D := D) (ci := 5) (v := .ref (b 5)) (C := RX5) (T := TX5) (N := 12) hx hb hts hin_X5 hown hK hP 0 rfl rfl 11 (by decide) hw_0 (fun _ h9 => h9) rfl dX5_sums_162 ?_
                              refine lv_iload hx hb dX5_sums_165 (lv_at hl 2 rfl) ?_
                              refine lv_iload hx hb dX5_sums_167 (lv_at hl 0 rfl) ?_
                              refine wi_if_eq (tgt := 179) hx hb dX5_sums_169 (by decide) (by omega) (fun c_169 => ?_) (fun c_169 => ?_)
                              · skip
                                refine lv_aload_n hx hb dX5_sums_179 rfl (lv_at hl 7 rfl) ?_
                                refine va_get (D := D) (ci := 5) (v := .ref (b 5)) (C := RX5) (T := TX5) (N := 12) hx hb hts hin_X5 hown hK hP 0 rfl rfl 11 (by decide) hw_0 (fun _ h9 => h9) rfl dX5_sums_180 ?_
                                refine lv_iload hx hb dX5_sums_183 (lv_at hl 2 rfl) ?_
                                refine wi_iald hx hb hK hP 5 0 (n := 3169) (f := h) rfl rfl (i := n) (by omega) (by decide) dX5_sums_185 ?_
                                refine wi_iast hx hb hK hP hD hS 5 0 (n := 3169) (f := h) rfl rfl (i := n) (by omega) (by decide) dX5_sums_186 (fun H locs hP hD hS => ?_)
                                have hP : va_P D vwCl (fl [mdW cI b (sU (sR μ 5 h) 5 (n) ((h (n))))]) H := hP
                                have hD : va_D A (fl [mdW cI b (sU (sR μ 5 h) 5 (n) ((h (n))))]) := hD
                                refine wi_iinc (lv' := [(5, .int (iI ((n + 1)))), (8, .int (iI (0))), (7, .int (iI (-1))), (6, .int (iI (n))), (4, .int (iI (0))), (3, .int (iI ((chg σ (p) (c))))), (2, .int (iI (p))), (0, .ref (b 0)), (1, .int (iI (c)))]) hx hb dX5_sums_187 hl (k := 3) rfl (by decide) rfl (fun ls hl => ?_)
                                refine lv_goto (tgt := 66) hx hb dX5_sums_190 (by decide) ?_
                                exact ih66 ((uI (h) (n) ((h (n))))) ((n + 1)) (by omega) (by omega) (mapM_dn (by omega) (by omega) hh (by unfold cmb; (first | rw [if_pos (show 0 ≤ n - chg σ p c ∧ n - chg σ p c ≤ 3168 by omega)] | rw [if_neg (show ¬ (0 ≤ n - chg σ p c ∧ n - chg σ p c ≤ 3168) by omega)]); (first | rw [if_pos (by omega)] | rw [if_neg (by omega)]))) _ _ hP hD hS ls (lv_sub hl [0, 4, 5, 6, 7, 8] rfl)
                              · skip
                                exfalso; omega
                            · skip
                              exfalso; omega
                          · skip
                            have hv2 := hbh (n - chg σ p c) (by omega) (by omega)
                            refine lv_aload_n hx hb dX5_sums_108 rfl (lv_at hl 5 rfl) ?_
                            refine va_get (D := D) (ci := 5) (v := .ref (b 5)) (C := RX5) (T := TX5) (N := 12) hx hb hts hin_X5 hown hK hP 0 rfl rfl 11 (by decide) hw_0 (fun _ h9 => h9) rfl dX5_sums_109 ?_
                            refine lv_iload hx hb dX5_sums_112 (lv_at hl 0 rfl) ?_
                            refine lv_iload_n hx hb dX5_sums_114 rfl (lv_at hl 3 rfl) ?_
                            refine wi_isub hx hb dX5_sums_115 ?_
                            refine wi_iald hx hb hK hP 5 0 (n := 3169) (f := h) rfl rfl (i := (n - (chg σ (p) (c)))) (by omega) (by decide) dX5_sums_116 ?_
                            refine lv_goto (tgt := 121) hx hb dX5_sums_117 (by decide) ?_
                            refine lv_istore (lv' := [(7, .int (iI ((h ((n - (chg σ (p) (c)))))))), (6, .int (iI (n))), (5, .int (iI (n))), (4, .int (iI (0))), (3, .int (iI ((chg σ (p) (c))))), (2, .int (iI (p))), (0, .ref (b 0)), (1, .int (iI (c)))]) hx hb dX5_sums_121 hl (by decide) rfl (fun ls hl => ?_)
                            refine lv_iload hx hb dX5_sums_123 (lv_at hl 0 rfl) ?_
                            refine wi_iconst hx hb dX5_sums_125 ?_
                            refine wi_icmp_eq (tgt := 158) hx hb dX5_sums_126 (by decide) (by omega) (fun c_126 => ?_) (fun c_126 => ?_)
                            · skip
                              refine wi_iconst hx hb dX5_sums_158 ?_
                              refine lv_istore (lv' := [(8, .int (iI (0))), (7, .int (iI ((h ((n - (chg σ (p) (c)))))))), (6, .int (iI (n))), (5, .int (iI (n))), (4, .int (iI (0))), (3, .int (iI ((chg σ (p) (c))))), (2, .int (iI (p))), (0, .ref (b 0)), (1, .int (iI (c)))]) hx hb dX5_sums_159 hl (by decide) rfl (fun ls hl => ?_)
                              refine lv_aload_n hx hb dX5_sums_161 rfl (lv_at hl 7 rfl) ?_
                              refine va_get (D := D) (ci := 5) (v := .ref (b 5)) (C := RX5) (T := TX5) (N := 12) hx hb hts hin_X5 hown hK hP 0 rfl rfl 11 (by decide) hw_0 (fun _ h9 => h9) rfl dX5_sums_162 ?_
                              refine lv_iload hx hb dX5_sums_165 (lv_at hl 2 rfl) ?_
                              refine lv_iload hx hb dX5_sums_167 (lv_at hl 0 rfl) ?_
                              refine wi_if_eq (tgt := 179) hx hb dX5_sums_169 (by decide) (by omega) (fun c_169 => ?_) (fun c_169 => ?_)
                              · skip
                                refine lv_aload_n hx hb dX5_sums_179 rfl (lv_at hl 7 rfl) ?_
                                refine va_get (D := D) (ci := 5) (v := .ref (b 5)) (C := RX5) (T := TX5) (N := 12) hx hb hts hin_X5 hown hK hP 0 rfl rfl 11 (by decide) hw_0 (fun _ h9 => h9) rfl dX5_sums_180 ?_
                                refine lv_iload hx hb dX5_sums_183 (lv_at hl 2 rfl) ?_
                                refine wi_iald hx hb hK hP 5 0 (n := 3169) (f := h) rfl rfl (i := n) (by omega) (by decide) dX5_sums_185 ?_
                                refine wi_iast hx hb hK hP hD hS 5 0 (n := 3169) (f := h) rfl rfl (i := n) (by omega) (by decide) dX5_sums_186 (fun H locs hP hD hS => ?_)
                                have hP : va_P D vwCl (fl [mdW cI b (sU (sR μ 5 h) 5 (n) ((h (n))))]) H := hP
                                have hD : va_D A (fl [mdW cI b (sU (sR μ 5 h) 5 (n) ((h (n))))]) := hD
                                refine wi_iinc (lv' := [(5, .int (iI ((n + 1)))), (8, .int (iI (0))), (7, .int (iI ((h ((n - (chg σ (p) (c)))))))), (6, .int (iI (n))), (4, .int (iI (0))), (3, .int (iI ((chg σ (p) (c))))), (2, .int (iI (p))), (0, .ref (b 0)), (1, .int (iI (c)))]) hx hb dX5_sums_187 hl (k := 3) rfl (by decide) rfl (fun ls hl => ?_)
                                refine lv_goto (tgt := 66) hx hb dX5_sums_190 (by decide) ?_
                                exact ih66 ((uI (h) (n) ((h (n))))) ((n + 1)) (by omega) (by omega) (mapM_dn (by omega) (by omega) hh (by unfold cmb; (first | rw [if_pos (show 0 ≤ n - chg σ p c ∧ n - chg σ p c ≤ 3168 by omega)] | rw [if_neg (show ¬ (0 ≤ n - chg σ p c ∧ n - chg σ p c ≤ 3168) by omega)]); (first | rw [if_pos (by omega)] | rw [if_neg (by omega)]))) _ _ hP hD hS ls (lv_sub hl [0, 4, 5, 6, 7, 8] rfl)
                              · skip
                                exfalso; omega
                            · skip
                              refine lv_aload_n hx hb dX5_sums_129 rfl (lv_at hl 6 rfl) ?_
                              refine va_get (D := D) (ci := 5) (v := .ref (b 5)) (C := RX5) (T := TX5) (N := 12) hx hb hts hin_X5 hown hK hP 0 rfl rfl 11 (by decide) hw_0 (fun _ h9 => h9) rfl dX5_sums_130 ?_
                              refine lv_iload hx hb dX5_sums_133 (lv_at hl 1 rfl) ?_
                              refine wi_iald hx hb hK hP 5 0 (n := 3169) (f := h) rfl rfl (i := n) (by omega) (by decide) dX5_sums_135 ?_
                              refine wi_iconst hx hb dX5_sums_136 ?_
                              refine wi_icmp_eq (tgt := 154) hx hb dX5_sums_137 (by decide) (by omega) (fun c_137 => ?_) (fun c_137 => ?_)
                              · skip
                                refine wi_iconst hx hb dX5_sums_154 ?_
                                refine lv_goto (tgt := 159) hx hb dX5_sums_155 (by decide) ?_
                                refine lv_istore (lv' := [(8, .int (iI (1))), (7, .int (iI ((h ((n - (chg σ (p) (c)))))))), (6, .int (iI (n))), (5, .int (iI (n))), (4, .int (iI (0))), (3, .int (iI ((chg σ (p) (c))))), (2, .int (iI (p))), (0, .ref (b 0)), (1, .int (iI (c)))]) hx hb dX5_sums_159 hl (by decide) rfl (fun ls hl => ?_)
                                refine lv_aload_n hx hb dX5_sums_161 rfl (lv_at hl 7 rfl) ?_
                                refine va_get (D := D) (ci := 5) (v := .ref (b 5)) (C := RX5) (T := TX5) (N := 12) hx hb hts hin_X5 hown hK hP 0 rfl rfl 11 (by decide) hw_0 (fun _ h9 => h9) rfl dX5_sums_162 ?_
                                refine lv_iload hx hb dX5_sums_165 (lv_at hl 2 rfl) ?_
                                refine lv_iload hx hb dX5_sums_167 (lv_at hl 0 rfl) ?_
                                refine wi_if_eq (tgt := 179) hx hb dX5_sums_169 (by decide) (by omega) (fun c_169 => ?_) (fun c_169 => ?_)
                                · skip
                                  exfalso; omega
                                · skip
                                  refine lv_iload hx hb dX5_sums_172 (lv_at hl 1 rfl) ?_
                                  refine wi_iconst hx hb dX5_sums_174 ?_
                                  refine wi_iadd hx hb dX5_sums_175 ?_
                                  refine lv_goto (tgt := 186) hx hb dX5_sums_176 (by decide) ?_
                                  refine wi_iast hx hb hK hP hD hS 5 0 (n := 3169) (f := h) rfl rfl (i := n) (by omega) (by decide) dX5_sums_186 (fun H locs hP hD hS => ?_)
                                  have hP : va_P D vwCl (fl [mdW cI b (sU (sR μ 5 h) 5 (n) (((h ((n - (chg σ (p) (c))))) + 1)))]) H := hP
                                  have hD : va_D A (fl [mdW cI b (sU (sR μ 5 h) 5 (n) (((h ((n - (chg σ (p) (c))))) + 1)))]) := hD
                                  refine wi_iinc (lv' := [(5, .int (iI ((n + 1)))), (8, .int (iI (1))), (7, .int (iI ((h ((n - (chg σ (p) (c)))))))), (6, .int (iI (n))), (4, .int (iI (0))), (3, .int (iI ((chg σ (p) (c))))), (2, .int (iI (p))), (0, .ref (b 0)), (1, .int (iI (c)))]) hx hb dX5_sums_187 hl (k := 3) rfl (by decide) rfl (fun ls hl => ?_)
                                  refine lv_goto (tgt := 66) hx hb dX5_sums_190 (by decide) ?_
                                  exact ih66 ((uI (h) (n) (((h ((n - (chg σ (p) (c))))) + 1)))) ((n + 1)) (by omega) (by omega) (mapM_dn (by omega) (by omega) hh (by unfold cmb; (first | rw [if_pos (show 0 ≤ n - chg σ p c ∧ n - chg σ p c ≤ 3168 by omega)] | rw [if_neg (show ¬ (0 ≤ n - chg σ p c ∧ n - chg σ p c ≤ 3168) by omega)]); (first | rw [if_pos (by omega)] | rw [if_neg (by omega)]))) _ _ hP hD hS ls (lv_sub hl [0, 4, 5, 6, 7, 8] rfl)
                              · skip
                                refine lv_iload hx hb dX5_sums_140 (lv_at hl 0 rfl) ?_
                                refine wi_iconst hx hb dX5_sums_142 ?_
                                refine wi_iadd hx hb dX5_sums_143 ?_
                                refine lv_aload_n hx hb dX5_sums_144 rfl (lv_at hl 6 rfl) ?_
                                refine va_get (D := D) (ci := 5) (v := .ref (b 5)) (C := RX5) (T := TX5) (N := 12) hx hb hts hin_X5 hown hK hP 0 rfl rfl 11 (by decide) hw_0 (fun _ h9 => h9) rfl dX5_sums_145 ?_
                                refine lv_iload hx hb dX5_sums_148 (lv_at hl 1 rfl) ?_
                                refine wi_iald hx hb hK hP 5 0 (n := 3169) (f := h) rfl rfl (i := n) (by omega) (by decide) dX5_sums_150 ?_
                                refine wi_icmp_ge (tgt := 158) hx hb dX5_sums_151 (by decide) (by omega) (fun c_151 => ?_) (fun c_151 => ?_)
                                · skip
                                  refine wi_iconst hx hb dX5_sums_158 ?_
                                  refine lv_istore (lv' := [(8, .int (iI (0))), (7, .int (iI ((h ((n - (chg σ (p) (c)))))))), (6, .int (iI (n))), (5, .int (iI (n))), (4, .int (iI (0))), (3, .int (iI ((chg σ (p) (c))))), (2, .int (iI (p))), (0, .ref (b 0)), (1, .int (iI (c)))]) hx hb dX5_sums_159 hl (by decide) rfl (fun ls hl => ?_)
                                  refine lv_aload_n hx hb dX5_sums_161 rfl (lv_at hl 7 rfl) ?_
                                  refine va_get (D := D) (ci := 5) (v := .ref (b 5)) (C := RX5) (T := TX5) (N := 12) hx hb hts hin_X5 hown hK hP 0 rfl rfl 11 (by decide) hw_0 (fun _ h9 => h9) rfl dX5_sums_162 ?_
                                  refine lv_iload hx hb dX5_sums_165 (lv_at hl 2 rfl) ?_
                                  refine lv_iload hx hb dX5_sums_167 (lv_at hl 0 rfl) ?_
                                  refine wi_if_eq (tgt := 179) hx hb dX5_sums_169 (by decide) (by omega) (fun c_169 => ?_) (fun c_169 => ?_)
                                  · skip
                                    refine lv_aload_n hx hb dX5_sums_179 rfl (lv_at hl 7 rfl) ?_
                                    refine va_get (D := D) (ci := 5) (v := .ref (b 5)) (C := RX5) (T := TX5) (N := 12) hx hb hts hin_X5 hown hK hP 0 rfl rfl 11 (by decide) hw_0 (fun _ h9 => h9) rfl dX5_sums_180 ?_
                                    refine lv_iload hx hb dX5_sums_183 (lv_at hl 2 rfl) ?_
                                    refine wi_iald hx hb hK hP 5 0 (n := 3169) (f := h) rfl rfl (i := n) (by omega) (by decide) dX5_sums_185 ?_
                                    refine wi_iast hx hb hK hP hD hS 5 0 (n := 3169) (f := h) rfl rfl (i := n) (by omega) (by decide) dX5_sums_186 (fun H locs hP hD hS => ?_)
                                    have hP : va_P D vwCl (fl [mdW cI b (sU (sR μ 5 h) 5 (n) ((h (n))))]) H := hP
                                    have hD : va_D A (fl [mdW cI b (sU (sR μ 5 h) 5 (n) ((h (n))))]) := hD
                                    refine wi_iinc (lv' := [(5, .int (iI ((n + 1)))), (8, .int (iI (0))), (7, .int (iI ((h ((n - (chg σ (p) (c)))))))), (6, .int (iI (n))), (4, .int (iI (0))), (3, .int (iI ((chg σ (p) (c))))), (2, .int (iI (p))), (0, .ref (b 0)), (1, .int (iI (c)))]) hx hb dX5_sums_187 hl (k := 3) rfl (by decide) rfl (fun ls hl => ?_)
                                    refine lv_goto (tgt := 66) hx hb dX5_sums_190 (by decide) ?_
                                    exact ih66 ((uI (h) (n) ((h (n))))) ((n + 1)) (by omega) (by omega) (mapM_dn (by omega) (by omega) hh (by unfold cmb; (first | rw [if_pos (show 0 ≤ n - chg σ p c ∧ n - chg σ p c ≤ 3168 by omega)] | rw [if_neg (show ¬ (0 ≤ n - chg σ p c ∧ n - chg σ p c ≤ 3168) by omega)]); (first | rw [if_pos (by omega)] | rw [if_neg (by omega)]))) _ _ hP hD hS ls (lv_sub hl [0, 4, 5, 6, 7, 8] rfl)
                                  · skip
                                    exfalso; omega
                                · skip
                                  refine wi_iconst hx hb dX5_sums_154 ?_
                                  refine lv_goto (tgt := 159) hx hb dX5_sums_155 (by decide) ?_
                                  refine lv_istore (lv' := [(8, .int (iI (1))), (7, .int (iI ((h ((n - (chg σ (p) (c)))))))), (6, .int (iI (n))), (5, .int (iI (n))), (4, .int (iI (0))), (3, .int (iI ((chg σ (p) (c))))), (2, .int (iI (p))), (0, .ref (b 0)), (1, .int (iI (c)))]) hx hb dX5_sums_159 hl (by decide) rfl (fun ls hl => ?_)
                                  refine lv_aload_n hx hb dX5_sums_161 rfl (lv_at hl 7 rfl) ?_
                                  refine va_get (D := D) (ci := 5) (v := .ref (b 5)) (C := RX5) (T := TX5) (N := 12) hx hb hts hin_X5 hown hK hP 0 rfl rfl 11 (by decide) hw_0 (fun _ h9 => h9) rfl dX5_sums_162 ?_
                                  refine lv_iload hx hb dX5_sums_165 (lv_at hl 2 rfl) ?_
                                  refine lv_iload hx hb dX5_sums_167 (lv_at hl 0 rfl) ?_
                                  refine wi_if_eq (tgt := 179) hx hb dX5_sums_169 (by decide) (by omega) (fun c_169 => ?_) (fun c_169 => ?_)
                                  · skip
                                    exfalso; omega
                                  · skip
                                    refine lv_iload hx hb dX5_sums_172 (lv_at hl 1 rfl) ?_
                                    refine wi_iconst hx hb dX5_sums_174 ?_
                                    refine wi_iadd hx hb dX5_sums_175 ?_
                                    refine lv_goto (tgt := 186) hx hb dX5_sums_176 (by decide) ?_
                                    refine wi_iast hx hb hK hP hD hS 5 0 (n := 3169) (f := h) rfl rfl (i := n) (by omega) (by decide) dX5_sums_186 (fun H locs hP hD hS => ?_)
                                    have hP : va_P D vwCl (fl [mdW cI b (sU (sR μ 5 h) 5 (n) (((h ((n - (chg σ (p) (c))))) + 1)))]) H := hP
                                    have hD : va_D A (fl [mdW cI b (sU (sR μ 5 h) 5 (n) (((h ((n - (chg σ (p) (c))))) + 1)))]) := hD
                                    refine wi_iinc (lv' := [(5, .int (iI ((n + 1)))), (8, .int (iI (1))), (7, .int (iI ((h ((n - (chg σ (p) (c)))))))), (6, .int (iI (n))), (4, .int (iI (0))), (3, .int (iI ((chg σ (p) (c))))), (2, .int (iI (p))), (0, .ref (b 0)), (1, .int (iI (c)))]) hx hb dX5_sums_187 hl (k := 3) rfl (by decide) rfl (fun ls hl => ?_)
                                    refine lv_goto (tgt := 66) hx hb dX5_sums_190 (by decide) ?_
                                    exact ih66 ((uI (h) (n) (((h ((n - (chg σ (p) (c))))) + 1)))) ((n + 1)) (by omega) (by omega) (mapM_dn (by omega) (by omega) hh (by unfold cmb; (first | rw [if_pos (show 0 ≤ n - chg σ p c ∧ n - chg σ p c ≤ 3168 by omega)] | rw [if_neg (show ¬ (0 ≤ n - chg σ p c ∧ n - chg σ p c ≤ 3168) by omega)]); (first | rw [if_pos (by omega)] | rw [if_neg (by omega)]))) _ _ hP hD hS ls (lv_sub hl [0, 4, 5, 6, 7, 8] rfl)
                        · skip
                          exfalso; omega
                exact L66 _ (g) (0) (Nat.lt_succ_self _) (by omega) (mapM_0 (by omega)) _ _ hP hD hS ls (lv_sub hl [0, 1, 2, 3, 4, 5] rfl)
              · skip
                refine wi_sipush hx hb dX5_sums_54 (by decide) ?_
                refine lv_goto (tgt := 61) hx hb dX5_sums_57 (by decide) ?_
                refine lv_istore (lv' := [(4, .int (iI (3168))), (3, .int (iI ((chg σ (p) (c))))), (2, .int (iI (p))), (0, .ref (b 0)), (1, .int (iI (c)))]) hx hb dX5_sums_61 hl (by decide) rfl (fun ls hl => ?_)
                refine wi_iconst hx hb dX5_sums_63 ?_
                refine lv_istore (lv' := [(5, .int (iI (0))), (4, .int (iI (3168))), (3, .int (iI ((chg σ (p) (c))))), (2, .int (iI (p))), (0, .ref (b 0)), (1, .int (iI (c)))]) hx hb dX5_sums_64 hl (by decide) rfl (fun ls hl => ?_)
                have L66 : ∀ (k66 : Nat), ∀ (h : Int → Int) (n : Int), (3169 - n).toNat < k66 → (0 ≤ n ∧ n ≤ 3169 ∧ (n = 0 ∨ chg σ p c ≠ 0)) → (h = mapM g (chg σ p c) (3169 - n) 3168) → ∀ (H : Heap) (locs : List Loc), va_P D vwCl (fl [mdW cI b (sR μ 5 h)]) H → va_D A (fl [mdW cI b (sR μ 5 h)]) → va_S A s.heap H locs → ∀ (ls : Array Slot), lv_has ls 9 [(5, .int (iI (n))), (4, .int (iI (3168))), (3, .int (iI ((chg σ (p) (c))))), (2, .int (iI (p))), (0, .ref (b 0)), (1, .int (iI (c)))] → W p9 l e9 ({ frames := 2, cells := 0, slots := 0, locals := 44 } : Room) s m ([.ref (b 0), .int (iI (c))] : List Value).toArray below9 meth9 c9 H locs 0 0 (MQ below9 (wq_i (fun (r : Int) (f : Int → Int) => r = cntW σ c ∧ ∀ k : Int, 0 ≤ k → k ≤ 3168 → f k = FW σ c (σ 0 1).toNat (k - 1584)) (fun (f : Int → Int) => (bW D [(cI, FieldType.int)] (fl [mdW cI b (sR μ 5 f)]) A)) A) ([.ref (b 0), .int (iI (c))] : List Value).toArray s 0 0 A) (F0 m 66 ls []) := by
                  intro k66
                  induction k66 with
                  | zero =>
                    intro h n hm
                    exact absurd hm (Nat.not_lt_zero _)
                  | succ k66 ih66 =>
                    intro h n hm66 hn9 hh H locs hP hD hS ls hl
                    have hbh : ∀ k : Int, 0 ≤ k → k ≤ 3168 → -1 ≤ h k ∧ h k ≤ 17 + 1 := by
                      rw [hh]
                      exact mapM_r (by omega) (fun k h0 h1 => by rw [hg k h0 h1]; have := FW_r σ c p.toNat (k - 1584); omega)
                    refine lv_iload hx hb dX5_sums_66 (lv_at hl 0 rfl) ?_
                    refine wi_sipush hx hb dX5_sums_68 (by decide) ?_
                    refine wi_icmp_ge (tgt := 193) hx hb dX5_sums_71 (by decide) (by omega) (fun c_71 => ?_) (fun c_71 => ?_)
                    · skip
                      refine wi_iinc (lv' := [(2, .int (iI ((p + 1)))), (5, .int (iI (n))), (4, .int (iI (3168))), (3, .int (iI ((chg σ (p) (c))))), (0, .ref (b 0)), (1, .int (iI (c)))]) hx hb dX5_sums_193 hl (k := 3) rfl (by decide) rfl (fun ls hl => ?_)
                      refine lv_goto (tgt := 33) hx hb dX5_sums_196 (by decide) ?_
                      exact ih33 (h) ((p + 1)) (by omega) (by omega) (fun j h0 h1 => by first | (rw [FW_step σ c _ (by omega), if_pos (by omega), hh, ← mapM_0 (by omega)]; exact hg j h0 h1) | (rw [hh, show (3169 : Int) - n = 0 by omega]; exact FW_mapM hI (by omega) hg (by omega) j h0 h1) | (rw [hh, show n - 1 = (3168 : Int) by omega]; exact FW_mapM hI (by omega) hg (by omega) j h0 h1)) _ _ hP hD hS ls (lv_sub hl [0, 4, 5] rfl)
                    · skip
                      refine lv_iload_n hx hb dX5_sums_74 rfl (lv_at hl 2 rfl) ?_
                      refine wi_if_eq (tgt := 193) hx hb dX5_sums_75 (by decide) (by omega) (fun c_75 => ?_) (fun c_75 => ?_)
                      · skip
                        refine wi_iinc (lv' := [(2, .int (iI ((p + 1)))), (5, .int (iI (n))), (4, .int (iI (3168))), (3, .int (iI ((chg σ (p) (c))))), (0, .ref (b 0)), (1, .int (iI (c)))]) hx hb dX5_sums_193 hl (k := 3) rfl (by decide) rfl (fun ls hl => ?_)
                        refine lv_goto (tgt := 33) hx hb dX5_sums_196 (by decide) ?_
                        exact ih33 (h) ((p + 1)) (by omega) (by omega) (fun j h0 h1 => by first | (rw [FW_step σ c _ (by omega), if_pos (by omega), hh, ← mapM_0 (by omega)]; exact hg j h0 h1) | (rw [hh, show (3169 : Int) - n = 0 by omega]; exact FW_mapM hI (by omega) hg (by omega) j h0 h1) | (rw [hh, show n - 1 = (3168 : Int) by omega]; exact FW_mapM hI (by omega) hg (by omega) j h0 h1)) _ _ hP hD hS ls (lv_sub hl [0, 4, 5] rfl)
                      · skip
                        refine lv_iload_n hx hb dX5_sums_78 rfl (lv_at hl 2 rfl) ?_
                        refine wi_if_le (tgt := 90) hx hb dX5_sums_79 (by decide) (by omega) (fun c_79 => ?_) (fun c_79 => ?_)
                        · skip
                          exfalso; omega
                        · skip
                          refine lv_iload hx hb dX5_sums_82 (lv_at hl 1 rfl) ?_
                          refine lv_iload hx hb dX5_sums_84 (lv_at hl 0 rfl) ?_
                          refine wi_isub hx hb dX5_sums_86 ?_
                          refine lv_goto (tgt := 92) hx hb dX5_sums_87 (by decide) ?_
                          refine lv_istore (lv' := [(6, .int (iI ((3168 - n)))), (5, .int (iI (n))), (4, .int (iI (3168))), (3, .int (iI ((chg σ (p) (c))))), (2, .int (iI (p))), (0, .ref (b 0)), (1, .int (iI (c)))]) hx hb dX5_sums_92 hl (by decide) rfl (fun ls hl => ?_)
                          have hv1 := hbh (3168 - n) (by omega) (by omega)
                          refine lv_iload hx hb dX5_sums_94 (lv_at hl 0 rfl) ?_
                          refine lv_iload_n hx hb dX5_sums_96 rfl (lv_at hl 3 rfl) ?_
                          refine wi_isub hx hb dX5_sums_97 ?_
                          refine wi_iconst hx hb dX5_sums_98 ?_
                          refine wi_sipush hx hb dX5_sums_99 (by decide) ?_
                          refine wr_calli (va_runS (As := [.int (iI (((3168 - n) - (chg σ (p) (c))))), .int (iI (0)), .int (iI (3168))]) (rest := []) ⟨hx, hb, hml, hown, hts⟩ (c_X5_in l D cI cO cC cL (((3168 - n) - (chg σ (p) (c)))) (0) (3168) (by omega) (by omega) (by omega)) (cwS 3 hts gX5_sums_X5_in rfl rfl rfl (by decide +kernel) ⟨Nat.le_of_ble_eq_true rfl, Nat.le_of_ble_eq_true rfl⟩) ⟨fun _ _ _ _ h => h, fun U hU hW => ⟨rfl, trivial⟩⟩ rfl rfl hl.1 rfl (lv_room (Nat.le_of_ble_eq_true rfl)) dX5_sums_102 ⟨(Nat.zero_le _), (Nat.zero_le _)⟩) (fun r3 hr3 => ?_)
                          subst hr3
                          refine wi_if_eq (tgt := 120) hx hb dX5_sums_105 (by decide) (by omega) (fun c_105 => ?_) (fun c_105 => ?_)
                          · skip
                            refine wi_iconst hx hb dX5_sums_120 ?_
                            refine lv_istore (lv' := [(7, .int (iI (-1))), (6, .int (iI ((3168 - n)))), (5, .int (iI (n))), (4, .int (iI (3168))), (3, .int (iI ((chg σ (p) (c))))), (2, .int (iI (p))), (0, .ref (b 0)), (1, .int (iI (c)))]) hx hb dX5_sums_121 hl (by decide) rfl (fun ls hl => ?_)
                            refine lv_iload hx hb dX5_sums_123 (lv_at hl 0 rfl) ?_
                            refine wi_iconst hx hb dX5_sums_125 ?_
                            refine wi_icmp_eq (tgt := 158) hx hb dX5_sums_126 (by decide) (by omega) (fun c_126 => ?_) (fun c_126 => ?_)
                            · skip
                              refine wi_iconst hx hb dX5_sums_158 ?_
                              refine lv_istore (lv' := [(8, .int (iI (0))), (7, .int (iI (-1))), (6, .int (iI ((3168 - n)))), (5, .int (iI (n))), (4, .int (iI (3168))), (3, .int (iI ((chg σ (p) (c))))), (2, .int (iI (p))), (0, .ref (b 0)), (1, .int (iI (c)))]) hx hb dX5_sums_159 hl (by decide) rfl (fun ls hl => ?_)
                              refine lv_aload_n hx hb dX5_sums_161 rfl (lv_at hl 7 rfl) ?_
                              refine va_get (D := D) (ci := 5) (v := .ref (b 5)) (C := RX5) (T := TX5) (N := 12) hx hb hts hin_X5 hown hK hP 0 rfl rfl 11 (by decide) hw_0 (fun _ h9 => h9) rfl dX5_sums_162 ?_
                              refine lv_iload hx hb dX5_sums_165 (lv_at hl 2 rfl) ?_
                              refine lv_iload hx hb dX5_sums_167 (lv_at hl 0 rfl) ?_
                              refine wi_if_eq (tgt := 179) hx hb dX5_sums_169 (by decide) (by omega) (fun c_169 => ?_) (fun c_169 => ?_)
                              · skip
                                refine lv_aload_n hx hb dX5_sums_179 rfl (lv_at hl 7 rfl) ?_
                                refine va_get (D := D) (ci := 5) (v := .ref (b 5)) (C := RX5) (T := TX5) (N := 12) hx hb hts hin_X5 hown hK hP 0 rfl rfl 11 (by decide) hw_0 (fun _ h9 => h9) rfl dX5_sums_180 ?_
                                refine lv_iload hx hb dX5_sums_183 (lv_at hl 2 rfl) ?_
                                refine wi_iald hx hb hK hP 5 0 (n := 3169) (f := h) rfl rfl (i := (3168 - n)) (by omega) (by decide) dX5_sums_185 ?_
                                refine wi_iast hx hb hK hP hD hS 5 0 (n := 3169) (f := h) rfl rfl (i := (3168 - n)) (by omega) (by decide) dX5_sums_186 (fun H locs hP hD hS => ?_)
                                have hP : va_P D vwCl (fl [mdW cI b (sU (sR μ 5 h) 5 ((3168 - n)) ((h ((3168 - n)))))]) H := hP
                                have hD : va_D A (fl [mdW cI b (sU (sR μ 5 h) 5 ((3168 - n)) ((h ((3168 - n)))))]) := hD
                                refine wi_iinc (lv' := [(5, .int (iI ((n + 1)))), (8, .int (iI (0))), (7, .int (iI (-1))), (6, .int (iI ((3168 - n)))), (4, .int (iI (3168))), (3, .int (iI ((chg σ (p) (c))))), (2, .int (iI (p))), (0, .ref (b 0)), (1, .int (iI (c)))]) hx hb dX5_sums_187 hl (k := 3) rfl (by decide) rfl (fun ls hl => ?_)
                                refine lv_goto (tgt := 66) hx hb dX5_sums_190 (by decide) ?_
                                exact ih66 ((uI (h) ((3168 - n)) ((h ((3168 - n)))))) ((n + 1)) (by omega) (by omega) (mapM_up (by omega) (by omega) hh (by unfold cmb; (first | rw [if_pos (show 0 ≤ (3168 - n) - chg σ p c ∧ (3168 - n) - chg σ p c ≤ 3168 by omega)] | rw [if_neg (show ¬ (0 ≤ (3168 - n) - chg σ p c ∧ (3168 - n) - chg σ p c ≤ 3168) by omega)]); (first | rw [if_pos (by omega)] | rw [if_neg (by omega)]))) _ _ hP hD hS ls (lv_sub hl [0, 4, 5, 6, 7, 8] rfl)
                              · skip
                                exfalso; omega
                            · skip
                              exfalso; omega
                          · skip
                            have hv2 := hbh ((3168 - n) - chg σ p c) (by omega) (by omega)
                            refine lv_aload_n hx hb dX5_sums_108 rfl (lv_at hl 5 rfl) ?_
                            refine va_get (D := D) (ci := 5) (v := .ref (b 5)) (C := RX5) (T := TX5) (N := 12) hx hb hts hin_X5 hown hK hP 0 rfl rfl 11 (by decide) hw_0 (fun _ h9 => h9) rfl dX5_sums_109 ?_
                            refine lv_iload hx hb dX5_sums_112 (lv_at hl 0 rfl) ?_
                            refine lv_iload_n hx hb dX5_sums_114 rfl (lv_at hl 3 rfl) ?_
                            refine wi_isub hx hb dX5_sums_115 ?_
                            refine wi_iald hx hb hK hP 5 0 (n := 3169) (f := h) rfl rfl (i := ((3168 - n) - (chg σ (p) (c)))) (by omega) (by decide) dX5_sums_116 ?_
                            refine lv_goto (tgt := 121) hx hb dX5_sums_117 (by decide) ?_
                            refine lv_istore (lv' := [(7, .int (iI ((h (((3168 - n) - (chg σ (p) (c)))))))), (6, .int (iI ((3168 - n)))), (5, .int (iI (n))), (4, .int (iI (3168))), (3, .int (iI ((chg σ (p) (c))))), (2, .int (iI (p))), (0, .ref (b 0)), (1, .int (iI (c)))]) hx hb dX5_sums_121 hl (by decide) rfl (fun ls hl => ?_)
                            refine lv_iload hx hb dX5_sums_123 (lv_at hl 0 rfl) ?_
                            refine wi_iconst hx hb dX5_sums_125 ?_
                            refine wi_icmp_eq (tgt := 158) hx hb dX5_sums_126 (by decide) (by omega) (fun c_126 => ?_) (fun c_126 => ?_)
                            · skip
                              refine wi_iconst hx hb dX5_sums_158 ?_
                              refine lv_istore (lv' := [(8, .int (iI (0))), (7, .int (iI ((h (((3168 - n) - (chg σ (p) (c)))))))), (6, .int (iI ((3168 - n)))), (5, .int (iI (n))), (4, .int (iI (3168))), (3, .int (iI ((chg σ (p) (c))))), (2, .int (iI (p))), (0, .ref (b 0)), (1, .int (iI (c)))]) hx hb dX5_sums_159 hl (by decide) rfl (fun ls hl => ?_)
                              refine lv_aload_n hx hb dX5_sums_161 rfl (lv_at hl 7 rfl) ?_
                              refine va_get (D := D) (ci := 5) (v := .ref (b 5)) (C := RX5) (T := TX5) (N := 12) hx hb hts hin_X5 hown hK hP 0 rfl rfl 11 (by decide) hw_0 (fun _ h9 => h9) rfl dX5_sums_162 ?_
                              refine lv_iload hx hb dX5_sums_165 (lv_at hl 2 rfl) ?_
                              refine lv_iload hx hb dX5_sums_167 (lv_at hl 0 rfl) ?_
                              refine wi_if_eq (tgt := 179) hx hb dX5_sums_169 (by decide) (by omega) (fun c_169 => ?_) (fun c_169 => ?_)
                              · skip
                                refine lv_aload_n hx hb dX5_sums_179 rfl (lv_at hl 7 rfl) ?_
                                refine va_get (D := D) (ci := 5) (v := .ref (b 5)) (C := RX5) (T := TX5) (N := 12) hx hb hts hin_X5 hown hK hP 0 rfl rfl 11 (by decide) hw_0 (fun _ h9 => h9) rfl dX5_sums_180 ?_
                                refine lv_iload hx hb dX5_sums_183 (lv_at hl 2 rfl) ?_
                                refine wi_iald hx hb hK hP 5 0 (n := 3169) (f := h) rfl rfl (i := (3168 - n)) (by omega) (by decide) dX5_sums_185 ?_
                                refine wi_iast hx hb hK hP hD hS 5 0 (n := 3169) (f := h) rfl rfl (i := (3168 - n)) (by omega) (by decide) dX5_sums_186 (fun H locs hP hD hS => ?_)
                                have hP : va_P D vwCl (fl [mdW cI b (sU (sR μ 5 h) 5 ((3168 - n)) ((h ((3168 - n)))))]) H := hP
                                have hD : va_D A (fl [mdW cI b (sU (sR μ 5 h) 5 ((3168 - n)) ((h ((3168 - n)))))]) := hD
                                refine wi_iinc (lv' := [(5, .int (iI ((n + 1)))), (8, .int (iI (0))), (7, .int (iI ((h (((3168 - n) - (chg σ (p) (c)))))))), (6, .int (iI ((3168 - n)))), (4, .int (iI (3168))), (3, .int (iI ((chg σ (p) (c))))), (2, .int (iI (p))), (0, .ref (b 0)), (1, .int (iI (c)))]) hx hb dX5_sums_187 hl (k := 3) rfl (by decide) rfl (fun ls hl => ?_)
                                refine lv_goto (tgt := 66) hx hb dX5_sums_190 (by decide) ?_
                                exact ih66 ((uI (h) ((3168 - n)) ((h ((3168 - n)))))) ((n + 1)) (by omega) (by omega) (mapM_up (by omega) (by omega) hh (by unfold cmb; (first | rw [if_pos (show 0 ≤ (3168 - n) - chg σ p c ∧ (3168 - n) - chg σ p c ≤ 3168 by omega)] | rw [if_neg (show ¬ (0 ≤ (3168 - n) - chg σ p c ∧ (3168 - n) - chg σ p c ≤ 3168) by omega)]); (first | rw [if_pos (by omega)] | rw [if_neg (by omega)]))) _ _ hP hD hS ls (lv_sub hl [0, 4, 5, 6, 7, 8] rfl)
                              · skip
                                exfalso; omega
                            · skip
                              refine lv_aload_n hx hb dX5_sums_129 rfl (lv_at hl 6 rfl) ?_
                              refine va_get (D := D) (ci := 5) (v := .ref (b 5)) (C := RX5) (T := TX5) (N := 12) hx hb hts hin_X5 hown hK hP 0 rfl rfl 11 (by decide) hw_0 (fun _ h9 => h9) rfl dX5_sums_130 ?_
                              refine lv_iload hx hb dX5_sums_133 (lv_at hl 1 rfl) ?_
                              refine wi_iald hx hb hK hP 5 0 (n := 3169) (f := h) rfl rfl (i := (3168 - n)) (by omega) (by decide) dX5_sums_135 ?_
                              refine wi_iconst hx hb dX5_sums_136 ?_
                              refine wi_icmp_eq (tgt := 154) hx hb dX5_sums_137 (by decide) (by omega) (fun c_137 => ?_) (fun c_137 => ?_)
                              · skip
                                refine wi_iconst hx hb dX5_sums_154 ?_
                                refine lv_goto (tgt := 159) hx hb dX5_sums_155 (by decide) ?_
                                refine lv_istore (lv' := [(8, .int (iI (1))), (7, .int (iI ((h (((3168 - n) - (chg σ (p) (c)))))))), (6, .int (iI ((3168 - n)))), (5, .int (iI (n))), (4, .int (iI (3168))), (3, .int (iI ((chg σ (p) (c))))), (2, .int (iI (p))), (0, .ref (b 0)), (1, .int (iI (c)))]) hx hb dX5_sums_159 hl (by decide) rfl (fun ls hl => ?_)
                                refine lv_aload_n hx hb dX5_sums_161 rfl (lv_at hl 7 rfl) ?_
                                refine va_get (D := D) (ci := 5) (v := .ref (b 5)) (C := RX5) (T := TX5) (N := 12) hx hb hts hin_X5 hown hK hP 0 rfl rfl 11 (by decide) hw_0 (fun _ h9 => h9) rfl dX5_sums_162 ?_
                                refine lv_iload hx hb dX5_sums_165 (lv_at hl 2 rfl) ?_
                                refine lv_iload hx hb dX5_sums_167 (lv_at hl 0 rfl) ?_
                                refine wi_if_eq (tgt := 179) hx hb dX5_sums_169 (by decide) (by omega) (fun c_169 => ?_) (fun c_169 => ?_)
                                · skip
                                  exfalso; omega
                                · skip
                                  refine lv_iload hx hb dX5_sums_172 (lv_at hl 1 rfl) ?_
                                  refine wi_iconst hx hb dX5_sums_174 ?_
                                  refine wi_iadd hx hb dX5_sums_175 ?_
                                  refine lv_goto (tgt := 186) hx hb dX5_sums_176 (by decide) ?_
                                  refine wi_iast hx hb hK hP hD hS 5 0 (n := 3169) (f := h) rfl rfl (i := (3168 - n)) (by omega) (by decide) dX5_sums_186 (fun H locs hP hD hS => ?_)
                                  have hP : va_P D vwCl (fl [mdW cI b (sU (sR μ 5 h) 5 ((3168 - n)) (((h (((3168 - n) - (chg σ (p) (c))))) + 1)))]) H := hP
                                  have hD : va_D A (fl [mdW cI b (sU (sR μ 5 h) 5 ((3168 - n)) (((h (((3168 - n) - (chg σ (p) (c))))) + 1)))]) := hD
                                  refine wi_iinc (lv' := [(5, .int (iI ((n + 1)))), (8, .int (iI (1))), (7, .int (iI ((h (((3168 - n) - (chg σ (p) (c)))))))), (6, .int (iI ((3168 - n)))), (4, .int (iI (3168))), (3, .int (iI ((chg σ (p) (c))))), (2, .int (iI (p))), (0, .ref (b 0)), (1, .int (iI (c)))]) hx hb dX5_sums_187 hl (k := 3) rfl (by decide) rfl (fun ls hl => ?_)
                                  refine lv_goto (tgt := 66) hx hb dX5_sums_190 (by decide) ?_
                                  exact ih66 ((uI (h) ((3168 - n)) (((h (((3168 - n) - (chg σ (p) (c))))) + 1)))) ((n + 1)) (by omega) (by omega) (mapM_up (by omega) (by omega) hh (by unfold cmb; (first | rw [if_pos (show 0 ≤ (3168 - n) - chg σ p c ∧ (3168 - n) - chg σ p c ≤ 3168 by omega)] | rw [if_neg (show ¬ (0 ≤ (3168 - n) - chg σ p c ∧ (3168 - n) - chg σ p c ≤ 3168) by omega)]); (first | rw [if_pos (by omega)] | rw [if_neg (by omega)]))) _ _ hP hD hS ls (lv_sub hl [0, 4, 5, 6, 7, 8] rfl)
                              · skip
                                refine lv_iload hx hb dX5_sums_140 (lv_at hl 0 rfl) ?_
                                refine wi_iconst hx hb dX5_sums_142 ?_
                                refine wi_iadd hx hb dX5_sums_143 ?_
                                refine lv_aload_n hx hb dX5_sums_144 rfl (lv_at hl 6 rfl) ?_
                                refine va_get (D := D) (ci := 5) (v := .ref (b 5)) (C := RX5) (T := TX5) (N := 12) hx hb hts hin_X5 hown hK hP 0 rfl rfl 11 (by decide) hw_0 (fun _ h9 => h9) rfl dX5_sums_145 ?_
                                refine lv_iload hx hb dX5_sums_148 (lv_at hl 1 rfl) ?_
                                refine wi_iald hx hb hK hP 5 0 (n := 3169) (f := h) rfl rfl (i := (3168 - n)) (by omega) (by decide) dX5_sums_150 ?_
                                refine wi_icmp_ge (tgt := 158) hx hb dX5_sums_151 (by decide) (by omega) (fun c_151 => ?_) (fun c_151 => ?_)
                                · skip
                                  refine wi_iconst hx hb dX5_sums_158 ?_
                                  refine lv_istore (lv' := [(8, .int (iI (0))), (7, .int (iI ((h (((3168 - n) - (chg σ (p) (c)))))))), (6, .int (iI ((3168 - n)))), (5, .int (iI (n))), (4, .int (iI (3168))), (3, .int (iI ((chg σ (p) (c))))), (2, .int (iI (p))), (0, .ref (b 0)), (1, .int (iI (c)))]) hx hb dX5_sums_159 hl (by decide) rfl (fun ls hl => ?_)
                                  refine lv_aload_n hx hb dX5_sums_161 rfl (lv_at hl 7 rfl) ?_
                                  refine va_get (D := D) (ci := 5) (v := .ref (b 5)) (C := RX5) (T := TX5) (N := 12) hx hb hts hin_X5 hown hK hP 0 rfl rfl 11 (by decide) hw_0 (fun _ h9 => h9) rfl dX5_sums_162 ?_
                                  refine lv_iload hx hb dX5_sums_165 (lv_at hl 2 rfl) ?_
                                  refine lv_iload hx hb dX5_sums_167 (lv_at hl 0 rfl) ?_
                                  refine wi_if_eq (tgt := 179) hx hb dX5_sums_169 (by decide) (by omega) (fun c_169 => ?_) (fun c_169 => ?_)
                                  · skip
                                    refine lv_aload_n hx hb dX5_sums_179 rfl (lv_at hl 7 rfl) ?_
                                    refine va_get (D := D) (ci := 5) (v := .ref (b 5)) (C := RX5) (T := TX5) (N := 12) hx hb hts hin_X5 hown hK hP 0 rfl rfl 11 (by decide) hw_0 (fun _ h9 => h9) rfl dX5_sums_180 ?_
                                    refine lv_iload hx hb dX5_sums_183 (lv_at hl 2 rfl) ?_
                                    refine wi_iald hx hb hK hP 5 0 (n := 3169) (f := h) rfl rfl (i := (3168 - n)) (by omega) (by decide) dX5_sums_185 ?_
                                    refine wi_iast hx hb hK hP hD hS 5 0 (n := 3169) (f := h) rfl rfl (i := (3168 - n)) (by omega) (by decide) dX5_sums_186 (fun H locs hP hD hS => ?_)
                                    have hP : va_P D vwCl (fl [mdW cI b (sU (sR μ 5 h) 5 ((3168 - n)) ((h ((3168 - n)))))]) H := hP
                                    have hD : va_D A (fl [mdW cI b (sU (sR μ 5 h) 5 ((3168 - n)) ((h ((3168 - n)))))]) := hD
                                    refine wi_iinc (lv' := [(5, .int (iI ((n + 1)))), (8, .int (iI (0))), (7, .int (iI ((h (((3168 - n) - (chg σ (p) (c)))))))), (6, .int (iI ((3168 - n)))), (4, .int (iI (3168))), (3, .int (iI ((chg σ (p) (c))))), (2, .int (iI (p))), (0, .ref (b 0)), (1, .int (iI (c)))]) hx hb dX5_sums_187 hl (k := 3) rfl (by decide) rfl (fun ls hl => ?_)
                                    refine lv_goto (tgt := 66) hx hb dX5_sums_190 (by decide) ?_
                                    exact ih66 ((uI (h) ((3168 - n)) ((h ((3168 - n)))))) ((n + 1)) (by omega) (by omega) (mapM_up (by omega) (by omega) hh (by unfold cmb; (first | rw [if_pos (show 0 ≤ (3168 - n) - chg σ p c ∧ (3168 - n) - chg σ p c ≤ 3168 by omega)] | rw [if_neg (show ¬ (0 ≤ (3168 - n) - chg σ p c ∧ (3168 - n) - chg σ p c ≤ 3168) by omega)]); (first | rw [if_pos (by omega)] | rw [if_neg (by omega)]))) _ _ hP hD hS ls (lv_sub hl [0, 4, 5, 6, 7, 8] rfl)
                                  · skip
                                    exfalso; omega
                                · skip
                                  refine wi_iconst hx hb dX5_sums_154 ?_
                                  refine lv_goto (tgt := 159) hx hb dX5_sums_155 (by decide) ?_
                                  refine lv_istore (lv' := [(8, .int (iI (1))), (7, .int (iI ((h (((3168 - n) - (chg σ (p) (c)))))))), (6, .int (iI ((3168 - n)))), (5, .int (iI (n))), (4, .int (iI (3168))), (3, .int (iI ((chg σ (p) (c))))), (2, .int (iI (p))), (0, .ref (b 0)), (1, .int (iI (c)))]) hx hb dX5_sums_159 hl (by decide) rfl (fun ls hl => ?_)
                                  refine lv_aload_n hx hb dX5_sums_161 rfl (lv_at hl 7 rfl) ?_
                                  refine va_get (D := D) (ci := 5) (v := .ref (b 5)) (C := RX5) (T := TX5) (N := 12) hx hb hts hin_X5 hown hK hP 0 rfl rfl 11 (by decide) hw_0 (fun _ h9 => h9) rfl dX5_sums_162 ?_
                                  refine lv_iload hx hb dX5_sums_165 (lv_at hl 2 rfl) ?_
                                  refine lv_iload hx hb dX5_sums_167 (lv_at hl 0 rfl) ?_
                                  refine wi_if_eq (tgt := 179) hx hb dX5_sums_169 (by decide) (by omega) (fun c_169 => ?_) (fun c_169 => ?_)
                                  · skip
                                    exfalso; omega
                                  · skip
                                    refine lv_iload hx hb dX5_sums_172 (lv_at hl 1 rfl) ?_
                                    refine wi_iconst hx hb dX5_sums_174 ?_
                                    refine wi_iadd hx hb dX5_sums_175 ?_
                                    refine lv_goto (tgt := 186) hx hb dX5_sums_176 (by decide) ?_
                                    refine wi_iast hx hb hK hP hD hS 5 0 (n := 3169) (f := h) rfl rfl (i := (3168 - n)) (by omega) (by decide) dX5_sums_186 (fun H locs hP hD hS => ?_)
                                    have hP : va_P D vwCl (fl [mdW cI b (sU (sR μ 5 h) 5 ((3168 - n)) (((h (((3168 - n) - (chg σ (p) (c))))) + 1)))]) H := hP
                                    have hD : va_D A (fl [mdW cI b (sU (sR μ 5 h) 5 ((3168 - n)) (((h (((3168 - n) - (chg σ (p) (c))))) + 1)))]) := hD
                                    refine wi_iinc (lv' := [(5, .int (iI ((n + 1)))), (8, .int (iI (1))), (7, .int (iI ((h (((3168 - n) - (chg σ (p) (c)))))))), (6, .int (iI ((3168 - n)))), (4, .int (iI (3168))), (3, .int (iI ((chg σ (p) (c))))), (2, .int (iI (p))), (0, .ref (b 0)), (1, .int (iI (c)))]) hx hb dX5_sums_187 hl (k := 3) rfl (by decide) rfl (fun ls hl => ?_)
                                    refine lv_goto (tgt := 66) hx hb dX5_sums_190 (by decide) ?_
                                    exact ih66 ((uI (h) ((3168 - n)) (((h (((3168 - n) - (chg σ (p) (c))))) + 1)))) ((n + 1)) (by omega) (by omega) (mapM_up (by omega) (by omega) hh (by unfold cmb; (first | rw [if_pos (show 0 ≤ (3168 - n) - chg σ p c ∧ (3168 - n) - chg σ p c ≤ 3168 by omega)] | rw [if_neg (show ¬ (0 ≤ (3168 - n) - chg σ p c ∧ (3168 - n) - chg σ p c ≤ 3168) by omega)]); (first | rw [if_pos (by omega)] | rw [if_neg (by omega)]))) _ _ hP hD hS ls (lv_sub hl [0, 4, 5, 6, 7, 8] rfl)
                exact L66 _ (g) (0) (Nat.lt_succ_self _) (by omega) (mapM_0 (by omega)) _ _ hP hD hS ls (lv_sub hl [0, 1, 2, 3, 4, 5] rfl)
        exact L33 _ ((uI (g) (1584) (0))) (0) (Nat.lt_succ_self _) (by omega) (fun j h0 h1 => by show uI g 1584 0 j = if j - 1584 = 0 then 0 else -1; exact (Decidable.em (j = 1584)).elim (fun q => by rw [q, uI_s, if_pos (by omega)]) (fun q => by rw [uI_n q, if_neg (by omega)]; exact hg j h0 (by omega))) _ _ hP hD hS ls (lv_sub hl [0, 1, 2] rfl)
      · skip
        refine lv_aload_n hx hb dX5_sums_9 rfl (lv_at hl 1 rfl) ?_
        refine va_get (D := D) (ci := 5) (v := .ref (b 5)) (C := RX5) (T := TX5) (N := 12) hx hb hts hin_X5 hown hK hP 0 rfl rfl 11 (by decide) hw_0 (fun _ h9 => h9) rfl dX5_sums_10 ?_
        refine lv_iload_n hx hb dX5_sums_13 rfl (lv_at hl 0 rfl) ?_
        refine wi_iconst hx hb dX5_sums_14 ?_
        refine wi_iast hx hb hK hP hD hS 5 0 (n := 3169) (f := g) rfl rfl (i := k) (by omega) (by decide) dX5_sums_15 (fun H locs hP hD hS => ?_)
        have hP : va_P D vwCl (fl [mdW cI b (sU (sR μ 5 g) 5 (k) (-1))]) H := hP
        have hD : va_D A (fl [mdW cI b (sU (sR μ 5 g) 5 (k) (-1))]) := hD
        refine wi_iinc (lv' := [(2, .int (iI ((k + 1)))), (0, .ref (b 0)), (1, .int (iI (c)))]) hx hb dX5_sums_16 hl (k := 0) rfl (by decide) rfl (fun ls hl => ?_)
        refine lv_goto (tgt := 2) hx hb dX5_sums_19 (by decide) ?_
        exact ih2 ((uI (g) (k) (-1))) ((k + 1)) (by omega) (by omega) (fun j h0 h1 => (Decidable.em (j = k)).elim (fun q => by rw [q, uI_s]) (fun q => by rw [uI_n q]; exact hg j h0 (by omega))) _ _ hP hD hS ls (lv_sub hl [0, 1, 2] rfl)
  exact L2 _ (μ 5) (0) (Nat.lt_succ_self _) (by omega) (fun j h0 h1 => by omega) _ _ hP hD hS ls (lv_sub hl [0, 1, 2] rfl)
