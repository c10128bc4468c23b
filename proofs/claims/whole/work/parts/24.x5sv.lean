set_option maxHeartbeats 4000000 in
set_option maxRecDepth 100000 in
theorem c_X5_saves (l : Launch) (D : va_G) (cI cO cC cL : ClassId) (sz : Nat) (b : Nat → Nat) (μ σ : Nat → Int → Int) (ss : Nat → Nat → Int → Int) (hk : 0 ≤ μ 0 0 ∧ μ 0 0 ≤ 6) (hn : σ 0 1 ≤ 16) (hR : RelN σ (μ 1)) (hs : ∀ k : Nat, (k : Int) < μ 0 0 → RelN (ss k) (fun j => μ 2 (115 * (k : Int) + j))) (hi : ∀ k : Nat, (k : Int) < μ 0 0 → Inv (ss k)) : Met l yX5_saves wsX5_saves ({ frames := 0, cells := 0, slots := 0, locals := 0 } : Room) (pcW D [(cI, FieldType.int)] [.ref (b 0)] (fl [mdW cI b μ]) sz) (va_Qv (fun (f : Int → Int) => ∀ k : Nat, (k : Int) < pushK (μ 0 0) → RelN (pushS (μ 0 0) ss σ k) (fun j => f (115 * (k : Int) + j))) (fun (f : Int → Int) => (bW D [(cI, FieldType.int)] (fl [mdW cI b (sU (sR μ 2 f) 0 0 (pushK (μ 0 0)))]) (va_A (fl [mdW cI b μ]) sz))) (va_A (fl [mdW cI b μ]) sz)) 0 0 (va_A (fl [mdW cI b μ]) sz) := by
  refine Met.ofW (cc := cX5_saves) (maxL := 2) (ret := none) (by decide) rfl ?_
  intro p9 e9 s m args9 below9 meth9 c9 s₁ B hml hv
  obtain ⟨rfl, hsz, hP, hK, hD0⟩ := hv
  have hx := B.exec
  have hb := B.bytes
  have hr := B.returns
  have hts := atoms_spec (ws := wsX5_saves) B.pre
  have hown : s.vm.findClass RX5 = some m.cls := findClass_of_methodNamed B.named
  have hlocks := B.notSynchronized
  subst hsz
  have hD := hD0.self (sz := s.heap.size)
  generalize hAe : va_A (fl [mdW cI b μ]) s.heap.size = A at hD ⊢
  have hA : ∀ q : Nat, s.heap.size ≤ q → A q := fun q h => by rw [← hAe]; exact Or.inr h
  have hS : va_S A s.heap s.heap [] := va_S.rf
  have hP : va_P D vwCl (fl [mdW cI b μ]) s.heap := hP
  have hl := lv_entry ([.ref (b 0)]) (n := 2) (Nat.le_of_ble_eq_true rfl)
  rw [lg_entry_eq]
  generalize (lg_sl ([.ref (b 0)]) ++ List.replicate (2 - (lg_sl ([.ref (b 0)])).length) Slot.unset).toArray = ls at hl ⊢
  have hl : lv_has ls 2 [(0, .ref (b 0))] := hl
  have hw_0 := hts (.fieldLink RX5 33 "PromisedCountersModel" "kept" "I") (by decide +kernel)
  have hin_X5 : ∀ w ∈ u_ws RX5 TX5 12, w ∈ wsX5_saves := by decide +kernel
  have hw_1 := hts (.fieldLink RX5 13 "PromisedCountersModel" "past" "[I") (by decide +kernel)
  have hw_2 := hts (.fieldLink RX5 7 "PromisedCountersModel" "now" "[I") (by decide +kernel)
  refine lv_aload_n hx hb dX5_saves_0 rfl (lv_at hl 0 rfl) ?_
  refine va_get (D := D) (ci := 5) (v := .int (iI ((μ 0 0)))) (C := RX5) (T := TX5) (N := 12) hx hb hts hin_X5 hown hK hP 0 rfl rfl 2 (by decide) hw_0 (fun _ h9 => h9) rfl dX5_saves_1 ?_
  refine wi_bipush hx hb dX5_saves_4 (by decide) ?_
  refine wi_icmp_ne (tgt := 49) hx hb dX5_saves_6 (by decide) (by omega) (fun c_6 => ?_) (fun c_6 => ?_)
  · skip
    refine wi_iconst hx hb dX5_saves_49 ?_
    refine lv_istore_n (lv' := [(1, .int (iI (0))), (0, .ref (b 0))]) hx hb dX5_saves_50 rfl hl (by decide) rfl (fun ls hl => ?_)
    have L51 : ∀ (k51 : Nat), ∀ (g : Int → Int) (k : Int), (115 - k).toNat < k51 → (0 ≤ k ∧ k ≤ 115) → (g = cpN (μ 2) (μ 1) (115 * μ 0 0) k) → ∀ (H : Heap) (locs : List Loc), va_P D vwCl (fl [mdW cI b (sR μ 2 g)]) H → va_D A (fl [mdW cI b (sR μ 2 g)]) → va_S A s.heap H locs → ∀ (ls : Array Slot), lv_has ls 2 [(1, .int (iI (k))), (0, .ref (b 0))] → W p9 l e9 ({ frames := 0, cells := 0, slots := 0, locals := 0 } : Room) s m ([.ref (b 0)] : List Value).toArray below9 meth9 c9 H locs 0 0 (MQ below9 (va_Qv (fun (f : Int → Int) => ∀ k : Nat, (k : Int) < pushK (μ 0 0) → RelN (pushS (μ 0 0) ss σ k) (fun j => f (115 * (k : Int) + j))) (fun (f : Int → Int) => (bW D [(cI, FieldType.int)] (fl [mdW cI b (sU (sR μ 2 f) 0 0 (pushK (μ 0 0)))]) A)) A) ([.ref (b 0)] : List Value).toArray s 0 0 A) (F0 m 51 ls []) := by
      intro k51
      induction k51 with
      | zero =>
        intro g k hm
        exact absurd hm (Nat.not_lt_zero _)
      | succ k51 ih51 =>
        intro g k hm51 hk9 hg H locs hP hD hS ls hl
        refine lv_iload_n hx hb dX5_saves_51 rfl (lv_at hl 0 rfl) ?_
        refine wi_bipush hx hb dX5_saves_52 (by decide) ?_
        refine wi_icmp_ge (tgt := 83) hx hb dX5_saves_54 (by decide) (by omega) (fun c_54 => ?_) (fun c_54 => ?_)
        · skip
          refine lv_aload_n hx hb dX5_saves_83 rfl (lv_at hl 1 rfl) ?_
          refine lv_dup hx hb dX5_saves_84 rfl ?_
          refine va_get (D := D) (ci := 5) (v := .int (iI ((μ 0 0)))) (C := RX5) (T := TX5) (N := 12) hx hb hts hin_X5 hown hK hP 0 rfl rfl 2 (by decide) hw_0 (fun _ h9 => h9) rfl dX5_saves_85 ?_
          refine wi_iconst hx hb dX5_saves_88 ?_
          refine wi_iadd hx hb dX5_saves_89 ?_
          refine va_put (D := D) (ci := 5) (v := .int (iI (((μ 0 0) + 1)))) (ty := .int) (C := RX5) (T := TX5) (N := 12) hx hb hts hin_X5 tyX5 tyX5_ok nmX5 hown hK hP hD hS 0 rfl rfl 2 (by decide) hw_0 (fun _ h9 => h9) rfl (by decide +kernel) rfl rfl (Nat.le_of_ble_eq_true rfl) dX5_saves_90 (fun H locs hP hD hS => ?_)
          have hP : va_P D vwCl (fl [mdW cI b (sU (sR μ 2 g) 0 (0) (((μ 0 0) + 1)))]) H := hP
          have hD : va_D A (fl [mdW cI b (sU (sR μ 2 g) 0 (0) (((μ 0 0) + 1)))]) := hD
          rw [mdW_0 (X := (sU (sR μ 2 g) 0 (0) (((μ 0 0) + 1)))) (Y := (sU (sR μ 2 (g)) 0 0 (pushK (μ 0 0)))) rfl rfl rfl rfl rfl (by show (uI (μ 0) (0) (((μ 0 0) + 1))) 0 = pushK (μ 0 0); first | (rw [pushK_lt (by omega)]; rfl) | (rw [pushK_6 (by omega)]; show μ 0 0 - 1 + 1 = 6; omega)) rfl rfl rfl rfl rfl rfl] at hP hD
          exact W.vret hx hb hr (fun t9 ht9 hW9 => ⟨⟨(g), rfl, (by rw [hg, show k = 115 by omega]; exact saves_lt hR hn (by omega) hs hi), ⟨by rw [ht9]; exact hP, va_K.moved hW9.alike hK, hD⟩⟩, hS.F ht9⟩) hS.2.2 dX5_saves_93 hlocks
        · skip
          refine lv_aload_n hx hb dX5_saves_57 rfl (lv_at hl 1 rfl) ?_
          refine va_get (D := D) (ci := 5) (v := .ref (b 2)) (C := RX5) (T := TX5) (N := 12) hx hb hts hin_X5 hown hK hP 0 rfl rfl 1 (by decide) hw_1 (fun _ h9 => h9) rfl dX5_saves_58 ?_
          refine wi_bipush hx hb dX5_saves_61 (by decide) ?_
          refine lv_aload_n hx hb dX5_saves_63 rfl (lv_at hl 1 rfl) ?_
          refine va_get (D := D) (ci := 5) (v := .int (iI ((μ 0 0)))) (C := RX5) (T := TX5) (N := 12) hx hb hts hin_X5 hown hK hP 0 rfl rfl 2 (by decide) hw_0 (fun _ h9 => h9) rfl dX5_saves_64 ?_
          refine wi_imul hx hb dX5_saves_67 ?_
          refine lv_iload_n hx hb dX5_saves_68 rfl (lv_at hl 0 rfl) ?_
          refine wi_iadd hx hb dX5_saves_69 ?_
          refine lv_aload_n hx hb dX5_saves_70 rfl (lv_at hl 1 rfl) ?_
          refine va_get (D := D) (ci := 5) (v := .ref (b 1)) (C := RX5) (T := TX5) (N := 12) hx hb hts hin_X5 hown hK hP 0 rfl rfl 0 (by decide) hw_2 (fun _ h9 => h9) rfl dX5_saves_71 ?_
          refine lv_iload_n hx hb dX5_saves_74 rfl (lv_at hl 0 rfl) ?_
          refine wi_iald hx hb hK hP 1 0 (n := 115) (f := μ 1) rfl rfl (i := k) (by omega) (by decide) dX5_saves_75 ?_
          refine wi_iast hx hb hK hP hD hS 2 0 (n := 690) (f := g) rfl rfl (i := ((115 * (μ 0 0)) + k)) (by omega) (by decide) dX5_saves_76 (fun H locs hP hD hS => ?_)
          have hP : va_P D vwCl (fl [mdW cI b (sU (sR μ 2 g) 2 (((115 * (μ 0 0)) + k)) ((μ 1 (k))))]) H := hP
          have hD : va_D A (fl [mdW cI b (sU (sR μ 2 g) 2 (((115 * (μ 0 0)) + k)) ((μ 1 (k))))]) := hD
          refine wi_iinc (lv' := [(1, .int (iI ((k + 1)))), (0, .ref (b 0))]) hx hb dX5_saves_77 hl (k := 0) rfl (by decide) rfl (fun ls hl => ?_)
          refine lv_goto (tgt := 51) hx hb dX5_saves_80 (by decide) ?_
          exact ih51 ((uI (g) (((115 * (μ 0 0)) + k)) ((μ 1 (k))))) ((k + 1)) (by omega) (by omega) ((by rw [hg]; exact cpN_s (by omega))) _ _ hP hD hS ls (lv_sub hl [0, 1] rfl)
    exact L51 _ (μ 2) (0) (Nat.lt_succ_self _) (by omega) (cpN_0 _ _ _) _ _ hP hD hS ls (lv_sub hl [0, 1] rfl)
  · skip
    refine wi_iconst hx hb dX5_saves_9 ?_
    refine lv_istore_n (lv' := [(1, .int (iI (0))), (0, .ref (b 0))]) hx hb dX5_saves_10 rfl hl (by decide) rfl (fun ls hl => ?_)
    have L11 : ∀ (k11 : Nat), ∀ (g : Int → Int) (k : Int), (575 - k).toNat < k11 → (0 ≤ k ∧ k ≤ 575) → (g = shN (μ 2) k) → ∀ (H : Heap) (locs : List Loc), va_P D vwCl (fl [mdW cI b (sR μ 2 g)]) H → va_D A (fl [mdW cI b (sR μ 2 g)]) → va_S A s.heap H locs → ∀ (ls : Array Slot), lv_has ls 2 [(1, .int (iI (k))), (0, .ref (b 0))] → W p9 l e9 ({ frames := 0, cells := 0, slots := 0, locals := 0 } : Room) s m ([.ref (b 0)] : List Value).toArray below9 meth9 c9 H locs 0 0 (MQ below9 (va_Qv (fun (f : Int → Int) => ∀ k : Nat, (k : Int) < pushK (μ 0 0) → RelN (pushS (μ 0 0) ss σ k) (fun j => f (115 * (k : Int) + j))) (fun (f : Int → Int) => (bW D [(cI, FieldType.int)] (fl [mdW cI b (sU (sR μ 2 f) 0 0 (pushK (μ 0 0)))]) A)) A) ([.ref (b 0)] : List Value).toArray s 0 0 A) (F0 m 11 ls []) := by
      intro k11
      induction k11 with
      | zero =>
        intro g k hm
        exact absurd hm (Nat.not_lt_zero _)
      | succ k11 ih11 =>
        intro g k hm11 hk9 hg H locs hP hD hS ls hl
        refine lv_iload_n hx hb dX5_saves_11 rfl (lv_at hl 0 rfl) ?_
        refine wi_sipush hx hb dX5_saves_12 (by decide) ?_
        refine wi_icmp_ge (tgt := 39) hx hb dX5_saves_15 (by decide) (by omega) (fun c_15 => ?_) (fun c_15 => ?_)
        · skip
          refine lv_aload_n hx hb dX5_saves_39 rfl (lv_at hl 1 rfl) ?_
          refine lv_dup hx hb dX5_saves_40 rfl ?_
          refine va_get (D := D) (ci := 5) (v := .int (iI ((μ 0 0)))) (C := RX5) (T := TX5) (N := 12) hx hb hts hin_X5 hown hK hP 0 rfl rfl 2 (by decide) hw_0 (fun _ h9 => h9) rfl dX5_saves_41 ?_
          refine wi_iconst hx hb dX5_saves_44 ?_
          refine wi_isub hx hb dX5_saves_45 ?_
          refine va_put (D := D) (ci := 5) (v := .int (iI (((μ 0 0) - 1)))) (ty := .int) (C := RX5) (T := TX5) (N := 12) hx hb hts hin_X5 tyX5 tyX5_ok nmX5 hown hK hP hD hS 0 rfl rfl 2 (by decide) hw_0 (fun _ h9 => h9) rfl (by decide +kernel) rfl rfl (Nat.le_of_ble_eq_true rfl) dX5_saves_46 (fun H locs hP hD hS => ?_)
          have hP : va_P D vwCl (fl [mdW cI b (sU (sR μ 2 g) 0 (0) (((μ 0 0) - 1)))]) H := hP
          have hD : va_D A (fl [mdW cI b (sU (sR μ 2 g) 0 (0) (((μ 0 0) - 1)))]) := hD
          refine wi_iconst hx hb dX5_saves_49 ?_
          refine lv_istore_n (lv' := [(1, .int (iI (0))), (0, .ref (b 0))]) hx hb dX5_saves_50 rfl hl (by decide) rfl (fun ls hl => ?_)
          have L51 : ∀ (k51 : Nat), ∀ (g : Int → Int) (k : Int), (115 - k).toNat < k51 → (0 ≤ k ∧ k ≤ 115) → (g = cpN (shN (μ 2) 575) (μ 1) (115 * (μ 0 0 - 1)) k) → ∀ (H : Heap) (locs : List Loc), va_P D vwCl (fl [mdW cI b (sR (sU μ 0 (0) (((μ 0 0) - 1))) 2 g)]) H → va_D A (fl [mdW cI b (sR (sU μ 0 (0) (((μ 0 0) - 1))) 2 g)]) → va_S A s.heap H locs → ∀ (ls : Array Slot), lv_has ls 2 [(1, .int (iI (k))), (0, .ref (b 0))] → W p9 l e9 ({ frames := 0, cells := 0, slots := 0, locals := 0 } : Room) s m ([.ref (b 0)] : List Value).toArray below9 meth9 c9 H locs 0 0 (MQ below9 (va_Qv (fun (f : Int → Int) => ∀ k : Nat, (k : Int) < pushK (μ 0 0) → RelN (pushS (μ 0 0) ss σ k) (fun j => f (115 * (k : Int) + j))) (fun (f : Int → Int) => (bW D [(cI, FieldType.int)] (fl [mdW cI b (sU (sR μ 2 f) 0 0 (pushK (μ 0 0)))]) A)) A) ([.ref (b 0)] : List Value).toArray s 0 0 A) (F0 m 51 ls []) := by
            intro k51
            induction k51 with
            | zero =>
              intro g k hm
              exact absurd hm (Nat.not_lt_zero _)
            | succ k51 ih51 =>
              intro g k hm51 hk9 hg H locs hP hD hS ls hl
              refine lv_iload_n hx hb dX5_saves_51 rfl (lv_at hl 0 rfl) ?_
              refine wi_bipush hx hb dX5_saves_52 (by decide) ?_
              refine wi_icmp_ge (tgt := 83) hx hb dX5_saves_54 (by decide) (by omega) (fun c_54 => ?_) (fun c_54 => ?_)
              · skip
                refine lv_aload_n hx hb dX5_saves_83 rfl (lv_at hl 1 rfl) ?_
                refine lv_dup hx hb dX5_saves_84 rfl ?_
                refine va_get (D := D) (ci := 5) (v := .int (iI (((uI (μ 0) (0) (((μ 0 0) - 1))) 0)))) (C := RX5) (T := TX5) (N := 12) hx hb hts hin_X5 hown hK hP 0 rfl rfl 2 (by decide) hw_0 (fun _ h9 => h9) rfl dX5_saves_85 ?_
                refine wi_iconst hx hb dX5_saves_88 ?_
                refine wi_iadd hx hb dX5_saves_89 ?_
                refine va_put (D := D) (ci := 5) (v := .int (iI ((((uI (μ 0) (0) (((μ 0 0) - 1))) 0) + 1)))) (ty := .int) (C := RX5) (T := TX5) (N := 12) hx hb hts hin_X5 tyX5 tyX5_ok nmX5 hown hK hP hD hS 0 rfl rfl 2 (by decide) hw_0 (fun _ h9 => h9) rfl (by decide +kernel) rfl rfl (Nat.le_of_ble_eq_true rfl) dX5_saves_90 (fun H locs hP hD hS => ?_)
                have hP : va_P D vwCl (fl [mdW cI b (sU (sR (sU μ 0 (0) (((μ 0 0) - 1))) 2 g) 0 (0) ((((uI (μ 0) (0) (((μ 0 0) - 1))) 0) + 1)))]) H := hP
                have hD : va_D A (fl [mdW cI b (sU (sR (sU μ 0 (0) (((μ 0 0) - 1))) 2 g) 0 (0) ((((uI (μ 0) (0) (((μ 0 0) - 1))) 0) + 1)))]) := hD
                rw [mdW_0 (X := (sU (sR (sU μ 0 (0) (((μ 0 0) - 1))) 2 g) 0 (0) ((((uI (μ 0) (0) (((μ 0 0) - 1))) 0) + 1)))) (Y := (sU (sR μ 2 (g)) 0 0 (pushK (μ 0 0)))) rfl rfl rfl rfl rfl (by show (uI ((uI (μ 0) (0) (((μ 0 0) - 1)))) (0) ((((uI (μ 0) (0) (((μ 0 0) - 1))) 0) + 1))) 0 = pushK (μ 0 0); first | (rw [pushK_lt (by omega)]; rfl) | (rw [pushK_6 (by omega)]; show μ 0 0 - 1 + 1 = 6; omega)) rfl rfl rfl rfl rfl rfl] at hP hD
                exact W.vret hx hb hr (fun t9 ht9 hW9 => ⟨⟨(g), rfl, (by rw [hg, show k = 115 by omega]; exact saves_6 hR hn (by omega) hs hi), ⟨by rw [ht9]; exact hP, va_K.moved hW9.alike hK, hD⟩⟩, hS.F ht9⟩) hS.2.2 dX5_saves_93 hlocks
              · skip
                have hk5 : uI (μ 0) 0 (μ 0 0 - 1) 0 = μ 0 0 - 1 := uI_s _ _ _
                refine lv_aload_n hx hb dX5_saves_57 rfl (lv_at hl 1 rfl) ?_
                refine va_get (D := D) (ci := 5) (v := .ref (b 2)) (C := RX5) (T := TX5) (N := 12) hx hb hts hin_X5 hown hK hP 0 rfl rfl 1 (by decide) hw_1 (fun _ h9 => h9) rfl dX5_saves_58 ?_
                refine wi_bipush hx hb dX5_saves_61 (by decide) ?_
                refine lv_aload_n hx hb dX5_saves_63 rfl (lv_at hl 1 rfl) ?_
                refine va_get (D := D) (ci := 5) (v := .int (iI (((uI (μ 0) (0) (((μ 0 0) - 1))) 0)))) (C := RX5) (T := TX5) (N := 12) hx hb hts hin_X5 hown hK hP 0 rfl rfl 2 (by decide) hw_0 (fun _ h9 => h9) rfl dX5_saves_64 ?_
                refine wi_imul hx hb dX5_saves_67 ?_
                refine lv_iload_n hx hb dX5_saves_68 rfl (lv_at hl 0 rfl) ?_
                refine wi_iadd hx hb dX5_saves_69 ?_
                refine lv_aload_n hx hb dX5_saves_70 rfl (lv_at hl 1 rfl) ?_
                refine va_get (D := D) (ci := 5) (v := .ref (b 1)) (C := RX5) (T := TX5) (N := 12) hx hb hts hin_X5 hown hK hP 0 rfl rfl 0 (by decide) hw_2 (fun _ h9 => h9) rfl dX5_saves_71 ?_
                refine lv_iload_n hx hb dX5_saves_74 rfl (lv_at hl 0 rfl) ?_
                refine wi_iald hx hb hK hP 1 0 (n := 115) (f := μ 1) rfl rfl (i := k) (by omega) (by decide) dX5_saves_75 ?_
                refine wi_iast hx hb hK hP hD hS 2 0 (n := 690) (f := g) rfl rfl (i := ((115 * ((uI (μ 0) (0) (((μ 0 0) - 1))) 0)) + k)) (by omega) (by decide) dX5_saves_76 (fun H locs hP hD hS => ?_)
                have hP : va_P D vwCl (fl [mdW cI b (sU (sR (sU μ 0 (0) (((μ 0 0) - 1))) 2 g) 2 (((115 * ((uI (μ 0) (0) (((μ 0 0) - 1))) 0)) + k)) ((μ 1 (k))))]) H := hP
                have hD : va_D A (fl [mdW cI b (sU (sR (sU μ 0 (0) (((μ 0 0) - 1))) 2 g) 2 (((115 * ((uI (μ 0) (0) (((μ 0 0) - 1))) 0)) + k)) ((μ 1 (k))))]) := hD
                refine wi_iinc (lv' := [(1, .int (iI ((k + 1)))), (0, .ref (b 0))]) hx hb dX5_saves_77 hl (k := 0) rfl (by decide) rfl (fun ls hl => ?_)
                refine lv_goto (tgt := 51) hx hb dX5_saves_80 (by decide) ?_
                exact ih51 ((uI (g) (((115 * ((uI (μ 0) (0) (((μ 0 0) - 1))) 0)) + k)) ((μ 1 (k))))) ((k + 1)) (by omega) (by omega) ((by rw [hg]; exact cpN_s (by omega))) _ _ hP hD hS ls (lv_sub hl [0, 1] rfl)
          exact L51 _ (g) (0) (Nat.lt_succ_self _) (by omega) ((by rw [hg, show k = 575 by omega]; exact cpN_0 _ _ _)) _ _ hP hD hS ls (lv_sub hl [0, 1] rfl)
        · skip
          refine lv_aload_n hx hb dX5_saves_18 rfl (lv_at hl 1 rfl) ?_
          refine va_get (D := D) (ci := 5) (v := .ref (b 2)) (C := RX5) (T := TX5) (N := 12) hx hb hts hin_X5 hown hK hP 0 rfl rfl 1 (by decide) hw_1 (fun _ h9 => h9) rfl dX5_saves_19 ?_
          refine lv_iload_n hx hb dX5_saves_22 rfl (lv_at hl 0 rfl) ?_
          refine lv_aload_n hx hb dX5_saves_23 rfl (lv_at hl 1 rfl) ?_
          refine va_get (D := D) (ci := 5) (v := .ref (b 2)) (C := RX5) (T := TX5) (N := 12) hx hb hts hin_X5 hown hK hP 0 rfl rfl 1 (by decide) hw_1 (fun _ h9 => h9) rfl dX5_saves_24 ?_
          refine lv_iload_n hx hb dX5_saves_27 rfl (lv_at hl 0 rfl) ?_
          refine wi_bipush hx hb dX5_saves_28 (by decide) ?_
          refine wi_iadd hx hb dX5_saves_30 ?_
          refine wi_iald hx hb hK hP 2 0 (n := 690) (f := g) rfl rfl (i := (k + 115)) (by omega) (by decide) dX5_saves_31 ?_
          refine wi_iast hx hb hK hP hD hS 2 0 (n := 690) (f := g) rfl rfl (i := k) (by omega) (by decide) dX5_saves_32 (fun H locs hP hD hS => ?_)
          have hP : va_P D vwCl (fl [mdW cI b (sU (sR μ 2 g) 2 (k) ((g ((k + 115)))))]) H := hP
          have hD : va_D A (fl [mdW cI b (sU (sR μ 2 g) 2 (k) ((g ((k + 115)))))]) := hD
          refine wi_iinc (lv' := [(1, .int (iI ((k + 1)))), (0, .ref (b 0))]) hx hb dX5_saves_33 hl (k := 0) rfl (by decide) rfl (fun ls hl => ?_)
          refine lv_goto (tgt := 11) hx hb dX5_saves_36 (by decide) ?_
          exact ih11 ((uI (g) (k) ((g ((k + 115)))))) ((k + 1)) (by omega) (by omega) (by rw [hg]; exact shN_s (by omega)) _ _ hP hD hS ls (lv_sub hl [0, 1] rfl)
    exact L11 _ (μ 2) (0) (Nat.lt_succ_self _) (by omega) (shN_0 _) _ _ hP hD hS ls (lv_sub hl [0, 1] rfl)
