set_option maxHeartbeats 4000000 in
set_option maxRecDepth 100000 in
theorem c_X1_improve (l : Launch) (D : va_G) (cI cO cC cL : ClassId) (sz : Nat) (o : Nat → Nat) (φ : Nat → Int → Int) (i j : Int) (hi : 0 ≤ i ∧ i < 1585) (hj : 0 ≤ j ∧ j < 1585) (hbi : -1 ≤ φ 1 i ∧ φ 1 i ≤ 1000) (hbj : -1 ≤ φ 1 j ∧ φ 1 j ≤ 1000) : Met l yX1_improve wsX1_improve ({ frames := 0, cells := 0, slots := 0, locals := 0 } : Room) (pcW D [(cI, FieldType.int)] [.ref (o 0), .int (iI (i)), .int (iI (j))] (fl [ocW cI o φ]) sz) (va_Qv (fun (_ : Unit) => True) (fun (_ : Unit) => (bW D [(cI, FieldType.int)] (fl [ocW cI o (sR φ 1 (impR (φ 1) i j))]) (va_A (fl [ocW cI o φ]) sz))) (va_A (fl [ocW cI o φ]) sz)) 0 0 (va_A (fl [ocW cI o φ]) sz) := by
  refine Met.ofW (cc := cX1_improve) (maxL := 4) (ret := none) (by decide) rfl ?_
  intro p9 e9 s m args9 below9 meth9 c9 s₁ B hml hv
  obtain ⟨rfl, hsz, hP, hK, hD0⟩ := hv
  have hx := B.exec
  have hb := B.bytes
  have hr := B.returns
  have hts := atoms_spec (ws := wsX1_improve) B.pre
  have hown : s.vm.findClass RX1 = some m.cls := findClass_of_methodNamed B.named
  have hlocks := B.notSynchronized
  subst hsz
  have hD := hD0.self (sz := s.heap.size)
  generalize hAe : va_A (fl [ocW cI o φ]) s.heap.size = A at hD ⊢
  have hA : ∀ q : Nat, s.heap.size ≤ q → A q := fun q h => by rw [← hAe]; exact Or.inr h
  have hS : va_S A s.heap s.heap [] := va_S.rf
  have hP : va_P D vwCl (fl [ocW cI o φ]) s.heap := hP
  have hl := lv_entry ([.ref (o 0), .int (iI (i)), .int (iI (j))]) (n := 4) (Nat.le_of_ble_eq_true rfl)
  rw [lg_entry_eq]
  generalize (lg_sl ([.ref (o 0), .int (iI (i)), .int (iI (j))]) ++ List.replicate (4 - (lg_sl ([.ref (o 0), .int (iI (i)), .int (iI (j))])).length) Slot.unset).toArray = ls at hl ⊢
  have hl : lv_has ls 4 [(0, .ref (o 0)), (1, .int (iI (i))), (2, .int (iI (j)))] := hl
  have hw_0 := hts (.fieldLink RX1 9 "PromisedCounters$Outcomes" "fewest" "[I") (by decide +kernel)
  have hin_X1 : ∀ w ∈ u_ws RX1 TX1 1, w ∈ wsX1_improve := by decide +kernel
  refine lv_aload_n hx hb dX1_improve_0 rfl (lv_at hl 0 rfl) ?_
  refine va_get (D := D) (ci := 1) (v := .ref (o 1)) (C := RX1) (T := TX1) (N := 1) hx hb hts hin_X1 hown hK hP 0 rfl rfl 0 (by decide) hw_0 (fun _ h9 => h9) rfl dX1_improve_1 ?_
  refine lv_iload_n hx hb dX1_improve_4 rfl (lv_at hl 2 rfl) ?_
  refine wi_iald hx hb hK hP 1 0 (n := 1585) (f := φ 1) rfl rfl (i := j) (by omega) (by decide) dX1_improve_5 ?_
  refine wi_iconst hx hb dX1_improve_6 ?_
  refine wi_icmp_ne (tgt := 11) hx hb dX1_improve_7 (by decide) (by omega) (fun c_7 => ?_) (fun c_7 => ?_)
  · skip
    refine lv_aload_n hx hb dX1_improve_11 rfl (lv_at hl 0 rfl) ?_
    refine va_get (D := D) (ci := 1) (v := .ref (o 1)) (C := RX1) (T := TX1) (N := 1) hx hb hts hin_X1 hown hK hP 0 rfl rfl 0 (by decide) hw_0 (fun _ h9 => h9) rfl dX1_improve_12 ?_
    refine lv_iload_n hx hb dX1_improve_15 rfl (lv_at hl 2 rfl) ?_
    refine wi_iald hx hb hK hP 1 0 (n := 1585) (f := φ 1) rfl rfl (i := j) (by omega) (by decide) dX1_improve_16 ?_
    refine wi_iconst hx hb dX1_improve_17 ?_
    refine wi_iadd hx hb dX1_improve_18 ?_
    refine lv_istore_n (lv' := [(3, .int (iI (((φ 1 (j)) + 1)))), (0, .ref (o 0)), (1, .int (iI (i))), (2, .int (iI (j)))]) hx hb dX1_improve_19 rfl hl (by decide) rfl (fun ls hl => ?_)
    refine lv_aload_n hx hb dX1_improve_20 rfl (lv_at hl 1 rfl) ?_
    refine va_get (D := D) (ci := 1) (v := .ref (o 1)) (C := RX1) (T := TX1) (N := 1) hx hb hts hin_X1 hown hK hP 0 rfl rfl 0 (by decide) hw_0 (fun _ h9 => h9) rfl dX1_improve_21 ?_
    refine lv_iload_n hx hb dX1_improve_24 rfl (lv_at hl 2 rfl) ?_
    refine wi_iald hx hb hK hP 1 0 (n := 1585) (f := φ 1) rfl rfl (i := i) (by omega) (by decide) dX1_improve_25 ?_
    refine wi_iconst hx hb dX1_improve_26 ?_
    refine wi_icmp_eq (tgt := 40) hx hb dX1_improve_27 (by decide) (by omega) (fun c_27 => ?_) (fun c_27 => ?_)
    · skip
      refine lv_aload_n hx hb dX1_improve_40 rfl (lv_at hl 1 rfl) ?_
      refine va_get (D := D) (ci := 1) (v := .ref (o 1)) (C := RX1) (T := TX1) (N := 1) hx hb hts hin_X1 hown hK hP 0 rfl rfl 0 (by decide) hw_0 (fun _ h9 => h9) rfl dX1_improve_41 ?_
      refine lv_iload_n hx hb dX1_improve_44 rfl (lv_at hl 2 rfl) ?_
      refine lv_iload_n hx hb dX1_improve_45 rfl (lv_at hl 0 rfl) ?_
      refine wi_iast hx hb hK hP hD hS 1 0 (n := 1585) (f := φ 1) rfl rfl (i := i) (by omega) (by decide) dX1_improve_46 (fun H locs hP hD hS => ?_)
      have hP : va_P D vwCl (fl [ocW cI o (sU φ 1 (i) (((φ 1 (j)) + 1)))]) H := hP
      have hD : va_D A (fl [ocW cI o (sU φ 1 (i) (((φ 1 (j)) + 1)))]) := hD
      have hE := impR_def (φ 1) i j
      first | rw [if_pos (by omega)] at hE | rw [if_neg (by omega)] at hE
      rw [ocW_eq (X := (sU φ 1 (i) (((φ 1 (j)) + 1)))) (Y := (sR φ 1 (impR (φ 1) i j))) (by show (uI (φ 1) (i) (((φ 1 (j)) + 1))) = impR (φ 1) i j; rw [hE])] at hP hD
      exact W.vret hx hb hr (fun t9 ht9 hW9 => ⟨⟨(), rfl, (trivial), ⟨by rw [ht9]; exact hP, va_K.moved hW9.alike hK, hD⟩⟩, hS.F ht9⟩) hS.2.2 dX1_improve_47 hlocks
    · skip
      refine lv_iload_n hx hb dX1_improve_30 rfl (lv_at hl 0 rfl) ?_
      refine lv_aload_n hx hb dX1_improve_31 rfl (lv_at hl 1 rfl) ?_
      refine va_get (D := D) (ci := 1) (v := .ref (o 1)) (C := RX1) (T := TX1) (N := 1) hx hb hts hin_X1 hown hK hP 0 rfl rfl 0 (by decide) hw_0 (fun _ h9 => h9) rfl dX1_improve_32 ?_
      refine lv_iload_n hx hb dX1_improve_35 rfl (lv_at hl 2 rfl) ?_
      refine wi_iald hx hb hK hP 1 0 (n := 1585) (f := φ 1) rfl rfl (i := i) (by omega) (by decide) dX1_improve_36 ?_
      refine wi_icmp_ge (tgt := 47) hx hb dX1_improve_37 (by decide) (by omega) (fun c_37 => ?_) (fun c_37 => ?_)
      · skip
        have hE := impR_def (φ 1) i j
        first | rw [if_pos (by omega)] at hE | rw [if_neg (by omega)] at hE
        rw [ocW_eq (X := φ) (Y := (sR φ 1 (impR (φ 1) i j))) (by show φ 1 = impR (φ 1) i j; rw [hE])] at hP hD
        exact W.vret hx hb hr (fun t9 ht9 hW9 => ⟨⟨(), rfl, (trivial), ⟨by rw [ht9]; exact hP, va_K.moved hW9.alike hK, hD⟩⟩, hS.F ht9⟩) hS.2.2 dX1_improve_47 hlocks
      · skip
        refine lv_aload_n hx hb dX1_improve_40 rfl (lv_at hl 1 rfl) ?_
        refine va_get (D := D) (ci := 1) (v := .ref (o 1)) (C := RX1) (T := TX1) (N := 1) hx hb hts hin_X1 hown hK hP 0 rfl rfl 0 (by decide) hw_0 (fun _ h9 => h9) rfl dX1_improve_41 ?_
        refine lv_iload_n hx hb dX1_improve_44 rfl (lv_at hl 2 rfl) ?_
        refine lv_iload_n hx hb dX1_improve_45 rfl (lv_at hl 0 rfl) ?_
        refine wi_iast hx hb hK hP hD hS 1 0 (n := 1585) (f := φ 1) rfl rfl (i := i) (by omega) (by decide) dX1_improve_46 (fun H locs hP hD hS => ?_)
        have hP : va_P D vwCl (fl [ocW cI o (sU φ 1 (i) (((φ 1 (j)) + 1)))]) H := hP
        have hD : va_D A (fl [ocW cI o (sU φ 1 (i) (((φ 1 (j)) + 1)))]) := hD
        have hE := impR_def (φ 1) i j
        first | rw [if_pos (by omega)] at hE | rw [if_neg (by omega)] at hE
        rw [ocW_eq (X := (sU φ 1 (i) (((φ 1 (j)) + 1)))) (Y := (sR φ 1 (impR (φ 1) i j))) (by show (uI (φ 1) (i) (((φ 1 (j)) + 1))) = impR (φ 1) i j; rw [hE])] at hP hD
        exact W.vret hx hb hr (fun t9 ht9 hW9 => ⟨⟨(), rfl, (trivial), ⟨by rw [ht9]; exact hP, va_K.moved hW9.alike hK, hD⟩⟩, hS.F ht9⟩) hS.2.2 dX1_improve_47 hlocks
  · skip
    have hE := impR_def (φ 1) i j
    first | rw [if_pos (by omega)] at hE | rw [if_neg (by omega)] at hE
    rw [ocW_eq (X := φ) (Y := (sR φ 1 (impR (φ 1) i j))) (by show φ 1 = impR (φ 1) i j; rw [hE])] at hP hD
    exact W.vret hx hb hr (fun t9 ht9 hW9 => ⟨⟨(), rfl, (trivial), ⟨by rw [ht9]; exact hP, va_K.moved hW9.alike hK, hD⟩⟩, hS.F ht9⟩) hS.2.2 dX1_improve_10 hlocks
set_option maxHeartbeats 4000000 in
set_option maxRecDepth 100000 in
theorem c_X1_addUpward (l : Launch) (D : va_G) (cI cO cC cL : ClassId) (sz : Nat) (o : Nat → Nat) (φ : Nat → Int → Int) (zz bot top : Int) (hs : 1 ≤ zz ∧ zz ≤ 99) (hb : 0 ≤ bot ∧ bot ≤ 1585) (ht : -1 ≤ top ∧ top < 1585) (hg : ∀ k : Int, bot ≤ k → k ≤ top → -1 ≤ φ 1 k ∧ φ 1 k ≤ 100) : Met l yX1_addUpward wsX1_addUpward ({ frames := 1, cells := 0, slots := 0, locals := 23 } : Room) (pcW D [(cI, FieldType.int)] [.ref (o 0), .int (iI (zz)), .int (iI (bot)), .int (iI (top))] (fl [ocW cI o φ]) sz) (va_Qv (fun (_ : Unit) => True) (fun (_ : Unit) => (bW D [(cI, FieldType.int)] (fl [ocW cI o (sR φ 1 (mapT (φ 1) zz (bot + zz) top))]) (va_A (fl [ocW cI o φ]) sz))) (va_A (fl [ocW cI o φ]) sz)) 0 0 (va_A (fl [ocW cI o φ]) sz) := by
  refine Met.ofW (cc := cX1_addUpward) (maxL := 5) (ret := none) (by decide) rfl ?_
  intro p9 e9 s m args9 below9 meth9 c9 s₁ B hml hv
  obtain ⟨rfl, hsz, hP, hK, hD0⟩ := hv
  have hx := B.exec
  have hb := B.bytes
  have hr := B.returns
  have hts := atoms_spec (ws := wsX1_addUpward) B.pre
  have hown : s.vm.findClass RX1 = some m.cls := findClass_of_methodNamed B.named
  have hlocks := B.notSynchronized
  subst hsz
  have hD := hD0.self (sz := s.heap.size)
  generalize hAe : va_A (fl [ocW cI o φ]) s.heap.size = A at hD ⊢
  have hA : ∀ q : Nat, s.heap.size ≤ q → A q := fun q h => by rw [← hAe]; exact Or.inr h
  have hS : va_S A s.heap s.heap [] := va_S.rf
  have hP : va_P D vwCl (fl [ocW cI o φ]) s.heap := hP
  have hl := lv_entry ([.ref (o 0), .int (iI (zz)), .int (iI (bot)), .int (iI (top))]) (n := 5) (Nat.le_of_ble_eq_true rfl)
  rw [lg_entry_eq]
  generalize (lg_sl ([.ref (o 0), .int (iI (zz)), .int (iI (bot)), .int (iI (top))]) ++ List.replicate (5 - (lg_sl ([.ref (o 0), .int (iI (zz)), .int (iI (bot)), .int (iI (top))])).length) Slot.unset).toArray = ls at hl ⊢
  have hl : lv_has ls 5 [(0, .ref (o 0)), (1, .int (iI (zz))), (2, .int (iI (bot))), (3, .int (iI (top)))] := hl
  refine lv_iload_n hx hb dX1_addUpward_0 rfl (lv_at hl 3 rfl) ?_
  refine lv_istore (lv' := [(4, .int (iI (top))), (0, .ref (o 0)), (1, .int (iI (zz))), (2, .int (iI (bot))), (3, .int (iI (top)))]) hx hb dX1_addUpward_1 hl (by decide) rfl (fun ls hl => ?_)
  have L3 : ∀ (k3 : Nat), ∀ (τ : Nat → Int → Int) (i : Int), (i - bot + 2).toNat < k3 → ((bot + zz - 1 ≤ i ∨ i = top) ∧ i ≤ top) → (τ 1 = mapT (φ 1) zz (i + 1) top) → ∀ (H : Heap) (locs : List Loc), va_P D vwCl (fl [ocW cI o τ]) H → va_D A (fl [ocW cI o τ]) → va_S A s.heap H locs → ∀ (ls : Array Slot), lv_has ls 5 [(4, .int (iI (i))), (0, .ref (o 0)), (1, .int (iI (zz))), (2, .int (iI (bot))), (3, .int (iI (top)))] → W p9 l e9 ({ frames := 1, cells := 0, slots := 0, locals := 23 } : Room) s m ([.ref (o 0), .int (iI (zz)), .int (iI (bot)), .int (iI (top))] : List Value).toArray below9 meth9 c9 H locs 0 0 (MQ below9 (va_Qv (fun (_ : Unit) => True) (fun (_ : Unit) => (bW D [(cI, FieldType.int)] (fl [ocW cI o (sR φ 1 (mapT (φ 1) zz (bot + zz) top))]) A)) A) ([.ref (o 0), .int (iI (zz)), .int (iI (bot)), .int (iI (top))] : List Value).toArray s 0 0 A) (F0 m 3 ls []) := by
    intro k3
    induction k3 with
    | zero =>
      intro τ i hm
      exact absurd hm (Nat.not_lt_zero _)
    | succ k3 ih3 =>
      intro τ i hm3 hi hτ H locs hP hD hS ls hl
      refine lv_iload hx hb dX1_addUpward_3 (lv_at hl 0 rfl) ?_
      refine lv_iload_n hx hb dX1_addUpward_5 rfl (lv_at hl 3 rfl) ?_
      refine lv_iload_n hx hb dX1_addUpward_6 rfl (lv_at hl 2 rfl) ?_
      refine wi_iadd hx hb dX1_addUpward_7 ?_
      refine wi_icmp_lt (tgt := 27) hx hb dX1_addUpward_8 (by decide) (by omega) (fun c_8 => ?_) (fun c_8 => ?_)
      · skip
        have hE : τ 1 = mapT (φ 1) zz (bot + zz) top := by rw [hτ]; rcases hi.1 with q | q <;> first | rw [show i + 1 = bot + zz by omega] | (rw [← mapT_0 (by omega), ← mapT_0 (by omega)])
        rw [ocW_eq (X := τ) (Y := (sR φ 1 (mapT (φ 1) zz (bot + zz) top))) hE] at hP hD
        exact W.vret hx hb hr (fun t9 ht9 hW9 => ⟨⟨(), rfl, (trivial), ⟨by rw [ht9]; exact hP, va_K.moved hW9.alike hK, hD⟩⟩, hS.F ht9⟩) hS.2.2 dX1_addUpward_27 hlocks
      · skip
        refine lv_aload_n hx hb dX1_addUpward_11 rfl (lv_at hl 1 rfl) ?_
        refine lv_iload hx hb dX1_addUpward_12 (lv_at hl 0 rfl) ?_
        refine lv_iload hx hb dX1_addUpward_14 (lv_at hl 0 rfl) ?_
        refine lv_iload_n hx hb dX1_addUpward_16 rfl (lv_at hl 2 rfl) ?_
        refine wi_isub hx hb dX1_addUpward_17 ?_
        have hFc := fl_free (SC := [ocW cI o τ]) hD hS hA [0] rfl
        refine va_callv (va_runV (As := [.int (iI (i)), .int (iI ((i - zz)))]) (rest := []) ⟨hx, hb, hml, hown, hts⟩ (c_X1_improve l D cI cO cC cL H.size o τ (i) ((i - zz)) (by omega) (by omega) (by rw [hτ, mapT_out (by omega)]; have := hg i (by omega) (by omega); omega) (by rw [hτ, mapT_out (by omega)]; have := hg (i - zz) (by omega) (by omega); omega)) (cwV 2 hts gX1_addUpward_X1_improve rfl rfl rfl (by decide +kernel) ⟨Nat.le_of_ble_eq_true rfl, Nat.le_of_ble_eq_true rfl⟩) ⟨pcW_blind, va_recv hK hP (ci := 1) (q0 := 0) rfl rfl, pcW_of hP hK hD⟩ rfl rfl hl.1 rfl (lv_room (Nat.le_of_ble_eq_true rfl)) dX1_addUpward_18 ⟨(Nat.zero_le _), (Nat.zero_le _)⟩) hS (fun q _ h => hFc q h) hFc (fun  u2 t9 H1 locs ht9 hvm hcl1 hB hz1 hk1 hS => ?_)
        obtain ⟨hP1, hK1, hD1⟩ := hB
        rw [ht9] at hP1
        obtain ⟨hP, hD⟩ := fl_join (SR := []) (S1 := [ocW cI o (sR τ 1 (impR (τ 1) (i) ((i - zz))))]) hP hD [0] [] rfl rfl (by decide) (by decide) hk1 hFc hP1 hD1
        generalize H1 = H at hP hS ⊢
        have hP : va_P D vwCl (fl [ocW cI o (sR τ 1 (impR (τ 1) (i) ((i - zz))))]) H := hP
        have hD : va_D A (fl [ocW cI o (sR τ 1 (impR (τ 1) (i) ((i - zz))))]) := hD
        refine wi_iinc (lv' := [(4, .int (iI ((i + (-1))))), (0, .ref (o 0)), (1, .int (iI (zz))), (2, .int (iI (bot))), (3, .int (iI (top)))]) hx hb dX1_addUpward_21 hl (k := 0) rfl (by decide) rfl (fun ls hl => ?_)
        refine lv_goto (tgt := 3) hx hb dX1_addUpward_24 (by decide) ?_
        exact ih3 ((sR τ 1 (impR (τ 1) (i) ((i - zz))))) ((i + (-1))) (by omega) (by omega) (by show impR (τ 1) i (i - zz) = _; rw [hτ, show i + -1 + 1 = i by omega]; exact mapT_up (by omega) (by omega)) _ _ hP hD hS ls (lv_sub hl [0, 1, 2, 3, 4] rfl)
  exact L3 _ (φ) (top) (Nat.lt_succ_self _) (by omega) (mapT_0 (by omega)) _ _ hP hD hS ls (lv_sub hl [0, 1, 2, 3, 4] rfl)
set_option maxHeartbeats 4000000 in
set_option maxRecDepth 100000 in
theorem c_X1_addDownward (l : Launch) (D : va_G) (cI cO cC cL : ClassId) (sz : Nat) (o : Nat → Nat) (φ : Nat → Int → Int) (zz bot top : Int) (hs : 1 ≤ zz ∧ zz ≤ 99) (hb : 0 ≤ bot ∧ bot ≤ 1585) (ht : -1 ≤ top ∧ top < 1585) (hg : ∀ k : Int, bot ≤ k → k ≤ top → -1 ≤ φ 1 k ∧ φ 1 k ≤ 100) : Met l yX1_addDownward wsX1_addDownward ({ frames := 1, cells := 0, slots := 0, locals := 23 } : Room) (pcW D [(cI, FieldType.int)] [.ref (o 0), .int (iI (zz)), .int (iI (bot)), .int (iI (top))] (fl [ocW cI o φ]) sz) (va_Qv (fun (_ : Unit) => True) (fun (_ : Unit) => (bW D [(cI, FieldType.int)] (fl [ocW cI o (sR φ 1 (mapT (φ 1) (-zz) bot (top - zz)))]) (va_A (fl [ocW cI o φ]) sz))) (va_A (fl [ocW cI o φ]) sz)) 0 0 (va_A (fl [ocW cI o φ]) sz) := by
  refine Met.ofW (cc := cX1_addDownward) (maxL := 5) (ret := none) (by decide) rfl ?_
  intro p9 e9 s m args9 below9 meth9 c9 s₁ B hml hv
  obtain ⟨rfl, hsz, hP, hK, hD0⟩ := hv
  have hx := B.exec
  have hb := B.bytes
  have hr := B.returns
  have hts := atoms_spec (ws := wsX1_addDownward) B.pre
  have hown : s.vm.findClass RX1 = some m.cls := findClass_of_methodNamed B.named
  have hlocks := B.notSynchronized
  subst hsz
  have hD := hD0.self (sz := s.heap.size)
  generalize hAe : va_A (fl [ocW cI o φ]) s.heap.size = A at hD ⊢
  have hA : ∀ q : Nat, s.heap.size ≤ q → A q := fun q h => by rw [← hAe]; exact Or.inr h
  have hS : va_S A s.heap s.heap [] := va_S.rf
  have hP : va_P D vwCl (fl [ocW cI o φ]) s.heap := hP
  have hl := lv_entry ([.ref (o 0), .int (iI (zz)), .int (iI (bot)), .int (iI (top))]) (n := 5) (Nat.le_of_ble_eq_true rfl)
  rw [lg_entry_eq]
  generalize (lg_sl ([.ref (o 0), .int (iI (zz)), .int (iI (bot)), .int (iI (top))]) ++ List.replicate (5 - (lg_sl ([.ref (o 0), .int (iI (zz)), .int (iI (bot)), .int (iI (top))])).length) Slot.unset).toArray = ls at hl ⊢
  have hl : lv_has ls 5 [(0, .ref (o 0)), (1, .int (iI (zz))), (2, .int (iI (bot))), (3, .int (iI (top)))] := hl
  refine lv_iload_n hx hb dX1_addDownward_0 rfl (lv_at hl 2 rfl) ?_
  refine lv_istore (lv' := [(4, .int (iI (bot))), (0, .ref (o 0)), (1, .int (iI (zz))), (2, .int (iI (bot))), (3, .int (iI (top)))]) hx hb dX1_addDownward_1 hl (by decide) rfl (fun ls hl => ?_)
  have L3 : ∀ (k3 : Nat), ∀ (τ : Nat → Int → Int) (i : Int), (top + 1 - i).toNat < k3 → (bot ≤ i ∧ (i ≤ top - zz + 1 ∨ i = bot)) → (τ 1 = mapT (φ 1) (-zz) bot (i - 1)) → ∀ (H : Heap) (locs : List Loc), va_P D vwCl (fl [ocW cI o τ]) H → va_D A (fl [ocW cI o τ]) → va_S A s.heap H locs → ∀ (ls : Array Slot), lv_has ls 5 [(4, .int (iI (i))), (0, .ref (o 0)), (1, .int (iI (zz))), (2, .int (iI (bot))), (3, .int (iI (top)))] → W p9 l e9 ({ frames := 1, cells := 0, slots := 0, locals := 23 } : Room) s m ([.ref (o 0), .int (iI (zz)), .int (iI (bot)), .int (iI (top))] : List Value).toArray below9 meth9 c9 H locs 0 0 (MQ below9 (va_Qv (fun (_ : Unit) => True) (fun (_ : Unit) => (bW D [(cI, FieldType.int)] (fl [ocW cI o (sR φ 1 (mapT (φ 1) (-zz) bot (top - zz)))]) A)) A) ([.ref (o 0), .int (iI (zz)), .int (iI (bot)), .int (iI (top))] : List Value).toArray s 0 0 A) (F0 m 3 ls []) := by
    intro k3
    induction k3 with
    | zero =>
      intro τ i hm
      exact absurd hm (Nat.not_lt_zero _)
    | succ k3 ih3 =>
      intro τ i hm3 hi hτ H locs hP hD hS ls hl
      refine lv_iload hx hb dX1_addDownward_3 (lv_at hl 0 rfl) ?_
      refine lv_iload_n hx hb dX1_addDownward_5 rfl (lv_at hl 4 rfl) ?_
      refine lv_iload_n hx hb dX1_addDownward_6 rfl (lv_at hl 2 rfl) ?_
      refine wi_isub hx hb dX1_addDownward_7 ?_
      refine wi_icmp_gt (tgt := 27) hx hb dX1_addDownward_8 (by decide) (by omega) (fun c_8 => ?_) (fun c_8 => ?_)
      · skip
        have hE : τ 1 = mapT (φ 1) (-zz) bot (top - zz) := by rw [hτ]; rcases hi.2 with q | q <;> first | rw [show i - 1 = top - zz by omega] | (rw [← mapT_0 (by omega), ← mapT_0 (by omega)])
        rw [ocW_eq (X := τ) (Y := (sR φ 1 (mapT (φ 1) (-zz) bot (top - zz)))) hE] at hP hD
        exact W.vret hx hb hr (fun t9 ht9 hW9 => ⟨⟨(), rfl, (trivial), ⟨by rw [ht9]; exact hP, va_K.moved hW9.alike hK, hD⟩⟩, hS.F ht9⟩) hS.2.2 dX1_addDownward_27 hlocks
      · skip
        refine lv_aload_n hx hb dX1_addDownward_11 rfl (lv_at hl 1 rfl) ?_
        refine lv_iload hx hb dX1_addDownward_12 (lv_at hl 0 rfl) ?_
        refine lv_iload hx hb dX1_addDownward_14 (lv_at hl 0 rfl) ?_
        refine lv_iload_n hx hb dX1_addDownward_16 rfl (lv_at hl 2 rfl) ?_
        refine wi_iadd hx hb dX1_addDownward_17 ?_
        have hFc := fl_free (SC := [ocW cI o τ]) hD hS hA [0] rfl
        refine va_callv (va_runV (As := [.int (iI (i)), .int (iI ((i + zz)))]) (rest := []) ⟨hx, hb, hml, hown, hts⟩ (c_X1_improve l D cI cO cC cL H.size o τ (i) ((i + zz)) (by omega) (by omega) (by rw [hτ, mapT_out (by omega)]; have := hg i (by omega) (by omega); omega) (by rw [hτ, mapT_out (by omega)]; have := hg (i + zz) (by omega) (by omega); omega)) (cwV 2 hts gX1_addDownward_X1_improve rfl rfl rfl (by decide +kernel) ⟨Nat.le_of_ble_eq_true rfl, Nat.le_of_ble_eq_true rfl⟩) ⟨pcW_blind, va_recv hK hP (ci := 1) (q0 := 0) rfl rfl, pcW_of hP hK hD⟩ rfl rfl hl.1 rfl (lv_room (Nat.le_of_ble_eq_true rfl)) dX1_addDownward_18 ⟨(Nat.zero_le _), (Nat.zero_le _)⟩) hS (fun q _ h => hFc q h) hFc (fun  u2 t9 H1 locs ht9 hvm hcl1 hB hz1 hk1 hS => ?_)
        obtain ⟨hP1, hK1, hD1⟩ := hB
        rw [ht9] at hP1
        obtain ⟨hP, hD⟩ := fl_join (SR := []) (S1 := [ocW cI o (sR τ 1 (impR (τ 1) (i) ((i + zz))))]) hP hD [0] [] rfl rfl (by decide) (by decide) hk1 hFc hP1 hD1
        generalize H1 = H at hP hS ⊢
        have hP : va_P D vwCl (fl [ocW cI o (sR τ 1 (impR (τ 1) (i) ((i + zz))))]) H := hP
        have hD : va_D A (fl [ocW cI o (sR τ 1 (impR (τ 1) (i) ((i + zz))))]) := hD
        refine wi_iinc (lv' := [(4, .int (iI ((i + 1)))), (0, .ref (o 0)), (1, .int (iI (zz))), (2, .int (iI (bot))), (3, .int (iI (top)))]) hx hb dX1_addDownward_21 hl (k := 0) rfl (by decide) rfl (fun ls hl => ?_)
        refine lv_goto (tgt := 3) hx hb dX1_addDownward_24 (by decide) ?_
        exact ih3 ((sR τ 1 (impR (τ 1) (i) ((i + zz))))) ((i + 1)) (by omega) (by omega) (by show impR (τ 1) i (i + zz) = _; rw [hτ, show i + 1 - 1 = i by omega, show i + zz = i - -zz by omega]; exact mapT_dn (by omega) (by omega)) _ _ hP hD hS ls (lv_sub hl [0, 1, 2, 3, 4] rfl)
  exact L3 _ (φ) (bot) (Nat.lt_succ_self _) (by omega) (mapT_0 (by omega)) _ _ hP hD hS ls (lv_sub hl [0, 1, 2, 3, 4] rfl)
