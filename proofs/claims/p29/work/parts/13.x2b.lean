set_option maxHeartbeats 4000000 in
set_option maxRecDepth 100000 in
theorem c_X2_save (l : Launch) (D : va_G) (cI cO cC cL : ClassId) (sz : Nat) (a : Nat → Nat) (σ : Nat → Int → Int) (sv : Nat → Nat) (κ : Nat → Int → Int) (sa : Nat → Nat → Nat) (ss : Nat → Nat → Int → Int) (hk : 0 ≤ κ 0 0 ∧ κ 0 0 ≤ 6) : Met l yX2_save wsX2_save ({ frames := 2, cells := 0, slots := 0, locals := 81 } : Room) (pcW D [(cI, FieldType.int), (cO, FieldType.object "PromisedCounters$State")] [.ref (sv 0), .ref (a 0)] (fl [stW cI a σ, svO cO sv (saF sa) κ, stW cI (sa 0) (ss 0), stW cI (sa 1) (ss 1), stW cI (sa 2) (ss 2), stW cI (sa 3) (ss 3), stW cI (sa 4) (ss 4), stW cI (sa 5) (ss 5)]) sz) (va_Qv (fun (_ : Unit) => True) (fun (_ : Unit) => (bW D [(cI, FieldType.int), (cO, FieldType.object "PromisedCounters$State")] (fl [stW cI a σ, svO cO sv (saF (pushA (κ 0 0) sa)) (sU κ 0 0 (pushK (κ 0 0))), stW cI (pushA (κ 0 0) sa 0) (pushS (κ 0 0) ss σ 0), stW cI (pushA (κ 0 0) sa 1) (pushS (κ 0 0) ss σ 1), stW cI (pushA (κ 0 0) sa 2) (pushS (κ 0 0) ss σ 2), stW cI (pushA (κ 0 0) sa 3) (pushS (κ 0 0) ss σ 3), stW cI (pushA (κ 0 0) sa 4) (pushS (κ 0 0) ss σ 4), stW cI (pushA (κ 0 0) sa 5) (pushS (κ 0 0) ss σ 5)]) (va_A (fl [stW cI a σ, svO cO sv (saF sa) κ, stW cI (sa 0) (ss 0), stW cI (sa 1) (ss 1), stW cI (sa 2) (ss 2), stW cI (sa 3) (ss 3), stW cI (sa 4) (ss 4), stW cI (sa 5) (ss 5)]) sz))) (va_A (fl [stW cI a σ, svO cO sv (saF sa) κ, stW cI (sa 0) (ss 0), stW cI (sa 1) (ss 1), stW cI (sa 2) (ss 2), stW cI (sa 3) (ss 3), stW cI (sa 4) (ss 4), stW cI (sa 5) (ss 5)]) sz)) 0 0 (va_A (fl [stW cI a σ, svO cO sv (saF sa) κ, stW cI (sa 0) (ss 0), stW cI (sa 1) (ss 1), stW cI (sa 2) (ss 2), stW cI (sa 3) (ss 3), stW cI (sa 4) (ss 4), stW cI (sa 5) (ss 5)]) sz) := by
  refine Met.ofW (cc := cX2_save) (maxL := 2) (ret := none) (by decide) rfl ?_
  intro p9 e9 s m args9 below9 meth9 c9 s₁ B hml hv
  obtain ⟨rfl, hsz, hP, hK, hD0⟩ := hv
  have hx := B.exec
  have hb := B.bytes
  have hr := B.returns
  have hts := atoms_spec (ws := wsX2_save) B.pre
  have hown : s.vm.findClass RX2 = some m.cls := findClass_of_methodNamed B.named
  have hlocks := B.notSynchronized
  subst hsz
  have hD := hD0.self (sz := s.heap.size)
  generalize hAe : va_A (fl [stW cI a σ, svO cO sv (saF sa) κ, stW cI (sa 0) (ss 0), stW cI (sa 1) (ss 1), stW cI (sa 2) (ss 2), stW cI (sa 3) (ss 3), stW cI (sa 4) (ss 4), stW cI (sa 5) (ss 5)]) s.heap.size = A at hD ⊢
  have hA : ∀ q : Nat, s.heap.size ≤ q → A q := fun q h => by rw [← hAe]; exact Or.inr h
  have hS : va_S A s.heap s.heap [] := va_S.rf
  have hP : va_P D vwCl (fl [stW cI a σ, svO cO sv (saF sa) κ, stW cI (sa 0) (ss 0), stW cI (sa 1) (ss 1), stW cI (sa 2) (ss 2), stW cI (sa 3) (ss 3), stW cI (sa 4) (ss 4), stW cI (sa 5) (ss 5)]) s.heap := hP
  have hl := lv_entry ([.ref (sv 0), .ref (a 0)]) (n := 2) (Nat.le_of_ble_eq_true rfl)
  rw [lg_entry_eq]
  generalize (lg_sl ([.ref (sv 0), .ref (a 0)]) ++ List.replicate (2 - (lg_sl ([.ref (sv 0), .ref (a 0)])).length) Slot.unset).toArray = ls at hl ⊢
  have hl : lv_has ls 2 [(0, .ref (sv 0)), (1, .ref (a 0))] := hl
  have hw_0 := hts (.fieldLink RX2 18 "PromisedCounters$SavedStates" "many" "I") (by decide +kernel)
  have hin_X2 : ∀ w ∈ u_ws RX2 TX2 2, w ∈ wsX2_save := by decide +kernel
  have hw_1 := hts (.fieldLink RX2 12 "PromisedCounters$SavedStates" "states" "[LPromisedCounters$State;") (by decide +kernel)
  refine lv_aload_n hx hb dX2_save_0 rfl (lv_at hl 0 rfl) ?_
  refine va_get (D := D) (ci := 2) (v := .int (iI ((κ 0 0)))) (C := RX2) (T := TX2) (N := 2) hx hb hts hin_X2 hown hK hP 13 rfl rfl 1 (by decide) hw_0 (fun _ h9 => h9) rfl dX2_save_1 ?_
  refine wi_bipush hx hb dX2_save_4 (by decide) ?_
  refine wi_icmp_ne (tgt := 13) hx hb dX2_save_6 (by decide) (by omega) (fun c_6 => ?_) (fun c_6 => ?_)
  · skip
    refine lv_aload_n hx hb dX2_save_13 rfl (lv_at hl 0 rfl) ?_
    refine va_get (D := D) (ci := 2) (v := .ref (sv 1)) (C := RX2) (T := TX2) (N := 2) hx hb hts hin_X2 hown hK hP 13 rfl rfl 0 (by decide) hw_1 (fun _ h9 => h9) rfl dX2_save_14 ?_
    refine lv_aload_n hx hb dX2_save_17 rfl (lv_at hl 0 rfl) ?_
    refine va_get (D := D) (ci := 2) (v := .int (iI ((κ 0 0)))) (C := RX2) (T := TX2) (N := 2) hx hb hts hin_X2 hown hK hP 13 rfl rfl 1 (by decide) hw_0 (fun _ h9 => h9) rfl dX2_save_18 ?_
    have hsp21 : (κ 0 0) = 0 ∨ (κ 0 0) = 1 ∨ (κ 0 0) = 2 ∨ (κ 0 0) = 3 ∨ (κ 0 0) = 4 ∨ (κ 0 0) = 5 := by omega
    rcases hsp21 with hsp | hsp | hsp | hsp | hsp | hsp
    · skip
      refine wi_aldq hx hb hK hP 14 1 (n := 6) (f := (saF sa)) (v := (sa 0) 0) rfl rfl (i := (κ 0 0)) (by omega) (by decide) (by rw [hsp]; rfl) dX2_save_21 ?_
      refine lv_aload_n hx hb dX2_save_22 rfl (lv_at hl 1 rfl) ?_
      have hPc := fl_P (S' := [stW cI (sa 0) (ss 0), stW cI a σ]) hP [2, 0] rfl
      have hKc := hK.sub (tys' := [(cI, FieldType.int)]) [0] rfl
      have hDc := fl_D (S' := [stW cI (sa 0) (ss 0), stW cI a σ]) hD [2, 0] (by decide) rfl
      have hFc := fl_free (SC := [stW cI (sa 0) (ss 0), stW cI a σ]) hD hS hA [2, 0] rfl
      refine va_callv (va_runV (As := [.ref (a 0)]) (rest := []) ⟨hx, hb, hml, hown, hts⟩ (c_X3_copyFrom l D cI cO cC cL s.heap.size (sa 0) (ss 0) a σ ) (cwV 1 hts gX2_save_X3_copyFrom rfl rfl rfl (by decide +kernel) ⟨Nat.le_of_ble_eq_true rfl, Nat.le_of_ble_eq_true rfl⟩) ⟨pcW_blind, va_recv hKc hPc (ci := 3) (q0 := 0) rfl rfl, pcW_of hPc hKc hDc⟩ rfl rfl hl.1 rfl (lv_room (Nat.le_of_ble_eq_true rfl)) dX2_save_23 ⟨(Nat.zero_le _), (Nat.zero_le _)⟩) hS (fun q _ h => hFc q h) hFc (fun  u2 t9 H1 locs ht9 hvm hcl1 hB hz1 hk1 hS => ?_)
      obtain ⟨hP1, hK1, hD1⟩ := hB
      rw [ht9] at hP1
      obtain ⟨hP, hD⟩ := fl_join (SR := [svO cO sv (saF sa) κ, stW cI (sa 1) (ss 1), stW cI (sa 2) (ss 2), stW cI (sa 3) (ss 3), stW cI (sa 4) (ss 4), stW cI (sa 5) (ss 5)]) (S1 := [stW cI (sa 0) σ, stW cI a σ]) hP hD [2, 0] [1, 3, 4, 5, 6, 7] rfl rfl (by decide) (by decide) hk1 hFc hP1 hD1
      generalize H1 = H at hP hS ⊢
      have hP := fl_P (S' := [stW cI a σ, svO cO sv (saF sa) κ, stW cI (sa 0) σ, stW cI (sa 1) (ss 1), stW cI (sa 2) (ss 2), stW cI (sa 3) (ss 3), stW cI (sa 4) (ss 4), stW cI (sa 5) (ss 5)]) hP [7, 0, 6, 1, 2, 3, 4, 5] rfl
      have hD := fl_D (S' := [stW cI a σ, svO cO sv (saF sa) κ, stW cI (sa 0) σ, stW cI (sa 1) (ss 1), stW cI (sa 2) (ss 2), stW cI (sa 3) (ss 3), stW cI (sa 4) (ss 4), stW cI (sa 5) (ss 5)]) hD [7, 0, 6, 1, 2, 3, 4, 5] (by decide) rfl
      refine lv_aload_n hx hb dX2_save_26 rfl (lv_at hl 0 rfl) ?_
      refine lv_dup hx hb dX2_save_27 rfl ?_
      refine va_get (D := D) (ci := 2) (v := .int (iI ((κ 0 0)))) (C := RX2) (T := TX2) (N := 2) hx hb hts hin_X2 hown hK hP 13 rfl rfl 1 (by decide) hw_0 (fun _ h9 => h9) rfl dX2_save_28 ?_
      refine wi_iconst hx hb dX2_save_31 ?_
      refine wi_iadd hx hb dX2_save_32 ?_
      refine va_put (D := D) (ci := 2) (v := .int (iI (((κ 0 0) + 1)))) (ty := .int) (C := RX2) (T := TX2) (N := 2) hx hb hts hin_X2 tyX2 tyX2_ok nmX2 hown hK hP hD hS 13 rfl rfl 1 (by decide) hw_0 (fun _ h9 => h9) rfl (by decide +kernel) rfl rfl (Nat.le_of_ble_eq_true rfl) dX2_save_33 (fun H locs hP hD hS => ?_)
      have hP : va_P D vwCl (fl [stW cI a σ, svO cO sv (saF sa) (sU κ 0 (0) (((κ 0 0) + 1))), stW cI (sa 0) σ, stW cI (sa 1) (ss 1), stW cI (sa 2) (ss 2), stW cI (sa 3) (ss 3), stW cI (sa 4) (ss 4), stW cI (sa 5) (ss 5)]) H := hP
      have hD : va_D A (fl [stW cI a σ, svO cO sv (saF sa) (sU κ 0 (0) (((κ 0 0) + 1))), stW cI (sa 0) σ, stW cI (sa 1) (ss 1), stW cI (sa 2) (ss 2), stW cI (sa 3) (ss 3), stW cI (sa 4) (ss 4), stW cI (sa 5) (ss 5)]) := hD
      have eA : pushA (κ 0 0) sa = sa := pushA_lt (by omega) sa
      have eK : pushK (κ 0 0) = κ 0 0 + 1 := pushK_lt (by omega)
      have eS0 : pushS (κ 0 0) ss σ 0 = σ := by rw [pushS_lt (by omega)]; exact if_pos (by omega)
      have eS1 : pushS (κ 0 0) ss σ 1 = ss 1 := by rw [pushS_lt (by omega)]; exact if_neg (by omega)
      have eS2 : pushS (κ 0 0) ss σ 2 = ss 2 := by rw [pushS_lt (by omega)]; exact if_neg (by omega)
      have eS3 : pushS (κ 0 0) ss σ 3 = ss 3 := by rw [pushS_lt (by omega)]; exact if_neg (by omega)
      have eS4 : pushS (κ 0 0) ss σ 4 = ss 4 := by rw [pushS_lt (by omega)]; exact if_neg (by omega)
      have eS5 : pushS (κ 0 0) ss σ 5 = ss 5 := by rw [pushS_lt (by omega)]; exact if_neg (by omega)
      rw [svO_eq (X := (sU κ 0 (0) (((κ 0 0) + 1)))) (Y := (sU κ 0 0 (pushK (κ 0 0)))) (by show κ 0 0 + 1 = pushK (κ 0 0); omega)] at hP hD
      have hP : va_P D vwCl (fl [stW cI a σ, svO cO sv (saF (pushA (κ 0 0) sa)) (sU κ 0 0 (pushK (κ 0 0))), stW cI (pushA (κ 0 0) sa 0) (pushS (κ 0 0) ss σ 0), stW cI (pushA (κ 0 0) sa 1) (pushS (κ 0 0) ss σ 1), stW cI (pushA (κ 0 0) sa 2) (pushS (κ 0 0) ss σ 2), stW cI (pushA (κ 0 0) sa 3) (pushS (κ 0 0) ss σ 3), stW cI (pushA (κ 0 0) sa 4) (pushS (κ 0 0) ss σ 4), stW cI (pushA (κ 0 0) sa 5) (pushS (κ 0 0) ss σ 5)]) H := by rw [eA, eS0, eS1, eS2, eS3, eS4, eS5]; exact hP
      have hD : va_D A (fl [stW cI a σ, svO cO sv (saF (pushA (κ 0 0) sa)) (sU κ 0 0 (pushK (κ 0 0))), stW cI (pushA (κ 0 0) sa 0) (pushS (κ 0 0) ss σ 0), stW cI (pushA (κ 0 0) sa 1) (pushS (κ 0 0) ss σ 1), stW cI (pushA (κ 0 0) sa 2) (pushS (κ 0 0) ss σ 2), stW cI (pushA (κ 0 0) sa 3) (pushS (κ 0 0) ss σ 3), stW cI (pushA (κ 0 0) sa 4) (pushS (κ 0 0) ss σ 4), stW cI (pushA (κ 0 0) sa 5) (pushS (κ 0 0) ss σ 5)]) := by rw [eA, eS0, eS1, eS2, eS3, eS4, eS5]; exact hD
      exact W.vret hx hb hr (fun t9 ht9 hW9 => ⟨⟨(), rfl, (trivial), ⟨by rw [ht9]; exact hP, va_K.moved hW9.alike hK, hD⟩⟩, hS.F ht9⟩) hS.2.2 dX2_save_36 hlocks
    · skip
      refine wi_aldq hx hb hK hP 14 1 (n := 6) (f := (saF sa)) (v := (sa 1) 0) rfl rfl (i := (κ 0 0)) (by omega) (by decide) (by rw [hsp]; rfl) dX2_save_21 ?_
      refine lv_aload_n hx hb dX2_save_22 rfl (lv_at hl 1 rfl) ?_
      have hPc := fl_P (S' := [stW cI (sa 1) (ss 1), stW cI a σ]) hP [3, 0] rfl
      have hKc := hK.sub (tys' := [(cI, FieldType.int)]) [0] rfl
      have hDc := fl_D (S' := [stW cI (sa 1) (ss 1), stW cI a σ]) hD [3, 0] (by decide) rfl
      have hFc := fl_free (SC := [stW cI (sa 1) (ss 1), stW cI a σ]) hD hS hA [3, 0] rfl
      refine va_callv (va_runV (As := [.ref (a 0)]) (rest := []) ⟨hx, hb, hml, hown, hts⟩ (c_X3_copyFrom l D cI cO cC cL s.heap.size (sa 1) (ss 1) a σ ) (cwV 1 hts gX2_save_X3_copyFrom rfl rfl rfl (by decide +kernel) ⟨Nat.le_of_ble_eq_true rfl, Nat.le_of_ble_eq_true rfl⟩) ⟨pcW_blind, va_recv hKc hPc (ci := 3) (q0 := 0) rfl rfl, pcW_of hPc hKc hDc⟩ rfl rfl hl.1 rfl (lv_room (Nat.le_of_ble_eq_true rfl)) dX2_save_23 ⟨(Nat.zero_le _), (Nat.zero_le _)⟩) hS (fun q _ h => hFc q h) hFc (fun  u4 t9 H1 locs ht9 hvm hcl3 hB hz1 hk1 hS => ?_)
      obtain ⟨hP1, hK1, hD1⟩ := hB
      rw [ht9] at hP1
      obtain ⟨hP, hD⟩ := fl_join (SR := [svO cO sv (saF sa) κ, stW cI (sa 0) (ss 0), stW cI (sa 2) (ss 2), stW cI (sa 3) (ss 3), stW cI (sa 4) (ss 4), stW cI (sa 5) (ss 5)]) (S1 := [stW cI (sa 1) σ, stW cI a σ]) hP hD [3, 0] [1, 2, 4, 5, 6, 7] rfl rfl (by decide) (by decide) hk1 hFc hP1 hD1
      generalize H1 = H at hP hS ⊢
      have hP := fl_P (S' := [stW cI a σ, svO cO sv (saF sa) κ, stW cI (sa 0) (ss 0), stW cI (sa 1) σ, stW cI (sa 2) (ss 2), stW cI (sa 3) (ss 3), stW cI (sa 4) (ss 4), stW cI (sa 5) (ss 5)]) hP [7, 0, 1, 6, 2, 3, 4, 5] rfl
      have hD := fl_D (S' := [stW cI a σ, svO cO sv (saF sa) κ, stW cI (sa 0) (ss 0), stW cI (sa 1) σ, stW cI (sa 2) (ss 2), stW cI (sa 3) (ss 3), stW cI (sa 4) (ss 4), stW cI (sa 5) (ss 5)]) hD [7, 0, 1, 6, 2, 3, 4, 5] (by decide) rfl
      refine lv_aload_n hx hb dX2_save_26 rfl (lv_at hl 0 rfl) ?_
      refine lv_dup hx hb dX2_save_27 rfl ?_
      refine va_get (D := D) (ci := 2) (v := .int (iI ((κ 0 0)))) (C := RX2) (T := TX2) (N := 2) hx hb hts hin_X2 hown hK hP 13 rfl rfl 1 (by decide) hw_0 (fun _ h9 => h9) rfl dX2_save_28 ?_
      refine wi_iconst hx hb dX2_save_31 ?_
      refine wi_iadd hx hb dX2_save_32 ?_
      refine va_put (D := D) (ci := 2) (v := .int (iI (((κ 0 0) + 1)))) (ty := .int) (C := RX2) (T := TX2) (N := 2) hx hb hts hin_X2 tyX2 tyX2_ok nmX2 hown hK hP hD hS 13 rfl rfl 1 (by decide) hw_0 (fun _ h9 => h9) rfl (by decide +kernel) rfl rfl (Nat.le_of_ble_eq_true rfl) dX2_save_33 (fun H locs hP hD hS => ?_)
      have hP : va_P D vwCl (fl [stW cI a σ, svO cO sv (saF sa) (sU κ 0 (0) (((κ 0 0) + 1))), stW cI (sa 0) (ss 0), stW cI (sa 1) σ, stW cI (sa 2) (ss 2), stW cI (sa 3) (ss 3), stW cI (sa 4) (ss 4), stW cI (sa 5) (ss 5)]) H := hP
      have hD : va_D A (fl [stW cI a σ, svO cO sv (saF sa) (sU κ 0 (0) (((κ 0 0) + 1))), stW cI (sa 0) (ss 0), stW cI (sa 1) σ, stW cI (sa 2) (ss 2), stW cI (sa 3) (ss 3), stW cI (sa 4) (ss 4), stW cI (sa 5) (ss 5)]) := hD
      have eA : pushA (κ 0 0) sa = sa := pushA_lt (by omega) sa
      have eK : pushK (κ 0 0) = κ 0 0 + 1 := pushK_lt (by omega)
      have eS0 : pushS (κ 0 0) ss σ 0 = ss 0 := by rw [pushS_lt (by omega)]; exact if_neg (by omega)
      have eS1 : pushS (κ 0 0) ss σ 1 = σ := by rw [pushS_lt (by omega)]; exact if_pos (by omega)
      have eS2 : pushS (κ 0 0) ss σ 2 = ss 2 := by rw [pushS_lt (by omega)]; exact if_neg (by omega)
      have eS3 : pushS (κ 0 0) ss σ 3 = ss 3 := by rw [pushS_lt (by omega)]; exact if_neg (by omega)
      have eS4 : pushS (κ 0 0) ss σ 4 = ss 4 := by rw [pushS_lt (by omega)]; exact if_neg (by omega)
      have eS5 : pushS (κ 0 0) ss σ 5 = ss 5 := by rw [pushS_lt (by omega)]; exact if_neg (by omega)
      rw [svO_eq (X := (sU κ 0 (0) (((κ 0 0) + 1)))) (Y := (sU κ 0 0 (pushK (κ 0 0)))) (by show κ 0 0 + 1 = pushK (κ 0 0); omega)] at hP hD
      have hP : va_P D vwCl (fl [stW cI a σ, svO cO sv (saF (pushA (κ 0 0) sa)) (sU κ 0 0 (pushK (κ 0 0))), stW cI (pushA (κ 0 0) sa 0) (pushS (κ 0 0) ss σ 0), stW cI (pushA (κ 0 0) sa 1) (pushS (κ 0 0) ss σ 1), stW cI (pushA (κ 0 0) sa 2) (pushS (κ 0 0) ss σ 2), stW cI (pushA (κ 0 0) sa 3) (pushS (κ 0 0) ss σ 3), stW cI (pushA (κ 0 0) sa 4) (pushS (κ 0 0) ss σ 4), stW cI (pushA (κ 0 0) sa 5) (pushS (κ 0 0) ss σ 5)]) H := by rw [eA, eS0, eS1, eS2, eS3, eS4, eS5]; exact hP
      have hD : va_D A (fl [stW cI a σ, svO cO sv (saF (pushA (κ 0 0) sa)) (sU κ 0 0 (pushK (κ 0 0))), stW cI (pushA (κ 0 0) sa 0) (pushS (κ 0 0) ss σ 0), stW cI (pushA (κ 0 0) sa 1) (pushS (κ 0 0) ss σ 1), stW cI (pushA (κ 0 0) sa 2) (pushS (κ 0 0) ss σ 2), stW cI (pushA (κ 0 0) sa 3) (pushS (κ 0 0) ss σ 3), stW cI (pushA (κ 0 0) sa 4) (pushS (κ 0 0) ss σ 4), stW cI (pushA (κ 0 0) sa 5) (pushS (κ 0 0) ss σ 5)]) := by rw [eA, eS0, eS1, eS2, eS3, eS4, eS5]; exact hD
      exact W.vret hx hb hr (fun t9 ht9 hW9 => ⟨⟨(), rfl, (trivial), ⟨by rw [ht9]; exact hP, va_K.moved hW9.alike hK, hD⟩⟩, hS.F ht9⟩) hS.2.2 dX2_save_36 hlocks
    · skip
      refine wi_aldq hx hb hK hP 14 1 (n := 6) (f := (saF sa)) (v := (sa 2) 0) rfl rfl (i := (κ 0 0)) (by omega) (by decide) (by rw [hsp]; rfl) dX2_save_21 ?_
      refine lv_aload_n hx hb dX2_save_22 rfl (lv_at hl 1 rfl) ?_
      have hPc := fl_P (S' := [stW cI (sa 2) (ss 2), stW cI a σ]) hP [4, 0] rfl
      have hKc := hK.sub (tys' := [(cI, FieldType.int)]) [0] rfl
      have hDc := fl_D (S' := [stW cI (sa 2) (ss 2), stW cI a σ]) hD [4, 0] (by decide) rfl
      have hFc := fl_free (SC := [stW cI (sa 2) (ss 2), stW cI a σ]) hD hS hA [4, 0] rfl
      refine va_callv (va_runV (As := [.ref (a 0)]) (rest := []) ⟨hx, hb, hml, hown, hts⟩ (c_X3_copyFrom l D cI cO cC cL s.heap.size (sa 2) (ss 2) a σ ) (cwV 1 hts gX2_save_X3_copyFrom rfl rfl rfl (by decide +kernel) ⟨Nat.le_of_ble_eq_true rfl, Nat.le_of_ble_eq_true rfl⟩) ⟨pcW_blind, va_recv hKc hPc (ci := 3) (q0 := 0) rfl rfl, pcW_of hPc hKc hDc⟩ rfl rfl hl.1 rfl (lv_room (Nat.le_of_ble_eq_true rfl)) dX2_save_23 ⟨(Nat.zero_le _), (Nat.zero_le _)⟩) hS (fun q _ h => hFc q h) hFc (fun  u6 t9 H1 locs ht9 hvm hcl5 hB hz1 hk1 hS => ?_)
      obtain ⟨hP1, hK1, hD1⟩ := hB
      rw [ht9] at hP1
      obtain ⟨hP, hD⟩ := fl_join (SR := [svO cO sv (saF sa) κ, stW cI (sa 0) (ss 0), stW cI (sa 1) (ss 1), stW cI (sa 3) (ss 3), stW cI (sa 4) (ss 4), stW cI (sa 5) (ss 5)]) (S1 := [stW cI (sa 2) σ, stW cI a σ]) hP hD [4, 0] [1, 2, 3, 5, 6, 7] rfl rfl (by decide) (by decide) hk1 hFc hP1 hD1
      generalize H1 = H at hP hS ⊢
      have hP := fl_P (S' := [stW cI a σ, svO cO sv (saF sa) κ, stW cI (sa 0) (ss 0), stW cI (sa 1) (ss 1), stW cI (sa 2) σ, stW cI (sa 3) (ss 3), stW cI (sa 4) (ss 4), stW cI (sa 5) (ss 5)]) hP [7, 0, 1, 2, 6, 3, 4, 5] rfl
      have hD := fl_D (S' := [stW cI a σ, svO cO sv (saF sa) κ, stW cI (sa 0) (ss 0), stW cI (sa 1) (ss 1), stW cI (sa 2) σ, stW cI (sa 3) (ss 3), stW cI (sa 4) (ss 4), stW cI (sa 5) (ss 5)]) hD [7, 0, 1, 2, 6, 3, 4, 5] (by decide) rfl
      refine lv_aload_n hx hb dX2_save_26 rfl (lv_at hl 0 rfl) ?_
      refine lv_dup hx hb dX2_save_27 rfl ?_
      refine va_get (D := D) (ci := 2) (v := .int (iI ((κ 0 0)))) (C := RX2) (T := TX2) (N := 2) hx hb hts hin_X2 hown hK hP 13 rfl rfl 1 (by decide) hw_0 (fun _ h9 => h9) rfl dX2_save_28 ?_
      refine wi_iconst hx hb dX2_save_31 ?_
      refine wi_iadd hx hb dX2_save_32 ?_
      refine va_put (D := D) (ci := 2) (v := .int (iI (((κ 0 0) + 1)))) (ty := .int) (C := RX2) (T := TX2) (N := 2) hx hb hts hin_X2 tyX2 tyX2_ok nmX2 hown hK hP hD hS 13 rfl rfl 1 (by decide) hw_0 (fun _ h9 => h9) rfl (by decide +kernel) rfl rfl (Nat.le_of_ble_eq_true rfl) dX2_save_33 (fun H locs hP hD hS => ?_)
      have hP : va_P D vwCl (fl [stW cI a σ, svO cO sv (saF sa) (sU κ 0 (0) (((κ 0 0) + 1))), stW cI (sa 0) (ss 0), stW cI (sa 1) (ss 1), stW cI (sa 2) σ, stW cI (sa 3) (ss 3), stW cI (sa 4) (ss 4), stW cI (sa 5) (ss 5)]) H := hP
      have hD : va_D A (fl [stW cI a σ, svO cO sv (saF sa) (sU κ 0 (0) (((κ 0 0) + 1))), stW cI (sa 0) (ss 0), stW cI (sa 1) (ss 1), stW cI (sa 2) σ, stW cI (sa 3) (ss 3), stW cI (sa 4) (ss 4), stW cI (sa 5) (ss 5)]) := hD
      have eA : pushA (κ 0 0) sa = sa := pushA_lt (by omega) sa
      have eK : pushK (κ 0 0) = κ 0 0 + 1 := pushK_lt (by omega)
      have eS0 : pushS (κ 0 0) ss σ 0 = ss 0 := by rw [pushS_lt (by omega)]; exact if_neg (by omega)
      have eS1 : pushS (κ 0 0) ss σ 1 = ss 1 := by rw [pushS_lt (by omega)]; exact if_neg (by omega)
      have eS2 : pushS (κ 0 0) ss σ 2 = σ := by rw [pushS_lt (by omega)]; exact if_pos (by omega)
      have eS3 : pushS (κ 0 0) ss σ 3 = ss 3 := by rw [pushS_lt (by omega)]; exact if_neg (by omega)
      have eS4 : pushS (κ 0 0) ss σ 4 = ss 4 := by rw [pushS_lt (by omega)]; exact if_neg (by omega)
      have eS5 : pushS (κ 0 0) ss σ 5 = ss 5 := by rw [pushS_lt (by omega)]; exact if_neg (by omega)
      rw [svO_eq (X := (sU κ 0 (0) (((κ 0 0) + 1)))) (Y := (sU κ 0 0 (pushK (κ 0 0)))) (by show κ 0 0 + 1 = pushK (κ 0 0); omega)] at hP hD
      have hP : va_P D vwCl (fl [stW cI a σ, svO cO sv (saF (pushA (κ 0 0) sa)) (sU κ 0 0 (pushK (κ 0 0))), stW cI (pushA (κ 0 0) sa 0) (pushS (κ 0 0) ss σ 0), stW cI (pushA (κ 0 0) sa 1) (pushS (κ 0 0) ss σ 1), stW cI (pushA (κ 0 0) sa 2) (pushS (κ 0 0) ss σ 2), stW cI (pushA (κ 0 0) sa 3) (pushS (κ 0 0) ss σ 3), stW cI (pushA (κ 0 0) sa 4) (pushS (κ 0 0) ss σ 4), stW cI (pushA (κ 0 0) sa 5) (pushS (κ 0 0) ss σ 5)]) H := by rw [eA, eS0, eS1, eS2, eS3, eS4, eS5]; exact hP
      have hD : va_D A (fl [stW cI a σ, svO cO sv (saF (pushA (κ 0 0) sa)) (sU κ 0 0 (pushK (κ 0 0))), stW cI (pushA (κ 0 0) sa 0) (pushS (κ 0 0) ss σ 0), stW cI (pushA (κ 0 0) sa 1) (pushS (κ 0 0) ss σ 1), stW cI (pushA (κ 0 0) sa 2) (pushS (κ 0 0) ss σ 2), stW cI (pushA (κ 0 0) sa 3) (pushS (κ 0 0) ss σ 3), stW cI (pushA (κ 0 0) sa 4) (pushS (κ 0 0) ss σ 4), stW cI (pushA (κ 0 0) sa 5) (pushS (κ 0 0) ss σ 5)]) := by rw [eA, eS0, eS1, eS2, eS3, eS4, eS5]; exact hD
      exact W.vret hx hb hr (fun t9 ht9 hW9 => ⟨⟨(), rfl, (trivial), ⟨by rw [ht9]; exact hP, va_K.moved hW9.alike hK, hD⟩⟩, hS.F ht9⟩) hS.2.2 dX2_save_36 hlocks
    · skip
      refine wi_aldq hx hb hK hP 14 1 (n := 6) (f := (saF sa)) (v := (sa 3) 0) rfl rfl (i := (κ 0 0)) (by omega) (by decide) (by rw [hsp]; rfl) dX2_save_21 ?_
      refine lv_aload_n hx hb dX2_save_22 rfl (lv_at hl 1 rfl) ?_
      have hPc := fl_P (S' := [stW cI (sa 3) (ss 3), stW cI a σ]) hP [5, 0] rfl
      have hKc := hK.sub (tys' := [(cI, FieldType.int)]) [0] rfl
      have hDc := fl_D (S' := [stW cI (sa 3) (ss 3), stW cI a σ]) hD [5, 0] (by decide) rfl
      have hFc := fl_free (SC := [stW cI (sa 3) (ss 3), stW cI a σ]) hD hS hA [5, 0] rfl
      refine va_callv (va_runV (As := [.ref (a 0)]) (rest := []) ⟨hx, hb, hml, hown, hts⟩ (c_X3_copyFrom l D cI cO cC cL s.heap.size (sa 3) (ss 3) a σ ) (cwV 1 hts gX2_save_X3_copyFrom rfl rfl rfl (by decide +kernel) ⟨Nat.le_of_ble_eq_true rfl, Nat.le_of_ble_eq_true rfl⟩) ⟨pcW_blind, va_recv hKc hPc (ci := 3) (q0 := 0) rfl rfl, pcW_of hPc hKc hDc⟩ rfl rfl hl.1 rfl (lv_room (Nat.le_of_ble_eq_true rfl)) dX2_save_23 ⟨(Nat.zero_le _), (Nat.zero_le _)⟩) hS (fun q _ h => hFc q h) hFc (fun  u8 t9 H1 locs ht9 hvm hcl7 hB hz1 hk1 hS => ?_)
      obtain ⟨hP1, hK1, hD1⟩ := hB
      rw [ht9] at hP1
      obtain ⟨hP, hD⟩ := fl_join (SR := [svO cO sv (saF sa) κ, stW cI (sa 0) (ss 0), stW cI (sa 1) (ss 1), stW cI (sa 2) (ss 2), stW cI (sa 4) (ss 4), stW cI (sa 5) (ss 5)]) (S1 := [stW cI (sa 3) σ, stW cI a σ]) hP hD [5, 0] [1, 2, 3, 4, 6, 7] rfl rfl (by decide) (by decide) hk1 hFc hP1 hD1
      generalize H1 = H at hP hS ⊢
      have hP := fl_P (S' := [stW cI a σ, svO cO sv (saF sa) κ, stW cI (sa 0) (ss 0), stW cI (sa 1) (ss 1), stW cI (sa 2) (ss 2), stW cI (sa 3) σ, stW cI (sa 4) (ss 4), stW cI (sa 5) (ss 5)]) hP [7, 0, 1, 2, 3, 6, 4, 5] rfl
      have hD := fl_D (S' := [stW cI a σ, svO cO sv (saF sa) κ, stW cI (sa 0) (ss 0), stW cI (sa 1) (ss 1), stW cI (sa 2) (ss 2), stW cI (sa 3) σ, stW cI (sa 4) (ss 4), stW cI (sa 5) (ss 5)]) hD [7, 0, 1, 2, 3, 6, 4, 5] (by decide) rfl
      refine lv_aload_n hx hb dX2_save_26 rfl (lv_at hl 0 rfl) ?_
      refine lv_dup hx hb dX2_save_27 rfl ?_
      refine va_get (D := D) (ci := 2) (v := .int (iI ((κ 0 0)))) (C := RX2) (T := TX2) (N := 2) hx hb hts hin_X2 hown hK hP 13 rfl rfl 1 (by decide) hw_0 (fun _ h9 => h9) rfl dX2_save_28 ?_
      refine wi_iconst hx hb dX2_save_31 ?_
      refine wi_iadd hx hb dX2_save_32 ?_
      refine va_put (D := D) (ci := 2) (v := .int (iI (((κ 0 0) + 1)))) (ty := .int) (C := RX2) (T := TX2) (N := 2) hx hb hts hin_X2 tyX2 tyX2_ok nmX2 hown hK hP hD hS 13 rfl rfl 1 (by decide) hw_0 (fun _ h9 => h9) rfl (by decide +kernel) rfl rfl (Nat.le_of_ble_eq_true rfl) dX2_save_33 (fun H locs hP hD hS => ?_)
      have hP : va_P D vwCl (fl [stW cI a σ, svO cO sv (saF sa) (sU κ 0 (0) (((κ 0 0) + 1))), stW cI (sa 0) (ss 0), stW cI (sa 1) (ss 1), stW cI (sa 2) (ss 2), stW cI (sa 3) σ, stW cI (sa 4) (ss 4), stW cI (sa 5) (ss 5)]) H := hP
      have hD : va_D A (fl [stW cI a σ, svO cO sv (saF sa) (sU κ 0 (0) (((κ 0 0) + 1))), stW cI (sa 0) (ss 0), stW cI (sa 1) (ss 1), stW cI (sa 2) (ss 2), stW cI (sa 3) σ, stW cI (sa 4) (ss 4), stW cI (sa 5) (ss 5)]) := hD
      have eA : pushA (κ 0 0) sa = sa := pushA_lt (by omega) sa
      have eK : pushK (κ 0 0) = κ 0 0 + 1 := pushK_lt (by omega)
      have eS0 : pushS (κ 0 0) ss σ 0 = ss 0 := by rw [pushS_lt (by omega)]; exact if_neg (by omega)
      have eS1 : pushS (κ 0 0) ss σ 1 = ss 1 := by rw [pushS_lt (by omega)]; exact if_neg (by omega)
      have eS2 : pushS (κ 0 0) ss σ 2 = ss 2 := by rw [pushS_lt (by omega)]; exact if_neg (by omega)
      have eS3 : pushS (κ 0 0) ss σ 3 = σ := by rw [pushS_lt (by omega)]; exact if_pos (by omega)
      have eS4 : pushS (κ 0 0) ss σ 4 = ss 4 := by rw [pushS_lt (by omega)]; exact if_neg (by omega)
      have eS5 : pushS (κ 0 0) ss σ 5 = ss 5 := by rw [pushS_lt (by omega)]; exact if_neg (by omega)
      rw [svO_eq (X := (sU κ 0 (0) (((κ 0 0) + 1)))) (Y := (sU κ 0 0 (pushK (κ 0 0)))) (by show κ 0 0 + 1 = pushK (κ 0 0); omega)] at hP hD
      have hP : va_P D vwCl (fl [stW cI a σ, svO cO sv (saF (pushA (κ 0 0) sa)) (sU κ 0 0 (pushK (κ 0 0))), stW cI (pushA (κ 0 0) sa 0) (pushS (κ 0 0) ss σ 0), stW cI (pushA (κ 0 0) sa 1) (pushS (κ 0 0) ss σ 1), stW cI (pushA (κ 0 0) sa 2) (pushS (κ 0 0) ss σ 2), stW cI (pushA (κ 0 0) sa 3) (pushS (κ 0 0) ss σ 3), stW cI (pushA (κ 0 0) sa 4) (pushS (κ 0 0) ss σ 4), stW cI (pushA (κ 0 0) sa 5) (pushS (κ 0 0) ss σ 5)]) H := by rw [eA, eS0, eS1, eS2, eS3, eS4, eS5]; exact hP
      have hD : va_D A (fl [stW cI a σ, svO cO sv (saF (pushA (κ 0 0) sa)) (sU κ 0 0 (pushK (κ 0 0))), stW cI (pushA (κ 0 0) sa 0) (pushS (κ 0 0) ss σ 0), stW cI (pushA (κ 0 0) sa 1) (pushS (κ 0 0) ss σ 1), stW cI (pushA (κ 0 0) sa 2) (pushS (κ 0 0) ss σ 2), stW cI (pushA (κ 0 0) sa 3) (pushS (κ 0 0) ss σ 3), stW cI (pushA (κ 0 0) sa 4) (pushS (κ 0 0) ss σ 4), stW cI (pushA (κ 0 0) sa 5) (pushS (κ 0 0) ss σ 5)]) := by rw [eA, eS0, eS1, eS2, eS3, eS4, eS5]; exact hD
      exact W.vret hx hb hr (fun t9 ht9 hW9 => ⟨⟨(), rfl, (trivial), ⟨by rw [ht9]; exact hP, va_K.moved hW9.alike hK, hD⟩⟩, hS.F ht9⟩) hS.2.2 dX2_save_36 hlocks
    · skip
      refine wi_aldq hx hb hK hP 14 1 (n := 6) (f := (saF sa)) (v := (sa 4) 0) rfl rfl (i := (κ 0 0)) (by omega) (by decide) (by rw [hsp]; rfl) dX2_save_21 ?_
      refine lv_aload_n hx hb dX2_save_22 rfl (lv_at hl 1 rfl) ?_
      have hPc := fl_P (S' := [stW cI (sa 4) (ss 4), stW cI a σ]) hP [6, 0] rfl
      have hKc := hK.sub (tys' := [(cI, FieldType.int)]) [0] rfl
      have hDc := fl_D (S' := [stW cI (sa 4) (ss 4), stW cI a σ]) hD [6, 0] (by decide) rfl
      have hFc := fl_free (SC := [stW cI (sa 4) (ss 4), stW cI a σ]) hD hS hA [6, 0] rfl
      refine va_callv (va_runV (As := [.ref (a 0)]) (rest := []) ⟨hx, hb, hml, hown, hts⟩ (c_X3_copyFrom l D cI cO cC cL s.heap.size (sa 4) (ss 4) a σ ) (cwV 1 hts gX2_save_X3_copyFrom rfl rfl rfl (by decide +kernel) ⟨Nat.le_of_ble_eq_true rfl, Nat.le_of_ble_eq_true rfl⟩) ⟨pcW_blind, va_recv hKc hPc (ci := 3) (q0 := 0) rfl rfl, pcW_of hPc hKc hDc⟩ rfl rfl hl.1 rfl (lv_room (Nat.le_of_ble_eq_true rfl)) dX2_save_23 ⟨(Nat.zero_le _), (Nat.zero_le _)⟩) hS (fun q _ h => hFc q h) hFc (fun  u10 t9 H1 locs ht9 hvm hcl9 hB hz1 hk1 hS => ?_)
      obtain ⟨hP1, hK1, hD1⟩ := hB
      rw [ht9] at hP1
      obtain ⟨hP, hD⟩ := fl_join (SR := [svO cO sv (saF sa) κ, stW cI (sa 0) (ss 0), stW cI (sa 1) (ss 1), stW cI (sa 2) (ss 2), stW cI (sa 3) (ss 3), stW cI (sa 5) (ss 5)]) (S1 := [stW cI (sa 4) σ, stW cI a σ]) hP hD [6, 0] [1, 2, 3, 4, 5, 7] rfl rfl (by decide) (by decide) hk1 hFc hP1 hD1
      generalize H1 = H at hP hS ⊢
      have hP := fl_P (S' := [stW cI a σ, svO cO sv (saF sa) κ, stW cI (sa 0) (ss 0), stW cI (sa 1) (ss 1), stW cI (sa 2) (ss 2), stW cI (sa 3) (ss 3), stW cI (sa 4) σ, stW cI (sa 5) (ss 5)]) hP [7, 0, 1, 2, 3, 4, 6, 5] rfl
      have hD := fl_D (S' := [stW cI a σ, svO cO sv (saF sa) κ, stW cI (sa 0) (ss 0), stW cI (sa 1) (ss 1), stW cI (sa 2) (ss 2), stW cI (sa 3) (ss 3), stW cI (sa 4) σ, stW cI (sa 5) (ss 5)]) hD [7, 0, 1, 2, 3, 4, 6, 5] (by decide) rfl
      refine lv_aload_n hx hb dX2_save_26 rfl (lv_at hl 0 rfl) ?_
      refine lv_dup hx hb dX2_save_27 rfl ?_
      refine va_get (D := D) (ci := 2) (v := .int (iI ((κ 0 0)))) (C := RX2) (T := TX2) (N := 2) hx hb hts hin_X2 hown hK hP 13 rfl rfl 1 (by decide) hw_0 (fun _ h9 => h9) rfl dX2_save_28 ?_
      refine wi_iconst hx hb dX2_save_31 ?_
      refine wi_iadd hx hb dX2_save_32 ?_
      refine va_put (D := D) (ci := 2) (v := .int (iI (((κ 0 0) + 1)))) (ty := .int) (C := RX2) (T := TX2) (N := 2) hx hb hts hin_X2 tyX2 tyX2_ok nmX2 hown hK hP hD hS 13 rfl rfl 1 (by decide) hw_0 (fun _ h9 => h9) rfl (by decide +kernel) rfl rfl (Nat.le_of_ble_eq_true rfl) dX2_save_33 (fun H locs hP hD hS => ?_)
      have hP : va_P D vwCl (fl [stW cI a σ, svO cO sv (saF sa) (sU κ 0 (0) (((κ 0 0) + 1))), stW cI (sa 0) (ss 0), stW cI (sa 1) (ss 1), stW cI (sa 2) (ss 2), stW cI (sa 3) (ss 3), stW cI (sa 4) σ, stW cI (sa 5) (ss 5)]) H := hP
      have hD : va_D A (fl [stW cI a σ, svO cO sv (saF sa) (sU κ 0 (0) (((κ 0 0) + 1))), stW cI (sa 0) (ss 0), stW cI (sa 1) (ss 1), stW cI (sa 2) (ss 2), stW cI (sa 3) (ss 3), stW cI (sa 4) σ, stW cI (sa 5) (ss 5)]) := hD
      have eA : pushA (κ 0 0) sa = sa := pushA_lt (by omega) sa
      have eK : pushK (κ 0 0) = κ 0 0 + 1 := pushK_lt (by omega)
      have eS0 : pushS (κ 0 0) ss σ 0 = ss 0 := by rw [pushS_lt (by omega)]; exact if_neg (by omega)
      have eS1 : pushS (κ 0 0) ss σ 1 = ss 1 := by rw [pushS_lt (by omega)]; exact if_neg (by omega)
      have eS2 : pushS (κ 0 0) ss σ 2 = ss 2 := by rw [pushS_lt (by omega)]; exact if_neg (by omega)
      have eS3 : pushS (κ 0 0) ss σ 3 = ss 3 := by rw [pushS_lt (by omega)]; exact if_neg (by omega)
      have eS4 : pushS (κ 0 0) ss σ 4 = σ := by rw [pushS_lt (by omega)]; exact if_pos (by omega)
      have eS5 : pushS (κ 0 0) ss σ 5 = ss 5 := by rw [pushS_lt (by omega)]; exact if_neg (by omega)
      rw [svO_eq (X := (sU κ 0 (0) (((κ 0 0) + 1)))) (Y := (sU κ 0 0 (pushK (κ 0 0)))) (by show κ 0 0 + 1 = pushK (κ 0 0); omega)] at hP hD
      have hP : va_P D vwCl (fl [stW cI a σ, svO cO sv (saF (pushA (κ 0 0) sa)) (sU κ 0 0 (pushK (κ 0 0))), stW cI (pushA (κ 0 0) sa 0) (pushS (κ 0 0) ss σ 0), stW cI (pushA (κ 0 0) sa 1) (pushS (κ 0 0) ss σ 1), stW cI (pushA (κ 0 0) sa 2) (pushS (κ 0 0) ss σ 2), stW cI (pushA (κ 0 0) sa 3) (pushS (κ 0 0) ss σ 3), stW cI (pushA (κ 0 0) sa 4) (pushS (κ 0 0) ss σ 4), stW cI (pushA (κ 0 0) sa 5) (pushS (κ 0 0) ss σ 5)]) H := by rw [eA, eS0, eS1, eS2, eS3, eS4, eS5]; exact hP
      have hD : va_D A (fl [stW cI a σ, svO cO sv (saF (pushA (κ 0 0) sa)) (sU κ 0 0 (pushK (κ 0 0))), stW cI (pushA (κ 0 0) sa 0) (pushS (κ 0 0) ss σ 0), stW cI (pushA (κ 0 0) sa 1) (pushS (κ 0 0) ss σ 1), stW cI (pushA (κ 0 0) sa 2) (pushS (κ 0 0) ss σ 2), stW cI (pushA (κ 0 0) sa 3) (pushS (κ 0 0) ss σ 3), stW cI (pushA (κ 0 0) sa 4) (pushS (κ 0 0) ss σ 4), stW cI (pushA (κ 0 0) sa 5) (pushS (κ 0 0) ss σ 5)]) := by rw [eA, eS0, eS1, eS2, eS3, eS4, eS5]; exact hD
      exact W.vret hx hb hr (fun t9 ht9 hW9 => ⟨⟨(), rfl, (trivial), ⟨by rw [ht9]; exact hP, va_K.moved hW9.alike hK, hD⟩⟩, hS.F ht9⟩) hS.2.2 dX2_save_36 hlocks
    · skip
      refine wi_aldq hx hb hK hP 14 1 (n := 6) (f := (saF sa)) (v := (sa 5) 0) rfl rfl (i := (κ 0 0)) (by omega) (by decide) (by rw [hsp]; rfl) dX2_save_21 ?_
      refine lv_aload_n hx hb dX2_save_22 rfl (lv_at hl 1 rfl) ?_
      have hPc := fl_P (S' := [stW cI (sa 5) (ss 5), stW cI a σ]) hP [7, 0] rfl
      have hKc := hK.sub (tys' := [(cI, FieldType.int)]) [0] rfl
      have hDc := fl_D (S' := [stW cI (sa 5) (ss 5), stW cI a σ]) hD [7, 0] (by decide) rfl
      have hFc := fl_free (SC := [stW cI (sa 5) (ss 5), stW cI a σ]) hD hS hA [7, 0] rfl
      refine va_callv (va_runV (As := [.ref (a 0)]) (rest := []) ⟨hx, hb, hml, hown, hts⟩ (c_X3_copyFrom l D cI cO cC cL s.heap.size (sa 5) (ss 5) a σ ) (cwV 1 hts gX2_save_X3_copyFrom rfl rfl rfl (by decide +kernel) ⟨Nat.le_of_ble_eq_true rfl, Nat.le_of_ble_eq_true rfl⟩) ⟨pcW_blind, va_recv hKc hPc (ci := 3) (q0 := 0) rfl rfl, pcW_of hPc hKc hDc⟩ rfl rfl hl.1 rfl (lv_room (Nat.le_of_ble_eq_true rfl)) dX2_save_23 ⟨(Nat.zero_le _), (Nat.zero_le _)⟩) hS (fun q _ h => hFc q h) hFc (fun  u12 t9 H1 locs ht9 hvm hcl11 hB hz1 hk1 hS => ?_)
      obtain ⟨hP1, hK1, hD1⟩ := hB
      rw [ht9] at hP1
      obtain ⟨hP, hD⟩ := fl_join (SR := [svO cO sv (saF sa) κ, stW cI (sa 0) (ss 0), stW cI (sa 1) (ss 1), stW cI (sa 2) (ss 2), stW cI (sa 3) (ss 3), stW cI (sa 4) (ss 4)]) (S1 := [stW cI (sa 5) σ, stW cI a σ]) hP hD [7, 0] [1, 2, 3, 4, 5, 6] rfl rfl (by decide) (by decide) hk1 hFc hP1 hD1
      generalize H1 = H at hP hS ⊢
      have hP := fl_P (S' := [stW cI a σ, svO cO sv (saF sa) κ, stW cI (sa 0) (ss 0), stW cI (sa 1) (ss 1), stW cI (sa 2) (ss 2), stW cI (sa 3) (ss 3), stW cI (sa 4) (ss 4), stW cI (sa 5) σ]) hP [7, 0, 1, 2, 3, 4, 5, 6] rfl
      have hD := fl_D (S' := [stW cI a σ, svO cO sv (saF sa) κ, stW cI (sa 0) (ss 0), stW cI (sa 1) (ss 1), stW cI (sa 2) (ss 2), stW cI (sa 3) (ss 3), stW cI (sa 4) (ss 4), stW cI (sa 5) σ]) hD [7, 0, 1, 2, 3, 4, 5, 6] (by decide) rfl
      refine lv_aload_n hx hb dX2_save_26 rfl (lv_at hl 0 rfl) ?_
      refine lv_dup hx hb dX2_save_27 rfl ?_
      refine va_get (D := D) (ci := 2) (v := .int (iI ((κ 0 0)))) (C := RX2) (T := TX2) (N := 2) hx hb hts hin_X2 hown hK hP 13 rfl rfl 1 (by decide) hw_0 (fun _ h9 => h9) rfl dX2_save_28 ?_
      refine wi_iconst hx hb dX2_save_31 ?_
      refine wi_iadd hx hb dX2_save_32 ?_
      refine va_put (D := D) (ci := 2) (v := .int (iI (((κ 0 0) + 1)))) (ty := .int) (C := RX2) (T := TX2) (N := 2) hx hb hts hin_X2 tyX2 tyX2_ok nmX2 hown hK hP hD hS 13 rfl rfl 1 (by decide) hw_0 (fun _ h9 => h9) rfl (by decide +kernel) rfl rfl (Nat.le_of_ble_eq_true rfl) dX2_save_33 (fun H locs hP hD hS => ?_)
      have hP : va_P D vwCl (fl [stW cI a σ, svO cO sv (saF sa) (sU κ 0 (0) (((κ 0 0) + 1))), stW cI (sa 0) (ss 0), stW cI (sa 1) (ss 1), stW cI (sa 2) (ss 2), stW cI (sa 3) (ss 3), stW cI (sa 4) (ss 4), stW cI (sa 5) σ]) H := hP
      have hD : va_D A (fl [stW cI a σ, svO cO sv (saF sa) (sU κ 0 (0) (((κ 0 0) + 1))), stW cI (sa 0) (ss 0), stW cI (sa 1) (ss 1), stW cI (sa 2) (ss 2), stW cI (sa 3) (ss 3), stW cI (sa 4) (ss 4), stW cI (sa 5) σ]) := hD
      have eA : pushA (κ 0 0) sa = sa := pushA_lt (by omega) sa
      have eK : pushK (κ 0 0) = κ 0 0 + 1 := pushK_lt (by omega)
      have eS0 : pushS (κ 0 0) ss σ 0 = ss 0 := by rw [pushS_lt (by omega)]; exact if_neg (by omega)
      have eS1 : pushS (κ 0 0) ss σ 1 = ss 1 := by rw [pushS_lt (by omega)]; exact if_neg (by omega)
      have eS2 : pushS (κ 0 0) ss σ 2 = ss 2 := by rw [pushS_lt (by omega)]; exact if_neg (by omega)
      have eS3 : pushS (κ 0 0) ss σ 3 = ss 3 := by rw [pushS_lt (by omega)]; exact if_neg (by omega)
      have eS4 : pushS (κ 0 0) ss σ 4 = ss 4 := by rw [pushS_lt (by omega)]; exact if_neg (by omega)
      have eS5 : pushS (κ 0 0) ss σ 5 = σ := by rw [pushS_lt (by omega)]; exact if_pos (by omega)
      rw [svO_eq (X := (sU κ 0 (0) (((κ 0 0) + 1)))) (Y := (sU κ 0 0 (pushK (κ 0 0)))) (by show κ 0 0 + 1 = pushK (κ 0 0); omega)] at hP hD
      have hP : va_P D vwCl (fl [stW cI a σ, svO cO sv (saF (pushA (κ 0 0) sa)) (sU κ 0 0 (pushK (κ 0 0))), stW cI (pushA (κ 0 0) sa 0) (pushS (κ 0 0) ss σ 0), stW cI (pushA (κ 0 0) sa 1) (pushS (κ 0 0) ss σ 1), stW cI (pushA (κ 0 0) sa 2) (pushS (κ 0 0) ss σ 2), stW cI (pushA (κ 0 0) sa 3) (pushS (κ 0 0) ss σ 3), stW cI (pushA (κ 0 0) sa 4) (pushS (κ 0 0) ss σ 4), stW cI (pushA (κ 0 0) sa 5) (pushS (κ 0 0) ss σ 5)]) H := by rw [eA, eS0, eS1, eS2, eS3, eS4, eS5]; exact hP
      have hD : va_D A (fl [stW cI a σ, svO cO sv (saF (pushA (κ 0 0) sa)) (sU κ 0 0 (pushK (κ 0 0))), stW cI (pushA (κ 0 0) sa 0) (pushS (κ 0 0) ss σ 0), stW cI (pushA (κ 0 0) sa 1) (pushS (κ 0 0) ss σ 1), stW cI (pushA (κ 0 0) sa 2) (pushS (κ 0 0) ss σ 2), stW cI (pushA (κ 0 0) sa 3) (pushS (κ 0 0) ss σ 3), stW cI (pushA (κ 0 0) sa 4) (pushS (κ 0 0) ss σ 4), stW cI (pushA (κ 0 0) sa 5) (pushS (κ 0 0) ss σ 5)]) := by rw [eA, eS0, eS1, eS2, eS3, eS4, eS5]; exact hD
      exact W.vret hx hb hr (fun t9 ht9 hW9 => ⟨⟨(), rfl, (trivial), ⟨by rw [ht9]; exact hP, va_K.moved hW9.alike hK, hD⟩⟩, hS.F ht9⟩) hS.2.2 dX2_save_36 hlocks
  · skip
    refine lv_aload_n hx hb dX2_save_9 rfl (lv_at hl 0 rfl) ?_
    have hPc := fl_P (S' := [svO cO sv (saF sa) κ, stW cI (sa 0) (ss 0), stW cI (sa 1) (ss 1), stW cI (sa 2) (ss 2), stW cI (sa 3) (ss 3), stW cI (sa 4) (ss 4), stW cI (sa 5) (ss 5)]) hP [1, 2, 3, 4, 5, 6, 7] rfl
    have hDc := fl_D (S' := [svO cO sv (saF sa) κ, stW cI (sa 0) (ss 0), stW cI (sa 1) (ss 1), stW cI (sa 2) (ss 2), stW cI (sa 3) (ss 3), stW cI (sa 4) (ss 4), stW cI (sa 5) (ss 5)]) hD [1, 2, 3, 4, 5, 6, 7] (by decide) rfl
    have hFc := fl_free (SC := [svO cO sv (saF sa) κ, stW cI (sa 0) (ss 0), stW cI (sa 1) (ss 1), stW cI (sa 2) (ss 2), stW cI (sa 3) (ss 3), stW cI (sa 4) (ss 4), stW cI (sa 5) (ss 5)]) hD hS hA [1, 2, 3, 4, 5, 6, 7] rfl
    refine va_callv (va_runV (As := []) (rest := []) ⟨hx, hb, hml, hown, hts⟩ (c_X2_dropOldest l D cI cO cC cL s.heap.size sv κ sa ss ) (cwV 0 hts gX2_save_X2_dropOldest rfl rfl rfl (by decide +kernel) ⟨Nat.le_of_ble_eq_true rfl, Nat.le_of_ble_eq_true rfl⟩) ⟨pcW_blind, va_recv hK hPc (ci := 2) (q0 := 0) rfl rfl, pcW_of hPc hK hDc⟩ rfl rfl hl.1 rfl (lv_room (Nat.le_of_ble_eq_true rfl)) dX2_save_10 ⟨(Nat.zero_le _), (Nat.zero_le _)⟩) hS (fun q _ h => hFc q h) hFc (fun  u14 t9 H1 locs ht9 hvm hcl13 hB hz1 hk1 hS => ?_)
    obtain ⟨hP1, hK1, hD1⟩ := hB
    rw [ht9] at hP1
    obtain ⟨hP, hD⟩ := fl_join (SR := [stW cI a σ]) (S1 := [svO cO sv (saF (rotA sa)) (sU κ 0 0 (κ 0 0 - 1)), stW cI (sa 0) (ss 0), stW cI (sa 1) (ss 1), stW cI (sa 2) (ss 2), stW cI (sa 3) (ss 3), stW cI (sa 4) (ss 4), stW cI (sa 5) (ss 5)]) hP hD [1, 2, 3, 4, 5, 6, 7] [0] rfl rfl (by decide) (by decide) hk1 hFc hP1 hD1
    generalize H1 = H at hP hS ⊢
    have hP := fl_P (S' := [stW cI a σ, svO cO sv (saF (rotA sa)) (sU κ 0 0 (κ 0 0 - 1)), stW cI (sa 0) (ss 0), stW cI (sa 1) (ss 1), stW cI (sa 2) (ss 2), stW cI (sa 3) (ss 3), stW cI (sa 4) (ss 4), stW cI (sa 5) (ss 5)]) hP [0, 1, 2, 3, 4, 5, 6, 7] rfl
    have hD := fl_D (S' := [stW cI a σ, svO cO sv (saF (rotA sa)) (sU κ 0 0 (κ 0 0 - 1)), stW cI (sa 0) (ss 0), stW cI (sa 1) (ss 1), stW cI (sa 2) (ss 2), stW cI (sa 3) (ss 3), stW cI (sa 4) (ss 4), stW cI (sa 5) (ss 5)]) hD [0, 1, 2, 3, 4, 5, 6, 7] (by decide) rfl
    have hk0 : (sU κ 0 0 (κ 0 0 - 1)) 0 0 = κ 0 0 - 1 := rfl
    refine lv_aload_n hx hb dX2_save_13 rfl (lv_at hl 0 rfl) ?_
    refine va_get (D := D) (ci := 2) (v := .ref (sv 1)) (C := RX2) (T := TX2) (N := 2) hx hb hts hin_X2 hown hK hP 13 rfl rfl 0 (by decide) hw_1 (fun _ h9 => h9) rfl dX2_save_14 ?_
    refine lv_aload_n hx hb dX2_save_17 rfl (lv_at hl 0 rfl) ?_
    refine va_get (D := D) (ci := 2) (v := .int (iI (((sU κ 0 0 (κ 0 0 - 1)) 0 0)))) (C := RX2) (T := TX2) (N := 2) hx hb hts hin_X2 hown hK hP 13 rfl rfl 1 (by decide) hw_0 (fun _ h9 => h9) rfl dX2_save_18 ?_
    have hsp21 : ((sU κ 0 0 (κ 0 0 - 1)) 0 0) = 5 := by omega
    have hsp := hsp21
    · skip
      refine wi_aldq hx hb hK hP 14 1 (n := 6) (f := (saF (rotA sa))) (v := (sa 0) 0) rfl rfl (i := ((sU κ 0 0 (κ 0 0 - 1)) 0 0)) (by omega) (by decide) (by rw [hsp]; rfl) dX2_save_21 ?_
      refine lv_aload_n hx hb dX2_save_22 rfl (lv_at hl 1 rfl) ?_
      have hPc := fl_P (S' := [stW cI (sa 0) (ss 0), stW cI a σ]) hP [2, 0] rfl
      have hKc := hK.sub (tys' := [(cI, FieldType.int)]) [0] rfl
      have hDc := fl_D (S' := [stW cI (sa 0) (ss 0), stW cI a σ]) hD [2, 0] (by decide) rfl
      have hFc := fl_free (SC := [stW cI (sa 0) (ss 0), stW cI a σ]) hD hS hA [2, 0] rfl
      refine va_callv (va_runV (As := [.ref (a 0)]) (rest := []) ⟨hx, hb, hml, hown, hts⟩ (c_X3_copyFrom l D cI cO cC cL H.size (sa 0) (ss 0) a σ ) (cwV 1 hts gX2_save_X3_copyFrom rfl rfl rfl (by decide +kernel) ⟨Nat.le_of_ble_eq_true rfl, Nat.le_of_ble_eq_true rfl⟩) ⟨pcW_blind, va_recv hKc hPc (ci := 3) (q0 := 0) rfl rfl, pcW_of hPc hKc hDc⟩ rfl rfl hl.1 rfl (lv_room (Nat.le_of_ble_eq_true rfl)) dX2_save_23 ⟨(Nat.zero_le _), (Nat.zero_le _)⟩) hS (fun q _ h => hFc q h) hFc (fun  u16 t9 H1 locs ht9 hvm hcl15 hB hz1 hk1 hS => ?_)
      obtain ⟨hP1, hK1, hD1⟩ := hB
      rw [ht9] at hP1
      obtain ⟨hP, hD⟩ := fl_join (SR := [svO cO sv (saF (rotA sa)) (sU κ 0 0 (κ 0 0 - 1)), stW cI (sa 1) (ss 1), stW cI (sa 2) (ss 2), stW cI (sa 3) (ss 3), stW cI (sa 4) (ss 4), stW cI (sa 5) (ss 5)]) (S1 := [stW cI (sa 0) σ, stW cI a σ]) hP hD [2, 0] [1, 3, 4, 5, 6, 7] rfl rfl (by decide) (by decide) hk1 hFc hP1 hD1
      generalize H1 = H at hP hS ⊢
      have hP := fl_P (S' := [stW cI a σ, svO cO sv (saF (rotA sa)) (sU κ 0 0 (κ 0 0 - 1)), stW cI (sa 0) σ, stW cI (sa 1) (ss 1), stW cI (sa 2) (ss 2), stW cI (sa 3) (ss 3), stW cI (sa 4) (ss 4), stW cI (sa 5) (ss 5)]) hP [7, 0, 6, 1, 2, 3, 4, 5] rfl
      have hD := fl_D (S' := [stW cI a σ, svO cO sv (saF (rotA sa)) (sU κ 0 0 (κ 0 0 - 1)), stW cI (sa 0) σ, stW cI (sa 1) (ss 1), stW cI (sa 2) (ss 2), stW cI (sa 3) (ss 3), stW cI (sa 4) (ss 4), stW cI (sa 5) (ss 5)]) hD [7, 0, 6, 1, 2, 3, 4, 5] (by decide) rfl
      refine lv_aload_n hx hb dX2_save_26 rfl (lv_at hl 0 rfl) ?_
      refine lv_dup hx hb dX2_save_27 rfl ?_
      refine va_get (D := D) (ci := 2) (v := .int (iI (((sU κ 0 0 (κ 0 0 - 1)) 0 0)))) (C := RX2) (T := TX2) (N := 2) hx hb hts hin_X2 hown hK hP 13 rfl rfl 1 (by decide) hw_0 (fun _ h9 => h9) rfl dX2_save_28 ?_
      refine wi_iconst hx hb dX2_save_31 ?_
      refine wi_iadd hx hb dX2_save_32 ?_
      refine va_put (D := D) (ci := 2) (v := .int (iI ((((sU κ 0 0 (κ 0 0 - 1)) 0 0) + 1)))) (ty := .int) (C := RX2) (T := TX2) (N := 2) hx hb hts hin_X2 tyX2 tyX2_ok nmX2 hown hK hP hD hS 13 rfl rfl 1 (by decide) hw_0 (fun _ h9 => h9) rfl (by decide +kernel) rfl rfl (Nat.le_of_ble_eq_true rfl) dX2_save_33 (fun H locs hP hD hS => ?_)
      have hP : va_P D vwCl (fl [stW cI a σ, svO cO sv (saF (rotA sa)) (sU (sU κ 0 0 (κ 0 0 - 1)) 0 (0) ((((sU κ 0 0 (κ 0 0 - 1)) 0 0) + 1))), stW cI (sa 0) σ, stW cI (sa 1) (ss 1), stW cI (sa 2) (ss 2), stW cI (sa 3) (ss 3), stW cI (sa 4) (ss 4), stW cI (sa 5) (ss 5)]) H := hP
      have hD : va_D A (fl [stW cI a σ, svO cO sv (saF (rotA sa)) (sU (sU κ 0 0 (κ 0 0 - 1)) 0 (0) ((((sU κ 0 0 (κ 0 0 - 1)) 0 0) + 1))), stW cI (sa 0) σ, stW cI (sa 1) (ss 1), stW cI (sa 2) (ss 2), stW cI (sa 3) (ss 3), stW cI (sa 4) (ss 4), stW cI (sa 5) (ss 5)]) := hD
      have eA : pushA (κ 0 0) sa = rotA sa := pushA_6 (by omega) sa
      have eK : pushK (κ 0 0) = 6 := pushK_6 (by omega)
      have eS0 : pushS (κ 0 0) ss σ 0 = ss 1 := by rw [pushS_6 (by omega)]; rfl
      have eS1 : pushS (κ 0 0) ss σ 1 = ss 2 := by rw [pushS_6 (by omega)]; rfl
      have eS2 : pushS (κ 0 0) ss σ 2 = ss 3 := by rw [pushS_6 (by omega)]; rfl
      have eS3 : pushS (κ 0 0) ss σ 3 = ss 4 := by rw [pushS_6 (by omega)]; rfl
      have eS4 : pushS (κ 0 0) ss σ 4 = ss 5 := by rw [pushS_6 (by omega)]; rfl
      have eS5 : pushS (κ 0 0) ss σ 5 = σ := by rw [pushS_6 (by omega)]; rfl
      have hP := fl_P (S' := [stW cI a σ, svO cO sv (saF (rotA sa)) (sU (sU κ 0 0 (κ 0 0 - 1)) 0 (0) ((((sU κ 0 0 (κ 0 0 - 1)) 0 0) + 1))), stW cI (sa 1) (ss 1), stW cI (sa 2) (ss 2), stW cI (sa 3) (ss 3), stW cI (sa 4) (ss 4), stW cI (sa 5) (ss 5), stW cI (sa 0) σ]) hP [0, 1, 3, 4, 5, 6, 7, 2] rfl
      have hD := fl_D (S' := [stW cI a σ, svO cO sv (saF (rotA sa)) (sU (sU κ 0 0 (κ 0 0 - 1)) 0 (0) ((((sU κ 0 0 (κ 0 0 - 1)) 0 0) + 1))), stW cI (sa 1) (ss 1), stW cI (sa 2) (ss 2), stW cI (sa 3) (ss 3), stW cI (sa 4) (ss 4), stW cI (sa 5) (ss 5), stW cI (sa 0) σ]) hD [0, 1, 3, 4, 5, 6, 7, 2] (by decide) rfl
      rw [svO_eq (X := (sU (sU κ 0 0 (κ 0 0 - 1)) 0 (0) ((((sU κ 0 0 (κ 0 0 - 1)) 0 0) + 1)))) (Y := (sU κ 0 0 (pushK (κ 0 0)))) (by show κ 0 0 - 1 + 1 = pushK (κ 0 0); omega)] at hP hD
      have hP : va_P D vwCl (fl [stW cI a σ, svO cO sv (saF (pushA (κ 0 0) sa)) (sU κ 0 0 (pushK (κ 0 0))), stW cI (pushA (κ 0 0) sa 0) (pushS (κ 0 0) ss σ 0), stW cI (pushA (κ 0 0) sa 1) (pushS (κ 0 0) ss σ 1), stW cI (pushA (κ 0 0) sa 2) (pushS (κ 0 0) ss σ 2), stW cI (pushA (κ 0 0) sa 3) (pushS (κ 0 0) ss σ 3), stW cI (pushA (κ 0 0) sa 4) (pushS (κ 0 0) ss σ 4), stW cI (pushA (κ 0 0) sa 5) (pushS (κ 0 0) ss σ 5)]) H := by rw [eA, eS0, eS1, eS2, eS3, eS4, eS5]; exact hP
      have hD : va_D A (fl [stW cI a σ, svO cO sv (saF (pushA (κ 0 0) sa)) (sU κ 0 0 (pushK (κ 0 0))), stW cI (pushA (κ 0 0) sa 0) (pushS (κ 0 0) ss σ 0), stW cI (pushA (κ 0 0) sa 1) (pushS (κ 0 0) ss σ 1), stW cI (pushA (κ 0 0) sa 2) (pushS (κ 0 0) ss σ 2), stW cI (pushA (κ 0 0) sa 3) (pushS (κ 0 0) ss σ 3), stW cI (pushA (κ 0 0) sa 4) (pushS (κ 0 0) ss σ 4), stW cI (pushA (κ 0 0) sa 5) (pushS (κ 0 0) ss σ 5)]) := by rw [eA, eS0, eS1, eS2, eS3, eS4, eS5]; exact hD
      exact W.vret hx hb hr (fun t9 ht9 hW9 => ⟨⟨(), rfl, (trivial), ⟨by rw [ht9]; exact hP, va_K.moved hW9.alike hK, hD⟩⟩, hS.F ht9⟩) hS.2.2 dX2_save_36 hlocks
set_option maxHeartbeats 4000000 in
set_option maxRecDepth 100000 in
theorem c_X2_restoreInto (l : Launch) (D : va_G) (cI cO cC cL : ClassId) (sz : Nat) (a : Nat → Nat) (σ : Nat → Int → Int) (sv : Nat → Nat) (κ : Nat → Int → Int) (sa : Nat → Nat → Nat) (ss : Nat → Nat → Int → Int) (hk : 0 < κ 0 0 ∧ κ 0 0 ≤ 6) : Met l yX2_restoreInto wsX2_restoreInto ({ frames := 2, cells := 0, slots := 0, locals := 81 } : Room) (pcW D [(cI, FieldType.int), (cO, FieldType.object "PromisedCounters$State")] [.ref (sv 0), .ref (a 0)] (fl [stW cI a σ, svO cO sv (saF sa) κ, stW cI (sa 0) (ss 0), stW cI (sa 1) (ss 1), stW cI (sa 2) (ss 2), stW cI (sa 3) (ss 3), stW cI (sa 4) (ss 4), stW cI (sa 5) (ss 5)]) sz) (va_Qv (fun (_ : Unit) => True) (fun (_ : Unit) => (bW D [(cI, FieldType.int), (cO, FieldType.object "PromisedCounters$State")] (fl [stW cI a (ss (κ 0 0 - 1).toNat), svO cO sv (saF sa) (sU κ 0 0 (κ 0 0 - 1)), stW cI (sa 0) (ss 0), stW cI (sa 1) (ss 1), stW cI (sa 2) (ss 2), stW cI (sa 3) (ss 3), stW cI (sa 4) (ss 4), stW cI (sa 5) (ss 5)]) (va_A (fl [stW cI a σ, svO cO sv (saF sa) κ, stW cI (sa 0) (ss 0), stW cI (sa 1) (ss 1), stW cI (sa 2) (ss 2), stW cI (sa 3) (ss 3), stW cI (sa 4) (ss 4), stW cI (sa 5) (ss 5)]) sz))) (va_A (fl [stW cI a σ, svO cO sv (saF sa) κ, stW cI (sa 0) (ss 0), stW cI (sa 1) (ss 1), stW cI (sa 2) (ss 2), stW cI (sa 3) (ss 3), stW cI (sa 4) (ss 4), stW cI (sa 5) (ss 5)]) sz)) 0 0 (va_A (fl [stW cI a σ, svO cO sv (saF sa) κ, stW cI (sa 0) (ss 0), stW cI (sa 1) (ss 1), stW cI (sa 2) (ss 2), stW cI (sa 3) (ss 3), stW cI (sa 4) (ss 4), stW cI (sa 5) (ss 5)]) sz) := by
  refine Met.ofW (cc := cX2_restoreInto) (maxL := 2) (ret := none) (by decide) rfl ?_
  intro p9 e9 s m args9 below9 meth9 c9 s₁ B hml hv
  obtain ⟨rfl, hsz, hP, hK, hD0⟩ := hv
  have hx := B.exec
  have hb := B.bytes
  have hr := B.returns
  have hts := atoms_spec (ws := wsX2_restoreInto) B.pre
  have hown : s.vm.findClass RX2 = some m.cls := findClass_of_methodNamed B.named
  have hlocks := B.notSynchronized
  subst hsz
  have hD := hD0.self (sz := s.heap.size)
  generalize hAe : va_A (fl [stW cI a σ, svO cO sv (saF sa) κ, stW cI (sa 0) (ss 0), stW cI (sa 1) (ss 1), stW cI (sa 2) (ss 2), stW cI (sa 3) (ss 3), stW cI (sa 4) (ss 4), stW cI (sa 5) (ss 5)]) s.heap.size = A at hD ⊢
  have hA : ∀ q : Nat, s.heap.size ≤ q → A q := fun q h => by rw [← hAe]; exact Or.inr h
  have hS : va_S A s.heap s.heap [] := va_S.rf
  have hP : va_P D vwCl (fl [stW cI a σ, svO cO sv (saF sa) κ, stW cI (sa 0) (ss 0), stW cI (sa 1) (ss 1), stW cI (sa 2) (ss 2), stW cI (sa 3) (ss 3), stW cI (sa 4) (ss 4), stW cI (sa 5) (ss 5)]) s.heap := hP
  have hl := lv_entry ([.ref (sv 0), .ref (a 0)]) (n := 2) (Nat.le_of_ble_eq_true rfl)
  rw [lg_entry_eq]
  generalize (lg_sl ([.ref (sv 0), .ref (a 0)]) ++ List.replicate (2 - (lg_sl ([.ref (sv 0), .ref (a 0)])).length) Slot.unset).toArray = ls at hl ⊢
  have hl : lv_has ls 2 [(0, .ref (sv 0)), (1, .ref (a 0))] := hl
  have hw_0 := hts (.fieldLink RX2 18 "PromisedCounters$SavedStates" "many" "I") (by decide +kernel)
  have hin_X2 : ∀ w ∈ u_ws RX2 TX2 2, w ∈ wsX2_restoreInto := by decide +kernel
  have hw_1 := hts (.fieldLink RX2 12 "PromisedCounters$SavedStates" "states" "[LPromisedCounters$State;") (by decide +kernel)
  refine lv_aload_n hx hb dX2_restoreInto_0 rfl (lv_at hl 0 rfl) ?_
  refine va_get (D := D) (ci := 2) (v := .int (iI ((κ 0 0)))) (C := RX2) (T := TX2) (N := 2) hx hb hts hin_X2 hown hK hP 13 rfl rfl 1 (by decide) hw_0 (fun _ h9 => h9) rfl dX2_restoreInto_1 ?_
  refine wi_if_le (tgt := 30) hx hb dX2_restoreInto_4 (by decide) (by omega) (fun c_4 => ?_) (fun c_4 => ?_)
  · skip
    exfalso; omega
  · skip
    refine lv_aload_n hx hb dX2_restoreInto_7 rfl (lv_at hl 0 rfl) ?_
    refine lv_dup hx hb dX2_restoreInto_8 rfl ?_
    refine va_get (D := D) (ci := 2) (v := .int (iI ((κ 0 0)))) (C := RX2) (T := TX2) (N := 2) hx hb hts hin_X2 hown hK hP 13 rfl rfl 1 (by decide) hw_0 (fun _ h9 => h9) rfl dX2_restoreInto_9 ?_
    refine wi_iconst hx hb dX2_restoreInto_12 ?_
    refine wi_isub hx hb dX2_restoreInto_13 ?_
    refine va_put (D := D) (ci := 2) (v := .int (iI (((κ 0 0) - 1)))) (ty := .int) (C := RX2) (T := TX2) (N := 2) hx hb hts hin_X2 tyX2 tyX2_ok nmX2 hown hK hP hD hS 13 rfl rfl 1 (by decide) hw_0 (fun _ h9 => h9) rfl (by decide +kernel) rfl rfl (Nat.le_of_ble_eq_true rfl) dX2_restoreInto_14 (fun H locs hP hD hS => ?_)
    have hP : va_P D vwCl (fl [stW cI a σ, svO cO sv (saF sa) (sU κ 0 (0) (((κ 0 0) - 1))), stW cI (sa 0) (ss 0), stW cI (sa 1) (ss 1), stW cI (sa 2) (ss 2), stW cI (sa 3) (ss 3), stW cI (sa 4) (ss 4), stW cI (sa 5) (ss 5)]) H := hP
    have hD : va_D A (fl [stW cI a σ, svO cO sv (saF sa) (sU κ 0 (0) (((κ 0 0) - 1))), stW cI (sa 0) (ss 0), stW cI (sa 1) (ss 1), stW cI (sa 2) (ss 2), stW cI (sa 3) (ss 3), stW cI (sa 4) (ss 4), stW cI (sa 5) (ss 5)]) := hD
    have hk0 : uI (κ 0) 0 (κ 0 0 - 1) 0 = κ 0 0 - 1 := rfl
    refine lv_aload_n hx hb dX2_restoreInto_17 rfl (lv_at hl 1 rfl) ?_
    refine lv_aload_n hx hb dX2_restoreInto_18 rfl (lv_at hl 0 rfl) ?_
    refine va_get (D := D) (ci := 2) (v := .ref (sv 1)) (C := RX2) (T := TX2) (N := 2) hx hb hts hin_X2 hown hK hP 13 rfl rfl 0 (by decide) hw_1 (fun _ h9 => h9) rfl dX2_restoreInto_19 ?_
    refine lv_aload_n hx hb dX2_restoreInto_22 rfl (lv_at hl 0 rfl) ?_
    refine va_get (D := D) (ci := 2) (v := .int (iI (((uI (κ 0) (0) (((κ 0 0) - 1))) 0)))) (C := RX2) (T := TX2) (N := 2) hx hb hts hin_X2 hown hK hP 13 rfl rfl 1 (by decide) hw_0 (fun _ h9 => h9) rfl dX2_restoreInto_23 ?_
    have hsp26 : ((uI (κ 0) (0) (((κ 0 0) - 1))) 0) = 0 ∨ ((uI (κ 0) (0) (((κ 0 0) - 1))) 0) = 1 ∨ ((uI (κ 0) (0) (((κ 0 0) - 1))) 0) = 2 ∨ ((uI (κ 0) (0) (((κ 0 0) - 1))) 0) = 3 ∨ ((uI (κ 0) (0) (((κ 0 0) - 1))) 0) = 4 ∨ ((uI (κ 0) (0) (((κ 0 0) - 1))) 0) = 5 := by omega
    rcases hsp26 with hsp | hsp | hsp | hsp | hsp | hsp
    · skip
      refine wi_aldq hx hb hK hP 14 1 (n := 6) (f := (saF sa)) (v := (sa 0) 0) rfl rfl (i := ((uI (κ 0) (0) (((κ 0 0) - 1))) 0)) (by omega) (by decide) (by rw [hsp]; rfl) dX2_restoreInto_26 ?_
      have hPc := fl_P (S' := [stW cI a σ, stW cI (sa 0) (ss 0)]) hP [0, 2] rfl
      have hKc := hK.sub (tys' := [(cI, FieldType.int)]) [0] rfl
      have hDc := fl_D (S' := [stW cI a σ, stW cI (sa 0) (ss 0)]) hD [0, 2] (by decide) rfl
      have hFc := fl_free (SC := [stW cI a σ, stW cI (sa 0) (ss 0)]) hD hS hA [0, 2] rfl
      refine va_callv (va_runV (As := [.ref ((sa 0) 0)]) (rest := []) ⟨hx, hb, hml, hown, hts⟩ (c_X3_copyFrom l D cI cO cC cL H.size a σ (sa 0) (ss 0) ) (cwV 1 hts gX2_restoreInto_X3_copyFrom rfl rfl rfl (by decide +kernel) ⟨Nat.le_of_ble_eq_true rfl, Nat.le_of_ble_eq_true rfl⟩) ⟨pcW_blind, va_recv hKc hPc (ci := 3) (q0 := 0) rfl rfl, pcW_of hPc hKc hDc⟩ rfl rfl hl.1 rfl (lv_room (Nat.le_of_ble_eq_true rfl)) dX2_restoreInto_27 ⟨(Nat.zero_le _), (Nat.zero_le _)⟩) hS (fun q _ h => hFc q h) hFc (fun  u2 t9 H1 locs ht9 hvm hcl1 hB hz1 hk1 hS => ?_)
      obtain ⟨hP1, hK1, hD1⟩ := hB
      rw [ht9] at hP1
      obtain ⟨hP, hD⟩ := fl_join (SR := [svO cO sv (saF sa) (sU κ 0 (0) (((κ 0 0) - 1))), stW cI (sa 1) (ss 1), stW cI (sa 2) (ss 2), stW cI (sa 3) (ss 3), stW cI (sa 4) (ss 4), stW cI (sa 5) (ss 5)]) (S1 := [stW cI a (ss 0), stW cI (sa 0) (ss 0)]) hP hD [0, 2] [1, 3, 4, 5, 6, 7] rfl rfl (by decide) (by decide) hk1 hFc hP1 hD1
      generalize H1 = H at hP hS ⊢
      have hP := fl_P (S' := [stW cI a (ss 0), svO cO sv (saF sa) (sU κ 0 (0) (((κ 0 0) - 1))), stW cI (sa 0) (ss 0), stW cI (sa 1) (ss 1), stW cI (sa 2) (ss 2), stW cI (sa 3) (ss 3), stW cI (sa 4) (ss 4), stW cI (sa 5) (ss 5)]) hP [6, 0, 7, 1, 2, 3, 4, 5] rfl
      have hD := fl_D (S' := [stW cI a (ss 0), svO cO sv (saF sa) (sU κ 0 (0) (((κ 0 0) - 1))), stW cI (sa 0) (ss 0), stW cI (sa 1) (ss 1), stW cI (sa 2) (ss 2), stW cI (sa 3) (ss 3), stW cI (sa 4) (ss 4), stW cI (sa 5) (ss 5)]) hD [6, 0, 7, 1, 2, 3, 4, 5] (by decide) rfl
      have eq9 : (κ 0 0 - 1).toNat = 0 := by omega
      have hP : va_P D vwCl (fl [stW cI a (ss (κ 0 0 - 1).toNat), svO cO sv (saF sa) (sU κ 0 0 (κ 0 0 - 1)), stW cI (sa 0) (ss 0), stW cI (sa 1) (ss 1), stW cI (sa 2) (ss 2), stW cI (sa 3) (ss 3), stW cI (sa 4) (ss 4), stW cI (sa 5) (ss 5)]) H := by rw [eq9]; exact hP
      have hD : va_D A (fl [stW cI a (ss (κ 0 0 - 1).toNat), svO cO sv (saF sa) (sU κ 0 0 (κ 0 0 - 1)), stW cI (sa 0) (ss 0), stW cI (sa 1) (ss 1), stW cI (sa 2) (ss 2), stW cI (sa 3) (ss 3), stW cI (sa 4) (ss 4), stW cI (sa 5) (ss 5)]) := by rw [eq9]; exact hD
      exact W.vret hx hb hr (fun t9 ht9 hW9 => ⟨⟨(), rfl, (trivial), ⟨by rw [ht9]; exact hP, va_K.moved hW9.alike hK, hD⟩⟩, hS.F ht9⟩) hS.2.2 dX2_restoreInto_30 hlocks
    · skip
      refine wi_aldq hx hb hK hP 14 1 (n := 6) (f := (saF sa)) (v := (sa 1) 0) rfl rfl (i := ((uI (κ 0) (0) (((κ 0 0) - 1))) 0)) (by omega) (by decide) (by rw [hsp]; rfl) dX2_restoreInto_26 ?_
      have hPc := fl_P (S' := [stW cI a σ, stW cI (sa 1) (ss 1)]) hP [0, 3] rfl
      have hKc := hK.sub (tys' := [(cI, FieldType.int)]) [0] rfl
      have hDc := fl_D (S' := [stW cI a σ, stW cI (sa 1) (ss 1)]) hD [0, 3] (by decide) rfl
      have hFc := fl_free (SC := [stW cI a σ, stW cI (sa 1) (ss 1)]) hD hS hA [0, 3] rfl
      refine va_callv (va_runV (As := [.ref ((sa 1) 0)]) (rest := []) ⟨hx, hb, hml, hown, hts⟩ (c_X3_copyFrom l D cI cO cC cL H.size a σ (sa 1) (ss 1) ) (cwV 1 hts gX2_restoreInto_X3_copyFrom rfl rfl rfl (by decide +kernel) ⟨Nat.le_of_ble_eq_true rfl, Nat.le_of_ble_eq_true rfl⟩) ⟨pcW_blind, va_recv hKc hPc (ci := 3) (q0 := 0) rfl rfl, pcW_of hPc hKc hDc⟩ rfl rfl hl.1 rfl (lv_room (Nat.le_of_ble_eq_true rfl)) dX2_restoreInto_27 ⟨(Nat.zero_le _), (Nat.zero_le _)⟩) hS (fun q _ h => hFc q h) hFc (fun  u4 t9 H1 locs ht9 hvm hcl3 hB hz1 hk1 hS => ?_)
      obtain ⟨hP1, hK1, hD1⟩ := hB
      rw [ht9] at hP1
      obtain ⟨hP, hD⟩ := fl_join (SR := [svO cO sv (saF sa) (sU κ 0 (0) (((κ 0 0) - 1))), stW cI (sa 0) (ss 0), stW cI (sa 2) (ss 2), stW cI (sa 3) (ss 3), stW cI (sa 4) (ss 4), stW cI (sa 5) (ss 5)]) (S1 := [stW cI a (ss 1), stW cI (sa 1) (ss 1)]) hP hD [0, 3] [1, 2, 4, 5, 6, 7] rfl rfl (by decide) (by decide) hk1 hFc hP1 hD1
      generalize H1 = H at hP hS ⊢
      have hP := fl_P (S' := [stW cI a (ss 1), svO cO sv (saF sa) (sU κ 0 (0) (((κ 0 0) - 1))), stW cI (sa 0) (ss 0), stW cI (sa 1) (ss 1), stW cI (sa 2) (ss 2), stW cI (sa 3) (ss 3), stW cI (sa 4) (ss 4), stW cI (sa 5) (ss 5)]) hP [6, 0, 1, 7, 2, 3, 4, 5] rfl
      have hD := fl_D (S' := [stW cI a (ss 1), svO cO sv (saF sa) (sU κ 0 (0) (((κ 0 0) - 1))), stW cI (sa 0) (ss 0), stW cI (sa 1) (ss 1), stW cI (sa 2) (ss 2), stW cI (sa 3) (ss 3), stW cI (sa 4) (ss 4), stW cI (sa 5) (ss 5)]) hD [6, 0, 1, 7, 2, 3, 4, 5] (by decide) rfl
      have eq9 : (κ 0 0 - 1).toNat = 1 := by omega
      have hP : va_P D vwCl (fl [stW cI a (ss (κ 0 0 - 1).toNat), svO cO sv (saF sa) (sU κ 0 0 (κ 0 0 - 1)), stW cI (sa 0) (ss 0), stW cI (sa 1) (ss 1), stW cI (sa 2) (ss 2), stW cI (sa 3) (ss 3), stW cI (sa 4) (ss 4), stW cI (sa 5) (ss 5)]) H := by rw [eq9]; exact hP
      have hD : va_D A (fl [stW cI a (ss (κ 0 0 - 1).toNat), svO cO sv (saF sa) (sU κ 0 0 (κ 0 0 - 1)), stW cI (sa 0) (ss 0), stW cI (sa 1) (ss 1), stW cI (sa 2) (ss 2), stW cI (sa 3) (ss 3), stW cI (sa 4) (ss 4), stW cI (sa 5) (ss 5)]) := by rw [eq9]; exact hD
      exact W.vret hx hb hr (fun t9 ht9 hW9 => ⟨⟨(), rfl, (trivial), ⟨by rw [ht9]; exact hP, va_K.moved hW9.alike hK, hD⟩⟩, hS.F ht9⟩) hS.2.2 dX2_restoreInto_30 hlocks
    · skip
      refine wi_aldq hx hb hK hP 14 1 (n := 6) (f := (saF sa)) (v := (sa 2) 0) rfl rfl (i := ((uI (κ 0) (0) (((κ 0 0) - 1))) 0)) (by omega) (by decide) (by rw [hsp]; rfl) dX2_restoreInto_26 ?_
      have hPc := fl_P (S' := [stW cI a σ, stW cI (sa 2) (ss 2)]) hP [0, 4] rfl
      have hKc := hK.sub (tys' := [(cI, FieldType.int)]) [0] rfl
      have hDc := fl_D (S' := [stW cI a σ, stW cI (sa 2) (ss 2)]) hD [0, 4] (by decide) rfl
      have hFc := fl_free (SC := [stW cI a σ, stW cI (sa 2) (ss 2)]) hD hS hA [0, 4] rfl
      refine va_callv (va_runV (As := [.ref ((sa 2) 0)]) (rest := []) ⟨hx, hb, hml, hown, hts⟩ (c_X3_copyFrom l D cI cO cC cL H.size a σ (sa 2) (ss 2) ) (cwV 1 hts gX2_restoreInto_X3_copyFrom rfl rfl rfl (by decide +kernel) ⟨Nat.le_of_ble_eq_true rfl, Nat.le_of_ble_eq_true rfl⟩) ⟨pcW_blind, va_recv hKc hPc (ci := 3) (q0 := 0) rfl rfl, pcW_of hPc hKc hDc⟩ rfl rfl hl.1 rfl (lv_room (Nat.le_of_ble_eq_true rfl)) dX2_restoreInto_27 ⟨(Nat.zero_le _), (Nat.zero_le _)⟩) hS (fun q _ h => hFc q h) hFc (fun  u6 t9 H1 locs ht9 hvm hcl5 hB hz1 hk1 hS => ?_)
      obtain ⟨hP1, hK1, hD1⟩ := hB
      rw [ht9] at hP1
      obtain ⟨hP, hD⟩ := fl_join (SR := [svO cO sv (saF sa) (sU κ 0 (0) (((κ 0 0) - 1))), stW cI (sa 0) (ss 0), stW cI (sa 1) (ss 1), stW cI (sa 3) (ss 3), stW cI (sa 4) (ss 4), stW cI (sa 5) (ss 5)]) (S1 := [stW cI a (ss 2), stW cI (sa 2) (ss 2)]) hP hD [0, 4] [1, 2, 3, 5, 6, 7] rfl rfl (by decide) (by decide) hk1 hFc hP1 hD1
      generalize H1 = H at hP hS ⊢
      have hP := fl_P (S' := [stW cI a (ss 2), svO cO sv (saF sa) (sU κ 0 (0) (((κ 0 0) - 1))), stW cI (sa 0) (ss 0), stW cI (sa 1) (ss 1), stW cI (sa 2) (ss 2), stW cI (sa 3) (ss 3), stW cI (sa 4) (ss 4), stW cI (sa 5) (ss 5)]) hP [6, 0, 1, 2, 7, 3, 4, 5] rfl
      have hD := fl_D (S' := [stW cI a (ss 2), svO cO sv (saF sa) (sU κ 0 (0) (((κ 0 0) - 1))), stW cI (sa 0) (ss 0), stW cI (sa 1) (ss 1), stW cI (sa 2) (ss 2), stW cI (sa 3) (ss 3), stW cI (sa 4) (ss 4), stW cI (sa 5) (ss 5)]) hD [6, 0, 1, 2, 7, 3, 4, 5] (by decide) rfl
      have eq9 : (κ 0 0 - 1).toNat = 2 := by omega
      have hP : va_P D vwCl (fl [stW cI a (ss (κ 0 0 - 1).toNat), svO cO sv (saF sa) (sU κ 0 0 (κ 0 0 - 1)), stW cI (sa 0) (ss 0), stW cI (sa 1) (ss 1), stW cI (sa 2) (ss 2), stW cI (sa 3) (ss 3), stW cI (sa 4) (ss 4), stW cI (sa 5) (ss 5)]) H := by rw [eq9]; exact hP
      have hD : va_D A (fl [stW cI a (ss (κ 0 0 - 1).toNat), svO cO sv (saF sa) (sU κ 0 0 (κ 0 0 - 1)), stW cI (sa 0) (ss 0), stW cI (sa 1) (ss 1), stW cI (sa 2) (ss 2), stW cI (sa 3) (ss 3), stW cI (sa 4) (ss 4), stW cI (sa 5) (ss 5)]) := by rw [eq9]; exact hD
      exact W.vret hx hb hr (fun t9 ht9 hW9 => ⟨⟨(), rfl, (trivial), ⟨by rw [ht9]; exact hP, va_K.moved hW9.alike hK, hD⟩⟩, hS.F ht9⟩) hS.2.2 dX2_restoreInto_30 hlocks
    · skip
      refine wi_aldq hx hb hK hP 14 1 (n := 6) (f := (saF sa)) (v := (sa 3) 0) rfl rfl (i := ((uI (κ 0) (0) (((κ 0 0) - 1))) 0)) (by omega) (by decide) (by rw [hsp]; rfl) dX2_restoreInto_26 ?_
      have hPc := fl_P (S' := [stW cI a σ, stW cI (sa 3) (ss 3)]) hP [0, 5] rfl
      have hKc := hK.sub (tys' := [(cI, FieldType.int)]) [0] rfl
      have hDc := fl_D (S' := [stW cI a σ, stW cI (sa 3) (ss 3)]) hD [0, 5] (by decide) rfl
      have hFc := fl_free (SC := [stW cI a σ, stW cI (sa 3) (ss 3)]) hD hS hA [0, 5] rfl
      refine va_callv (va_runV (As := [.ref ((sa 3) 0)]) (rest := []) ⟨hx, hb, hml, hown, hts⟩ (c_X3_copyFrom l D cI cO cC cL H.size a σ (sa 3) (ss 3) ) (cwV 1 hts gX2_restoreInto_X3_copyFrom rfl rfl rfl (by decide +kernel) ⟨Nat.le_of_ble_eq_true rfl, Nat.le_of_ble_eq_true rfl⟩) ⟨pcW_blind, va_recv hKc hPc (ci := 3) (q0 := 0) rfl rfl, pcW_of hPc hKc hDc⟩ rfl rfl hl.1 rfl (lv_room (Nat.le_of_ble_eq_true rfl)) dX2_restoreInto_27 ⟨(Nat.zero_le _), (Nat.zero_le _)⟩) hS (fun q _ h => hFc q h) hFc (fun  u8 t9 H1 locs ht9 hvm hcl7 hB hz1 hk1 hS => ?_)
      obtain ⟨hP1, hK1, hD1⟩ := hB
      rw [ht9] at hP1
      obtain ⟨hP, hD⟩ := fl_join (SR := [svO cO sv (saF sa) (sU κ 0 (0) (((κ 0 0) - 1))), stW cI (sa 0) (ss 0), stW cI (sa 1) (ss 1), stW cI (sa 2) (ss 2), stW cI (sa 4) (ss 4), stW cI (sa 5) (ss 5)]) (S1 := [stW cI a (ss 3), stW cI (sa 3) (ss 3)]) hP hD [0, 5] [1, 2, 3, 4, 6, 7] rfl rfl (by decide) (by decide) hk1 hFc hP1 hD1
      generalize H1 = H at hP hS ⊢
      have hP := fl_P (S' := [stW cI a (ss 3), svO cO sv (saF sa) (sU κ 0 (0) (((κ 0 0) - 1))), stW cI (sa 0) (ss 0), stW cI (sa 1) (ss 1), stW cI (sa 2) (ss 2), stW cI (sa 3) (ss 3), stW cI (sa 4) (ss 4), stW cI (sa 5) (ss 5)]) hP [6, 0, 1, 2, 3, 7, 4, 5] rfl
      have hD := fl_D (S' := [stW cI a (ss 3), svO cO sv (saF sa) (sU κ 0 (0) (((κ 0 0) - 1))), stW cI (sa 0) (ss 0), stW cI (sa 1) (ss 1), stW cI (sa 2) (ss 2), stW cI (sa 3) (ss 3), stW cI (sa 4) (ss 4), stW cI (sa 5) (ss 5)]) hD [6, 0, 1, 2, 3, 7, 4, 5] (by decide) rfl
      have eq9 : (κ 0 0 - 1).toNat = 3 := by omega
      have hP : va_P D vwCl (fl [stW cI a (ss (κ 0 0 - 1).toNat), svO cO sv (saF sa) (sU κ 0 0 (κ 0 0 - 1)), stW cI (sa 0) (ss 0), stW cI (sa 1) (ss 1), stW cI (sa 2) (ss 2), stW cI (sa 3) (ss 3), stW cI (sa 4) (ss 4), stW cI (sa 5) (ss 5)]) H := by rw [eq9]; exact hP
      have hD : va_D A (fl [stW cI a (ss (κ 0 0 - 1).toNat), svO cO sv (saF sa) (sU κ 0 0 (κ 0 0 - 1)), stW cI (sa 0) (ss 0), stW cI (sa 1) (ss 1), stW cI (sa 2) (ss 2), stW cI (sa 3) (ss 3), stW cI (sa 4) (ss 4), stW cI (sa 5) (ss 5)]) := by rw [eq9]; exact hD
      exact W.vret hx hb hr (fun t9 ht9 hW9 => ⟨⟨(), rfl, (trivial), ⟨by rw [ht9]; exact hP, va_K.moved hW9.alike hK, hD⟩⟩, hS.F ht9⟩) hS.2.2 dX2_restoreInto_30 hlocks
    · skip
      refine wi_aldq hx hb hK hP 14 1 (n := 6) (f := (saF sa)) (v := (sa 4) 0) rfl rfl (i := ((uI (κ 0) (0) (((κ 0 0) - 1))) 0)) (by omega) (by decide) (by rw [hsp]; rfl) dX2_restoreInto_26 ?_
      have hPc := fl_P (S' := [stW cI a σ, stW cI (sa 4) (ss 4)]) hP [0, 6] rfl
      have hKc := hK.sub (tys' := [(cI, FieldType.int)]) [0] rfl
      have hDc := fl_D (S' := [stW cI a σ, stW cI (sa 4) (ss 4)]) hD [0, 6] (by decide) rfl
      have hFc := fl_free (SC := [stW cI a σ, stW cI (sa 4) (ss 4)]) hD hS hA [0, 6] rfl
      refine va_callv (va_runV (As := [.ref ((sa 4) 0)]) (rest := []) ⟨hx, hb, hml, hown, hts⟩ (c_X3_copyFrom l D cI cO cC cL H.size a σ (sa 4) (ss 4) ) (cwV 1 hts gX2_restoreInto_X3_copyFrom rfl rfl rfl (by decide +kernel) ⟨Nat.le_of_ble_eq_true rfl, Nat.le_of_ble_eq_true rfl⟩) ⟨pcW_blind, va_recv hKc hPc (ci := 3) (q0 := 0) rfl rfl, pcW_of hPc hKc hDc⟩ rfl rfl hl.1 rfl (lv_room (Nat.le_of_ble_eq_true rfl)) dX2_restoreInto_27 ⟨(Nat.zero_le _), (Nat.zero_le _)⟩) hS (fun q _ h => hFc q h) hFc (fun  u10 t9 H1 locs ht9 hvm hcl9 hB hz1 hk1 hS => ?_)
      obtain ⟨hP1, hK1, hD1⟩ := hB
      rw [ht9] at hP1
      obtain ⟨hP, hD⟩ := fl_join (SR := [svO cO sv (saF sa) (sU κ 0 (0) (((κ 0 0) - 1))), stW cI (sa 0) (ss 0), stW cI (sa 1) (ss 1), stW cI (sa 2) (ss 2), stW cI (sa 3) (ss 3), stW cI (sa 5) (ss 5)]) (S1 := [stW cI a (ss 4), stW cI (sa 4) (ss 4)]) hP hD [0, 6] [1, 2, 3, 4, 5, 7] rfl rfl (by decide) (by decide) hk1 hFc hP1 hD1
      generalize H1 = H at hP hS ⊢
      have hP := fl_P (S' := [stW cI a (ss 4), svO cO sv (saF sa) (sU κ 0 (0) (((κ 0 0) - 1))), stW cI (sa 0) (ss 0), stW cI (sa 1) (ss 1), stW cI (sa 2) (ss 2), stW cI (sa 3) (ss 3), stW cI (sa 4) (ss 4), stW cI (sa 5) (ss 5)]) hP [6, 0, 1, 2, 3, 4, 7, 5] rfl
      have hD := fl_D (S' := [stW cI a (ss 4), svO cO sv (saF sa) (sU κ 0 (0) (((κ 0 0) - 1))), stW cI (sa 0) (ss 0), stW cI (sa 1) (ss 1), stW cI (sa 2) (ss 2), stW cI (sa 3) (ss 3), stW cI (sa 4) (ss 4), stW cI (sa 5) (ss 5)]) hD [6, 0, 1, 2, 3, 4, 7, 5] (by decide) rfl
      have eq9 : (κ 0 0 - 1).toNat = 4 := by omega
      have hP : va_P D vwCl (fl [stW cI a (ss (κ 0 0 - 1).toNat), svO cO sv (saF sa) (sU κ 0 0 (κ 0 0 - 1)), stW cI (sa 0) (ss 0), stW cI (sa 1) (ss 1), stW cI (sa 2) (ss 2), stW cI (sa 3) (ss 3), stW cI (sa 4) (ss 4), stW cI (sa 5) (ss 5)]) H := by rw [eq9]; exact hP
      have hD : va_D A (fl [stW cI a (ss (κ 0 0 - 1).toNat), svO cO sv (saF sa) (sU κ 0 0 (κ 0 0 - 1)), stW cI (sa 0) (ss 0), stW cI (sa 1) (ss 1), stW cI (sa 2) (ss 2), stW cI (sa 3) (ss 3), stW cI (sa 4) (ss 4), stW cI (sa 5) (ss 5)]) := by rw [eq9]; exact hD
      exact W.vret hx hb hr (fun t9 ht9 hW9 => ⟨⟨(), rfl, (trivial), ⟨by rw [ht9]; exact hP, va_K.moved hW9.alike hK, hD⟩⟩, hS.F ht9⟩) hS.2.2 dX2_restoreInto_30 hlocks
    · skip
      refine wi_aldq hx hb hK hP 14 1 (n := 6) (f := (saF sa)) (v := (sa 5) 0) rfl rfl (i := ((uI (κ 0) (0) (((κ 0 0) - 1))) 0)) (by omega) (by decide) (by rw [hsp]; rfl) dX2_restoreInto_26 ?_
      have hPc := fl_P (S' := [stW cI a σ, stW cI (sa 5) (ss 5)]) hP [0, 7] rfl
      have hKc := hK.sub (tys' := [(cI, FieldType.int)]) [0] rfl
      have hDc := fl_D (S' := [stW cI a σ, stW cI (sa 5) (ss 5)]) hD [0, 7] (by decide) rfl
      have hFc := fl_free (SC := [stW cI a σ, stW cI (sa 5) (ss 5)]) hD hS hA [0, 7] rfl
      refine va_callv (va_runV (As := [.ref ((sa 5) 0)]) (rest := []) ⟨hx, hb, hml, hown, hts⟩ (c_X3_copyFrom l D cI cO cC cL H.size a σ (sa 5) (ss 5) ) (cwV 1 hts gX2_restoreInto_X3_copyFrom rfl rfl rfl (by decide +kernel) ⟨Nat.le_of_ble_eq_true rfl, Nat.le_of_ble_eq_true rfl⟩) ⟨pcW_blind, va_recv hKc hPc (ci := 3) (q0 := 0) rfl rfl, pcW_of hPc hKc hDc⟩ rfl rfl hl.1 rfl (lv_room (Nat.le_of_ble_eq_true rfl)) dX2_restoreInto_27 ⟨(Nat.zero_le _), (Nat.zero_le _)⟩) hS (fun q _ h => hFc q h) hFc (fun  u12 t9 H1 locs ht9 hvm hcl11 hB hz1 hk1 hS => ?_)
      obtain ⟨hP1, hK1, hD1⟩ := hB
      rw [ht9] at hP1
      obtain ⟨hP, hD⟩ := fl_join (SR := [svO cO sv (saF sa) (sU κ 0 (0) (((κ 0 0) - 1))), stW cI (sa 0) (ss 0), stW cI (sa 1) (ss 1), stW cI (sa 2) (ss 2), stW cI (sa 3) (ss 3), stW cI (sa 4) (ss 4)]) (S1 := [stW cI a (ss 5), stW cI (sa 5) (ss 5)]) hP hD [0, 7] [1, 2, 3, 4, 5, 6] rfl rfl (by decide) (by decide) hk1 hFc hP1 hD1
      generalize H1 = H at hP hS ⊢
      have hP := fl_P (S' := [stW cI a (ss 5), svO cO sv (saF sa) (sU κ 0 (0) (((κ 0 0) - 1))), stW cI (sa 0) (ss 0), stW cI (sa 1) (ss 1), stW cI (sa 2) (ss 2), stW cI (sa 3) (ss 3), stW cI (sa 4) (ss 4), stW cI (sa 5) (ss 5)]) hP [6, 0, 1, 2, 3, 4, 5, 7] rfl
      have hD := fl_D (S' := [stW cI a (ss 5), svO cO sv (saF sa) (sU κ 0 (0) (((κ 0 0) - 1))), stW cI (sa 0) (ss 0), stW cI (sa 1) (ss 1), stW cI (sa 2) (ss 2), stW cI (sa 3) (ss 3), stW cI (sa 4) (ss 4), stW cI (sa 5) (ss 5)]) hD [6, 0, 1, 2, 3, 4, 5, 7] (by decide) rfl
      have eq9 : (κ 0 0 - 1).toNat = 5 := by omega
      have hP : va_P D vwCl (fl [stW cI a (ss (κ 0 0 - 1).toNat), svO cO sv (saF sa) (sU κ 0 0 (κ 0 0 - 1)), stW cI (sa 0) (ss 0), stW cI (sa 1) (ss 1), stW cI (sa 2) (ss 2), stW cI (sa 3) (ss 3), stW cI (sa 4) (ss 4), stW cI (sa 5) (ss 5)]) H := by rw [eq9]; exact hP
      have hD : va_D A (fl [stW cI a (ss (κ 0 0 - 1).toNat), svO cO sv (saF sa) (sU κ 0 0 (κ 0 0 - 1)), stW cI (sa 0) (ss 0), stW cI (sa 1) (ss 1), stW cI (sa 2) (ss 2), stW cI (sa 3) (ss 3), stW cI (sa 4) (ss 4), stW cI (sa 5) (ss 5)]) := by rw [eq9]; exact hD
      exact W.vret hx hb hr (fun t9 ht9 hW9 => ⟨⟨(), rfl, (trivial), ⟨by rw [ht9]; exact hP, va_K.moved hW9.alike hK, hD⟩⟩, hS.F ht9⟩) hS.2.2 dX2_restoreInto_30 hlocks
