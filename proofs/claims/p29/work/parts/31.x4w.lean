set_option maxHeartbeats 4000000 in
set_option maxRecDepth 100000 in
theorem c_X4_bounds (l : Launch) (D : va_G) (cI cO cC cL : ClassId) (sz : Nat) (x a sv o rd bu : Nat → Nat) (ln σ : Nat → Int → Int) (κ : Nat → Int → Int) (sa : Nat → Nat → Nat) (ss : Nat → Nat → Int → Int) (c lo hi : Int) (hc : 0 ≤ c ∧ c ≤ 3) (hlo : -999 ≤ lo ∧ lo ≤ 999) (hhi : lo ≤ hi ∧ hi ≤ 999) (hlw : lo ≤ lowS σ c (σ 0 0) ∧ highS σ c ≤ hi) (hk : 0 ≤ κ 0 0 ∧ κ 0 0 ≤ 6) (hI : Inv σ) : Met l yX4_bounds wsX4_bounds ({ frames := 7, cells := 0, slots := 0, locals := 142 } : Room) (pcW D [(cI, FieldType.int), (cO, FieldType.object "PromisedCounters$State"), (cC, FieldType.char)] [.ref (x 0), .int (iI (c)), .int (iI (lo)), .int (iI (hi))] (fl [mnW x a sv o rd bu ln, stW cI a σ, svO cO sv (saF sa) κ, stW cI (sa 0) (ss 0), stW cI (sa 1) (ss 1), stW cI (sa 2) (ss 2), stW cI (sa 3) (ss 3), stW cI (sa 4) (ss 4), stW cI (sa 5) (ss 5)]) sz) (wq_i (fun (r : Int) (_ : Unit) => r = σ 4 c - σ 3 c) (fun (_ : Unit) => (bW D [(cI, FieldType.int), (cO, FieldType.object "PromisedCounters$State"), (cC, FieldType.char)] (fl [mnW x a sv o rd bu ln, stW cI a (bndS σ c lo hi), svO cO sv (saF (pushA (κ 0 0) sa)) (sU κ 0 0 (pushK (κ 0 0))), stW cI (pushA (κ 0 0) sa 0) (pushS (κ 0 0) ss σ 0), stW cI (pushA (κ 0 0) sa 1) (pushS (κ 0 0) ss σ 1), stW cI (pushA (κ 0 0) sa 2) (pushS (κ 0 0) ss σ 2), stW cI (pushA (κ 0 0) sa 3) (pushS (κ 0 0) ss σ 3), stW cI (pushA (κ 0 0) sa 4) (pushS (κ 0 0) ss σ 4), stW cI (pushA (κ 0 0) sa 5) (pushS (κ 0 0) ss σ 5)]) (va_A (fl [mnW x a sv o rd bu ln, stW cI a σ, svO cO sv (saF sa) κ, stW cI (sa 0) (ss 0), stW cI (sa 1) (ss 1), stW cI (sa 2) (ss 2), stW cI (sa 3) (ss 3), stW cI (sa 4) (ss 4), stW cI (sa 5) (ss 5)]) sz))) (va_A (fl [mnW x a sv o rd bu ln, stW cI a σ, svO cO sv (saF sa) κ, stW cI (sa 0) (ss 0), stW cI (sa 1) (ss 1), stW cI (sa 2) (ss 2), stW cI (sa 3) (ss 3), stW cI (sa 4) (ss 4), stW cI (sa 5) (ss 5)]) sz)) 0 0 (va_A (fl [mnW x a sv o rd bu ln, stW cI a σ, svO cO sv (saF sa) κ, stW cI (sa 0) (ss 0), stW cI (sa 1) (ss 1), stW cI (sa 2) (ss 2), stW cI (sa 3) (ss 3), stW cI (sa 4) (ss 4), stW cI (sa 5) (ss 5)]) sz) := by
  refine Met.ofW (cc := cX4_bounds) (maxL := 5) (ret := (some .int)) (by decide) rfl ?_
  intro p9 e9 s m args9 below9 meth9 c9 s₁ B hml hv
  obtain ⟨rfl, hsz, hP, hK, hD0⟩ := hv
  have hx := B.exec
  have hb := B.bytes
  have hr := B.returns
  have hts := atoms_spec (ws := wsX4_bounds) B.pre
  have hown : s.vm.findClass RX4 = some m.cls := findClass_of_methodNamed B.named
  have hlocks := B.notSynchronized
  subst hsz
  have hD := hD0.self (sz := s.heap.size)
  generalize hAe : va_A (fl [mnW x a sv o rd bu ln, stW cI a σ, svO cO sv (saF sa) κ, stW cI (sa 0) (ss 0), stW cI (sa 1) (ss 1), stW cI (sa 2) (ss 2), stW cI (sa 3) (ss 3), stW cI (sa 4) (ss 4), stW cI (sa 5) (ss 5)]) s.heap.size = A at hD ⊢
  have hA : ∀ q : Nat, s.heap.size ≤ q → A q := fun q h => by rw [← hAe]; exact Or.inr h
  have hS : va_S A s.heap s.heap [] := va_S.rf
  have hP : va_P D vwCl (fl [mnW x a sv o rd bu ln, stW cI a σ, svO cO sv (saF sa) κ, stW cI (sa 0) (ss 0), stW cI (sa 1) (ss 1), stW cI (sa 2) (ss 2), stW cI (sa 3) (ss 3), stW cI (sa 4) (ss 4), stW cI (sa 5) (ss 5)]) s.heap := hP
  have hl := lv_entry ([.ref (x 0), .int (iI (c)), .int (iI (lo)), .int (iI (hi))]) (n := 5) (Nat.le_of_ble_eq_true rfl)
  rw [lg_entry_eq]
  generalize (lg_sl ([.ref (x 0), .int (iI (c)), .int (iI (lo)), .int (iI (hi))]) ++ List.replicate (5 - (lg_sl ([.ref (x 0), .int (iI (c)), .int (iI (lo)), .int (iI (hi))])).length) Slot.unset).toArray = ls at hl ⊢
  have hl : lv_has ls 5 [(0, .ref (x 0)), (1, .int (iI (c))), (2, .int (iI (lo))), (3, .int (iI (hi)))] := hl
  have hw_0 := hts (.fieldLink RX4 10 "PromisedCounters" "state" "LPromisedCounters$State;") (by decide +kernel)
  have hin_X4 : ∀ w ∈ u_ws RX4 TX4 6, w ∈ wsX4_bounds := by decide +kernel
  have hw_1 := hts (.fieldLink RX4 19 "PromisedCounters" "saved" "LPromisedCounters$SavedStates;") (by decide +kernel)
  have hw_2 := hts (.fieldLink RX4 71 "PromisedCounters$State" "most" "[I") (by decide +kernel)
  have hin_X3 : ∀ w ∈ u_ws RX3 TX3 15, w ∈ wsX4_bounds := by decide +kernel
  have hw_3 := hts (.fieldLink RX4 75 "PromisedCounters$State" "least" "[I") (by decide +kernel)
  have hn := hI.n
  have hti := hI.t
  have hcc := hI.c (c := c) (by omega) (by omega)
  refine lv_iload_n hx hb dX4_bounds_0 rfl (lv_at hl 1 rfl) ?_
  refine wi_iconst hx hb dX4_bounds_1 ?_
  refine wr_callv (va_runS (As := [.int (iI (c)), .int (iI (4))]) (rest := []) ⟨hx, hb, hml, hown, hts⟩ (c_X4_checkIndex l D cI cO cC cL (c) (4) (by omega) (by omega)) (cwS 2 hts gX4_bounds_X4_checkIndex rfl rfl rfl (by decide +kernel) ⟨Nat.le_of_ble_eq_true rfl, Nat.le_of_ble_eq_true rfl⟩) ⟨fun _ _ _ _ h => h, fun U hU hW => ⟨rfl, trivial⟩⟩ rfl rfl hl.1 rfl (lv_room (Nat.le_of_ble_eq_true rfl)) dX4_bounds_2 ⟨(Nat.zero_le _), (Nat.zero_le _)⟩) (fun hv1 => ?_)
  refine lv_iload_n hx hb dX4_bounds_5 rfl (lv_at hl 2 rfl) ?_
  refine wi_sipush hx hb dX4_bounds_6 (by decide) ?_
  refine wi_sipush hx hb dX4_bounds_9 (by decide) ?_
  refine wr_callv (va_runS (As := [.int (iI (lo)), .int (iI (-999)), .int (iI (999))]) (rest := []) ⟨hx, hb, hml, hown, hts⟩ (c_X4_checkArgument l D cI cO cC cL (lo) (-999) (999) (by omega) (by omega) (by omega)) (cwS 3 hts gX4_bounds_X4_checkArgument rfl rfl rfl (by decide +kernel) ⟨Nat.le_of_ble_eq_true rfl, Nat.le_of_ble_eq_true rfl⟩) ⟨fun _ _ _ _ h => h, fun U hU hW => ⟨rfl, trivial⟩⟩ rfl rfl hl.1 rfl (lv_room (Nat.le_of_ble_eq_true rfl)) dX4_bounds_12 ⟨(Nat.zero_le _), (Nat.zero_le _)⟩) (fun hv2 => ?_)
  refine lv_iload_n hx hb dX4_bounds_15 rfl (lv_at hl 3 rfl) ?_
  refine lv_iload_n hx hb dX4_bounds_16 rfl (lv_at hl 2 rfl) ?_
  refine wi_sipush hx hb dX4_bounds_17 (by decide) ?_
  refine wr_callv (va_runS (As := [.int (iI (hi)), .int (iI (lo)), .int (iI (999))]) (rest := []) ⟨hx, hb, hml, hown, hts⟩ (c_X4_checkArgument l D cI cO cC cL (hi) (lo) (999) (by omega) (by omega) (by omega)) (cwS 3 hts gX4_bounds_X4_checkArgument rfl rfl rfl (by decide +kernel) ⟨Nat.le_of_ble_eq_true rfl, Nat.le_of_ble_eq_true rfl⟩) ⟨fun _ _ _ _ h => h, fun U hU hW => ⟨rfl, trivial⟩⟩ rfl rfl hl.1 rfl (lv_room (Nat.le_of_ble_eq_true rfl)) dX4_bounds_20 ⟨(Nat.zero_le _), (Nat.zero_le _)⟩) (fun hv3 => ?_)
  refine lv_aload_n hx hb dX4_bounds_23 rfl (lv_at hl 0 rfl) ?_
  refine va_get (D := D) (ci := 4) (v := .ref (a 0)) (C := RX4) (T := TX4) (N := 6) hx hb hts hin_X4 hown hK hP 0 rfl rfl 0 (by decide) hw_0 (fun _ h9 => h9) rfl dX4_bounds_24 ?_
  refine lv_iload_n hx hb dX4_bounds_27 rfl (lv_at hl 1 rfl) ?_
  have hPc := fl_P (S' := [stW cI a σ]) hP [1] rfl
  have hKc := hK.sub (tys' := [(cI, FieldType.int)]) [0] rfl
  refine wr_calli (va_runV (As := [.int (iI (c))]) (rest := []) ⟨hx, hb, hml, hown, hts⟩ (c_X3_lowOf l D cI cO cC cL a σ (c) (by omega) (hI)) (cwV 1 hts gX4_bounds_X3_lowOf rfl rfl rfl (by decide +kernel) ⟨Nat.le_of_ble_eq_true rfl, Nat.le_of_ble_eq_true rfl⟩) ⟨pcR_blind, va_recv hKc hPc (ci := 3) (q0 := 0) rfl rfl, pcR_of hPc hKc⟩ rfl rfl hl.1 rfl (lv_room (Nat.le_of_ble_eq_true rfl)) dX4_bounds_28 ⟨(Nat.zero_le _), (Nat.zero_le _)⟩) (fun r4 hr4 => ?_)
  subst hr4
  refine lv_iload_n hx hb dX4_bounds_31 rfl (lv_at hl 2 rfl) ?_
  refine wi_icmp_lt (tgt := 47) hx hb dX4_bounds_32 (by decide) (by omega) (fun c_32 => ?_) (fun c_32 => ?_)
  · skip
    exfalso; omega
  · skip
    refine lv_aload_n hx hb dX4_bounds_35 rfl (lv_at hl 0 rfl) ?_
    refine va_get (D := D) (ci := 4) (v := .ref (a 0)) (C := RX4) (T := TX4) (N := 6) hx hb hts hin_X4 hown hK hP 0 rfl rfl 0 (by decide) hw_0 (fun _ h9 => h9) rfl dX4_bounds_36 ?_
    refine lv_iload_n hx hb dX4_bounds_39 rfl (lv_at hl 1 rfl) ?_
    have hPc := fl_P (S' := [stW cI a σ]) hP [1] rfl
    have hKc := hK.sub (tys' := [(cI, FieldType.int)]) [0] rfl
    refine wr_calli (va_runV (As := [.int (iI (c))]) (rest := []) ⟨hx, hb, hml, hown, hts⟩ (c_X3_highOf l D cI cO cC cL a σ (c) (by omega) (hI)) (cwV 1 hts gX4_bounds_X3_highOf rfl rfl rfl (by decide +kernel) ⟨Nat.le_of_ble_eq_true rfl, Nat.le_of_ble_eq_true rfl⟩) ⟨pcR_blind, va_recv hKc hPc (ci := 3) (q0 := 0) rfl rfl, pcR_of hPc hKc⟩ rfl rfl hl.1 rfl (lv_room (Nat.le_of_ble_eq_true rfl)) dX4_bounds_40 ⟨(Nat.zero_le _), (Nat.zero_le _)⟩) (fun r5 hr5 => ?_)
    subst hr5
    refine lv_iload_n hx hb dX4_bounds_43 rfl (lv_at hl 3 rfl) ?_
    refine wi_icmp_le (tgt := 57) hx hb dX4_bounds_44 (by decide) (by omega) (fun c_44 => ?_) (fun c_44 => ?_)
    · skip
      refine lv_aload_n hx hb dX4_bounds_57 rfl (lv_at hl 0 rfl) ?_
      refine va_get (D := D) (ci := 4) (v := .ref (sv 0)) (C := RX4) (T := TX4) (N := 6) hx hb hts hin_X4 hown hK hP 0 rfl rfl 1 (by decide) hw_1 (fun _ h9 => h9) rfl dX4_bounds_58 ?_
      refine lv_aload_n hx hb dX4_bounds_61 rfl (lv_at hl 0 rfl) ?_
      refine va_get (D := D) (ci := 4) (v := .ref (a 0)) (C := RX4) (T := TX4) (N := 6) hx hb hts hin_X4 hown hK hP 0 rfl rfl 0 (by decide) hw_0 (fun _ h9 => h9) rfl dX4_bounds_62 ?_
      have hPc := fl_P (S' := [stW cI a σ, svO cO sv (saF sa) κ, stW cI (sa 0) (ss 0), stW cI (sa 1) (ss 1), stW cI (sa 2) (ss 2), stW cI (sa 3) (ss 3), stW cI (sa 4) (ss 4), stW cI (sa 5) (ss 5)]) hP [1, 2, 3, 4, 5, 6, 7, 8] rfl
      have hKc := hK.sub (tys' := [(cI, FieldType.int), (cO, FieldType.object "PromisedCounters$State")]) [0, 1] rfl
      have hDc := fl_D (S' := [stW cI a σ, svO cO sv (saF sa) κ, stW cI (sa 0) (ss 0), stW cI (sa 1) (ss 1), stW cI (sa 2) (ss 2), stW cI (sa 3) (ss 3), stW cI (sa 4) (ss 4), stW cI (sa 5) (ss 5)]) hD [1, 2, 3, 4, 5, 6, 7, 8] (by decide) rfl
      have hFc := fl_free (SC := [stW cI a σ, svO cO sv (saF sa) κ, stW cI (sa 0) (ss 0), stW cI (sa 1) (ss 1), stW cI (sa 2) (ss 2), stW cI (sa 3) (ss 3), stW cI (sa 4) (ss 4), stW cI (sa 5) (ss 5)]) hD hS hA [1, 2, 3, 4, 5, 6, 7, 8] rfl
      refine va_callv (va_runV (As := [.ref (a 0)]) (rest := []) ⟨hx, hb, hml, hown, hts⟩ (c_X2_save l D cI cO cC cL s.heap.size a σ sv κ sa ss (hk)) (cwV 1 hts gX4_bounds_X2_save rfl rfl rfl (by decide +kernel) ⟨Nat.le_of_ble_eq_true rfl, Nat.le_of_ble_eq_true rfl⟩) ⟨pcW_blind, va_recv hKc hPc (ci := 2) (q0 := 13) rfl rfl, pcW_of hPc hKc hDc⟩ rfl rfl hl.1 rfl (lv_room (Nat.le_of_ble_eq_true rfl)) dX4_bounds_65 ⟨(Nat.zero_le _), (Nat.zero_le _)⟩) hS (fun q _ h => hFc q h) hFc (fun  u7 t9 H1 locs ht9 hvm hcl6 hB hz1 hk1 hS => ?_)
      obtain ⟨hP1, hK1, hD1⟩ := hB
      rw [ht9] at hP1
      obtain ⟨hP, hD⟩ := fl_join (SR := [mnW x a sv o rd bu ln]) (S1 := [stW cI a σ, svO cO sv (saF (pushA (κ 0 0) sa)) (sU κ 0 0 (pushK (κ 0 0))), stW cI (pushA (κ 0 0) sa 0) (pushS (κ 0 0) ss σ 0), stW cI (pushA (κ 0 0) sa 1) (pushS (κ 0 0) ss σ 1), stW cI (pushA (κ 0 0) sa 2) (pushS (κ 0 0) ss σ 2), stW cI (pushA (κ 0 0) sa 3) (pushS (κ 0 0) ss σ 3), stW cI (pushA (κ 0 0) sa 4) (pushS (κ 0 0) ss σ 4), stW cI (pushA (κ 0 0) sa 5) (pushS (κ 0 0) ss σ 5)]) hP hD [1, 2, 3, 4, 5, 6, 7, 8] [0] rfl rfl (by decide) (by decide) hk1 hFc hP1 hD1
      generalize H1 = H at hP hS ⊢
      have hP := fl_P (S' := [mnW x a sv o rd bu ln, stW cI a σ, svO cO sv (saF (pushA (κ 0 0) sa)) (sU κ 0 0 (pushK (κ 0 0))), stW cI (pushA (κ 0 0) sa 0) (pushS (κ 0 0) ss σ 0), stW cI (pushA (κ 0 0) sa 1) (pushS (κ 0 0) ss σ 1), stW cI (pushA (κ 0 0) sa 2) (pushS (κ 0 0) ss σ 2), stW cI (pushA (κ 0 0) sa 3) (pushS (κ 0 0) ss σ 3), stW cI (pushA (κ 0 0) sa 4) (pushS (κ 0 0) ss σ 4), stW cI (pushA (κ 0 0) sa 5) (pushS (κ 0 0) ss σ 5)]) hP [0, 1, 2, 3, 4, 5, 6, 7, 8] rfl
      have hD := fl_D (S' := [mnW x a sv o rd bu ln, stW cI a σ, svO cO sv (saF (pushA (κ 0 0) sa)) (sU κ 0 0 (pushK (κ 0 0))), stW cI (pushA (κ 0 0) sa 0) (pushS (κ 0 0) ss σ 0), stW cI (pushA (κ 0 0) sa 1) (pushS (κ 0 0) ss σ 1), stW cI (pushA (κ 0 0) sa 2) (pushS (κ 0 0) ss σ 2), stW cI (pushA (κ 0 0) sa 3) (pushS (κ 0 0) ss σ 3), stW cI (pushA (κ 0 0) sa 4) (pushS (κ 0 0) ss σ 4), stW cI (pushA (κ 0 0) sa 5) (pushS (κ 0 0) ss σ 5)]) hD [0, 1, 2, 3, 4, 5, 6, 7, 8] (by decide) rfl
      refine lv_aload_n hx hb dX4_bounds_68 rfl (lv_at hl 0 rfl) ?_
      refine va_get (D := D) (ci := 4) (v := .ref (a 0)) (C := RX4) (T := TX4) (N := 6) hx hb hts hin_X4 hown hK hP 0 rfl rfl 0 (by decide) hw_0 (fun _ h9 => h9) rfl dX4_bounds_69 ?_
      refine va_get (D := D) (ci := 3) (v := .ref (a 4)) (C := RX3) (T := TX3) (N := 15) hx hb hts hin_X3 hown hK hP 1 rfl rfl 6 (by decide) hw_2 (fun _ h9 => h9) rfl dX4_bounds_72 ?_
      refine lv_iload_n hx hb dX4_bounds_75 rfl (lv_at hl 1 rfl) ?_
      refine wi_iald hx hb hK hP 5 0 (n := 4) (f := σ 4) rfl rfl (i := c) (by omega) (by decide) dX4_bounds_76 ?_
      refine lv_aload_n hx hb dX4_bounds_77 rfl (lv_at hl 0 rfl) ?_
      refine va_get (D := D) (ci := 4) (v := .ref (a 0)) (C := RX4) (T := TX4) (N := 6) hx hb hts hin_X4 hown hK hP 0 rfl rfl 0 (by decide) hw_0 (fun _ h9 => h9) rfl dX4_bounds_78 ?_
      refine va_get (D := D) (ci := 3) (v := .ref (a 3)) (C := RX3) (T := TX3) (N := 15) hx hb hts hin_X3 hown hK hP 1 rfl rfl 5 (by decide) hw_3 (fun _ h9 => h9) rfl dX4_bounds_81 ?_
      refine lv_iload_n hx hb dX4_bounds_84 rfl (lv_at hl 1 rfl) ?_
      refine wi_iald hx hb hK hP 4 0 (n := 4) (f := σ 3) rfl rfl (i := c) (by omega) (by decide) dX4_bounds_85 ?_
      refine wi_isub hx hb dX4_bounds_86 ?_
      refine lv_istore (lv' := [(4, .int (iI (((σ 4 (c)) - (σ 3 (c)))))), (0, .ref (x 0)), (1, .int (iI (c))), (2, .int (iI (lo))), (3, .int (iI (hi)))]) hx hb dX4_bounds_87 hl (by decide) rfl (fun ls hl => ?_)
      refine lv_aload_n hx hb dX4_bounds_89 rfl (lv_at hl 1 rfl) ?_
      refine va_get (D := D) (ci := 4) (v := .ref (a 0)) (C := RX4) (T := TX4) (N := 6) hx hb hts hin_X4 hown hK hP 0 rfl rfl 0 (by decide) hw_0 (fun _ h9 => h9) rfl dX4_bounds_90 ?_
      refine va_get (D := D) (ci := 3) (v := .ref (a 3)) (C := RX3) (T := TX3) (N := 15) hx hb hts hin_X3 hown hK hP 1 rfl rfl 5 (by decide) hw_3 (fun _ h9 => h9) rfl dX4_bounds_93 ?_
      refine lv_iload_n hx hb dX4_bounds_96 rfl (lv_at hl 2 rfl) ?_
      refine lv_iload_n hx hb dX4_bounds_97 rfl (lv_at hl 3 rfl) ?_
      refine wi_iast hx hb hK hP hD hS 4 0 (n := 4) (f := σ 3) rfl rfl (i := c) (by omega) (by decide) dX4_bounds_98 (fun H locs hP hD hS => ?_)
      have hP : va_P D vwCl (fl [mnW x a sv o rd bu ln, stW cI a (sU σ 3 (c) (lo)), svO cO sv (saF (pushA (κ 0 0) sa)) (sU κ 0 0 (pushK (κ 0 0))), stW cI (pushA (κ 0 0) sa 0) (pushS (κ 0 0) ss σ 0), stW cI (pushA (κ 0 0) sa 1) (pushS (κ 0 0) ss σ 1), stW cI (pushA (κ 0 0) sa 2) (pushS (κ 0 0) ss σ 2), stW cI (pushA (κ 0 0) sa 3) (pushS (κ 0 0) ss σ 3), stW cI (pushA (κ 0 0) sa 4) (pushS (κ 0 0) ss σ 4), stW cI (pushA (κ 0 0) sa 5) (pushS (κ 0 0) ss σ 5)]) H := hP
      have hD : va_D A (fl [mnW x a sv o rd bu ln, stW cI a (sU σ 3 (c) (lo)), svO cO sv (saF (pushA (κ 0 0) sa)) (sU κ 0 0 (pushK (κ 0 0))), stW cI (pushA (κ 0 0) sa 0) (pushS (κ 0 0) ss σ 0), stW cI (pushA (κ 0 0) sa 1) (pushS (κ 0 0) ss σ 1), stW cI (pushA (κ 0 0) sa 2) (pushS (κ 0 0) ss σ 2), stW cI (pushA (κ 0 0) sa 3) (pushS (κ 0 0) ss σ 3), stW cI (pushA (κ 0 0) sa 4) (pushS (κ 0 0) ss σ 4), stW cI (pushA (κ 0 0) sa 5) (pushS (κ 0 0) ss σ 5)]) := hD
      refine lv_aload_n hx hb dX4_bounds_99 rfl (lv_at hl 1 rfl) ?_
      refine va_get (D := D) (ci := 4) (v := .ref (a 0)) (C := RX4) (T := TX4) (N := 6) hx hb hts hin_X4 hown hK hP 0 rfl rfl 0 (by decide) hw_0 (fun _ h9 => h9) rfl dX4_bounds_100 ?_
      refine va_get (D := D) (ci := 3) (v := .ref (a 4)) (C := RX3) (T := TX3) (N := 15) hx hb hts hin_X3 hown hK hP 1 rfl rfl 6 (by decide) hw_2 (fun _ h9 => h9) rfl dX4_bounds_103 ?_
      refine lv_iload_n hx hb dX4_bounds_106 rfl (lv_at hl 2 rfl) ?_
      refine lv_iload_n hx hb dX4_bounds_107 rfl (lv_at hl 4 rfl) ?_
      refine wi_iast hx hb hK hP hD hS 5 0 (n := 4) (f := σ 4) rfl rfl (i := c) (by omega) (by decide) dX4_bounds_108 (fun H locs hP hD hS => ?_)
      have hP : va_P D vwCl (fl [mnW x a sv o rd bu ln, stW cI a (sU (sU σ 3 (c) (lo)) 4 (c) (hi)), svO cO sv (saF (pushA (κ 0 0) sa)) (sU κ 0 0 (pushK (κ 0 0))), stW cI (pushA (κ 0 0) sa 0) (pushS (κ 0 0) ss σ 0), stW cI (pushA (κ 0 0) sa 1) (pushS (κ 0 0) ss σ 1), stW cI (pushA (κ 0 0) sa 2) (pushS (κ 0 0) ss σ 2), stW cI (pushA (κ 0 0) sa 3) (pushS (κ 0 0) ss σ 3), stW cI (pushA (κ 0 0) sa 4) (pushS (κ 0 0) ss σ 4), stW cI (pushA (κ 0 0) sa 5) (pushS (κ 0 0) ss σ 5)]) H := hP
      have hD : va_D A (fl [mnW x a sv o rd bu ln, stW cI a (sU (sU σ 3 (c) (lo)) 4 (c) (hi)), svO cO sv (saF (pushA (κ 0 0) sa)) (sU κ 0 0 (pushK (κ 0 0))), stW cI (pushA (κ 0 0) sa 0) (pushS (κ 0 0) ss σ 0), stW cI (pushA (κ 0 0) sa 1) (pushS (κ 0 0) ss σ 1), stW cI (pushA (κ 0 0) sa 2) (pushS (κ 0 0) ss σ 2), stW cI (pushA (κ 0 0) sa 3) (pushS (κ 0 0) ss σ 3), stW cI (pushA (κ 0 0) sa 4) (pushS (κ 0 0) ss σ 4), stW cI (pushA (κ 0 0) sa 5) (pushS (κ 0 0) ss σ 5)]) := hD
      refine lv_iload hx hb dX4_bounds_109 (lv_at hl 0 rfl) ?_
      have hP : va_P D vwCl (fl [mnW x a sv o rd bu ln, stW cI a (bndS σ c lo hi), svO cO sv (saF (pushA (κ 0 0) sa)) (sU κ 0 0 (pushK (κ 0 0))), stW cI (pushA (κ 0 0) sa 0) (pushS (κ 0 0) ss σ 0), stW cI (pushA (κ 0 0) sa 1) (pushS (κ 0 0) ss σ 1), stW cI (pushA (κ 0 0) sa 2) (pushS (κ 0 0) ss σ 2), stW cI (pushA (κ 0 0) sa 3) (pushS (κ 0 0) ss σ 3), stW cI (pushA (κ 0 0) sa 4) (pushS (κ 0 0) ss σ 4), stW cI (pushA (κ 0 0) sa 5) (pushS (κ 0 0) ss σ 5)]) H := hP
      have hD : va_D A (fl [mnW x a sv o rd bu ln, stW cI a (bndS σ c lo hi), svO cO sv (saF (pushA (κ 0 0) sa)) (sU κ 0 0 (pushK (κ 0 0))), stW cI (pushA (κ 0 0) sa 0) (pushS (κ 0 0) ss σ 0), stW cI (pushA (κ 0 0) sa 1) (pushS (κ 0 0) ss σ 1), stW cI (pushA (κ 0 0) sa 2) (pushS (κ 0 0) ss σ 2), stW cI (pushA (κ 0 0) sa 3) (pushS (κ 0 0) ss σ 3), stW cI (pushA (κ 0 0) sa 4) (pushS (κ 0 0) ss σ 4), stW cI (pushA (κ 0 0) sa 5) (pushS (κ 0 0) ss σ 5)]) := hD
      exact W.iret (v := iI (((σ 4 (c)) - (σ 3 (c))))) hx hb hr (fun t9 ht9 hW9 => ⟨⟨(((σ 4 (c)) - (σ 3 (c)))), (), rfl, (rfl), ⟨by rw [ht9]; exact hP, va_K.moved hW9.alike hK, hD⟩⟩, hS.F ht9⟩) hS.2.2 dX4_bounds_111 hlocks
    · skip
      exfalso; omega
set_option maxHeartbeats 4000000 in
set_option maxRecDepth 100000 in
theorem c_X4_set (l : Launch) (D : va_G) (cI cO cC cL : ClassId) (sz : Nat) (x a sv o rd bu : Nat → Nat) (ln σ : Nat → Int → Int) (κ : Nat → Int → Int) (sa : Nat → Nat → Nat) (ss : Nat → Nat → Int → Int) (k v : Int) (hk9 : 0 ≤ k ∧ k ≤ 1) (hv : 1 ≤ v ∧ v ≤ (if k = 0 then 16 else 99)) (hk : 0 ≤ κ 0 0 ∧ κ 0 0 ≤ 6) (hI : Inv σ) : Met l yX4_set wsX4_set ({ frames := 7, cells := 0, slots := 0, locals := 142 } : Room) (pcW D [(cI, FieldType.int), (cO, FieldType.object "PromisedCounters$State"), (cC, FieldType.char)] [.ref (x 0), .int (iI (k)), .int (iI (v))] (fl [mnW x a sv o rd bu ln, stW cI a σ, svO cO sv (saF sa) κ, stW cI (sa 0) (ss 0), stW cI (sa 1) (ss 1), stW cI (sa 2) (ss 2), stW cI (sa 3) (ss 3), stW cI (sa 4) (ss 4), stW cI (sa 5) (ss 5)]) sz) (wq_i (fun (r : Int) (_ : Unit) => r = σ 1 k) (fun (_ : Unit) => (bW D [(cI, FieldType.int), (cO, FieldType.object "PromisedCounters$State"), (cC, FieldType.char)] (fl [mnW x a sv o rd bu ln, stW cI a (sU σ 1 k v), svO cO sv (saF (pushA (κ 0 0) sa)) (sU κ 0 0 (pushK (κ 0 0))), stW cI (pushA (κ 0 0) sa 0) (pushS (κ 0 0) ss σ 0), stW cI (pushA (κ 0 0) sa 1) (pushS (κ 0 0) ss σ 1), stW cI (pushA (κ 0 0) sa 2) (pushS (κ 0 0) ss σ 2), stW cI (pushA (κ 0 0) sa 3) (pushS (κ 0 0) ss σ 3), stW cI (pushA (κ 0 0) sa 4) (pushS (κ 0 0) ss σ 4), stW cI (pushA (κ 0 0) sa 5) (pushS (κ 0 0) ss σ 5)]) (va_A (fl [mnW x a sv o rd bu ln, stW cI a σ, svO cO sv (saF sa) κ, stW cI (sa 0) (ss 0), stW cI (sa 1) (ss 1), stW cI (sa 2) (ss 2), stW cI (sa 3) (ss 3), stW cI (sa 4) (ss 4), stW cI (sa 5) (ss 5)]) sz))) (va_A (fl [mnW x a sv o rd bu ln, stW cI a σ, svO cO sv (saF sa) κ, stW cI (sa 0) (ss 0), stW cI (sa 1) (ss 1), stW cI (sa 2) (ss 2), stW cI (sa 3) (ss 3), stW cI (sa 4) (ss 4), stW cI (sa 5) (ss 5)]) sz)) 0 0 (va_A (fl [mnW x a sv o rd bu ln, stW cI a σ, svO cO sv (saF sa) κ, stW cI (sa 0) (ss 0), stW cI (sa 1) (ss 1), stW cI (sa 2) (ss 2), stW cI (sa 3) (ss 3), stW cI (sa 4) (ss 4), stW cI (sa 5) (ss 5)]) sz) := by
  refine Met.ofW (cc := cX4_set) (maxL := 4) (ret := (some .int)) (by decide) rfl ?_
  intro p9 e9 s m args9 below9 meth9 c9 s₁ B hml hv
  obtain ⟨rfl, hsz, hP, hK, hD0⟩ := hv
  have hx := B.exec
  have hb := B.bytes
  have hr := B.returns
  have hts := atoms_spec (ws := wsX4_set) B.pre
  have hown : s.vm.findClass RX4 = some m.cls := findClass_of_methodNamed B.named
  have hlocks := B.notSynchronized
  subst hsz
  have hD := hD0.self (sz := s.heap.size)
  generalize hAe : va_A (fl [mnW x a sv o rd bu ln, stW cI a σ, svO cO sv (saF sa) κ, stW cI (sa 0) (ss 0), stW cI (sa 1) (ss 1), stW cI (sa 2) (ss 2), stW cI (sa 3) (ss 3), stW cI (sa 4) (ss 4), stW cI (sa 5) (ss 5)]) s.heap.size = A at hD ⊢
  have hA : ∀ q : Nat, s.heap.size ≤ q → A q := fun q h => by rw [← hAe]; exact Or.inr h
  have hS : va_S A s.heap s.heap [] := va_S.rf
  have hP : va_P D vwCl (fl [mnW x a sv o rd bu ln, stW cI a σ, svO cO sv (saF sa) κ, stW cI (sa 0) (ss 0), stW cI (sa 1) (ss 1), stW cI (sa 2) (ss 2), stW cI (sa 3) (ss 3), stW cI (sa 4) (ss 4), stW cI (sa 5) (ss 5)]) s.heap := hP
  have hl := lv_entry ([.ref (x 0), .int (iI (k)), .int (iI (v))]) (n := 4) (Nat.le_of_ble_eq_true rfl)
  rw [lg_entry_eq]
  generalize (lg_sl ([.ref (x 0), .int (iI (k)), .int (iI (v))]) ++ List.replicate (4 - (lg_sl ([.ref (x 0), .int (iI (k)), .int (iI (v))])).length) Slot.unset).toArray = ls at hl ⊢
  have hl : lv_has ls 4 [(0, .ref (x 0)), (1, .int (iI (k))), (2, .int (iI (v)))] := hl
  have hw_0 := hts (.fieldLink RX4 19 "PromisedCounters" "saved" "LPromisedCounters$SavedStates;") (by decide +kernel)
  have hin_X4 : ∀ w ∈ u_ws RX4 TX4 6, w ∈ wsX4_set := by decide +kernel
  have hw_1 := hts (.fieldLink RX4 10 "PromisedCounters" "state" "LPromisedCounters$State;") (by decide +kernel)
  have hw_2 := hts (.fieldLink RX4 78 "PromisedCounters$State" "settings" "[I") (by decide +kernel)
  have hin_X3 : ∀ w ∈ u_ws RX3 TX3 15, w ∈ wsX4_set := by decide +kernel
  refine lv_iload_n hx hb dX4_set_0 rfl (lv_at hl 1 rfl) ?_
  refine wi_iconst hx hb dX4_set_1 ?_
  refine wr_callv (va_runS (As := [.int (iI (k)), .int (iI (2))]) (rest := []) ⟨hx, hb, hml, hown, hts⟩ (c_X4_checkIndex l D cI cO cC cL (k) (2) (by omega) (by omega)) (cwS 2 hts gX4_set_X4_checkIndex rfl rfl rfl (by decide +kernel) ⟨Nat.le_of_ble_eq_true rfl, Nat.le_of_ble_eq_true rfl⟩) ⟨fun _ _ _ _ h => h, fun U hU hW => ⟨rfl, trivial⟩⟩ rfl rfl hl.1 rfl (lv_room (Nat.le_of_ble_eq_true rfl)) dX4_set_2 ⟨(Nat.zero_le _), (Nat.zero_le _)⟩) (fun hv1 => ?_)
  refine lv_iload_n hx hb dX4_set_5 rfl (lv_at hl 2 rfl) ?_
  refine wi_iconst hx hb dX4_set_6 ?_
  refine lv_iload_n hx hb dX4_set_7 rfl (lv_at hl 1 rfl) ?_
  refine wi_if_ne (tgt := 16) hx hb dX4_set_8 (by decide) (by omega) (fun c_8 => ?_) (fun c_8 => ?_)
  · skip
    refine wi_bipush hx hb dX4_set_16 (by decide) ?_
    refine wr_callv (va_runS (As := [.int (iI (v)), .int (iI (1)), .int (iI (99))]) (rest := []) ⟨hx, hb, hml, hown, hts⟩ (c_X4_checkArgument l D cI cO cC cL (v) (1) (99) (by omega) (by omega) (by omega)) (cwS 3 hts gX4_set_X4_checkArgument rfl rfl rfl (by decide +kernel) ⟨Nat.le_of_ble_eq_true rfl, Nat.le_of_ble_eq_true rfl⟩) ⟨fun _ _ _ _ h => h, fun U hU hW => ⟨rfl, trivial⟩⟩ rfl rfl hl.1 rfl (lv_room (Nat.le_of_ble_eq_true rfl)) dX4_set_18 ⟨(Nat.zero_le _), (Nat.zero_le _)⟩) (fun hv2 => ?_)
    refine lv_aload_n hx hb dX4_set_21 rfl (lv_at hl 0 rfl) ?_
    refine va_get (D := D) (ci := 4) (v := .ref (sv 0)) (C := RX4) (T := TX4) (N := 6) hx hb hts hin_X4 hown hK hP 0 rfl rfl 1 (by decide) hw_0 (fun _ h9 => h9) rfl dX4_set_22 ?_
    refine lv_aload_n hx hb dX4_set_25 rfl (lv_at hl 0 rfl) ?_
    refine va_get (D := D) (ci := 4) (v := .ref (a 0)) (C := RX4) (T := TX4) (N := 6) hx hb hts hin_X4 hown hK hP 0 rfl rfl 0 (by decide) hw_1 (fun _ h9 => h9) rfl dX4_set_26 ?_
    have hPc := fl_P (S' := [stW cI a σ, svO cO sv (saF sa) κ, stW cI (sa 0) (ss 0), stW cI (sa 1) (ss 1), stW cI (sa 2) (ss 2), stW cI (sa 3) (ss 3), stW cI (sa 4) (ss 4), stW cI (sa 5) (ss 5)]) hP [1, 2, 3, 4, 5, 6, 7, 8] rfl
    have hKc := hK.sub (tys' := [(cI, FieldType.int), (cO, FieldType.object "PromisedCounters$State")]) [0, 1] rfl
    have hDc := fl_D (S' := [stW cI a σ, svO cO sv (saF sa) κ, stW cI (sa 0) (ss 0), stW cI (sa 1) (ss 1), stW cI (sa 2) (ss 2), stW cI (sa 3) (ss 3), stW cI (sa 4) (ss 4), stW cI (sa 5) (ss 5)]) hD [1, 2, 3, 4, 5, 6, 7, 8] (by decide) rfl
    have hFc := fl_free (SC := [stW cI a σ, svO cO sv (saF sa) κ, stW cI (sa 0) (ss 0), stW cI (sa 1) (ss 1), stW cI (sa 2) (ss 2), stW cI (sa 3) (ss 3), stW cI (sa 4) (ss 4), stW cI (sa 5) (ss 5)]) hD hS hA [1, 2, 3, 4, 5, 6, 7, 8] rfl
    refine va_callv (va_runV (As := [.ref (a 0)]) (rest := []) ⟨hx, hb, hml, hown, hts⟩ (c_X2_save l D cI cO cC cL s.heap.size a σ sv κ sa ss (hk)) (cwV 1 hts gX4_set_X2_save rfl rfl rfl (by decide +kernel) ⟨Nat.le_of_ble_eq_true rfl, Nat.le_of_ble_eq_true rfl⟩) ⟨pcW_blind, va_recv hKc hPc (ci := 2) (q0 := 13) rfl rfl, pcW_of hPc hKc hDc⟩ rfl rfl hl.1 rfl (lv_room (Nat.le_of_ble_eq_true rfl)) dX4_set_29 ⟨(Nat.zero_le _), (Nat.zero_le _)⟩) hS (fun q _ h => hFc q h) hFc (fun  u4 t9 H1 locs ht9 hvm hcl3 hB hz1 hk1 hS => ?_)
    obtain ⟨hP1, hK1, hD1⟩ := hB
    rw [ht9] at hP1
    obtain ⟨hP, hD⟩ := fl_join (SR := [mnW x a sv o rd bu ln]) (S1 := [stW cI a σ, svO cO sv (saF (pushA (κ 0 0) sa)) (sU κ 0 0 (pushK (κ 0 0))), stW cI (pushA (κ 0 0) sa 0) (pushS (κ 0 0) ss σ 0), stW cI (pushA (κ 0 0) sa 1) (pushS (κ 0 0) ss σ 1), stW cI (pushA (κ 0 0) sa 2) (pushS (κ 0 0) ss σ 2), stW cI (pushA (κ 0 0) sa 3) (pushS (κ 0 0) ss σ 3), stW cI (pushA (κ 0 0) sa 4) (pushS (κ 0 0) ss σ 4), stW cI (pushA (κ 0 0) sa 5) (pushS (κ 0 0) ss σ 5)]) hP hD [1, 2, 3, 4, 5, 6, 7, 8] [0] rfl rfl (by decide) (by decide) hk1 hFc hP1 hD1
    generalize H1 = H at hP hS ⊢
    have hP := fl_P (S' := [mnW x a sv o rd bu ln, stW cI a σ, svO cO sv (saF (pushA (κ 0 0) sa)) (sU κ 0 0 (pushK (κ 0 0))), stW cI (pushA (κ 0 0) sa 0) (pushS (κ 0 0) ss σ 0), stW cI (pushA (κ 0 0) sa 1) (pushS (κ 0 0) ss σ 1), stW cI (pushA (κ 0 0) sa 2) (pushS (κ 0 0) ss σ 2), stW cI (pushA (κ 0 0) sa 3) (pushS (κ 0 0) ss σ 3), stW cI (pushA (κ 0 0) sa 4) (pushS (κ 0 0) ss σ 4), stW cI (pushA (κ 0 0) sa 5) (pushS (κ 0 0) ss σ 5)]) hP [0, 1, 2, 3, 4, 5, 6, 7, 8] rfl
    have hD := fl_D (S' := [mnW x a sv o rd bu ln, stW cI a σ, svO cO sv (saF (pushA (κ 0 0) sa)) (sU κ 0 0 (pushK (κ 0 0))), stW cI (pushA (κ 0 0) sa 0) (pushS (κ 0 0) ss σ 0), stW cI (pushA (κ 0 0) sa 1) (pushS (κ 0 0) ss σ 1), stW cI (pushA (κ 0 0) sa 2) (pushS (κ 0 0) ss σ 2), stW cI (pushA (κ 0 0) sa 3) (pushS (κ 0 0) ss σ 3), stW cI (pushA (κ 0 0) sa 4) (pushS (κ 0 0) ss σ 4), stW cI (pushA (κ 0 0) sa 5) (pushS (κ 0 0) ss σ 5)]) hD [0, 1, 2, 3, 4, 5, 6, 7, 8] (by decide) rfl
    refine lv_aload_n hx hb dX4_set_32 rfl (lv_at hl 0 rfl) ?_
    refine va_get (D := D) (ci := 4) (v := .ref (a 0)) (C := RX4) (T := TX4) (N := 6) hx hb hts hin_X4 hown hK hP 0 rfl rfl 0 (by decide) hw_1 (fun _ h9 => h9) rfl dX4_set_33 ?_
    refine va_get (D := D) (ci := 3) (v := .ref (a 1)) (C := RX3) (T := TX3) (N := 15) hx hb hts hin_X3 hown hK hP 1 rfl rfl 3 (by decide) hw_2 (fun _ h9 => h9) rfl dX4_set_36 ?_
    refine lv_iload_n hx hb dX4_set_39 rfl (lv_at hl 1 rfl) ?_
    refine wi_iald hx hb hK hP 2 0 (n := 2) (f := σ 1) rfl rfl (i := k) (by omega) (by decide) dX4_set_40 ?_
    refine lv_istore_n (lv' := [(3, .int (iI ((σ 1 (k))))), (0, .ref (x 0)), (1, .int (iI (k))), (2, .int (iI (v)))]) hx hb dX4_set_41 rfl hl (by decide) rfl (fun ls hl => ?_)
    refine lv_aload_n hx hb dX4_set_42 rfl (lv_at hl 1 rfl) ?_
    refine va_get (D := D) (ci := 4) (v := .ref (a 0)) (C := RX4) (T := TX4) (N := 6) hx hb hts hin_X4 hown hK hP 0 rfl rfl 0 (by decide) hw_1 (fun _ h9 => h9) rfl dX4_set_43 ?_
    refine va_get (D := D) (ci := 3) (v := .ref (a 1)) (C := RX3) (T := TX3) (N := 15) hx hb hts hin_X3 hown hK hP 1 rfl rfl 3 (by decide) hw_2 (fun _ h9 => h9) rfl dX4_set_46 ?_
    refine lv_iload_n hx hb dX4_set_49 rfl (lv_at hl 2 rfl) ?_
    refine lv_iload_n hx hb dX4_set_50 rfl (lv_at hl 3 rfl) ?_
    refine wi_iast hx hb hK hP hD hS 2 0 (n := 2) (f := σ 1) rfl rfl (i := k) (by omega) (by decide) dX4_set_51 (fun H locs hP hD hS => ?_)
    have hP : va_P D vwCl (fl [mnW x a sv o rd bu ln, stW cI a (sU σ 1 (k) (v)), svO cO sv (saF (pushA (κ 0 0) sa)) (sU κ 0 0 (pushK (κ 0 0))), stW cI (pushA (κ 0 0) sa 0) (pushS (κ 0 0) ss σ 0), stW cI (pushA (κ 0 0) sa 1) (pushS (κ 0 0) ss σ 1), stW cI (pushA (κ 0 0) sa 2) (pushS (κ 0 0) ss σ 2), stW cI (pushA (κ 0 0) sa 3) (pushS (κ 0 0) ss σ 3), stW cI (pushA (κ 0 0) sa 4) (pushS (κ 0 0) ss σ 4), stW cI (pushA (κ 0 0) sa 5) (pushS (κ 0 0) ss σ 5)]) H := hP
    have hD : va_D A (fl [mnW x a sv o rd bu ln, stW cI a (sU σ 1 (k) (v)), svO cO sv (saF (pushA (κ 0 0) sa)) (sU κ 0 0 (pushK (κ 0 0))), stW cI (pushA (κ 0 0) sa 0) (pushS (κ 0 0) ss σ 0), stW cI (pushA (κ 0 0) sa 1) (pushS (κ 0 0) ss σ 1), stW cI (pushA (κ 0 0) sa 2) (pushS (κ 0 0) ss σ 2), stW cI (pushA (κ 0 0) sa 3) (pushS (κ 0 0) ss σ 3), stW cI (pushA (κ 0 0) sa 4) (pushS (κ 0 0) ss σ 4), stW cI (pushA (κ 0 0) sa 5) (pushS (κ 0 0) ss σ 5)]) := hD
    refine lv_iload_n hx hb dX4_set_52 rfl (lv_at hl 0 rfl) ?_
    have hP : va_P D vwCl (fl [mnW x a sv o rd bu ln, stW cI a (sU σ 1 k v), svO cO sv (saF (pushA (κ 0 0) sa)) (sU κ 0 0 (pushK (κ 0 0))), stW cI (pushA (κ 0 0) sa 0) (pushS (κ 0 0) ss σ 0), stW cI (pushA (κ 0 0) sa 1) (pushS (κ 0 0) ss σ 1), stW cI (pushA (κ 0 0) sa 2) (pushS (κ 0 0) ss σ 2), stW cI (pushA (κ 0 0) sa 3) (pushS (κ 0 0) ss σ 3), stW cI (pushA (κ 0 0) sa 4) (pushS (κ 0 0) ss σ 4), stW cI (pushA (κ 0 0) sa 5) (pushS (κ 0 0) ss σ 5)]) H := hP
    have hD : va_D A (fl [mnW x a sv o rd bu ln, stW cI a (sU σ 1 k v), svO cO sv (saF (pushA (κ 0 0) sa)) (sU κ 0 0 (pushK (κ 0 0))), stW cI (pushA (κ 0 0) sa 0) (pushS (κ 0 0) ss σ 0), stW cI (pushA (κ 0 0) sa 1) (pushS (κ 0 0) ss σ 1), stW cI (pushA (κ 0 0) sa 2) (pushS (κ 0 0) ss σ 2), stW cI (pushA (κ 0 0) sa 3) (pushS (κ 0 0) ss σ 3), stW cI (pushA (κ 0 0) sa 4) (pushS (κ 0 0) ss σ 4), stW cI (pushA (κ 0 0) sa 5) (pushS (κ 0 0) ss σ 5)]) := hD
    exact W.iret (v := iI ((σ 1 (k)))) hx hb hr (fun t9 ht9 hW9 => ⟨⟨((σ 1 (k))), (), rfl, (rfl), ⟨by rw [ht9]; exact hP, va_K.moved hW9.alike hK, hD⟩⟩, hS.F ht9⟩) hS.2.2 dX4_set_53 hlocks
  · skip
    refine wi_bipush hx hb dX4_set_11 (by decide) ?_
    refine lv_goto (tgt := 18) hx hb dX4_set_13 (by decide) ?_
    refine wr_callv (va_runS (As := [.int (iI (v)), .int (iI (1)), .int (iI (16))]) (rest := []) ⟨hx, hb, hml, hown, hts⟩ (c_X4_checkArgument l D cI cO cC cL (v) (1) (16) (by omega) (by omega) (by omega)) (cwS 3 hts gX4_set_X4_checkArgument rfl rfl rfl (by decide +kernel) ⟨Nat.le_of_ble_eq_true rfl, Nat.le_of_ble_eq_true rfl⟩) ⟨fun _ _ _ _ h => h, fun U hU hW => ⟨rfl, trivial⟩⟩ rfl rfl hl.1 rfl (lv_room (Nat.le_of_ble_eq_true rfl)) dX4_set_18 ⟨(Nat.zero_le _), (Nat.zero_le _)⟩) (fun hv5 => ?_)
    refine lv_aload_n hx hb dX4_set_21 rfl (lv_at hl 0 rfl) ?_
    refine va_get (D := D) (ci := 4) (v := .ref (sv 0)) (C := RX4) (T := TX4) (N := 6) hx hb hts hin_X4 hown hK hP 0 rfl rfl 1 (by decide) hw_0 (fun _ h9 => h9) rfl dX4_set_22 ?_
    refine lv_aload_n hx hb dX4_set_25 rfl (lv_at hl 0 rfl) ?_
    refine va_get (D := D) (ci := 4) (v := .ref (a 0)) (C := RX4) (T := TX4) (N := 6) hx hb hts hin_X4 hown hK hP 0 rfl rfl 0 (by decide) hw_1 (fun _ h9 => h9) rfl dX4_set_26 ?_
    have hPc := fl_P (S' := [stW cI a σ, svO cO sv (saF sa) κ, stW cI (sa 0) (ss 0), stW cI (sa 1) (ss 1), stW cI (sa 2) (ss 2), stW cI (sa 3) (ss 3), stW cI (sa 4) (ss 4), stW cI (sa 5) (ss 5)]) hP [1, 2, 3, 4, 5, 6, 7, 8] rfl
    have hKc := hK.sub (tys' := [(cI, FieldType.int), (cO, FieldType.object "PromisedCounters$State")]) [0, 1] rfl
    have hDc := fl_D (S' := [stW cI a σ, svO cO sv (saF sa) κ, stW cI (sa 0) (ss 0), stW cI (sa 1) (ss 1), stW cI (sa 2) (ss 2), stW cI (sa 3) (ss 3), stW cI (sa 4) (ss 4), stW cI (sa 5) (ss 5)]) hD [1, 2, 3, 4, 5, 6, 7, 8] (by decide) rfl
    have hFc := fl_free (SC := [stW cI a σ, svO cO sv (saF sa) κ, stW cI (sa 0) (ss 0), stW cI (sa 1) (ss 1), stW cI (sa 2) (ss 2), stW cI (sa 3) (ss 3), stW cI (sa 4) (ss 4), stW cI (sa 5) (ss 5)]) hD hS hA [1, 2, 3, 4, 5, 6, 7, 8] rfl
    refine va_callv (va_runV (As := [.ref (a 0)]) (rest := []) ⟨hx, hb, hml, hown, hts⟩ (c_X2_save l D cI cO cC cL s.heap.size a σ sv κ sa ss (hk)) (cwV 1 hts gX4_set_X2_save rfl rfl rfl (by decide +kernel) ⟨Nat.le_of_ble_eq_true rfl, Nat.le_of_ble_eq_true rfl⟩) ⟨pcW_blind, va_recv hKc hPc (ci := 2) (q0 := 13) rfl rfl, pcW_of hPc hKc hDc⟩ rfl rfl hl.1 rfl (lv_room (Nat.le_of_ble_eq_true rfl)) dX4_set_29 ⟨(Nat.zero_le _), (Nat.zero_le _)⟩) hS (fun q _ h => hFc q h) hFc (fun  u7 t9 H1 locs ht9 hvm hcl6 hB hz1 hk1 hS => ?_)
    obtain ⟨hP1, hK1, hD1⟩ := hB
    rw [ht9] at hP1
    obtain ⟨hP, hD⟩ := fl_join (SR := [mnW x a sv o rd bu ln]) (S1 := [stW cI a σ, svO cO sv (saF (pushA (κ 0 0) sa)) (sU κ 0 0 (pushK (κ 0 0))), stW cI (pushA (κ 0 0) sa 0) (pushS (κ 0 0) ss σ 0), stW cI (pushA (κ 0 0) sa 1) (pushS (κ 0 0) ss σ 1), stW cI (pushA (κ 0 0) sa 2) (pushS (κ 0 0) ss σ 2), stW cI (pushA (κ 0 0) sa 3) (pushS (κ 0 0) ss σ 3), stW cI (pushA (κ 0 0) sa 4) (pushS (κ 0 0) ss σ 4), stW cI (pushA (κ 0 0) sa 5) (pushS (κ 0 0) ss σ 5)]) hP hD [1, 2, 3, 4, 5, 6, 7, 8] [0] rfl rfl (by decide) (by decide) hk1 hFc hP1 hD1
    generalize H1 = H at hP hS ⊢
    have hP := fl_P (S' := [mnW x a sv o rd bu ln, stW cI a σ, svO cO sv (saF (pushA (κ 0 0) sa)) (sU κ 0 0 (pushK (κ 0 0))), stW cI (pushA (κ 0 0) sa 0) (pushS (κ 0 0) ss σ 0), stW cI (pushA (κ 0 0) sa 1) (pushS (κ 0 0) ss σ 1), stW cI (pushA (κ 0 0) sa 2) (pushS (κ 0 0) ss σ 2), stW cI (pushA (κ 0 0) sa 3) (pushS (κ 0 0) ss σ 3), stW cI (pushA (κ 0 0) sa 4) (pushS (κ 0 0) ss σ 4), stW cI (pushA (κ 0 0) sa 5) (pushS (κ 0 0) ss σ 5)]) hP [0, 1, 2, 3, 4, 5, 6, 7, 8] rfl
    have hD := fl_D (S' := [mnW x a sv o rd bu ln, stW cI a σ, svO cO sv (saF (pushA (κ 0 0) sa)) (sU κ 0 0 (pushK (κ 0 0))), stW cI (pushA (κ 0 0) sa 0) (pushS (κ 0 0) ss σ 0), stW cI (pushA (κ 0 0) sa 1) (pushS (κ 0 0) ss σ 1), stW cI (pushA (κ 0 0) sa 2) (pushS (κ 0 0) ss σ 2), stW cI (pushA (κ 0 0) sa 3) (pushS (κ 0 0) ss σ 3), stW cI (pushA (κ 0 0) sa 4) (pushS (κ 0 0) ss σ 4), stW cI (pushA (κ 0 0) sa 5) (pushS (κ 0 0) ss σ 5)]) hD [0, 1, 2, 3, 4, 5, 6, 7, 8] (by decide) rfl
    refine lv_aload_n hx hb dX4_set_32 rfl (lv_at hl 0 rfl) ?_
    refine va_get (D := D) (ci := 4) (v := .ref (a 0)) (C := RX4) (T := TX4) (N := 6) hx hb hts hin_X4 hown hK hP 0 rfl rfl 0 (by decide) hw_1 (fun _ h9 => h9) rfl dX4_set_33 ?_
    refine va_get (D := D) (ci := 3) (v := .ref (a 1)) (C := RX3) (T := TX3) (N := 15) hx hb hts hin_X3 hown hK hP 1 rfl rfl 3 (by decide) hw_2 (fun _ h9 => h9) rfl dX4_set_36 ?_
    refine lv_iload_n hx hb dX4_set_39 rfl (lv_at hl 1 rfl) ?_
    refine wi_iald hx hb hK hP 2 0 (n := 2) (f := σ 1) rfl rfl (i := k) (by omega) (by decide) dX4_set_40 ?_
    refine lv_istore_n (lv' := [(3, .int (iI ((σ 1 (k))))), (0, .ref (x 0)), (1, .int (iI (k))), (2, .int (iI (v)))]) hx hb dX4_set_41 rfl hl (by decide) rfl (fun ls hl => ?_)
    refine lv_aload_n hx hb dX4_set_42 rfl (lv_at hl 1 rfl) ?_
    refine va_get (D := D) (ci := 4) (v := .ref (a 0)) (C := RX4) (T := TX4) (N := 6) hx hb hts hin_X4 hown hK hP 0 rfl rfl 0 (by decide) hw_1 (fun _ h9 => h9) rfl dX4_set_43 ?_
    refine va_get (D := D) (ci := 3) (v := .ref (a 1)) (C := RX3) (T := TX3) (N := 15) hx hb hts hin_X3 hown hK hP 1 rfl rfl 3 (by decide) hw_2 (fun _ h9 => h9) rfl dX4_set_46 ?_
    refine lv_iload_n hx hb dX4_set_49 rfl (lv_at hl 2 rfl) ?_
    refine lv_iload_n hx hb dX4_set_50 rfl (lv_at hl 3 rfl) ?_
    refine wi_iast hx hb hK hP hD hS 2 0 (n := 2) (f := σ 1) rfl rfl (i := k) (by omega) (by decide) dX4_set_51 (fun H locs hP hD hS => ?_)
    have hP : va_P D vwCl (fl [mnW x a sv o rd bu ln, stW cI a (sU σ 1 (k) (v)), svO cO sv (saF (pushA (κ 0 0) sa)) (sU κ 0 0 (pushK (κ 0 0))), stW cI (pushA (κ 0 0) sa 0) (pushS (κ 0 0) ss σ 0), stW cI (pushA (κ 0 0) sa 1) (pushS (κ 0 0) ss σ 1), stW cI (pushA (κ 0 0) sa 2) (pushS (κ 0 0) ss σ 2), stW cI (pushA (κ 0 0) sa 3) (pushS (κ 0 0) ss σ 3), stW cI (pushA (κ 0 0) sa 4) (pushS (κ 0 0) ss σ 4), stW cI (pushA (κ 0 0) sa 5) (pushS (κ 0 0) ss σ 5)]) H := hP
    have hD : va_D A (fl [mnW x a sv o rd bu ln, stW cI a (sU σ 1 (k) (v)), svO cO sv (saF (pushA (κ 0 0) sa)) (sU κ 0 0 (pushK (κ 0 0))), stW cI (pushA (κ 0 0) sa 0) (pushS (κ 0 0) ss σ 0), stW cI (pushA (κ 0 0) sa 1) (pushS (κ 0 0) ss σ 1), stW cI (pushA (κ 0 0) sa 2) (pushS (κ 0 0) ss σ 2), stW cI (pushA (κ 0 0) sa 3) (pushS (κ 0 0) ss σ 3), stW cI (pushA (κ 0 0) sa 4) (pushS (κ 0 0) ss σ 4), stW cI (pushA (κ 0 0) sa 5) (pushS (κ 0 0) ss σ 5)]) := hD
    refine lv_iload_n hx hb dX4_set_52 rfl (lv_at hl 0 rfl) ?_
    have hP : va_P D vwCl (fl [mnW x a sv o rd bu ln, stW cI a (sU σ 1 k v), svO cO sv (saF (pushA (κ 0 0) sa)) (sU κ 0 0 (pushK (κ 0 0))), stW cI (pushA (κ 0 0) sa 0) (pushS (κ 0 0) ss σ 0), stW cI (pushA (κ 0 0) sa 1) (pushS (κ 0 0) ss σ 1), stW cI (pushA (κ 0 0) sa 2) (pushS (κ 0 0) ss σ 2), stW cI (pushA (κ 0 0) sa 3) (pushS (κ 0 0) ss σ 3), stW cI (pushA (κ 0 0) sa 4) (pushS (κ 0 0) ss σ 4), stW cI (pushA (κ 0 0) sa 5) (pushS (κ 0 0) ss σ 5)]) H := hP
    have hD : va_D A (fl [mnW x a sv o rd bu ln, stW cI a (sU σ 1 k v), svO cO sv (saF (pushA (κ 0 0) sa)) (sU κ 0 0 (pushK (κ 0 0))), stW cI (pushA (κ 0 0) sa 0) (pushS (κ 0 0) ss σ 0), stW cI (pushA (κ 0 0) sa 1) (pushS (κ 0 0) ss σ 1), stW cI (pushA (κ 0 0) sa 2) (pushS (κ 0 0) ss σ 2), stW cI (pushA (κ 0 0) sa 3) (pushS (κ 0 0) ss σ 3), stW cI (pushA (κ 0 0) sa 4) (pushS (κ 0 0) ss σ 4), stW cI (pushA (κ 0 0) sa 5) (pushS (κ 0 0) ss σ 5)]) := hD
    exact W.iret (v := iI ((σ 1 (k)))) hx hb hr (fun t9 ht9 hW9 => ⟨⟨((σ 1 (k))), (), rfl, (rfl), ⟨by rw [ht9]; exact hP, va_K.moved hW9.alike hK, hD⟩⟩, hS.F ht9⟩) hS.2.2 dX4_set_53 hlocks
set_option maxHeartbeats 4000000 in
set_option maxRecDepth 100000 in
theorem c_X4_promise (l : Launch) (D : va_G) (cI cO cC cL : ClassId) (sz : Nat) (x a sv o rd bu : Nat → Nat) (ln σ : Nat → Int → Int) (κ : Nat → Int → Int) (sa : Nat → Nat → Nat) (ss : Nat → Nat → Int → Int) (q c y : Int) (hq : 0 ≤ q ∧ q ≤ 5) (hc : 0 ≤ c ∧ c ≤ 3) (hy : y ≠ 0 ∧ -99 ≤ y ∧ y ≤ 99) (hz : reasonS σ q c y (-1) ≤ 0) (hk : 0 ≤ κ 0 0 ∧ κ 0 0 ≤ 6) (hI : Inv σ) : Met l yX4_promise wsX4_promise ({ frames := 8, cells := 0, slots := 0, locals := 162 } : Room) (pcW D [(cI, FieldType.int), (cO, FieldType.object "PromisedCounters$State"), (cC, FieldType.char)] [.ref (x 0), .int (iI (q)), .int (iI (c)), .int (iI (y))] (fl [mnW x a sv o rd bu ln, stW cI a σ, svO cO sv (saF sa) κ, stW cI (sa 0) (ss 0), stW cI (sa 1) (ss 1), stW cI (sa 2) (ss 2), stW cI (sa 3) (ss 3), stW cI (sa 4) (ss 4), stW cI (sa 5) (ss 5)]) sz) (wq_i (fun (r : Int) (_ : Unit) => r = σ 0 1) (fun (_ : Unit) => (bW D [(cI, FieldType.int), (cO, FieldType.object "PromisedCounters$State"), (cC, FieldType.char)] (fl [mnW x a sv o rd bu ln, stW cI a (addS σ q c y (-1)), svO cO sv (saF (pushA (κ 0 0) sa)) (sU κ 0 0 (pushK (κ 0 0))), stW cI (pushA (κ 0 0) sa 0) (pushS (κ 0 0) ss σ 0), stW cI (pushA (κ 0 0) sa 1) (pushS (κ 0 0) ss σ 1), stW cI (pushA (κ 0 0) sa 2) (pushS (κ 0 0) ss σ 2), stW cI (pushA (κ 0 0) sa 3) (pushS (κ 0 0) ss σ 3), stW cI (pushA (κ 0 0) sa 4) (pushS (κ 0 0) ss σ 4), stW cI (pushA (κ 0 0) sa 5) (pushS (κ 0 0) ss σ 5)]) (va_A (fl [mnW x a sv o rd bu ln, stW cI a σ, svO cO sv (saF sa) κ, stW cI (sa 0) (ss 0), stW cI (sa 1) (ss 1), stW cI (sa 2) (ss 2), stW cI (sa 3) (ss 3), stW cI (sa 4) (ss 4), stW cI (sa 5) (ss 5)]) sz))) (va_A (fl [mnW x a sv o rd bu ln, stW cI a σ, svO cO sv (saF sa) κ, stW cI (sa 0) (ss 0), stW cI (sa 1) (ss 1), stW cI (sa 2) (ss 2), stW cI (sa 3) (ss 3), stW cI (sa 4) (ss 4), stW cI (sa 5) (ss 5)]) sz)) 0 0 (va_A (fl [mnW x a sv o rd bu ln, stW cI a σ, svO cO sv (saF sa) κ, stW cI (sa 0) (ss 0), stW cI (sa 1) (ss 1), stW cI (sa 2) (ss 2), stW cI (sa 3) (ss 3), stW cI (sa 4) (ss 4), stW cI (sa 5) (ss 5)]) sz) := by
  refine Met.ofW (cc := cX4_promise) (maxL := 4) (ret := (some .int)) (by decide) rfl ?_
  intro p9 e9 s m args9 below9 meth9 c9 s₁ B hml hv
  obtain ⟨rfl, hsz, hP, hK, hD0⟩ := hv
  have hx := B.exec
  have hb := B.bytes
  have hr := B.returns
  have hts := atoms_spec (ws := wsX4_promise) B.pre
  have hown : s.vm.findClass RX4 = some m.cls := findClass_of_methodNamed B.named
  have hlocks := B.notSynchronized
  subst hsz
  have hD := hD0.self (sz := s.heap.size)
  generalize hAe : va_A (fl [mnW x a sv o rd bu ln, stW cI a σ, svO cO sv (saF sa) κ, stW cI (sa 0) (ss 0), stW cI (sa 1) (ss 1), stW cI (sa 2) (ss 2), stW cI (sa 3) (ss 3), stW cI (sa 4) (ss 4), stW cI (sa 5) (ss 5)]) s.heap.size = A at hD ⊢
  have hA : ∀ q : Nat, s.heap.size ≤ q → A q := fun q h => by rw [← hAe]; exact Or.inr h
  have hS : va_S A s.heap s.heap [] := va_S.rf
  have hP : va_P D vwCl (fl [mnW x a sv o rd bu ln, stW cI a σ, svO cO sv (saF sa) κ, stW cI (sa 0) (ss 0), stW cI (sa 1) (ss 1), stW cI (sa 2) (ss 2), stW cI (sa 3) (ss 3), stW cI (sa 4) (ss 4), stW cI (sa 5) (ss 5)]) s.heap := hP
  have hl := lv_entry ([.ref (x 0), .int (iI (q)), .int (iI (c)), .int (iI (y))]) (n := 4) (Nat.le_of_ble_eq_true rfl)
  rw [lg_entry_eq]
  generalize (lg_sl ([.ref (x 0), .int (iI (q)), .int (iI (c)), .int (iI (y))]) ++ List.replicate (4 - (lg_sl ([.ref (x 0), .int (iI (q)), .int (iI (c)), .int (iI (y))])).length) Slot.unset).toArray = ls at hl ⊢
  have hl : lv_has ls 4 [(0, .ref (x 0)), (1, .int (iI (q))), (2, .int (iI (c))), (3, .int (iI (y)))] := hl
  have hw_0 := hts (.fieldLink RX4 19 "PromisedCounters" "saved" "LPromisedCounters$SavedStates;") (by decide +kernel)
  have hin_X4 : ∀ w ∈ u_ws RX4 TX4 6, w ∈ wsX4_promise := by decide +kernel
  have hw_1 := hts (.fieldLink RX4 10 "PromisedCounters" "state" "LPromisedCounters$State;") (by decide +kernel)
  have hn := hI.n
  have hti := hI.t
  have h16 := reason_16 hz
  refine lv_iload_n hx hb dX4_promise_0 rfl (lv_at hl 1 rfl) ?_
  refine wi_bipush hx hb dX4_promise_1 (by decide) ?_
  refine wr_callv (va_runS (As := [.int (iI (q)), .int (iI (6))]) (rest := []) ⟨hx, hb, hml, hown, hts⟩ (c_X4_checkIndex l D cI cO cC cL (q) (6) (by omega) (by omega)) (cwS 2 hts gX4_promise_X4_checkIndex rfl rfl rfl (by decide +kernel) ⟨Nat.le_of_ble_eq_true rfl, Nat.le_of_ble_eq_true rfl⟩) ⟨fun _ _ _ _ h => h, fun U hU hW => ⟨rfl, trivial⟩⟩ rfl rfl hl.1 rfl (lv_room (Nat.le_of_ble_eq_true rfl)) dX4_promise_3 ⟨(Nat.zero_le _), (Nat.zero_le _)⟩) (fun hv1 => ?_)
  refine lv_iload_n hx hb dX4_promise_6 rfl (lv_at hl 2 rfl) ?_
  refine wi_iconst hx hb dX4_promise_7 ?_
  refine wr_callv (va_runS (As := [.int (iI (c)), .int (iI (4))]) (rest := []) ⟨hx, hb, hml, hown, hts⟩ (c_X4_checkIndex l D cI cO cC cL (c) (4) (by omega) (by omega)) (cwS 2 hts gX4_promise_X4_checkIndex rfl rfl rfl (by decide +kernel) ⟨Nat.le_of_ble_eq_true rfl, Nat.le_of_ble_eq_true rfl⟩) ⟨fun _ _ _ _ h => h, fun U hU hW => ⟨rfl, trivial⟩⟩ rfl rfl hl.1 rfl (lv_room (Nat.le_of_ble_eq_true rfl)) dX4_promise_8 ⟨(Nat.zero_le _), (Nat.zero_le _)⟩) (fun hv2 => ?_)
  refine lv_iload_n hx hb dX4_promise_11 rfl (lv_at hl 3 rfl) ?_
  refine wr_callv (va_runS (As := [.int (iI (y))]) (rest := []) ⟨hx, hb, hml, hown, hts⟩ (c_X4_checkChange l D cI cO cC cL (y) (by omega)) (cwS 1 hts gX4_promise_X4_checkChange rfl rfl rfl (by decide +kernel) ⟨Nat.le_of_ble_eq_true rfl, Nat.le_of_ble_eq_true rfl⟩) ⟨fun _ _ _ _ h => h, fun U hU hW => ⟨rfl, trivial⟩⟩ rfl rfl hl.1 rfl (lv_room (Nat.le_of_ble_eq_true rfl)) dX4_promise_12 ⟨(Nat.zero_le _), (Nat.zero_le _)⟩) (fun hv3 => ?_)
  refine lv_aload_n hx hb dX4_promise_15 rfl (lv_at hl 0 rfl) ?_
  refine lv_iload_n hx hb dX4_promise_16 rfl (lv_at hl 1 rfl) ?_
  refine lv_iload_n hx hb dX4_promise_17 rfl (lv_at hl 2 rfl) ?_
  refine lv_iload_n hx hb dX4_promise_18 rfl (lv_at hl 3 rfl) ?_
  refine wi_iconst hx hb dX4_promise_19 ?_
  have hPc := fl_P (S' := [mnW x a sv o rd bu ln, stW cI a σ]) hP [0, 1] rfl
  refine wr_callv (va_runV (As := [.int (iI (q)), .int (iI (c)), .int (iI (y)), .int (iI (-1))]) (rest := []) ⟨hx, hb, hml, hown, hts⟩ (c_X4_checkNoReason l D cI cO cC cL x a sv o rd bu ln σ (q) (c) (y) (-1) (by omega) (by omega) (by omega) (by omega) (hz) (hI)) (cwV 4 hts gX4_promise_X4_checkNoReason rfl rfl rfl (by decide +kernel) ⟨Nat.le_of_ble_eq_true rfl, Nat.le_of_ble_eq_true rfl⟩) ⟨pcR_blind, va_recv hK hPc (ci := 4) (q0 := 0) rfl rfl, pcR_of hPc hK⟩ rfl rfl hl.1 rfl (lv_room (Nat.le_of_ble_eq_true rfl)) dX4_promise_20 ⟨(Nat.zero_le _), (Nat.zero_le _)⟩) (fun hv4 => ?_)
  refine lv_aload_n hx hb dX4_promise_23 rfl (lv_at hl 0 rfl) ?_
  refine va_get (D := D) (ci := 4) (v := .ref (sv 0)) (C := RX4) (T := TX4) (N := 6) hx hb hts hin_X4 hown hK hP 0 rfl rfl 1 (by decide) hw_0 (fun _ h9 => h9) rfl dX4_promise_24 ?_
  refine lv_aload_n hx hb dX4_promise_27 rfl (lv_at hl 0 rfl) ?_
  refine va_get (D := D) (ci := 4) (v := .ref (a 0)) (C := RX4) (T := TX4) (N := 6) hx hb hts hin_X4 hown hK hP 0 rfl rfl 0 (by decide) hw_1 (fun _ h9 => h9) rfl dX4_promise_28 ?_
  have hPc := fl_P (S' := [stW cI a σ, svO cO sv (saF sa) κ, stW cI (sa 0) (ss 0), stW cI (sa 1) (ss 1), stW cI (sa 2) (ss 2), stW cI (sa 3) (ss 3), stW cI (sa 4) (ss 4), stW cI (sa 5) (ss 5)]) hP [1, 2, 3, 4, 5, 6, 7, 8] rfl
  have hKc := hK.sub (tys' := [(cI, FieldType.int), (cO, FieldType.object "PromisedCounters$State")]) [0, 1] rfl
  have hDc := fl_D (S' := [stW cI a σ, svO cO sv (saF sa) κ, stW cI (sa 0) (ss 0), stW cI (sa 1) (ss 1), stW cI (sa 2) (ss 2), stW cI (sa 3) (ss 3), stW cI (sa 4) (ss 4), stW cI (sa 5) (ss 5)]) hD [1, 2, 3, 4, 5, 6, 7, 8] (by decide) rfl
  have hFc := fl_free (SC := [stW cI a σ, svO cO sv (saF sa) κ, stW cI (sa 0) (ss 0), stW cI (sa 1) (ss 1), stW cI (sa 2) (ss 2), stW cI (sa 3) (ss 3), stW cI (sa 4) (ss 4), stW cI (sa 5) (ss 5)]) hD hS hA [1, 2, 3, 4, 5, 6, 7, 8] rfl
  refine va_callv (va_runV (As := [.ref (a 0)]) (rest := []) ⟨hx, hb, hml, hown, hts⟩ (c_X2_save l D cI cO cC cL s.heap.size a σ sv κ sa ss (hk)) (cwV 1 hts gX4_promise_X2_save rfl rfl rfl (by decide +kernel) ⟨Nat.le_of_ble_eq_true rfl, Nat.le_of_ble_eq_true rfl⟩) ⟨pcW_blind, va_recv hKc hPc (ci := 2) (q0 := 13) rfl rfl, pcW_of hPc hKc hDc⟩ rfl rfl hl.1 rfl (lv_room (Nat.le_of_ble_eq_true rfl)) dX4_promise_31 ⟨(Nat.zero_le _), (Nat.zero_le _)⟩) hS (fun q _ h => hFc q h) hFc (fun  u6 t9 H1 locs ht9 hvm hcl5 hB hz1 hk1 hS => ?_)
  obtain ⟨hP1, hK1, hD1⟩ := hB
  rw [ht9] at hP1
  obtain ⟨hP, hD⟩ := fl_join (SR := [mnW x a sv o rd bu ln]) (S1 := [stW cI a σ, svO cO sv (saF (pushA (κ 0 0) sa)) (sU κ 0 0 (pushK (κ 0 0))), stW cI (pushA (κ 0 0) sa 0) (pushS (κ 0 0) ss σ 0), stW cI (pushA (κ 0 0) sa 1) (pushS (κ 0 0) ss σ 1), stW cI (pushA (κ 0 0) sa 2) (pushS (κ 0 0) ss σ 2), stW cI (pushA (κ 0 0) sa 3) (pushS (κ 0 0) ss σ 3), stW cI (pushA (κ 0 0) sa 4) (pushS (κ 0 0) ss σ 4), stW cI (pushA (κ 0 0) sa 5) (pushS (κ 0 0) ss σ 5)]) hP hD [1, 2, 3, 4, 5, 6, 7, 8] [0] rfl rfl (by decide) (by decide) hk1 hFc hP1 hD1
  generalize H1 = H at hP hS ⊢
  have hP := fl_P (S' := [mnW x a sv o rd bu ln, stW cI a σ, svO cO sv (saF (pushA (κ 0 0) sa)) (sU κ 0 0 (pushK (κ 0 0))), stW cI (pushA (κ 0 0) sa 0) (pushS (κ 0 0) ss σ 0), stW cI (pushA (κ 0 0) sa 1) (pushS (κ 0 0) ss σ 1), stW cI (pushA (κ 0 0) sa 2) (pushS (κ 0 0) ss σ 2), stW cI (pushA (κ 0 0) sa 3) (pushS (κ 0 0) ss σ 3), stW cI (pushA (κ 0 0) sa 4) (pushS (κ 0 0) ss σ 4), stW cI (pushA (κ 0 0) sa 5) (pushS (κ 0 0) ss σ 5)]) hP [0, 1, 2, 3, 4, 5, 6, 7, 8] rfl
  have hD := fl_D (S' := [mnW x a sv o rd bu ln, stW cI a σ, svO cO sv (saF (pushA (κ 0 0) sa)) (sU κ 0 0 (pushK (κ 0 0))), stW cI (pushA (κ 0 0) sa 0) (pushS (κ 0 0) ss σ 0), stW cI (pushA (κ 0 0) sa 1) (pushS (κ 0 0) ss σ 1), stW cI (pushA (κ 0 0) sa 2) (pushS (κ 0 0) ss σ 2), stW cI (pushA (κ 0 0) sa 3) (pushS (κ 0 0) ss σ 3), stW cI (pushA (κ 0 0) sa 4) (pushS (κ 0 0) ss σ 4), stW cI (pushA (κ 0 0) sa 5) (pushS (κ 0 0) ss σ 5)]) hD [0, 1, 2, 3, 4, 5, 6, 7, 8] (by decide) rfl
  refine lv_aload_n hx hb dX4_promise_34 rfl (lv_at hl 0 rfl) ?_
  refine va_get (D := D) (ci := 4) (v := .ref (a 0)) (C := RX4) (T := TX4) (N := 6) hx hb hts hin_X4 hown hK hP 0 rfl rfl 0 (by decide) hw_1 (fun _ h9 => h9) rfl dX4_promise_35 ?_
  refine lv_iload_n hx hb dX4_promise_38 rfl (lv_at hl 1 rfl) ?_
  refine lv_iload_n hx hb dX4_promise_39 rfl (lv_at hl 2 rfl) ?_
  refine lv_iload_n hx hb dX4_promise_40 rfl (lv_at hl 3 rfl) ?_
  refine wi_iconst hx hb dX4_promise_41 ?_
  have hPc := fl_P (S' := [stW cI a σ]) hP [1] rfl
  have hKc := hK.sub (tys' := [(cI, FieldType.int)]) [0] rfl
  have hDc := fl_D (S' := [stW cI a σ]) hD [1] (by decide) rfl
  have hFc := fl_free (SC := [stW cI a σ]) hD hS hA [1] rfl
  refine wq_calli (va_runV (As := [.int (iI (q)), .int (iI (c)), .int (iI (y)), .int (iI (-1))]) (rest := []) ⟨hx, hb, hml, hown, hts⟩ (c_X3_addPromise l D cI cO cC cL H.size a σ (q) (c) (y) (-1) (by omega)) (cwV 4 hts gX4_promise_X3_addPromise rfl rfl rfl (by decide +kernel) ⟨Nat.le_of_ble_eq_true rfl, Nat.le_of_ble_eq_true rfl⟩) ⟨pcW_blind, va_recv hKc hPc (ci := 3) (q0 := 0) rfl rfl, pcW_of hPc hKc hDc⟩ rfl rfl hl.1 rfl (lv_room (Nat.le_of_ble_eq_true rfl)) dX4_promise_42 ⟨(Nat.zero_le _), (Nat.zero_le _)⟩) hS (fun q _ h => hFc q h) hFc (fun r7 u9 t9 H1 locs ht9 hvm hcl8 hB hz1 hk1 hS => ?_)
  obtain ⟨hP1, hK1, hD1⟩ := hB
  rw [ht9] at hP1
  obtain ⟨hP, hD⟩ := fl_join (SR := [mnW x a sv o rd bu ln, svO cO sv (saF (pushA (κ 0 0) sa)) (sU κ 0 0 (pushK (κ 0 0))), stW cI (pushA (κ 0 0) sa 0) (pushS (κ 0 0) ss σ 0), stW cI (pushA (κ 0 0) sa 1) (pushS (κ 0 0) ss σ 1), stW cI (pushA (κ 0 0) sa 2) (pushS (κ 0 0) ss σ 2), stW cI (pushA (κ 0 0) sa 3) (pushS (κ 0 0) ss σ 3), stW cI (pushA (κ 0 0) sa 4) (pushS (κ 0 0) ss σ 4), stW cI (pushA (κ 0 0) sa 5) (pushS (κ 0 0) ss σ 5)]) (S1 := [stW cI a (addS σ (q) (c) (y) (-1))]) hP hD [1] [0, 2, 3, 4, 5, 6, 7, 8] rfl rfl (by decide) (by decide) hk1 hFc hP1 hD1
  generalize H1 = H at hP hS ⊢
  have hP := fl_P (S' := [mnW x a sv o rd bu ln, stW cI a (addS σ (q) (c) (y) (-1)), svO cO sv (saF (pushA (κ 0 0) sa)) (sU κ 0 0 (pushK (κ 0 0))), stW cI (pushA (κ 0 0) sa 0) (pushS (κ 0 0) ss σ 0), stW cI (pushA (κ 0 0) sa 1) (pushS (κ 0 0) ss σ 1), stW cI (pushA (κ 0 0) sa 2) (pushS (κ 0 0) ss σ 2), stW cI (pushA (κ 0 0) sa 3) (pushS (κ 0 0) ss σ 3), stW cI (pushA (κ 0 0) sa 4) (pushS (κ 0 0) ss σ 4), stW cI (pushA (κ 0 0) sa 5) (pushS (κ 0 0) ss σ 5)]) hP [0, 8, 1, 2, 3, 4, 5, 6, 7] rfl
  have hD := fl_D (S' := [mnW x a sv o rd bu ln, stW cI a (addS σ (q) (c) (y) (-1)), svO cO sv (saF (pushA (κ 0 0) sa)) (sU κ 0 0 (pushK (κ 0 0))), stW cI (pushA (κ 0 0) sa 0) (pushS (κ 0 0) ss σ 0), stW cI (pushA (κ 0 0) sa 1) (pushS (κ 0 0) ss σ 1), stW cI (pushA (κ 0 0) sa 2) (pushS (κ 0 0) ss σ 2), stW cI (pushA (κ 0 0) sa 3) (pushS (κ 0 0) ss σ 3), stW cI (pushA (κ 0 0) sa 4) (pushS (κ 0 0) ss σ 4), stW cI (pushA (κ 0 0) sa 5) (pushS (κ 0 0) ss σ 5)]) hD [0, 8, 1, 2, 3, 4, 5, 6, 7] (by decide) rfl
  have hP : va_P D vwCl (fl [mnW x a sv o rd bu ln, stW cI a (addS σ q c y (-1)), svO cO sv (saF (pushA (κ 0 0) sa)) (sU κ 0 0 (pushK (κ 0 0))), stW cI (pushA (κ 0 0) sa 0) (pushS (κ 0 0) ss σ 0), stW cI (pushA (κ 0 0) sa 1) (pushS (κ 0 0) ss σ 1), stW cI (pushA (κ 0 0) sa 2) (pushS (κ 0 0) ss σ 2), stW cI (pushA (κ 0 0) sa 3) (pushS (κ 0 0) ss σ 3), stW cI (pushA (κ 0 0) sa 4) (pushS (κ 0 0) ss σ 4), stW cI (pushA (κ 0 0) sa 5) (pushS (κ 0 0) ss σ 5)]) H := hP
  have hD : va_D A (fl [mnW x a sv o rd bu ln, stW cI a (addS σ q c y (-1)), svO cO sv (saF (pushA (κ 0 0) sa)) (sU κ 0 0 (pushK (κ 0 0))), stW cI (pushA (κ 0 0) sa 0) (pushS (κ 0 0) ss σ 0), stW cI (pushA (κ 0 0) sa 1) (pushS (κ 0 0) ss σ 1), stW cI (pushA (κ 0 0) sa 2) (pushS (κ 0 0) ss σ 2), stW cI (pushA (κ 0 0) sa 3) (pushS (κ 0 0) ss σ 3), stW cI (pushA (κ 0 0) sa 4) (pushS (κ 0 0) ss σ 4), stW cI (pushA (κ 0 0) sa 5) (pushS (κ 0 0) ss σ 5)]) := hD
  exact W.iret (v := iI (r7)) hx hb hr (fun t9 ht9 hW9 => ⟨⟨(r7), (), rfl, (hcl8), ⟨by rw [ht9]; exact hP, va_K.moved hW9.alike hK, hD⟩⟩, hS.F ht9⟩) hS.2.2 dX4_promise_45 hlocks
set_option maxHeartbeats 4000000 in
set_option maxRecDepth 100000 in
theorem c_X4_transfer (l : Launch) (D : va_G) (cI cO cC cL : ClassId) (sz : Nat) (x a sv o rd bu : Nat → Nat) (ln σ : Nat → Int → Int) (κ : Nat → Int → Int) (sa : Nat → Nat → Nat) (ss : Nat → Nat → Int → Int) (q f t k : Int) (hq : 0 ≤ q ∧ q ≤ 5) (hf : 0 ≤ f ∧ f ≤ 3) (ht : 0 ≤ t ∧ t ≤ 3) (hft : f ≠ t ∧ 1 ≤ k ∧ k ≤ 99) (hz : reasonS σ q f (-k) t ≤ 0) (hk : 0 ≤ κ 0 0 ∧ κ 0 0 ≤ 6) (hI : Inv σ) : Met l yX4_transfer wsX4_transfer ({ frames := 7, cells := 0, slots := 0, locals := 144 } : Room) (pcW D [(cI, FieldType.int), (cO, FieldType.object "PromisedCounters$State"), (cC, FieldType.char)] [.ref (x 0), .int (iI (q)), .int (iI (f)), .int (iI (t)), .int (iI (k))] (fl [mnW x a sv o rd bu ln, stW cI a σ, svO cO sv (saF sa) κ, stW cI (sa 0) (ss 0), stW cI (sa 1) (ss 1), stW cI (sa 2) (ss 2), stW cI (sa 3) (ss 3), stW cI (sa 4) (ss 4), stW cI (sa 5) (ss 5)]) sz) (wq_i (fun (r : Int) (_ : Unit) => r = σ 0 1) (fun (_ : Unit) => (bW D [(cI, FieldType.int), (cO, FieldType.object "PromisedCounters$State"), (cC, FieldType.char)] (fl [mnW x a sv o rd bu ln, stW cI a (addS σ q f (-k) t), svO cO sv (saF (pushA (κ 0 0) sa)) (sU κ 0 0 (pushK (κ 0 0))), stW cI (pushA (κ 0 0) sa 0) (pushS (κ 0 0) ss σ 0), stW cI (pushA (κ 0 0) sa 1) (pushS (κ 0 0) ss σ 1), stW cI (pushA (κ 0 0) sa 2) (pushS (κ 0 0) ss σ 2), stW cI (pushA (κ 0 0) sa 3) (pushS (κ 0 0) ss σ 3), stW cI (pushA (κ 0 0) sa 4) (pushS (κ 0 0) ss σ 4), stW cI (pushA (κ 0 0) sa 5) (pushS (κ 0 0) ss σ 5)]) (va_A (fl [mnW x a sv o rd bu ln, stW cI a σ, svO cO sv (saF sa) κ, stW cI (sa 0) (ss 0), stW cI (sa 1) (ss 1), stW cI (sa 2) (ss 2), stW cI (sa 3) (ss 3), stW cI (sa 4) (ss 4), stW cI (sa 5) (ss 5)]) sz))) (va_A (fl [mnW x a sv o rd bu ln, stW cI a σ, svO cO sv (saF sa) κ, stW cI (sa 0) (ss 0), stW cI (sa 1) (ss 1), stW cI (sa 2) (ss 2), stW cI (sa 3) (ss 3), stW cI (sa 4) (ss 4), stW cI (sa 5) (ss 5)]) sz)) 0 0 (va_A (fl [mnW x a sv o rd bu ln, stW cI a σ, svO cO sv (saF sa) κ, stW cI (sa 0) (ss 0), stW cI (sa 1) (ss 1), stW cI (sa 2) (ss 2), stW cI (sa 3) (ss 3), stW cI (sa 4) (ss 4), stW cI (sa 5) (ss 5)]) sz) := by
  refine Met.ofW (cc := cX4_transfer) (maxL := 5) (ret := (some .int)) (by decide) rfl ?_
  intro p9 e9 s m args9 below9 meth9 c9 s₁ B hml hv
  obtain ⟨rfl, hsz, hP, hK, hD0⟩ := hv
  have hx := B.exec
  have hb := B.bytes
  have hr := B.returns
  have hts := atoms_spec (ws := wsX4_transfer) B.pre
  have hown : s.vm.findClass RX4 = some m.cls := findClass_of_methodNamed B.named
  have hlocks := B.notSynchronized
  subst hsz
  have hD := hD0.self (sz := s.heap.size)
  generalize hAe : va_A (fl [mnW x a sv o rd bu ln, stW cI a σ, svO cO sv (saF sa) κ, stW cI (sa 0) (ss 0), stW cI (sa 1) (ss 1), stW cI (sa 2) (ss 2), stW cI (sa 3) (ss 3), stW cI (sa 4) (ss 4), stW cI (sa 5) (ss 5)]) s.heap.size = A at hD ⊢
  have hA : ∀ q : Nat, s.heap.size ≤ q → A q := fun q h => by rw [← hAe]; exact Or.inr h
  have hS : va_S A s.heap s.heap [] := va_S.rf
  have hP : va_P D vwCl (fl [mnW x a sv o rd bu ln, stW cI a σ, svO cO sv (saF sa) κ, stW cI (sa 0) (ss 0), stW cI (sa 1) (ss 1), stW cI (sa 2) (ss 2), stW cI (sa 3) (ss 3), stW cI (sa 4) (ss 4), stW cI (sa 5) (ss 5)]) s.heap := hP
  have hl := lv_entry ([.ref (x 0), .int (iI (q)), .int (iI (f)), .int (iI (t)), .int (iI (k))]) (n := 5) (Nat.le_of_ble_eq_true rfl)
  rw [lg_entry_eq]
  generalize (lg_sl ([.ref (x 0), .int (iI (q)), .int (iI (f)), .int (iI (t)), .int (iI (k))]) ++ List.replicate (5 - (lg_sl ([.ref (x 0), .int (iI (q)), .int (iI (f)), .int (iI (t)), .int (iI (k))])).length) Slot.unset).toArray = ls at hl ⊢
  have hl : lv_has ls 5 [(0, .ref (x 0)), (1, .int (iI (q))), (2, .int (iI (f))), (3, .int (iI (t))), (4, .int (iI (k)))] := hl
  have hw_0 := hts (.fieldLink RX4 19 "PromisedCounters" "saved" "LPromisedCounters$SavedStates;") (by decide +kernel)
  have hin_X4 : ∀ w ∈ u_ws RX4 TX4 6, w ∈ wsX4_transfer := by decide +kernel
  have hw_1 := hts (.fieldLink RX4 10 "PromisedCounters" "state" "LPromisedCounters$State;") (by decide +kernel)
  have hn := hI.n
  have hti := hI.t
  have h16 := reason_16 hz
  refine lv_iload_n hx hb dX4_transfer_0 rfl (lv_at hl 1 rfl) ?_
  refine wi_bipush hx hb dX4_transfer_1 (by decide) ?_
  refine wr_callv (va_runS (As := [.int (iI (q)), .int (iI (6))]) (rest := []) ⟨hx, hb, hml, hown, hts⟩ (c_X4_checkIndex l D cI cO cC cL (q) (6) (by omega) (by omega)) (cwS 2 hts gX4_transfer_X4_checkIndex rfl rfl rfl (by decide +kernel) ⟨Nat.le_of_ble_eq_true rfl, Nat.le_of_ble_eq_true rfl⟩) ⟨fun _ _ _ _ h => h, fun U hU hW => ⟨rfl, trivial⟩⟩ rfl rfl hl.1 rfl (lv_room (Nat.le_of_ble_eq_true rfl)) dX4_transfer_3 ⟨(Nat.zero_le _), (Nat.zero_le _)⟩) (fun hv1 => ?_)
  refine lv_iload_n hx hb dX4_transfer_6 rfl (lv_at hl 2 rfl) ?_
  refine wi_iconst hx hb dX4_transfer_7 ?_
  refine wr_callv (va_runS (As := [.int (iI (f)), .int (iI (4))]) (rest := []) ⟨hx, hb, hml, hown, hts⟩ (c_X4_checkIndex l D cI cO cC cL (f) (4) (by omega) (by omega)) (cwS 2 hts gX4_transfer_X4_checkIndex rfl rfl rfl (by decide +kernel) ⟨Nat.le_of_ble_eq_true rfl, Nat.le_of_ble_eq_true rfl⟩) ⟨fun _ _ _ _ h => h, fun U hU hW => ⟨rfl, trivial⟩⟩ rfl rfl hl.1 rfl (lv_room (Nat.le_of_ble_eq_true rfl)) dX4_transfer_8 ⟨(Nat.zero_le _), (Nat.zero_le _)⟩) (fun hv2 => ?_)
  refine lv_iload_n hx hb dX4_transfer_11 rfl (lv_at hl 3 rfl) ?_
  refine wi_iconst hx hb dX4_transfer_12 ?_
  refine wr_callv (va_runS (As := [.int (iI (t)), .int (iI (4))]) (rest := []) ⟨hx, hb, hml, hown, hts⟩ (c_X4_checkIndex l D cI cO cC cL (t) (4) (by omega) (by omega)) (cwS 2 hts gX4_transfer_X4_checkIndex rfl rfl rfl (by decide +kernel) ⟨Nat.le_of_ble_eq_true rfl, Nat.le_of_ble_eq_true rfl⟩) ⟨fun _ _ _ _ h => h, fun U hU hW => ⟨rfl, trivial⟩⟩ rfl rfl hl.1 rfl (lv_room (Nat.le_of_ble_eq_true rfl)) dX4_transfer_13 ⟨(Nat.zero_le _), (Nat.zero_le _)⟩) (fun hv3 => ?_)
  refine lv_iload_n hx hb dX4_transfer_16 rfl (lv_at hl 2 rfl) ?_
  refine lv_iload_n hx hb dX4_transfer_17 rfl (lv_at hl 3 rfl) ?_
  refine wi_icmp_ne (tgt := 31) hx hb dX4_transfer_18 (by decide) (by omega) (fun c_18 => ?_) (fun c_18 => ?_)
  · skip
    refine lv_iload hx hb dX4_transfer_31 (lv_at hl 4 rfl) ?_
    refine wi_iconst hx hb dX4_transfer_33 ?_
    refine wi_bipush hx hb dX4_transfer_34 (by decide) ?_
    refine wr_callv (va_runS (As := [.int (iI (k)), .int (iI (1)), .int (iI (99))]) (rest := []) ⟨hx, hb, hml, hown, hts⟩ (c_X4_checkArgument l D cI cO cC cL (k) (1) (99) (by omega) (by omega) (by omega)) (cwS 3 hts gX4_transfer_X4_checkArgument rfl rfl rfl (by decide +kernel) ⟨Nat.le_of_ble_eq_true rfl, Nat.le_of_ble_eq_true rfl⟩) ⟨fun _ _ _ _ h => h, fun U hU hW => ⟨rfl, trivial⟩⟩ rfl rfl hl.1 rfl (lv_room (Nat.le_of_ble_eq_true rfl)) dX4_transfer_36 ⟨(Nat.zero_le _), (Nat.zero_le _)⟩) (fun hv4 => ?_)
    refine lv_aload_n hx hb dX4_transfer_39 rfl (lv_at hl 0 rfl) ?_
    refine lv_iload_n hx hb dX4_transfer_40 rfl (lv_at hl 1 rfl) ?_
    refine lv_iload_n hx hb dX4_transfer_41 rfl (lv_at hl 2 rfl) ?_
    refine lv_iload hx hb dX4_transfer_42 (lv_at hl 4 rfl) ?_
    refine wi_ineg hx hb dX4_transfer_44 ?_
    refine lv_iload_n hx hb dX4_transfer_45 rfl (lv_at hl 3 rfl) ?_
    have hPc := fl_P (S' := [mnW x a sv o rd bu ln, stW cI a σ]) hP [0, 1] rfl
    refine wr_callv (va_runV (As := [.int (iI (q)), .int (iI (f)), .int (iI ((-k))), .int (iI (t))]) (rest := []) ⟨hx, hb, hml, hown, hts⟩ (c_X4_checkNoReason l D cI cO cC cL x a sv o rd bu ln σ (q) (f) ((-k)) (t) (by omega) (by omega) (by omega) (by omega) (hz) (hI)) (cwV 4 hts gX4_transfer_X4_checkNoReason rfl rfl rfl (by decide +kernel) ⟨Nat.le_of_ble_eq_true rfl, Nat.le_of_ble_eq_true rfl⟩) ⟨pcR_blind, va_recv hK hPc (ci := 4) (q0 := 0) rfl rfl, pcR_of hPc hK⟩ rfl rfl hl.1 rfl (lv_room (Nat.le_of_ble_eq_true rfl)) dX4_transfer_46 ⟨(Nat.zero_le _), (Nat.zero_le _)⟩) (fun hv5 => ?_)
    refine lv_aload_n hx hb dX4_transfer_49 rfl (lv_at hl 0 rfl) ?_
    refine va_get (D := D) (ci := 4) (v := .ref (sv 0)) (C := RX4) (T := TX4) (N := 6) hx hb hts hin_X4 hown hK hP 0 rfl rfl 1 (by decide) hw_0 (fun _ h9 => h9) rfl dX4_transfer_50 ?_
    refine lv_aload_n hx hb dX4_transfer_53 rfl (lv_at hl 0 rfl) ?_
    refine va_get (D := D) (ci := 4) (v := .ref (a 0)) (C := RX4) (T := TX4) (N := 6) hx hb hts hin_X4 hown hK hP 0 rfl rfl 0 (by decide) hw_1 (fun _ h9 => h9) rfl dX4_transfer_54 ?_
    have hPc := fl_P (S' := [stW cI a σ, svO cO sv (saF sa) κ, stW cI (sa 0) (ss 0), stW cI (sa 1) (ss 1), stW cI (sa 2) (ss 2), stW cI (sa 3) (ss 3), stW cI (sa 4) (ss 4), stW cI (sa 5) (ss 5)]) hP [1, 2, 3, 4, 5, 6, 7, 8] rfl
    have hKc := hK.sub (tys' := [(cI, FieldType.int), (cO, FieldType.object "PromisedCounters$State")]) [0, 1] rfl
    have hDc := fl_D (S' := [stW cI a σ, svO cO sv (saF sa) κ, stW cI (sa 0) (ss 0), stW cI (sa 1) (ss 1), stW cI (sa 2) (ss 2), stW cI (sa 3) (ss 3), stW cI (sa 4) (ss 4), stW cI (sa 5) (ss 5)]) hD [1, 2, 3, 4, 5, 6, 7, 8] (by decide) rfl
    have hFc := fl_free (SC := [stW cI a σ, svO cO sv (saF sa) κ, stW cI (sa 0) (ss 0), stW cI (sa 1) (ss 1), stW cI (sa 2) (ss 2), stW cI (sa 3) (ss 3), stW cI (sa 4) (ss 4), stW cI (sa 5) (ss 5)]) hD hS hA [1, 2, 3, 4, 5, 6, 7, 8] rfl
    refine va_callv (va_runV (As := [.ref (a 0)]) (rest := []) ⟨hx, hb, hml, hown, hts⟩ (c_X2_save l D cI cO cC cL s.heap.size a σ sv κ sa ss (hk)) (cwV 1 hts gX4_transfer_X2_save rfl rfl rfl (by decide +kernel) ⟨Nat.le_of_ble_eq_true rfl, Nat.le_of_ble_eq_true rfl⟩) ⟨pcW_blind, va_recv hKc hPc (ci := 2) (q0 := 13) rfl rfl, pcW_of hPc hKc hDc⟩ rfl rfl hl.1 rfl (lv_room (Nat.le_of_ble_eq_true rfl)) dX4_transfer_57 ⟨(Nat.zero_le _), (Nat.zero_le _)⟩) hS (fun q _ h => hFc q h) hFc (fun  u7 t9 H1 locs ht9 hvm hcl6 hB hz1 hk1 hS => ?_)
    obtain ⟨hP1, hK1, hD1⟩ := hB
    rw [ht9] at hP1
    obtain ⟨hP, hD⟩ := fl_join (SR := [mnW x a sv o rd bu ln]) (S1 := [stW cI a σ, svO cO sv (saF (pushA (κ 0 0) sa)) (sU κ 0 0 (pushK (κ 0 0))), stW cI (pushA (κ 0 0) sa 0) (pushS (κ 0 0) ss σ 0), stW cI (pushA (κ 0 0) sa 1) (pushS (κ 0 0) ss σ 1), stW cI (pushA (κ 0 0) sa 2) (pushS (κ 0 0) ss σ 2), stW cI (pushA (κ 0 0) sa 3) (pushS (κ 0 0) ss σ 3), stW cI (pushA (κ 0 0) sa 4) (pushS (κ 0 0) ss σ 4), stW cI (pushA (κ 0 0) sa 5) (pushS (κ 0 0) ss σ 5)]) hP hD [1, 2, 3, 4, 5, 6, 7, 8] [0] rfl rfl (by decide) (by decide) hk1 hFc hP1 hD1
    generalize H1 = H at hP hS ⊢
    have hP := fl_P (S' := [mnW x a sv o rd bu ln, stW cI a σ, svO cO sv (saF (pushA (κ 0 0) sa)) (sU κ 0 0 (pushK (κ 0 0))), stW cI (pushA (κ 0 0) sa 0) (pushS (κ 0 0) ss σ 0), stW cI (pushA (κ 0 0) sa 1) (pushS (κ 0 0) ss σ 1), stW cI (pushA (κ 0 0) sa 2) (pushS (κ 0 0) ss σ 2), stW cI (pushA (κ 0 0) sa 3) (pushS (κ 0 0) ss σ 3), stW cI (pushA (κ 0 0) sa 4) (pushS (κ 0 0) ss σ 4), stW cI (pushA (κ 0 0) sa 5) (pushS (κ 0 0) ss σ 5)]) hP [0, 1, 2, 3, 4, 5, 6, 7, 8] rfl
    have hD := fl_D (S' := [mnW x a sv o rd bu ln, stW cI a σ, svO cO sv (saF (pushA (κ 0 0) sa)) (sU κ 0 0 (pushK (κ 0 0))), stW cI (pushA (κ 0 0) sa 0) (pushS (κ 0 0) ss σ 0), stW cI (pushA (κ 0 0) sa 1) (pushS (κ 0 0) ss σ 1), stW cI (pushA (κ 0 0) sa 2) (pushS (κ 0 0) ss σ 2), stW cI (pushA (κ 0 0) sa 3) (pushS (κ 0 0) ss σ 3), stW cI (pushA (κ 0 0) sa 4) (pushS (κ 0 0) ss σ 4), stW cI (pushA (κ 0 0) sa 5) (pushS (κ 0 0) ss σ 5)]) hD [0, 1, 2, 3, 4, 5, 6, 7, 8] (by decide) rfl
    refine lv_aload_n hx hb dX4_transfer_60 rfl (lv_at hl 0 rfl) ?_
    refine va_get (D := D) (ci := 4) (v := .ref (a 0)) (C := RX4) (T := TX4) (N := 6) hx hb hts hin_X4 hown hK hP 0 rfl rfl 0 (by decide) hw_1 (fun _ h9 => h9) rfl dX4_transfer_61 ?_
    refine lv_iload_n hx hb dX4_transfer_64 rfl (lv_at hl 1 rfl) ?_
    refine lv_iload_n hx hb dX4_transfer_65 rfl (lv_at hl 2 rfl) ?_
    refine lv_iload hx hb dX4_transfer_66 (lv_at hl 4 rfl) ?_
    refine wi_ineg hx hb dX4_transfer_68 ?_
    refine lv_iload_n hx hb dX4_transfer_69 rfl (lv_at hl 3 rfl) ?_
    have hPc := fl_P (S' := [stW cI a σ]) hP [1] rfl
    have hKc := hK.sub (tys' := [(cI, FieldType.int)]) [0] rfl
    have hDc := fl_D (S' := [stW cI a σ]) hD [1] (by decide) rfl
    have hFc := fl_free (SC := [stW cI a σ]) hD hS hA [1] rfl
    refine wq_calli (va_runV (As := [.int (iI (q)), .int (iI (f)), .int (iI ((-k))), .int (iI (t))]) (rest := []) ⟨hx, hb, hml, hown, hts⟩ (c_X3_addPromise l D cI cO cC cL H.size a σ (q) (f) ((-k)) (t) (by omega)) (cwV 4 hts gX4_transfer_X3_addPromise rfl rfl rfl (by decide +kernel) ⟨Nat.le_of_ble_eq_true rfl, Nat.le_of_ble_eq_true rfl⟩) ⟨pcW_blind, va_recv hKc hPc (ci := 3) (q0 := 0) rfl rfl, pcW_of hPc hKc hDc⟩ rfl rfl hl.1 rfl (lv_room (Nat.le_of_ble_eq_true rfl)) dX4_transfer_70 ⟨(Nat.zero_le _), (Nat.zero_le _)⟩) hS (fun q _ h => hFc q h) hFc (fun r8 u10 t9 H1 locs ht9 hvm hcl9 hB hz1 hk1 hS => ?_)
    obtain ⟨hP1, hK1, hD1⟩ := hB
    rw [ht9] at hP1
    obtain ⟨hP, hD⟩ := fl_join (SR := [mnW x a sv o rd bu ln, svO cO sv (saF (pushA (κ 0 0) sa)) (sU κ 0 0 (pushK (κ 0 0))), stW cI (pushA (κ 0 0) sa 0) (pushS (κ 0 0) ss σ 0), stW cI (pushA (κ 0 0) sa 1) (pushS (κ 0 0) ss σ 1), stW cI (pushA (κ 0 0) sa 2) (pushS (κ 0 0) ss σ 2), stW cI (pushA (κ 0 0) sa 3) (pushS (κ 0 0) ss σ 3), stW cI (pushA (κ 0 0) sa 4) (pushS (κ 0 0) ss σ 4), stW cI (pushA (κ 0 0) sa 5) (pushS (κ 0 0) ss σ 5)]) (S1 := [stW cI a (addS σ (q) (f) ((-k)) (t))]) hP hD [1] [0, 2, 3, 4, 5, 6, 7, 8] rfl rfl (by decide) (by decide) hk1 hFc hP1 hD1
    generalize H1 = H at hP hS ⊢
    have hP := fl_P (S' := [mnW x a sv o rd bu ln, stW cI a (addS σ (q) (f) ((-k)) (t)), svO cO sv (saF (pushA (κ 0 0) sa)) (sU κ 0 0 (pushK (κ 0 0))), stW cI (pushA (κ 0 0) sa 0) (pushS (κ 0 0) ss σ 0), stW cI (pushA (κ 0 0) sa 1) (pushS (κ 0 0) ss σ 1), stW cI (pushA (κ 0 0) sa 2) (pushS (κ 0 0) ss σ 2), stW cI (pushA (κ 0 0) sa 3) (pushS (κ 0 0) ss σ 3), stW cI (pushA (κ 0 0) sa 4) (pushS (κ 0 0) ss σ 4), stW cI (pushA (κ 0 0) sa 5) (pushS (κ 0 0) ss σ 5)]) hP [0, 8, 1, 2, 3, 4, 5, 6, 7] rfl
    have hD := fl_D (S' := [mnW x a sv o rd bu ln, stW cI a (addS σ (q) (f) ((-k)) (t)), svO cO sv (saF (pushA (κ 0 0) sa)) (sU κ 0 0 (pushK (κ 0 0))), stW cI (pushA (κ 0 0) sa 0) (pushS (κ 0 0) ss σ 0), stW cI (pushA (κ 0 0) sa 1) (pushS (κ 0 0) ss σ 1), stW cI (pushA (κ 0 0) sa 2) (pushS (κ 0 0) ss σ 2), stW cI (pushA (κ 0 0) sa 3) (pushS (κ 0 0) ss σ 3), stW cI (pushA (κ 0 0) sa 4) (pushS (κ 0 0) ss σ 4), stW cI (pushA (κ 0 0) sa 5) (pushS (κ 0 0) ss σ 5)]) hD [0, 8, 1, 2, 3, 4, 5, 6, 7] (by decide) rfl
    have hP : va_P D vwCl (fl [mnW x a sv o rd bu ln, stW cI a (addS σ q f (-k) t), svO cO sv (saF (pushA (κ 0 0) sa)) (sU κ 0 0 (pushK (κ 0 0))), stW cI (pushA (κ 0 0) sa 0) (pushS (κ 0 0) ss σ 0), stW cI (pushA (κ 0 0) sa 1) (pushS (κ 0 0) ss σ 1), stW cI (pushA (κ 0 0) sa 2) (pushS (κ 0 0) ss σ 2), stW cI (pushA (κ 0 0) sa 3) (pushS (κ 0 0) ss σ 3), stW cI (pushA (κ 0 0) sa 4) (pushS (κ 0 0) ss σ 4), stW cI (pushA (κ 0 0) sa 5) (pushS (κ 0 0) ss σ 5)]) H := hP
    have hD : va_D A (fl [mnW x a sv o rd bu ln, stW cI a (addS σ q f (-k) t), svO cO sv (saF (pushA (κ 0 0) sa)) (sU κ 0 0 (pushK (κ 0 0))), stW cI (pushA (κ 0 0) sa 0) (pushS (κ 0 0) ss σ 0), stW cI (pushA (κ 0 0) sa 1) (pushS (κ 0 0) ss σ 1), stW cI (pushA (κ 0 0) sa 2) (pushS (κ 0 0) ss σ 2), stW cI (pushA (κ 0 0) sa 3) (pushS (κ 0 0) ss σ 3), stW cI (pushA (κ 0 0) sa 4) (pushS (κ 0 0) ss σ 4), stW cI (pushA (κ 0 0) sa 5) (pushS (κ 0 0) ss σ 5)]) := hD
    exact W.iret (v := iI (r8)) hx hb hr (fun t9 ht9 hW9 => ⟨⟨(r8), (), rfl, (hcl9), ⟨by rw [ht9]; exact hP, va_K.moved hW9.alike hK, hD⟩⟩, hS.F ht9⟩) hS.2.2 dX4_transfer_73 hlocks
  · skip
    exfalso; omega
set_option maxHeartbeats 4000000 in
set_option maxRecDepth 100000 in
theorem c_X4_settle (l : Launch) (D : va_G) (cI cO cC cL : ClassId) (sz : Nat) (x a sv o rd bu : Nat → Nat) (ln σ : Nat → Int → Int) (κ : Nat → Int → Int) (sa : Nat → Nat → Nat) (ss : Nat → Nat → Int → Int) (p : Int) (hp : 0 ≤ p ∧ p < σ 0 1) (hk : 0 ≤ κ 0 0 ∧ κ 0 0 ≤ 6) (hI : Inv σ) : Met l yX4_settle wsX4_settle ({ frames := 7, cells := 0, slots := 0, locals := 141 } : Room) (pcW D [(cI, FieldType.int), (cO, FieldType.object "PromisedCounters$State"), (cC, FieldType.char)] [.ref (x 0), .int (iI (p))] (fl [mnW x a sv o rd bu ln, stW cI a σ, svO cO sv (saF sa) κ, stW cI (sa 0) (ss 0), stW cI (sa 1) (ss 1), stW cI (sa 2) (ss 2), stW cI (sa 3) (ss 3), stW cI (sa 4) (ss 4), stW cI (sa 5) (ss 5)]) sz) (wq_i (fun (r : Int) (_ : Unit) => r = setS σ p 2 (σ 6 p)) (fun (_ : Unit) => (bW D [(cI, FieldType.int), (cO, FieldType.object "PromisedCounters$State"), (cC, FieldType.char)] (fl [mnW x a sv o rd bu ln, stW cI a (setS σ p), svO cO sv (saF (pushA (κ 0 0) sa)) (sU κ 0 0 (pushK (κ 0 0))), stW cI (pushA (κ 0 0) sa 0) (pushS (κ 0 0) ss σ 0), stW cI (pushA (κ 0 0) sa 1) (pushS (κ 0 0) ss σ 1), stW cI (pushA (κ 0 0) sa 2) (pushS (κ 0 0) ss σ 2), stW cI (pushA (κ 0 0) sa 3) (pushS (κ 0 0) ss σ 3), stW cI (pushA (κ 0 0) sa 4) (pushS (κ 0 0) ss σ 4), stW cI (pushA (κ 0 0) sa 5) (pushS (κ 0 0) ss σ 5)]) (va_A (fl [mnW x a sv o rd bu ln, stW cI a σ, svO cO sv (saF sa) κ, stW cI (sa 0) (ss 0), stW cI (sa 1) (ss 1), stW cI (sa 2) (ss 2), stW cI (sa 3) (ss 3), stW cI (sa 4) (ss 4), stW cI (sa 5) (ss 5)]) sz))) (va_A (fl [mnW x a sv o rd bu ln, stW cI a σ, svO cO sv (saF sa) κ, stW cI (sa 0) (ss 0), stW cI (sa 1) (ss 1), stW cI (sa 2) (ss 2), stW cI (sa 3) (ss 3), stW cI (sa 4) (ss 4), stW cI (sa 5) (ss 5)]) sz)) 0 0 (va_A (fl [mnW x a sv o rd bu ln, stW cI a σ, svO cO sv (saF sa) κ, stW cI (sa 0) (ss 0), stW cI (sa 1) (ss 1), stW cI (sa 2) (ss 2), stW cI (sa 3) (ss 3), stW cI (sa 4) (ss 4), stW cI (sa 5) (ss 5)]) sz) := by
  refine Met.ofW (cc := cX4_settle) (maxL := 3) (ret := (some .int)) (by decide) rfl ?_
  intro p9 e9 s m args9 below9 meth9 c9 s₁ B hml hv
  obtain ⟨rfl, hsz, hP, hK, hD0⟩ := hv
  have hx := B.exec
  have hb := B.bytes
  have hr := B.returns
  have hts := atoms_spec (ws := wsX4_settle) B.pre
  have hown : s.vm.findClass RX4 = some m.cls := findClass_of_methodNamed B.named
  have hlocks := B.notSynchronized
  subst hsz
  have hD := hD0.self (sz := s.heap.size)
  generalize hAe : va_A (fl [mnW x a sv o rd bu ln, stW cI a σ, svO cO sv (saF sa) κ, stW cI (sa 0) (ss 0), stW cI (sa 1) (ss 1), stW cI (sa 2) (ss 2), stW cI (sa 3) (ss 3), stW cI (sa 4) (ss 4), stW cI (sa 5) (ss 5)]) s.heap.size = A at hD ⊢
  have hA : ∀ q : Nat, s.heap.size ≤ q → A q := fun q h => by rw [← hAe]; exact Or.inr h
  have hS : va_S A s.heap s.heap [] := va_S.rf
  have hP : va_P D vwCl (fl [mnW x a sv o rd bu ln, stW cI a σ, svO cO sv (saF sa) κ, stW cI (sa 0) (ss 0), stW cI (sa 1) (ss 1), stW cI (sa 2) (ss 2), stW cI (sa 3) (ss 3), stW cI (sa 4) (ss 4), stW cI (sa 5) (ss 5)]) s.heap := hP
  have hl := lv_entry ([.ref (x 0), .int (iI (p))]) (n := 3) (Nat.le_of_ble_eq_true rfl)
  rw [lg_entry_eq]
  generalize (lg_sl ([.ref (x 0), .int (iI (p))]) ++ List.replicate (3 - (lg_sl ([.ref (x 0), .int (iI (p))])).length) Slot.unset).toArray = ls at hl ⊢
  have hl : lv_has ls 3 [(0, .ref (x 0)), (1, .int (iI (p)))] := hl
  have hw_0 := hts (.fieldLink RX4 10 "PromisedCounters" "state" "LPromisedCounters$State;") (by decide +kernel)
  have hin_X4 : ∀ w ∈ u_ws RX4 TX4 6, w ∈ wsX4_settle := by decide +kernel
  have hw_1 := hts (.fieldLink RX4 98 "PromisedCounters$State" "promises" "I") (by decide +kernel)
  have hin_X3 : ∀ w ∈ u_ws RX3 TX3 15, w ∈ wsX4_settle := by decide +kernel
  have hw_2 := hts (.fieldLink RX4 19 "PromisedCounters" "saved" "LPromisedCounters$SavedStates;") (by decide +kernel)
  have hw_3 := hts (.fieldLink RX4 101 "PromisedCounters$State" "counter" "[I") (by decide +kernel)
  have hw_4 := hts (.fieldLink RX4 107 "PromisedCounters$State" "value" "[I") (by decide +kernel)
  have hn := hI.n
  have hti := hI.t
  have hpr := (hI.pr (p := p) hp.1 hp.2).p0
  obtain ⟨hp1, hp2, hp3, hp4⟩ := id hpr
  refine lv_iload_n hx hb dX4_settle_0 rfl (lv_at hl 1 rfl) ?_
  refine lv_aload_n hx hb dX4_settle_1 rfl (lv_at hl 0 rfl) ?_
  refine va_get (D := D) (ci := 4) (v := .ref (a 0)) (C := RX4) (T := TX4) (N := 6) hx hb hts hin_X4 hown hK hP 0 rfl rfl 0 (by decide) hw_0 (fun _ h9 => h9) rfl dX4_settle_2 ?_
  refine va_get (D := D) (ci := 3) (v := .int (iI ((σ 0 1)))) (C := RX3) (T := TX3) (N := 15) hx hb hts hin_X3 hown hK hP 1 rfl rfl 1 (by decide) hw_1 (fun _ h9 => h9) rfl dX4_settle_5 ?_
  refine wr_callv (va_runS (As := [.int (iI (p)), .int (iI ((σ 0 1)))]) (rest := []) ⟨hx, hb, hml, hown, hts⟩ (c_X4_checkIndex l D cI cO cC cL (p) ((σ 0 1)) (by omega) (by omega)) (cwS 2 hts gX4_settle_X4_checkIndex rfl rfl rfl (by decide +kernel) ⟨Nat.le_of_ble_eq_true rfl, Nat.le_of_ble_eq_true rfl⟩) ⟨fun _ _ _ _ h => h, fun U hU hW => ⟨rfl, trivial⟩⟩ rfl rfl hl.1 rfl (lv_room (Nat.le_of_ble_eq_true rfl)) dX4_settle_8 ⟨(Nat.zero_le _), (Nat.zero_le _)⟩) (fun hv1 => ?_)
  refine lv_aload_n hx hb dX4_settle_11 rfl (lv_at hl 0 rfl) ?_
  refine va_get (D := D) (ci := 4) (v := .ref (sv 0)) (C := RX4) (T := TX4) (N := 6) hx hb hts hin_X4 hown hK hP 0 rfl rfl 1 (by decide) hw_2 (fun _ h9 => h9) rfl dX4_settle_12 ?_
  refine lv_aload_n hx hb dX4_settle_15 rfl (lv_at hl 0 rfl) ?_
  refine va_get (D := D) (ci := 4) (v := .ref (a 0)) (C := RX4) (T := TX4) (N := 6) hx hb hts hin_X4 hown hK hP 0 rfl rfl 0 (by decide) hw_0 (fun _ h9 => h9) rfl dX4_settle_16 ?_
  have hPc := fl_P (S' := [stW cI a σ, svO cO sv (saF sa) κ, stW cI (sa 0) (ss 0), stW cI (sa 1) (ss 1), stW cI (sa 2) (ss 2), stW cI (sa 3) (ss 3), stW cI (sa 4) (ss 4), stW cI (sa 5) (ss 5)]) hP [1, 2, 3, 4, 5, 6, 7, 8] rfl
  have hKc := hK.sub (tys' := [(cI, FieldType.int), (cO, FieldType.object "PromisedCounters$State")]) [0, 1] rfl
  have hDc := fl_D (S' := [stW cI a σ, svO cO sv (saF sa) κ, stW cI (sa 0) (ss 0), stW cI (sa 1) (ss 1), stW cI (sa 2) (ss 2), stW cI (sa 3) (ss 3), stW cI (sa 4) (ss 4), stW cI (sa 5) (ss 5)]) hD [1, 2, 3, 4, 5, 6, 7, 8] (by decide) rfl
  have hFc := fl_free (SC := [stW cI a σ, svO cO sv (saF sa) κ, stW cI (sa 0) (ss 0), stW cI (sa 1) (ss 1), stW cI (sa 2) (ss 2), stW cI (sa 3) (ss 3), stW cI (sa 4) (ss 4), stW cI (sa 5) (ss 5)]) hD hS hA [1, 2, 3, 4, 5, 6, 7, 8] rfl
  refine va_callv (va_runV (As := [.ref (a 0)]) (rest := []) ⟨hx, hb, hml, hown, hts⟩ (c_X2_save l D cI cO cC cL s.heap.size a σ sv κ sa ss (hk)) (cwV 1 hts gX4_settle_X2_save rfl rfl rfl (by decide +kernel) ⟨Nat.le_of_ble_eq_true rfl, Nat.le_of_ble_eq_true rfl⟩) ⟨pcW_blind, va_recv hKc hPc (ci := 2) (q0 := 13) rfl rfl, pcW_of hPc hKc hDc⟩ rfl rfl hl.1 rfl (lv_room (Nat.le_of_ble_eq_true rfl)) dX4_settle_19 ⟨(Nat.zero_le _), (Nat.zero_le _)⟩) hS (fun q _ h => hFc q h) hFc (fun  u3 t9 H1 locs ht9 hvm hcl2 hB hz1 hk1 hS => ?_)
  obtain ⟨hP1, hK1, hD1⟩ := hB
  rw [ht9] at hP1
  obtain ⟨hP, hD⟩ := fl_join (SR := [mnW x a sv o rd bu ln]) (S1 := [stW cI a σ, svO cO sv (saF (pushA (κ 0 0) sa)) (sU κ 0 0 (pushK (κ 0 0))), stW cI (pushA (κ 0 0) sa 0) (pushS (κ 0 0) ss σ 0), stW cI (pushA (κ 0 0) sa 1) (pushS (κ 0 0) ss σ 1), stW cI (pushA (κ 0 0) sa 2) (pushS (κ 0 0) ss σ 2), stW cI (pushA (κ 0 0) sa 3) (pushS (κ 0 0) ss σ 3), stW cI (pushA (κ 0 0) sa 4) (pushS (κ 0 0) ss σ 4), stW cI (pushA (κ 0 0) sa 5) (pushS (κ 0 0) ss σ 5)]) hP hD [1, 2, 3, 4, 5, 6, 7, 8] [0] rfl rfl (by decide) (by decide) hk1 hFc hP1 hD1
  generalize H1 = H at hP hS ⊢
  have hP := fl_P (S' := [mnW x a sv o rd bu ln, stW cI a σ, svO cO sv (saF (pushA (κ 0 0) sa)) (sU κ 0 0 (pushK (κ 0 0))), stW cI (pushA (κ 0 0) sa 0) (pushS (κ 0 0) ss σ 0), stW cI (pushA (κ 0 0) sa 1) (pushS (κ 0 0) ss σ 1), stW cI (pushA (κ 0 0) sa 2) (pushS (κ 0 0) ss σ 2), stW cI (pushA (κ 0 0) sa 3) (pushS (κ 0 0) ss σ 3), stW cI (pushA (κ 0 0) sa 4) (pushS (κ 0 0) ss σ 4), stW cI (pushA (κ 0 0) sa 5) (pushS (κ 0 0) ss σ 5)]) hP [0, 1, 2, 3, 4, 5, 6, 7, 8] rfl
  have hD := fl_D (S' := [mnW x a sv o rd bu ln, stW cI a σ, svO cO sv (saF (pushA (κ 0 0) sa)) (sU κ 0 0 (pushK (κ 0 0))), stW cI (pushA (κ 0 0) sa 0) (pushS (κ 0 0) ss σ 0), stW cI (pushA (κ 0 0) sa 1) (pushS (κ 0 0) ss σ 1), stW cI (pushA (κ 0 0) sa 2) (pushS (κ 0 0) ss σ 2), stW cI (pushA (κ 0 0) sa 3) (pushS (κ 0 0) ss σ 3), stW cI (pushA (κ 0 0) sa 4) (pushS (κ 0 0) ss σ 4), stW cI (pushA (κ 0 0) sa 5) (pushS (κ 0 0) ss σ 5)]) hD [0, 1, 2, 3, 4, 5, 6, 7, 8] (by decide) rfl
  refine lv_aload_n hx hb dX4_settle_22 rfl (lv_at hl 0 rfl) ?_
  refine va_get (D := D) (ci := 4) (v := .ref (a 0)) (C := RX4) (T := TX4) (N := 6) hx hb hts hin_X4 hown hK hP 0 rfl rfl 0 (by decide) hw_0 (fun _ h9 => h9) rfl dX4_settle_23 ?_
  refine va_get (D := D) (ci := 3) (v := .ref (a 6)) (C := RX3) (T := TX3) (N := 15) hx hb hts hin_X3 hown hK hP 1 rfl rfl 8 (by decide) hw_3 (fun _ h9 => h9) rfl dX4_settle_26 ?_
  refine lv_iload_n hx hb dX4_settle_29 rfl (lv_at hl 1 rfl) ?_
  refine wi_iald hx hb hK hP 7 0 (n := 16) (f := σ 6) rfl rfl (i := p) (by omega) (by decide) dX4_settle_30 ?_
  refine lv_istore_n (lv' := [(2, .int (iI ((σ 6 (p))))), (0, .ref (x 0)), (1, .int (iI (p)))]) hx hb dX4_settle_31 rfl hl (by decide) rfl (fun ls hl => ?_)
  refine lv_aload_n hx hb dX4_settle_32 rfl (lv_at hl 1 rfl) ?_
  refine va_get (D := D) (ci := 4) (v := .ref (a 0)) (C := RX4) (T := TX4) (N := 6) hx hb hts hin_X4 hown hK hP 0 rfl rfl 0 (by decide) hw_0 (fun _ h9 => h9) rfl dX4_settle_33 ?_
  refine lv_iload_n hx hb dX4_settle_36 rfl (lv_at hl 2 rfl) ?_
  have hPc := fl_P (S' := [stW cI a σ]) hP [1] rfl
  have hKc := hK.sub (tys' := [(cI, FieldType.int)]) [0] rfl
  have hDc := fl_D (S' := [stW cI a σ]) hD [1] (by decide) rfl
  have hFc := fl_free (SC := [stW cI a σ]) hD hS hA [1] rfl
  refine va_callv (va_runV (As := [.int (iI (p))]) (rest := []) ⟨hx, hb, hml, hown, hts⟩ (c_X3_settleWhole l D cI cO cC cL H.size a σ (p) (by omega) (by omega) (hpr)) (cwV 1 hts gX4_settle_X3_settleWhole rfl rfl rfl (by decide +kernel) ⟨Nat.le_of_ble_eq_true rfl, Nat.le_of_ble_eq_true rfl⟩) ⟨pcW_blind, va_recv hKc hPc (ci := 3) (q0 := 0) rfl rfl, pcW_of hPc hKc hDc⟩ rfl rfl hl.1 rfl (lv_room (Nat.le_of_ble_eq_true rfl)) dX4_settle_37 ⟨(Nat.zero_le _), (Nat.zero_le _)⟩) hS (fun q _ h => hFc q h) hFc (fun  u5 t9 H1 locs ht9 hvm hcl4 hB hz1 hk1 hS => ?_)
  obtain ⟨hP1, hK1, hD1⟩ := hB
  rw [ht9] at hP1
  obtain ⟨hP, hD⟩ := fl_join (SR := [mnW x a sv o rd bu ln, svO cO sv (saF (pushA (κ 0 0) sa)) (sU κ 0 0 (pushK (κ 0 0))), stW cI (pushA (κ 0 0) sa 0) (pushS (κ 0 0) ss σ 0), stW cI (pushA (κ 0 0) sa 1) (pushS (κ 0 0) ss σ 1), stW cI (pushA (κ 0 0) sa 2) (pushS (κ 0 0) ss σ 2), stW cI (pushA (κ 0 0) sa 3) (pushS (κ 0 0) ss σ 3), stW cI (pushA (κ 0 0) sa 4) (pushS (κ 0 0) ss σ 4), stW cI (pushA (κ 0 0) sa 5) (pushS (κ 0 0) ss σ 5)]) (S1 := [stW cI a (setS σ (p))]) hP hD [1] [0, 2, 3, 4, 5, 6, 7, 8] rfl rfl (by decide) (by decide) hk1 hFc hP1 hD1
  generalize H1 = H at hP hS ⊢
  have hP := fl_P (S' := [mnW x a sv o rd bu ln, stW cI a (setS σ (p)), svO cO sv (saF (pushA (κ 0 0) sa)) (sU κ 0 0 (pushK (κ 0 0))), stW cI (pushA (κ 0 0) sa 0) (pushS (κ 0 0) ss σ 0), stW cI (pushA (κ 0 0) sa 1) (pushS (κ 0 0) ss σ 1), stW cI (pushA (κ 0 0) sa 2) (pushS (κ 0 0) ss σ 2), stW cI (pushA (κ 0 0) sa 3) (pushS (κ 0 0) ss σ 3), stW cI (pushA (κ 0 0) sa 4) (pushS (κ 0 0) ss σ 4), stW cI (pushA (κ 0 0) sa 5) (pushS (κ 0 0) ss σ 5)]) hP [0, 8, 1, 2, 3, 4, 5, 6, 7] rfl
  have hD := fl_D (S' := [mnW x a sv o rd bu ln, stW cI a (setS σ (p)), svO cO sv (saF (pushA (κ 0 0) sa)) (sU κ 0 0 (pushK (κ 0 0))), stW cI (pushA (κ 0 0) sa 0) (pushS (κ 0 0) ss σ 0), stW cI (pushA (κ 0 0) sa 1) (pushS (κ 0 0) ss σ 1), stW cI (pushA (κ 0 0) sa 2) (pushS (κ 0 0) ss σ 2), stW cI (pushA (κ 0 0) sa 3) (pushS (κ 0 0) ss σ 3), stW cI (pushA (κ 0 0) sa 4) (pushS (κ 0 0) ss σ 4), stW cI (pushA (κ 0 0) sa 5) (pushS (κ 0 0) ss σ 5)]) hD [0, 8, 1, 2, 3, 4, 5, 6, 7] (by decide) rfl
  refine lv_aload_n hx hb dX4_settle_40 rfl (lv_at hl 1 rfl) ?_
  refine va_get (D := D) (ci := 4) (v := .ref (a 0)) (C := RX4) (T := TX4) (N := 6) hx hb hts hin_X4 hown hK hP 0 rfl rfl 0 (by decide) hw_0 (fun _ h9 => h9) rfl dX4_settle_41 ?_
  refine va_get (D := D) (ci := 3) (v := .ref (a 2)) (C := RX3) (T := TX3) (N := 15) hx hb hts hin_X3 hown hK hP 1 rfl rfl 4 (by decide) hw_4 (fun _ h9 => h9) rfl dX4_settle_44 ?_
  refine lv_iload_n hx hb dX4_settle_47 rfl (lv_at hl 0 rfl) ?_
  refine wi_iald hx hb hK hP 3 0 (n := 4) (f := (setS σ (p)) 2) rfl rfl (i := (σ 6 (p))) (by omega) (by decide) dX4_settle_48 ?_
  have hP : va_P D vwCl (fl [mnW x a sv o rd bu ln, stW cI a (setS σ p), svO cO sv (saF (pushA (κ 0 0) sa)) (sU κ 0 0 (pushK (κ 0 0))), stW cI (pushA (κ 0 0) sa 0) (pushS (κ 0 0) ss σ 0), stW cI (pushA (κ 0 0) sa 1) (pushS (κ 0 0) ss σ 1), stW cI (pushA (κ 0 0) sa 2) (pushS (κ 0 0) ss σ 2), stW cI (pushA (κ 0 0) sa 3) (pushS (κ 0 0) ss σ 3), stW cI (pushA (κ 0 0) sa 4) (pushS (κ 0 0) ss σ 4), stW cI (pushA (κ 0 0) sa 5) (pushS (κ 0 0) ss σ 5)]) H := hP
  have hD : va_D A (fl [mnW x a sv o rd bu ln, stW cI a (setS σ p), svO cO sv (saF (pushA (κ 0 0) sa)) (sU κ 0 0 (pushK (κ 0 0))), stW cI (pushA (κ 0 0) sa 0) (pushS (κ 0 0) ss σ 0), stW cI (pushA (κ 0 0) sa 1) (pushS (κ 0 0) ss σ 1), stW cI (pushA (κ 0 0) sa 2) (pushS (κ 0 0) ss σ 2), stW cI (pushA (κ 0 0) sa 3) (pushS (κ 0 0) ss σ 3), stW cI (pushA (κ 0 0) sa 4) (pushS (κ 0 0) ss σ 4), stW cI (pushA (κ 0 0) sa 5) (pushS (κ 0 0) ss σ 5)]) := hD
  exact W.iret (v := iI (((setS σ (p)) 2 ((σ 6 (p)))))) hx hb hr (fun t9 ht9 hW9 => ⟨⟨(((setS σ (p)) 2 ((σ 6 (p))))), (), rfl, (rfl), ⟨by rw [ht9]; exact hP, va_K.moved hW9.alike hK, hD⟩⟩, hS.F ht9⟩) hS.2.2 dX4_settle_49 hlocks
set_option maxHeartbeats 4000000 in
set_option maxRecDepth 100000 in
theorem c_X4_cancel (l : Launch) (D : va_G) (cI cO cC cL : ClassId) (sz : Nat) (x a sv o rd bu : Nat → Nat) (ln σ : Nat → Int → Int) (κ : Nat → Int → Int) (sa : Nat → Nat → Nat) (ss : Nat → Nat → Int → Int) (p : Int) (hp : 0 ≤ p ∧ p < σ 0 1) (hk : 0 ≤ κ 0 0 ∧ κ 0 0 ≤ 6) (hI : Inv σ) : Met l yX4_cancel wsX4_cancel ({ frames := 7, cells := 0, slots := 0, locals := 141 } : Room) (pcW D [(cI, FieldType.int), (cO, FieldType.object "PromisedCounters$State"), (cC, FieldType.char)] [.ref (x 0), .int (iI (p))] (fl [mnW x a sv o rd bu ln, stW cI a σ, svO cO sv (saF sa) κ, stW cI (sa 0) (ss 0), stW cI (sa 1) (ss 1), stW cI (sa 2) (ss 2), stW cI (sa 3) (ss 3), stW cI (sa 4) (ss 4), stW cI (sa 5) (ss 5)]) sz) (wq_i (fun (r : Int) (_ : Unit) => r = σ 0 1 - 1) (fun (_ : Unit) => (bW D [(cI, FieldType.int), (cO, FieldType.object "PromisedCounters$State"), (cC, FieldType.char)] (fl [mnW x a sv o rd bu ln, stW cI a (canS σ p), svO cO sv (saF (pushA (κ 0 0) sa)) (sU κ 0 0 (pushK (κ 0 0))), stW cI (pushA (κ 0 0) sa 0) (pushS (κ 0 0) ss σ 0), stW cI (pushA (κ 0 0) sa 1) (pushS (κ 0 0) ss σ 1), stW cI (pushA (κ 0 0) sa 2) (pushS (κ 0 0) ss σ 2), stW cI (pushA (κ 0 0) sa 3) (pushS (κ 0 0) ss σ 3), stW cI (pushA (κ 0 0) sa 4) (pushS (κ 0 0) ss σ 4), stW cI (pushA (κ 0 0) sa 5) (pushS (κ 0 0) ss σ 5)]) (va_A (fl [mnW x a sv o rd bu ln, stW cI a σ, svO cO sv (saF sa) κ, stW cI (sa 0) (ss 0), stW cI (sa 1) (ss 1), stW cI (sa 2) (ss 2), stW cI (sa 3) (ss 3), stW cI (sa 4) (ss 4), stW cI (sa 5) (ss 5)]) sz))) (va_A (fl [mnW x a sv o rd bu ln, stW cI a σ, svO cO sv (saF sa) κ, stW cI (sa 0) (ss 0), stW cI (sa 1) (ss 1), stW cI (sa 2) (ss 2), stW cI (sa 3) (ss 3), stW cI (sa 4) (ss 4), stW cI (sa 5) (ss 5)]) sz)) 0 0 (va_A (fl [mnW x a sv o rd bu ln, stW cI a σ, svO cO sv (saF sa) κ, stW cI (sa 0) (ss 0), stW cI (sa 1) (ss 1), stW cI (sa 2) (ss 2), stW cI (sa 3) (ss 3), stW cI (sa 4) (ss 4), stW cI (sa 5) (ss 5)]) sz) := by
  refine Met.ofW (cc := cX4_cancel) (maxL := 2) (ret := (some .int)) (by decide) rfl ?_
  intro p9 e9 s m args9 below9 meth9 c9 s₁ B hml hv
  obtain ⟨rfl, hsz, hP, hK, hD0⟩ := hv
  have hx := B.exec
  have hb := B.bytes
  have hr := B.returns
  have hts := atoms_spec (ws := wsX4_cancel) B.pre
  have hown : s.vm.findClass RX4 = some m.cls := findClass_of_methodNamed B.named
  have hlocks := B.notSynchronized
  subst hsz
  have hD := hD0.self (sz := s.heap.size)
  generalize hAe : va_A (fl [mnW x a sv o rd bu ln, stW cI a σ, svO cO sv (saF sa) κ, stW cI (sa 0) (ss 0), stW cI (sa 1) (ss 1), stW cI (sa 2) (ss 2), stW cI (sa 3) (ss 3), stW cI (sa 4) (ss 4), stW cI (sa 5) (ss 5)]) s.heap.size = A at hD ⊢
  have hA : ∀ q : Nat, s.heap.size ≤ q → A q := fun q h => by rw [← hAe]; exact Or.inr h
  have hS : va_S A s.heap s.heap [] := va_S.rf
  have hP : va_P D vwCl (fl [mnW x a sv o rd bu ln, stW cI a σ, svO cO sv (saF sa) κ, stW cI (sa 0) (ss 0), stW cI (sa 1) (ss 1), stW cI (sa 2) (ss 2), stW cI (sa 3) (ss 3), stW cI (sa 4) (ss 4), stW cI (sa 5) (ss 5)]) s.heap := hP
  have hl := lv_entry ([.ref (x 0), .int (iI (p))]) (n := 2) (Nat.le_of_ble_eq_true rfl)
  rw [lg_entry_eq]
  generalize (lg_sl ([.ref (x 0), .int (iI (p))]) ++ List.replicate (2 - (lg_sl ([.ref (x 0), .int (iI (p))])).length) Slot.unset).toArray = ls at hl ⊢
  have hl : lv_has ls 2 [(0, .ref (x 0)), (1, .int (iI (p)))] := hl
  have hw_0 := hts (.fieldLink RX4 10 "PromisedCounters" "state" "LPromisedCounters$State;") (by decide +kernel)
  have hin_X4 : ∀ w ∈ u_ws RX4 TX4 6, w ∈ wsX4_cancel := by decide +kernel
  have hw_1 := hts (.fieldLink RX4 98 "PromisedCounters$State" "promises" "I") (by decide +kernel)
  have hin_X3 : ∀ w ∈ u_ws RX3 TX3 15, w ∈ wsX4_cancel := by decide +kernel
  have hw_2 := hts (.fieldLink RX4 19 "PromisedCounters" "saved" "LPromisedCounters$SavedStates;") (by decide +kernel)
  have hn := hI.n
  have hti := hI.t
  have hpr := (hI.pr (p := p) hp.1 hp.2).p0
  obtain ⟨hp1, hp2, hp3, hp4⟩ := id hpr
  refine lv_iload_n hx hb dX4_cancel_0 rfl (lv_at hl 1 rfl) ?_
  refine lv_aload_n hx hb dX4_cancel_1 rfl (lv_at hl 0 rfl) ?_
  refine va_get (D := D) (ci := 4) (v := .ref (a 0)) (C := RX4) (T := TX4) (N := 6) hx hb hts hin_X4 hown hK hP 0 rfl rfl 0 (by decide) hw_0 (fun _ h9 => h9) rfl dX4_cancel_2 ?_
  refine va_get (D := D) (ci := 3) (v := .int (iI ((σ 0 1)))) (C := RX3) (T := TX3) (N := 15) hx hb hts hin_X3 hown hK hP 1 rfl rfl 1 (by decide) hw_1 (fun _ h9 => h9) rfl dX4_cancel_5 ?_
  refine wr_callv (va_runS (As := [.int (iI (p)), .int (iI ((σ 0 1)))]) (rest := []) ⟨hx, hb, hml, hown, hts⟩ (c_X4_checkIndex l D cI cO cC cL (p) ((σ 0 1)) (by omega) (by omega)) (cwS 2 hts gX4_cancel_X4_checkIndex rfl rfl rfl (by decide +kernel) ⟨Nat.le_of_ble_eq_true rfl, Nat.le_of_ble_eq_true rfl⟩) ⟨fun _ _ _ _ h => h, fun U hU hW => ⟨rfl, trivial⟩⟩ rfl rfl hl.1 rfl (lv_room (Nat.le_of_ble_eq_true rfl)) dX4_cancel_8 ⟨(Nat.zero_le _), (Nat.zero_le _)⟩) (fun hv1 => ?_)
  refine lv_aload_n hx hb dX4_cancel_11 rfl (lv_at hl 0 rfl) ?_
  refine va_get (D := D) (ci := 4) (v := .ref (sv 0)) (C := RX4) (T := TX4) (N := 6) hx hb hts hin_X4 hown hK hP 0 rfl rfl 1 (by decide) hw_2 (fun _ h9 => h9) rfl dX4_cancel_12 ?_
  refine lv_aload_n hx hb dX4_cancel_15 rfl (lv_at hl 0 rfl) ?_
  refine va_get (D := D) (ci := 4) (v := .ref (a 0)) (C := RX4) (T := TX4) (N := 6) hx hb hts hin_X4 hown hK hP 0 rfl rfl 0 (by decide) hw_0 (fun _ h9 => h9) rfl dX4_cancel_16 ?_
  have hPc := fl_P (S' := [stW cI a σ, svO cO sv (saF sa) κ, stW cI (sa 0) (ss 0), stW cI (sa 1) (ss 1), stW cI (sa 2) (ss 2), stW cI (sa 3) (ss 3), stW cI (sa 4) (ss 4), stW cI (sa 5) (ss 5)]) hP [1, 2, 3, 4, 5, 6, 7, 8] rfl
  have hKc := hK.sub (tys' := [(cI, FieldType.int), (cO, FieldType.object "PromisedCounters$State")]) [0, 1] rfl
  have hDc := fl_D (S' := [stW cI a σ, svO cO sv (saF sa) κ, stW cI (sa 0) (ss 0), stW cI (sa 1) (ss 1), stW cI (sa 2) (ss 2), stW cI (sa 3) (ss 3), stW cI (sa 4) (ss 4), stW cI (sa 5) (ss 5)]) hD [1, 2, 3, 4, 5, 6, 7, 8] (by decide) rfl
  have hFc := fl_free (SC := [stW cI a σ, svO cO sv (saF sa) κ, stW cI (sa 0) (ss 0), stW cI (sa 1) (ss 1), stW cI (sa 2) (ss 2), stW cI (sa 3) (ss 3), stW cI (sa 4) (ss 4), stW cI (sa 5) (ss 5)]) hD hS hA [1, 2, 3, 4, 5, 6, 7, 8] rfl
  refine va_callv (va_runV (As := [.ref (a 0)]) (rest := []) ⟨hx, hb, hml, hown, hts⟩ (c_X2_save l D cI cO cC cL s.heap.size a σ sv κ sa ss (hk)) (cwV 1 hts gX4_cancel_X2_save rfl rfl rfl (by decide +kernel) ⟨Nat.le_of_ble_eq_true rfl, Nat.le_of_ble_eq_true rfl⟩) ⟨pcW_blind, va_recv hKc hPc (ci := 2) (q0 := 13) rfl rfl, pcW_of hPc hKc hDc⟩ rfl rfl hl.1 rfl (lv_room (Nat.le_of_ble_eq_true rfl)) dX4_cancel_19 ⟨(Nat.zero_le _), (Nat.zero_le _)⟩) hS (fun q _ h => hFc q h) hFc (fun  u3 t9 H1 locs ht9 hvm hcl2 hB hz1 hk1 hS => ?_)
  obtain ⟨hP1, hK1, hD1⟩ := hB
  rw [ht9] at hP1
  obtain ⟨hP, hD⟩ := fl_join (SR := [mnW x a sv o rd bu ln]) (S1 := [stW cI a σ, svO cO sv (saF (pushA (κ 0 0) sa)) (sU κ 0 0 (pushK (κ 0 0))), stW cI (pushA (κ 0 0) sa 0) (pushS (κ 0 0) ss σ 0), stW cI (pushA (κ 0 0) sa 1) (pushS (κ 0 0) ss σ 1), stW cI (pushA (κ 0 0) sa 2) (pushS (κ 0 0) ss σ 2), stW cI (pushA (κ 0 0) sa 3) (pushS (κ 0 0) ss σ 3), stW cI (pushA (κ 0 0) sa 4) (pushS (κ 0 0) ss σ 4), stW cI (pushA (κ 0 0) sa 5) (pushS (κ 0 0) ss σ 5)]) hP hD [1, 2, 3, 4, 5, 6, 7, 8] [0] rfl rfl (by decide) (by decide) hk1 hFc hP1 hD1
  generalize H1 = H at hP hS ⊢
  have hP := fl_P (S' := [mnW x a sv o rd bu ln, stW cI a σ, svO cO sv (saF (pushA (κ 0 0) sa)) (sU κ 0 0 (pushK (κ 0 0))), stW cI (pushA (κ 0 0) sa 0) (pushS (κ 0 0) ss σ 0), stW cI (pushA (κ 0 0) sa 1) (pushS (κ 0 0) ss σ 1), stW cI (pushA (κ 0 0) sa 2) (pushS (κ 0 0) ss σ 2), stW cI (pushA (κ 0 0) sa 3) (pushS (κ 0 0) ss σ 3), stW cI (pushA (κ 0 0) sa 4) (pushS (κ 0 0) ss σ 4), stW cI (pushA (κ 0 0) sa 5) (pushS (κ 0 0) ss σ 5)]) hP [0, 1, 2, 3, 4, 5, 6, 7, 8] rfl
  have hD := fl_D (S' := [mnW x a sv o rd bu ln, stW cI a σ, svO cO sv (saF (pushA (κ 0 0) sa)) (sU κ 0 0 (pushK (κ 0 0))), stW cI (pushA (κ 0 0) sa 0) (pushS (κ 0 0) ss σ 0), stW cI (pushA (κ 0 0) sa 1) (pushS (κ 0 0) ss σ 1), stW cI (pushA (κ 0 0) sa 2) (pushS (κ 0 0) ss σ 2), stW cI (pushA (κ 0 0) sa 3) (pushS (κ 0 0) ss σ 3), stW cI (pushA (κ 0 0) sa 4) (pushS (κ 0 0) ss σ 4), stW cI (pushA (κ 0 0) sa 5) (pushS (κ 0 0) ss σ 5)]) hD [0, 1, 2, 3, 4, 5, 6, 7, 8] (by decide) rfl
  refine lv_aload_n hx hb dX4_cancel_22 rfl (lv_at hl 0 rfl) ?_
  refine va_get (D := D) (ci := 4) (v := .ref (a 0)) (C := RX4) (T := TX4) (N := 6) hx hb hts hin_X4 hown hK hP 0 rfl rfl 0 (by decide) hw_0 (fun _ h9 => h9) rfl dX4_cancel_23 ?_
  refine lv_iload_n hx hb dX4_cancel_26 rfl (lv_at hl 1 rfl) ?_
  have hPc := fl_P (S' := [stW cI a σ]) hP [1] rfl
  have hKc := hK.sub (tys' := [(cI, FieldType.int)]) [0] rfl
  have hDc := fl_D (S' := [stW cI a σ]) hD [1] (by decide) rfl
  have hFc := fl_free (SC := [stW cI a σ]) hD hS hA [1] rfl
  refine va_callv (va_runV (As := [.int (iI (p))]) (rest := []) ⟨hx, hb, hml, hown, hts⟩ (c_X3_cancelWhole l D cI cO cC cL H.size a σ (p) (by omega) (by omega) (hpr)) (cwV 1 hts gX4_cancel_X3_cancelWhole rfl rfl rfl (by decide +kernel) ⟨Nat.le_of_ble_eq_true rfl, Nat.le_of_ble_eq_true rfl⟩) ⟨pcW_blind, va_recv hKc hPc (ci := 3) (q0 := 0) rfl rfl, pcW_of hPc hKc hDc⟩ rfl rfl hl.1 rfl (lv_room (Nat.le_of_ble_eq_true rfl)) dX4_cancel_27 ⟨(Nat.zero_le _), (Nat.zero_le _)⟩) hS (fun q _ h => hFc q h) hFc (fun  u5 t9 H1 locs ht9 hvm hcl4 hB hz1 hk1 hS => ?_)
  obtain ⟨hP1, hK1, hD1⟩ := hB
  rw [ht9] at hP1
  obtain ⟨hP, hD⟩ := fl_join (SR := [mnW x a sv o rd bu ln, svO cO sv (saF (pushA (κ 0 0) sa)) (sU κ 0 0 (pushK (κ 0 0))), stW cI (pushA (κ 0 0) sa 0) (pushS (κ 0 0) ss σ 0), stW cI (pushA (κ 0 0) sa 1) (pushS (κ 0 0) ss σ 1), stW cI (pushA (κ 0 0) sa 2) (pushS (κ 0 0) ss σ 2), stW cI (pushA (κ 0 0) sa 3) (pushS (κ 0 0) ss σ 3), stW cI (pushA (κ 0 0) sa 4) (pushS (κ 0 0) ss σ 4), stW cI (pushA (κ 0 0) sa 5) (pushS (κ 0 0) ss σ 5)]) (S1 := [stW cI a (canS σ (p))]) hP hD [1] [0, 2, 3, 4, 5, 6, 7, 8] rfl rfl (by decide) (by decide) hk1 hFc hP1 hD1
  generalize H1 = H at hP hS ⊢
  have hP := fl_P (S' := [mnW x a sv o rd bu ln, stW cI a (canS σ (p)), svO cO sv (saF (pushA (κ 0 0) sa)) (sU κ 0 0 (pushK (κ 0 0))), stW cI (pushA (κ 0 0) sa 0) (pushS (κ 0 0) ss σ 0), stW cI (pushA (κ 0 0) sa 1) (pushS (κ 0 0) ss σ 1), stW cI (pushA (κ 0 0) sa 2) (pushS (κ 0 0) ss σ 2), stW cI (pushA (κ 0 0) sa 3) (pushS (κ 0 0) ss σ 3), stW cI (pushA (κ 0 0) sa 4) (pushS (κ 0 0) ss σ 4), stW cI (pushA (κ 0 0) sa 5) (pushS (κ 0 0) ss σ 5)]) hP [0, 8, 1, 2, 3, 4, 5, 6, 7] rfl
  have hD := fl_D (S' := [mnW x a sv o rd bu ln, stW cI a (canS σ (p)), svO cO sv (saF (pushA (κ 0 0) sa)) (sU κ 0 0 (pushK (κ 0 0))), stW cI (pushA (κ 0 0) sa 0) (pushS (κ 0 0) ss σ 0), stW cI (pushA (κ 0 0) sa 1) (pushS (κ 0 0) ss σ 1), stW cI (pushA (κ 0 0) sa 2) (pushS (κ 0 0) ss σ 2), stW cI (pushA (κ 0 0) sa 3) (pushS (κ 0 0) ss σ 3), stW cI (pushA (κ 0 0) sa 4) (pushS (κ 0 0) ss σ 4), stW cI (pushA (κ 0 0) sa 5) (pushS (κ 0 0) ss σ 5)]) hD [0, 8, 1, 2, 3, 4, 5, 6, 7] (by decide) rfl
  refine lv_aload_n hx hb dX4_cancel_30 rfl (lv_at hl 0 rfl) ?_
  refine va_get (D := D) (ci := 4) (v := .ref (a 0)) (C := RX4) (T := TX4) (N := 6) hx hb hts hin_X4 hown hK hP 0 rfl rfl 0 (by decide) hw_0 (fun _ h9 => h9) rfl dX4_cancel_31 ?_
  refine va_get (D := D) (ci := 3) (v := .int (iI (((canS σ (p)) 0 1)))) (C := RX3) (T := TX3) (N := 15) hx hb hts hin_X3 hown hK hP 1 rfl rfl 1 (by decide) hw_1 (fun _ h9 => h9) rfl dX4_cancel_34 ?_
  have hP : va_P D vwCl (fl [mnW x a sv o rd bu ln, stW cI a (canS σ p), svO cO sv (saF (pushA (κ 0 0) sa)) (sU κ 0 0 (pushK (κ 0 0))), stW cI (pushA (κ 0 0) sa 0) (pushS (κ 0 0) ss σ 0), stW cI (pushA (κ 0 0) sa 1) (pushS (κ 0 0) ss σ 1), stW cI (pushA (κ 0 0) sa 2) (pushS (κ 0 0) ss σ 2), stW cI (pushA (κ 0 0) sa 3) (pushS (κ 0 0) ss σ 3), stW cI (pushA (κ 0 0) sa 4) (pushS (κ 0 0) ss σ 4), stW cI (pushA (κ 0 0) sa 5) (pushS (κ 0 0) ss σ 5)]) H := hP
  have hD : va_D A (fl [mnW x a sv o rd bu ln, stW cI a (canS σ p), svO cO sv (saF (pushA (κ 0 0) sa)) (sU κ 0 0 (pushK (κ 0 0))), stW cI (pushA (κ 0 0) sa 0) (pushS (κ 0 0) ss σ 0), stW cI (pushA (κ 0 0) sa 1) (pushS (κ 0 0) ss σ 1), stW cI (pushA (κ 0 0) sa 2) (pushS (κ 0 0) ss σ 2), stW cI (pushA (κ 0 0) sa 3) (pushS (κ 0 0) ss σ 3), stW cI (pushA (κ 0 0) sa 4) (pushS (κ 0 0) ss σ 4), stW cI (pushA (κ 0 0) sa 5) (pushS (κ 0 0) ss σ 5)]) := hD
  exact W.iret (v := iI (((canS σ (p)) 0 1))) hx hb hr (fun t9 ht9 hW9 => ⟨⟨(((canS σ (p)) 0 1)), (), rfl, (remS_n _ _), ⟨by rw [ht9]; exact hP, va_K.moved hW9.alike hK, hD⟩⟩, hS.F ht9⟩) hS.2.2 dX4_cancel_37 hlocks
set_option maxHeartbeats 4000000 in
set_option maxRecDepth 100000 in
theorem c_X4_renew (l : Launch) (D : va_G) (cI cO cC cL : ClassId) (sz : Nat) (x a sv o rd bu : Nat → Nat) (ln σ : Nat → Int → Int) (κ : Nat → Int → Int) (sa : Nat → Nat → Nat) (ss : Nat → Nat → Int → Int) (p : Int) (hp : 0 ≤ p ∧ p < σ 0 1) (hk : 0 ≤ κ 0 0 ∧ κ 0 0 ≤ 6) (hI : Inv σ) : Met l yX4_renew wsX4_renew ({ frames := 7, cells := 0, slots := 0, locals := 141 } : Room) (pcW D [(cI, FieldType.int), (cO, FieldType.object "PromisedCounters$State"), (cC, FieldType.char)] [.ref (x 0), .int (iI (p))] (fl [mnW x a sv o rd bu ln, stW cI a σ, svO cO sv (saF sa) κ, stW cI (sa 0) (ss 0), stW cI (sa 1) (ss 1), stW cI (sa 2) (ss 2), stW cI (sa 3) (ss 3), stW cI (sa 4) (ss 4), stW cI (sa 5) (ss 5)]) sz) (wq_i (fun (r : Int) (_ : Unit) => r = σ 0 0 + σ 1 1 - σ 9 p) (fun (_ : Unit) => (bW D [(cI, FieldType.int), (cO, FieldType.object "PromisedCounters$State"), (cC, FieldType.char)] (fl [mnW x a sv o rd bu ln, stW cI a (renS σ p), svO cO sv (saF (pushA (κ 0 0) sa)) (sU κ 0 0 (pushK (κ 0 0))), stW cI (pushA (κ 0 0) sa 0) (pushS (κ 0 0) ss σ 0), stW cI (pushA (κ 0 0) sa 1) (pushS (κ 0 0) ss σ 1), stW cI (pushA (κ 0 0) sa 2) (pushS (κ 0 0) ss σ 2), stW cI (pushA (κ 0 0) sa 3) (pushS (κ 0 0) ss σ 3), stW cI (pushA (κ 0 0) sa 4) (pushS (κ 0 0) ss σ 4), stW cI (pushA (κ 0 0) sa 5) (pushS (κ 0 0) ss σ 5)]) (va_A (fl [mnW x a sv o rd bu ln, stW cI a σ, svO cO sv (saF sa) κ, stW cI (sa 0) (ss 0), stW cI (sa 1) (ss 1), stW cI (sa 2) (ss 2), stW cI (sa 3) (ss 3), stW cI (sa 4) (ss 4), stW cI (sa 5) (ss 5)]) sz))) (va_A (fl [mnW x a sv o rd bu ln, stW cI a σ, svO cO sv (saF sa) κ, stW cI (sa 0) (ss 0), stW cI (sa 1) (ss 1), stW cI (sa 2) (ss 2), stW cI (sa 3) (ss 3), stW cI (sa 4) (ss 4), stW cI (sa 5) (ss 5)]) sz)) 0 0 (va_A (fl [mnW x a sv o rd bu ln, stW cI a σ, svO cO sv (saF sa) κ, stW cI (sa 0) (ss 0), stW cI (sa 1) (ss 1), stW cI (sa 2) (ss 2), stW cI (sa 3) (ss 3), stW cI (sa 4) (ss 4), stW cI (sa 5) (ss 5)]) sz) := by
  refine Met.ofW (cc := cX4_renew) (maxL := 3) (ret := (some .int)) (by decide) rfl ?_
  intro p9 e9 s m args9 below9 meth9 c9 s₁ B hml hv
  obtain ⟨rfl, hsz, hP, hK, hD0⟩ := hv
  have hx := B.exec
  have hb := B.bytes
  have hr := B.returns
  have hts := atoms_spec (ws := wsX4_renew) B.pre
  have hown : s.vm.findClass RX4 = some m.cls := findClass_of_methodNamed B.named
  have hlocks := B.notSynchronized
  subst hsz
  have hD := hD0.self (sz := s.heap.size)
  generalize hAe : va_A (fl [mnW x a sv o rd bu ln, stW cI a σ, svO cO sv (saF sa) κ, stW cI (sa 0) (ss 0), stW cI (sa 1) (ss 1), stW cI (sa 2) (ss 2), stW cI (sa 3) (ss 3), stW cI (sa 4) (ss 4), stW cI (sa 5) (ss 5)]) s.heap.size = A at hD ⊢
  have hA : ∀ q : Nat, s.heap.size ≤ q → A q := fun q h => by rw [← hAe]; exact Or.inr h
  have hS : va_S A s.heap s.heap [] := va_S.rf
  have hP : va_P D vwCl (fl [mnW x a sv o rd bu ln, stW cI a σ, svO cO sv (saF sa) κ, stW cI (sa 0) (ss 0), stW cI (sa 1) (ss 1), stW cI (sa 2) (ss 2), stW cI (sa 3) (ss 3), stW cI (sa 4) (ss 4), stW cI (sa 5) (ss 5)]) s.heap := hP
  have hl := lv_entry ([.ref (x 0), .int (iI (p))]) (n := 3) (Nat.le_of_ble_eq_true rfl)
  rw [lg_entry_eq]
  generalize (lg_sl ([.ref (x 0), .int (iI (p))]) ++ List.replicate (3 - (lg_sl ([.ref (x 0), .int (iI (p))])).length) Slot.unset).toArray = ls at hl ⊢
  have hl : lv_has ls 3 [(0, .ref (x 0)), (1, .int (iI (p)))] := hl
  have hw_0 := hts (.fieldLink RX4 10 "PromisedCounters" "state" "LPromisedCounters$State;") (by decide +kernel)
  have hin_X4 : ∀ w ∈ u_ws RX4 TX4 6, w ∈ wsX4_renew := by decide +kernel
  have hw_1 := hts (.fieldLink RX4 98 "PromisedCounters$State" "promises" "I") (by decide +kernel)
  have hin_X3 : ∀ w ∈ u_ws RX3 TX3 15, w ∈ wsX4_renew := by decide +kernel
  have hw_2 := hts (.fieldLink RX4 19 "PromisedCounters" "saved" "LPromisedCounters$SavedStates;") (by decide +kernel)
  have hw_3 := hts (.fieldLink RX4 124 "PromisedCounters$State" "until" "[I") (by decide +kernel)
  have hw_4 := hts (.fieldLink RX4 127 "PromisedCounters$State" "time" "I") (by decide +kernel)
  have hw_5 := hts (.fieldLink RX4 78 "PromisedCounters$State" "settings" "[I") (by decide +kernel)
  have hn := hI.n
  have hti := hI.t
  have hpr := (hI.pr (p := p) hp.1 hp.2).p0
  obtain ⟨hp1, hp2, hp3, hp4⟩ := id hpr
  refine lv_iload_n hx hb dX4_renew_0 rfl (lv_at hl 1 rfl) ?_
  refine lv_aload_n hx hb dX4_renew_1 rfl (lv_at hl 0 rfl) ?_
  refine va_get (D := D) (ci := 4) (v := .ref (a 0)) (C := RX4) (T := TX4) (N := 6) hx hb hts hin_X4 hown hK hP 0 rfl rfl 0 (by decide) hw_0 (fun _ h9 => h9) rfl dX4_renew_2 ?_
  refine va_get (D := D) (ci := 3) (v := .int (iI ((σ 0 1)))) (C := RX3) (T := TX3) (N := 15) hx hb hts hin_X3 hown hK hP 1 rfl rfl 1 (by decide) hw_1 (fun _ h9 => h9) rfl dX4_renew_5 ?_
  refine wr_callv (va_runS (As := [.int (iI (p)), .int (iI ((σ 0 1)))]) (rest := []) ⟨hx, hb, hml, hown, hts⟩ (c_X4_checkIndex l D cI cO cC cL (p) ((σ 0 1)) (by omega) (by omega)) (cwS 2 hts gX4_renew_X4_checkIndex rfl rfl rfl (by decide +kernel) ⟨Nat.le_of_ble_eq_true rfl, Nat.le_of_ble_eq_true rfl⟩) ⟨fun _ _ _ _ h => h, fun U hU hW => ⟨rfl, trivial⟩⟩ rfl rfl hl.1 rfl (lv_room (Nat.le_of_ble_eq_true rfl)) dX4_renew_8 ⟨(Nat.zero_le _), (Nat.zero_le _)⟩) (fun hv1 => ?_)
  refine lv_aload_n hx hb dX4_renew_11 rfl (lv_at hl 0 rfl) ?_
  refine va_get (D := D) (ci := 4) (v := .ref (sv 0)) (C := RX4) (T := TX4) (N := 6) hx hb hts hin_X4 hown hK hP 0 rfl rfl 1 (by decide) hw_2 (fun _ h9 => h9) rfl dX4_renew_12 ?_
  refine lv_aload_n hx hb dX4_renew_15 rfl (lv_at hl 0 rfl) ?_
  refine va_get (D := D) (ci := 4) (v := .ref (a 0)) (C := RX4) (T := TX4) (N := 6) hx hb hts hin_X4 hown hK hP 0 rfl rfl 0 (by decide) hw_0 (fun _ h9 => h9) rfl dX4_renew_16 ?_
  have hPc := fl_P (S' := [stW cI a σ, svO cO sv (saF sa) κ, stW cI (sa 0) (ss 0), stW cI (sa 1) (ss 1), stW cI (sa 2) (ss 2), stW cI (sa 3) (ss 3), stW cI (sa 4) (ss 4), stW cI (sa 5) (ss 5)]) hP [1, 2, 3, 4, 5, 6, 7, 8] rfl
  have hKc := hK.sub (tys' := [(cI, FieldType.int), (cO, FieldType.object "PromisedCounters$State")]) [0, 1] rfl
  have hDc := fl_D (S' := [stW cI a σ, svO cO sv (saF sa) κ, stW cI (sa 0) (ss 0), stW cI (sa 1) (ss 1), stW cI (sa 2) (ss 2), stW cI (sa 3) (ss 3), stW cI (sa 4) (ss 4), stW cI (sa 5) (ss 5)]) hD [1, 2, 3, 4, 5, 6, 7, 8] (by decide) rfl
  have hFc := fl_free (SC := [stW cI a σ, svO cO sv (saF sa) κ, stW cI (sa 0) (ss 0), stW cI (sa 1) (ss 1), stW cI (sa 2) (ss 2), stW cI (sa 3) (ss 3), stW cI (sa 4) (ss 4), stW cI (sa 5) (ss 5)]) hD hS hA [1, 2, 3, 4, 5, 6, 7, 8] rfl
  refine va_callv (va_runV (As := [.ref (a 0)]) (rest := []) ⟨hx, hb, hml, hown, hts⟩ (c_X2_save l D cI cO cC cL s.heap.size a σ sv κ sa ss (hk)) (cwV 1 hts gX4_renew_X2_save rfl rfl rfl (by decide +kernel) ⟨Nat.le_of_ble_eq_true rfl, Nat.le_of_ble_eq_true rfl⟩) ⟨pcW_blind, va_recv hKc hPc (ci := 2) (q0 := 13) rfl rfl, pcW_of hPc hKc hDc⟩ rfl rfl hl.1 rfl (lv_room (Nat.le_of_ble_eq_true rfl)) dX4_renew_19 ⟨(Nat.zero_le _), (Nat.zero_le _)⟩) hS (fun q _ h => hFc q h) hFc (fun  u3 t9 H1 locs ht9 hvm hcl2 hB hz1 hk1 hS => ?_)
  obtain ⟨hP1, hK1, hD1⟩ := hB
  rw [ht9] at hP1
  obtain ⟨hP, hD⟩ := fl_join (SR := [mnW x a sv o rd bu ln]) (S1 := [stW cI a σ, svO cO sv (saF (pushA (κ 0 0) sa)) (sU κ 0 0 (pushK (κ 0 0))), stW cI (pushA (κ 0 0) sa 0) (pushS (κ 0 0) ss σ 0), stW cI (pushA (κ 0 0) sa 1) (pushS (κ 0 0) ss σ 1), stW cI (pushA (κ 0 0) sa 2) (pushS (κ 0 0) ss σ 2), stW cI (pushA (κ 0 0) sa 3) (pushS (κ 0 0) ss σ 3), stW cI (pushA (κ 0 0) sa 4) (pushS (κ 0 0) ss σ 4), stW cI (pushA (κ 0 0) sa 5) (pushS (κ 0 0) ss σ 5)]) hP hD [1, 2, 3, 4, 5, 6, 7, 8] [0] rfl rfl (by decide) (by decide) hk1 hFc hP1 hD1
  generalize H1 = H at hP hS ⊢
  have hP := fl_P (S' := [mnW x a sv o rd bu ln, stW cI a σ, svO cO sv (saF (pushA (κ 0 0) sa)) (sU κ 0 0 (pushK (κ 0 0))), stW cI (pushA (κ 0 0) sa 0) (pushS (κ 0 0) ss σ 0), stW cI (pushA (κ 0 0) sa 1) (pushS (κ 0 0) ss σ 1), stW cI (pushA (κ 0 0) sa 2) (pushS (κ 0 0) ss σ 2), stW cI (pushA (κ 0 0) sa 3) (pushS (κ 0 0) ss σ 3), stW cI (pushA (κ 0 0) sa 4) (pushS (κ 0 0) ss σ 4), stW cI (pushA (κ 0 0) sa 5) (pushS (κ 0 0) ss σ 5)]) hP [0, 1, 2, 3, 4, 5, 6, 7, 8] rfl
  have hD := fl_D (S' := [mnW x a sv o rd bu ln, stW cI a σ, svO cO sv (saF (pushA (κ 0 0) sa)) (sU κ 0 0 (pushK (κ 0 0))), stW cI (pushA (κ 0 0) sa 0) (pushS (κ 0 0) ss σ 0), stW cI (pushA (κ 0 0) sa 1) (pushS (κ 0 0) ss σ 1), stW cI (pushA (κ 0 0) sa 2) (pushS (κ 0 0) ss σ 2), stW cI (pushA (κ 0 0) sa 3) (pushS (κ 0 0) ss σ 3), stW cI (pushA (κ 0 0) sa 4) (pushS (κ 0 0) ss σ 4), stW cI (pushA (κ 0 0) sa 5) (pushS (κ 0 0) ss σ 5)]) hD [0, 1, 2, 3, 4, 5, 6, 7, 8] (by decide) rfl
  refine lv_aload_n hx hb dX4_renew_22 rfl (lv_at hl 0 rfl) ?_
  refine va_get (D := D) (ci := 4) (v := .ref (a 0)) (C := RX4) (T := TX4) (N := 6) hx hb hts hin_X4 hown hK hP 0 rfl rfl 0 (by decide) hw_0 (fun _ h9 => h9) rfl dX4_renew_23 ?_
  refine va_get (D := D) (ci := 3) (v := .ref (a 9)) (C := RX3) (T := TX3) (N := 15) hx hb hts hin_X3 hown hK hP 1 rfl rfl 11 (by decide) hw_3 (fun _ h9 => h9) rfl dX4_renew_26 ?_
  refine lv_iload_n hx hb dX4_renew_29 rfl (lv_at hl 1 rfl) ?_
  refine wi_iald hx hb hK hP 10 0 (n := 16) (f := σ 9) rfl rfl (i := p) (by omega) (by decide) dX4_renew_30 ?_
  refine lv_istore_n (lv' := [(2, .int (iI ((σ 9 (p))))), (0, .ref (x 0)), (1, .int (iI (p)))]) hx hb dX4_renew_31 rfl hl (by decide) rfl (fun ls hl => ?_)
  refine lv_aload_n hx hb dX4_renew_32 rfl (lv_at hl 1 rfl) ?_
  refine va_get (D := D) (ci := 4) (v := .ref (a 0)) (C := RX4) (T := TX4) (N := 6) hx hb hts hin_X4 hown hK hP 0 rfl rfl 0 (by decide) hw_0 (fun _ h9 => h9) rfl dX4_renew_33 ?_
  refine va_get (D := D) (ci := 3) (v := .ref (a 9)) (C := RX3) (T := TX3) (N := 15) hx hb hts hin_X3 hown hK hP 1 rfl rfl 11 (by decide) hw_3 (fun _ h9 => h9) rfl dX4_renew_36 ?_
  refine lv_iload_n hx hb dX4_renew_39 rfl (lv_at hl 2 rfl) ?_
  refine lv_aload_n hx hb dX4_renew_40 rfl (lv_at hl 1 rfl) ?_
  refine va_get (D := D) (ci := 4) (v := .ref (a 0)) (C := RX4) (T := TX4) (N := 6) hx hb hts hin_X4 hown hK hP 0 rfl rfl 0 (by decide) hw_0 (fun _ h9 => h9) rfl dX4_renew_41 ?_
  refine va_get (D := D) (ci := 3) (v := .int (iI ((σ 0 0)))) (C := RX3) (T := TX3) (N := 15) hx hb hts hin_X3 hown hK hP 1 rfl rfl 0 (by decide) hw_4 (fun _ h9 => h9) rfl dX4_renew_44 ?_
  refine lv_aload_n hx hb dX4_renew_47 rfl (lv_at hl 1 rfl) ?_
  refine va_get (D := D) (ci := 4) (v := .ref (a 0)) (C := RX4) (T := TX4) (N := 6) hx hb hts hin_X4 hown hK hP 0 rfl rfl 0 (by decide) hw_0 (fun _ h9 => h9) rfl dX4_renew_48 ?_
  refine va_get (D := D) (ci := 3) (v := .ref (a 1)) (C := RX3) (T := TX3) (N := 15) hx hb hts hin_X3 hown hK hP 1 rfl rfl 3 (by decide) hw_5 (fun _ h9 => h9) rfl dX4_renew_51 ?_
  refine wi_iconst hx hb dX4_renew_54 ?_
  refine wi_iald hx hb hK hP 2 0 (n := 2) (f := σ 1) rfl rfl (i := 1) (by omega) (by decide) dX4_renew_55 ?_
  refine wi_iadd hx hb dX4_renew_56 ?_
  refine wi_iast hx hb hK hP hD hS 10 0 (n := 16) (f := σ 9) rfl rfl (i := p) (by omega) (by decide) dX4_renew_57 (fun H locs hP hD hS => ?_)
  have hP : va_P D vwCl (fl [mnW x a sv o rd bu ln, stW cI a (sU σ 9 (p) (((σ 0 0) + (σ 1 (1))))), svO cO sv (saF (pushA (κ 0 0) sa)) (sU κ 0 0 (pushK (κ 0 0))), stW cI (pushA (κ 0 0) sa 0) (pushS (κ 0 0) ss σ 0), stW cI (pushA (κ 0 0) sa 1) (pushS (κ 0 0) ss σ 1), stW cI (pushA (κ 0 0) sa 2) (pushS (κ 0 0) ss σ 2), stW cI (pushA (κ 0 0) sa 3) (pushS (κ 0 0) ss σ 3), stW cI (pushA (κ 0 0) sa 4) (pushS (κ 0 0) ss σ 4), stW cI (pushA (κ 0 0) sa 5) (pushS (κ 0 0) ss σ 5)]) H := hP
  have hD : va_D A (fl [mnW x a sv o rd bu ln, stW cI a (sU σ 9 (p) (((σ 0 0) + (σ 1 (1))))), svO cO sv (saF (pushA (κ 0 0) sa)) (sU κ 0 0 (pushK (κ 0 0))), stW cI (pushA (κ 0 0) sa 0) (pushS (κ 0 0) ss σ 0), stW cI (pushA (κ 0 0) sa 1) (pushS (κ 0 0) ss σ 1), stW cI (pushA (κ 0 0) sa 2) (pushS (κ 0 0) ss σ 2), stW cI (pushA (κ 0 0) sa 3) (pushS (κ 0 0) ss σ 3), stW cI (pushA (κ 0 0) sa 4) (pushS (κ 0 0) ss σ 4), stW cI (pushA (κ 0 0) sa 5) (pushS (κ 0 0) ss σ 5)]) := hD
  refine lv_aload_n hx hb dX4_renew_58 rfl (lv_at hl 1 rfl) ?_
  refine va_get (D := D) (ci := 4) (v := .ref (a 0)) (C := RX4) (T := TX4) (N := 6) hx hb hts hin_X4 hown hK hP 0 rfl rfl 0 (by decide) hw_0 (fun _ h9 => h9) rfl dX4_renew_59 ?_
  refine va_get (D := D) (ci := 3) (v := .ref (a 9)) (C := RX3) (T := TX3) (N := 15) hx hb hts hin_X3 hown hK hP 1 rfl rfl 11 (by decide) hw_3 (fun _ h9 => h9) rfl dX4_renew_62 ?_
  refine lv_iload_n hx hb dX4_renew_65 rfl (lv_at hl 2 rfl) ?_
  refine wi_iald hx hb hK hP 10 0 (n := 16) (f := (uI (σ 9) (p) (((σ 0 0) + (σ 1 (1)))))) rfl rfl (i := p) (by omega) (by decide) dX4_renew_66 ?_
  refine lv_iload_n hx hb dX4_renew_67 rfl (lv_at hl 0 rfl) ?_
  refine wi_isub hx hb dX4_renew_68 ?_
  have hP : va_P D vwCl (fl [mnW x a sv o rd bu ln, stW cI a (renS σ p), svO cO sv (saF (pushA (κ 0 0) sa)) (sU κ 0 0 (pushK (κ 0 0))), stW cI (pushA (κ 0 0) sa 0) (pushS (κ 0 0) ss σ 0), stW cI (pushA (κ 0 0) sa 1) (pushS (κ 0 0) ss σ 1), stW cI (pushA (κ 0 0) sa 2) (pushS (κ 0 0) ss σ 2), stW cI (pushA (κ 0 0) sa 3) (pushS (κ 0 0) ss σ 3), stW cI (pushA (κ 0 0) sa 4) (pushS (κ 0 0) ss σ 4), stW cI (pushA (κ 0 0) sa 5) (pushS (κ 0 0) ss σ 5)]) H := hP
  have hD : va_D A (fl [mnW x a sv o rd bu ln, stW cI a (renS σ p), svO cO sv (saF (pushA (κ 0 0) sa)) (sU κ 0 0 (pushK (κ 0 0))), stW cI (pushA (κ 0 0) sa 0) (pushS (κ 0 0) ss σ 0), stW cI (pushA (κ 0 0) sa 1) (pushS (κ 0 0) ss σ 1), stW cI (pushA (κ 0 0) sa 2) (pushS (κ 0 0) ss σ 2), stW cI (pushA (κ 0 0) sa 3) (pushS (κ 0 0) ss σ 3), stW cI (pushA (κ 0 0) sa 4) (pushS (κ 0 0) ss σ 4), stW cI (pushA (κ 0 0) sa 5) (pushS (κ 0 0) ss σ 5)]) := hD
  exact W.iret (v := iI ((((uI (σ 9) (p) (((σ 0 0) + (σ 1 (1))))) (p)) - (σ 9 (p))))) hx hb hr (fun t9 ht9 hW9 => ⟨⟨((((uI (σ 9) (p) (((σ 0 0) + (σ 1 (1))))) (p)) - (σ 9 (p)))), (), rfl, (by rw [uI_s]), ⟨by rw [ht9]; exact hP, va_K.moved hW9.alike hK, hD⟩⟩, hS.F ht9⟩) hS.2.2 dX4_renew_69 hlocks
set_option maxHeartbeats 4000000 in
set_option maxRecDepth 100000 in
theorem c_X4_settlePart (l : Launch) (D : va_G) (cI cO cC cL : ClassId) (sz : Nat) (x a sv o rd bu : Nat → Nat) (ln σ : Nat → Int → Int) (κ : Nat → Int → Int) (sa : Nat → Nat → Nat) (ss : Nat → Nat → Int → Int) (p q : Int) (hp : 0 ≤ p ∧ p < σ 0 1) (hq : 1 ≤ q ∧ q ≤ aI (σ 7 p) - 1) (hk : 0 ≤ κ 0 0 ∧ κ 0 0 ≤ 6) (hI : Inv σ) : Met l yX4_settlePart wsX4_settlePart ({ frames := 7, cells := 0, slots := 0, locals := 142 } : Room) (pcW D [(cI, FieldType.int), (cO, FieldType.object "PromisedCounters$State"), (cC, FieldType.char)] [.ref (x 0), .int (iI (p)), .int (iI (q))] (fl [mnW x a sv o rd bu ln, stW cI a σ, svO cO sv (saF sa) κ, stW cI (sa 0) (ss 0), stW cI (sa 1) (ss 1), stW cI (sa 2) (ss 2), stW cI (sa 3) (ss 3), stW cI (sa 4) (ss 4), stW cI (sa 5) (ss 5)]) sz) (wq_i (fun (r : Int) (_ : Unit) => r = σ 7 p - prtX σ p q) (fun (_ : Unit) => (bW D [(cI, FieldType.int), (cO, FieldType.object "PromisedCounters$State"), (cC, FieldType.char)] (fl [mnW x a sv o rd bu ln, stW cI a (prtS σ p q), svO cO sv (saF (pushA (κ 0 0) sa)) (sU κ 0 0 (pushK (κ 0 0))), stW cI (pushA (κ 0 0) sa 0) (pushS (κ 0 0) ss σ 0), stW cI (pushA (κ 0 0) sa 1) (pushS (κ 0 0) ss σ 1), stW cI (pushA (κ 0 0) sa 2) (pushS (κ 0 0) ss σ 2), stW cI (pushA (κ 0 0) sa 3) (pushS (κ 0 0) ss σ 3), stW cI (pushA (κ 0 0) sa 4) (pushS (κ 0 0) ss σ 4), stW cI (pushA (κ 0 0) sa 5) (pushS (κ 0 0) ss σ 5)]) (va_A (fl [mnW x a sv o rd bu ln, stW cI a σ, svO cO sv (saF sa) κ, stW cI (sa 0) (ss 0), stW cI (sa 1) (ss 1), stW cI (sa 2) (ss 2), stW cI (sa 3) (ss 3), stW cI (sa 4) (ss 4), stW cI (sa 5) (ss 5)]) sz))) (va_A (fl [mnW x a sv o rd bu ln, stW cI a σ, svO cO sv (saF sa) κ, stW cI (sa 0) (ss 0), stW cI (sa 1) (ss 1), stW cI (sa 2) (ss 2), stW cI (sa 3) (ss 3), stW cI (sa 4) (ss 4), stW cI (sa 5) (ss 5)]) sz)) 0 0 (va_A (fl [mnW x a sv o rd bu ln, stW cI a σ, svO cO sv (saF sa) κ, stW cI (sa 0) (ss 0), stW cI (sa 1) (ss 1), stW cI (sa 2) (ss 2), stW cI (sa 3) (ss 3), stW cI (sa 4) (ss 4), stW cI (sa 5) (ss 5)]) sz) := by
  refine Met.ofW (cc := cX4_settlePart) (maxL := 4) (ret := (some .int)) (by decide) rfl ?_
  intro p9 e9 s m args9 below9 meth9 c9 s₁ B hml hv
  obtain ⟨rfl, hsz, hP, hK, hD0⟩ := hv
  have hx := B.exec
  have hb := B.bytes
  have hr := B.returns
  have hts := atoms_spec (ws := wsX4_settlePart) B.pre
  have hown : s.vm.findClass RX4 = some m.cls := findClass_of_methodNamed B.named
  have hlocks := B.notSynchronized
  subst hsz
  have hD := hD0.self (sz := s.heap.size)
  generalize hAe : va_A (fl [mnW x a sv o rd bu ln, stW cI a σ, svO cO sv (saF sa) κ, stW cI (sa 0) (ss 0), stW cI (sa 1) (ss 1), stW cI (sa 2) (ss 2), stW cI (sa 3) (ss 3), stW cI (sa 4) (ss 4), stW cI (sa 5) (ss 5)]) s.heap.size = A at hD ⊢
  have hA : ∀ q : Nat, s.heap.size ≤ q → A q := fun q h => by rw [← hAe]; exact Or.inr h
  have hS : va_S A s.heap s.heap [] := va_S.rf
  have hP : va_P D vwCl (fl [mnW x a sv o rd bu ln, stW cI a σ, svO cO sv (saF sa) κ, stW cI (sa 0) (ss 0), stW cI (sa 1) (ss 1), stW cI (sa 2) (ss 2), stW cI (sa 3) (ss 3), stW cI (sa 4) (ss 4), stW cI (sa 5) (ss 5)]) s.heap := hP
  have hl := lv_entry ([.ref (x 0), .int (iI (p)), .int (iI (q))]) (n := 4) (Nat.le_of_ble_eq_true rfl)
  rw [lg_entry_eq]
  generalize (lg_sl ([.ref (x 0), .int (iI (p)), .int (iI (q))]) ++ List.replicate (4 - (lg_sl ([.ref (x 0), .int (iI (p)), .int (iI (q))])).length) Slot.unset).toArray = ls at hl ⊢
  have hl : lv_has ls 4 [(0, .ref (x 0)), (1, .int (iI (p))), (2, .int (iI (q)))] := hl
  have hw_0 := hts (.fieldLink RX4 10 "PromisedCounters" "state" "LPromisedCounters$State;") (by decide +kernel)
  have hin_X4 : ∀ w ∈ u_ws RX4 TX4 6, w ∈ wsX4_settlePart := by decide +kernel
  have hw_1 := hts (.fieldLink RX4 98 "PromisedCounters$State" "promises" "I") (by decide +kernel)
  have hin_X3 : ∀ w ∈ u_ws RX3 TX3 15, w ∈ wsX4_settlePart := by decide +kernel
  have hw_2 := hts (.fieldLink RX4 110 "PromisedCounters$State" "change" "[I") (by decide +kernel)
  have hw_3 := hts (Cond.methodLink RX4 113 Lib.Math.abs.name) (by decide +kernel)
  have hw_4 := hts (Cond.static Lib.Math.abs.name) (by decide +kernel)
  have hw_5 := hts (Cond.initialized "java/lang/Math") (by decide +kernel)
  have hw_6 := hts (Cond.code Lib.Math.abs.name Lib.Math.abs.code 1 (some .int)) (by decide +kernel)
  have hw_7 := hts (.fieldLink RX4 19 "PromisedCounters" "saved" "LPromisedCounters$SavedStates;") (by decide +kernel)
  have hn := hI.n
  have hti := hI.t
  have hpr := (hI.pr (p := p) hp.1 hp.2).p0
  obtain ⟨hp1, hp2, hp3, hp4⟩ := id hpr
  have ha9 : aI (σ 7 p) = if σ 7 p < 0 then -σ 7 p else σ 7 p := rfl
  have hx9 : prtX σ p q = if σ 7 p < 0 then -q else q := rfl
  refine lv_iload_n hx hb dX4_settlePart_0 rfl (lv_at hl 1 rfl) ?_
  refine lv_aload_n hx hb dX4_settlePart_1 rfl (lv_at hl 0 rfl) ?_
  refine va_get (D := D) (ci := 4) (v := .ref (a 0)) (C := RX4) (T := TX4) (N := 6) hx hb hts hin_X4 hown hK hP 0 rfl rfl 0 (by decide) hw_0 (fun _ h9 => h9) rfl dX4_settlePart_2 ?_
  refine va_get (D := D) (ci := 3) (v := .int (iI ((σ 0 1)))) (C := RX3) (T := TX3) (N := 15) hx hb hts hin_X3 hown hK hP 1 rfl rfl 1 (by decide) hw_1 (fun _ h9 => h9) rfl dX4_settlePart_5 ?_
  refine wr_callv (va_runS (As := [.int (iI (p)), .int (iI ((σ 0 1)))]) (rest := []) ⟨hx, hb, hml, hown, hts⟩ (c_X4_checkIndex l D cI cO cC cL (p) ((σ 0 1)) (by omega) (by omega)) (cwS 2 hts gX4_settlePart_X4_checkIndex rfl rfl rfl (by decide +kernel) ⟨Nat.le_of_ble_eq_true rfl, Nat.le_of_ble_eq_true rfl⟩) ⟨fun _ _ _ _ h => h, fun U hU hW => ⟨rfl, trivial⟩⟩ rfl rfl hl.1 rfl (lv_room (Nat.le_of_ble_eq_true rfl)) dX4_settlePart_8 ⟨(Nat.zero_le _), (Nat.zero_le _)⟩) (fun hv1 => ?_)
  refine lv_iload_n hx hb dX4_settlePart_11 rfl (lv_at hl 2 rfl) ?_
  refine wi_iconst hx hb dX4_settlePart_12 ?_
  refine lv_aload_n hx hb dX4_settlePart_13 rfl (lv_at hl 0 rfl) ?_
  refine va_get (D := D) (ci := 4) (v := .ref (a 0)) (C := RX4) (T := TX4) (N := 6) hx hb hts hin_X4 hown hK hP 0 rfl rfl 0 (by decide) hw_0 (fun _ h9 => h9) rfl dX4_settlePart_14 ?_
  refine va_get (D := D) (ci := 3) (v := .ref (a 7)) (C := RX3) (T := TX3) (N := 15) hx hb hts hin_X3 hown hK hP 1 rfl rfl 9 (by decide) hw_2 (fun _ h9 => h9) rfl dX4_settlePart_17 ?_
  refine lv_iload_n hx hb dX4_settlePart_20 rfl (lv_at hl 1 rfl) ?_
  refine wi_iald hx hb hK hP 8 0 (n := 16) (f := σ 7) rfl rfl (i := p) (by omega) (by decide) dX4_settlePart_21 ?_
  refine va_mabs hx hb (hml.trans hl.1.symm) hown hw_3 hw_4 hw_5 hw_6 (Nat.le_of_ble_eq_true rfl) (Nat.le_of_ble_eq_true rfl) (Nat.zero_le _) (Nat.zero_le _) dX4_settlePart_22 ?_
  rw [abs_ii (by omega)]
  refine wi_iconst hx hb dX4_settlePart_25 ?_
  refine wi_isub hx hb dX4_settlePart_26 ?_
  refine wr_callv (va_runS (As := [.int (iI (q)), .int (iI (1)), .int (iI (((aI ((σ 7 (p)))) - 1)))]) (rest := []) ⟨hx, hb, hml, hown, hts⟩ (c_X4_checkArgument l D cI cO cC cL (q) (1) (((aI ((σ 7 (p)))) - 1)) (by omega) (by omega) (by omega)) (cwS 3 hts gX4_settlePart_X4_checkArgument rfl rfl rfl (by decide +kernel) ⟨Nat.le_of_ble_eq_true rfl, Nat.le_of_ble_eq_true rfl⟩) ⟨fun _ _ _ _ h => h, fun U hU hW => ⟨rfl, trivial⟩⟩ rfl rfl hl.1 rfl (lv_room (Nat.le_of_ble_eq_true rfl)) dX4_settlePart_27 ⟨(Nat.zero_le _), (Nat.zero_le _)⟩) (fun hv2 => ?_)
  refine lv_aload_n hx hb dX4_settlePart_30 rfl (lv_at hl 0 rfl) ?_
  refine va_get (D := D) (ci := 4) (v := .ref (sv 0)) (C := RX4) (T := TX4) (N := 6) hx hb hts hin_X4 hown hK hP 0 rfl rfl 1 (by decide) hw_7 (fun _ h9 => h9) rfl dX4_settlePart_31 ?_
  refine lv_aload_n hx hb dX4_settlePart_34 rfl (lv_at hl 0 rfl) ?_
  refine va_get (D := D) (ci := 4) (v := .ref (a 0)) (C := RX4) (T := TX4) (N := 6) hx hb hts hin_X4 hown hK hP 0 rfl rfl 0 (by decide) hw_0 (fun _ h9 => h9) rfl dX4_settlePart_35 ?_
  have hPc := fl_P (S' := [stW cI a σ, svO cO sv (saF sa) κ, stW cI (sa 0) (ss 0), stW cI (sa 1) (ss 1), stW cI (sa 2) (ss 2), stW cI (sa 3) (ss 3), stW cI (sa 4) (ss 4), stW cI (sa 5) (ss 5)]) hP [1, 2, 3, 4, 5, 6, 7, 8] rfl
  have hKc := hK.sub (tys' := [(cI, FieldType.int), (cO, FieldType.object "PromisedCounters$State")]) [0, 1] rfl
  have hDc := fl_D (S' := [stW cI a σ, svO cO sv (saF sa) κ, stW cI (sa 0) (ss 0), stW cI (sa 1) (ss 1), stW cI (sa 2) (ss 2), stW cI (sa 3) (ss 3), stW cI (sa 4) (ss 4), stW cI (sa 5) (ss 5)]) hD [1, 2, 3, 4, 5, 6, 7, 8] (by decide) rfl
  have hFc := fl_free (SC := [stW cI a σ, svO cO sv (saF sa) κ, stW cI (sa 0) (ss 0), stW cI (sa 1) (ss 1), stW cI (sa 2) (ss 2), stW cI (sa 3) (ss 3), stW cI (sa 4) (ss 4), stW cI (sa 5) (ss 5)]) hD hS hA [1, 2, 3, 4, 5, 6, 7, 8] rfl
  refine va_callv (va_runV (As := [.ref (a 0)]) (rest := []) ⟨hx, hb, hml, hown, hts⟩ (c_X2_save l D cI cO cC cL s.heap.size a σ sv κ sa ss (hk)) (cwV 1 hts gX4_settlePart_X2_save rfl rfl rfl (by decide +kernel) ⟨Nat.le_of_ble_eq_true rfl, Nat.le_of_ble_eq_true rfl⟩) ⟨pcW_blind, va_recv hKc hPc (ci := 2) (q0 := 13) rfl rfl, pcW_of hPc hKc hDc⟩ rfl rfl hl.1 rfl (lv_room (Nat.le_of_ble_eq_true rfl)) dX4_settlePart_38 ⟨(Nat.zero_le _), (Nat.zero_le _)⟩) hS (fun q _ h => hFc q h) hFc (fun  u4 t9 H1 locs ht9 hvm hcl3 hB hz1 hk1 hS => ?_)
  obtain ⟨hP1, hK1, hD1⟩ := hB
  rw [ht9] at hP1
  obtain ⟨hP, hD⟩ := fl_join (SR := [mnW x a sv o rd bu ln]) (S1 := [stW cI a σ, svO cO sv (saF (pushA (κ 0 0) sa)) (sU κ 0 0 (pushK (κ 0 0))), stW cI (pushA (κ 0 0) sa 0) (pushS (κ 0 0) ss σ 0), stW cI (pushA (κ 0 0) sa 1) (pushS (κ 0 0) ss σ 1), stW cI (pushA (κ 0 0) sa 2) (pushS (κ 0 0) ss σ 2), stW cI (pushA (κ 0 0) sa 3) (pushS (κ 0 0) ss σ 3), stW cI (pushA (κ 0 0) sa 4) (pushS (κ 0 0) ss σ 4), stW cI (pushA (κ 0 0) sa 5) (pushS (κ 0 0) ss σ 5)]) hP hD [1, 2, 3, 4, 5, 6, 7, 8] [0] rfl rfl (by decide) (by decide) hk1 hFc hP1 hD1
  generalize H1 = H at hP hS ⊢
  have hP := fl_P (S' := [mnW x a sv o rd bu ln, stW cI a σ, svO cO sv (saF (pushA (κ 0 0) sa)) (sU κ 0 0 (pushK (κ 0 0))), stW cI (pushA (κ 0 0) sa 0) (pushS (κ 0 0) ss σ 0), stW cI (pushA (κ 0 0) sa 1) (pushS (κ 0 0) ss σ 1), stW cI (pushA (κ 0 0) sa 2) (pushS (κ 0 0) ss σ 2), stW cI (pushA (κ 0 0) sa 3) (pushS (κ 0 0) ss σ 3), stW cI (pushA (κ 0 0) sa 4) (pushS (κ 0 0) ss σ 4), stW cI (pushA (κ 0 0) sa 5) (pushS (κ 0 0) ss σ 5)]) hP [0, 1, 2, 3, 4, 5, 6, 7, 8] rfl
  have hD := fl_D (S' := [mnW x a sv o rd bu ln, stW cI a σ, svO cO sv (saF (pushA (κ 0 0) sa)) (sU κ 0 0 (pushK (κ 0 0))), stW cI (pushA (κ 0 0) sa 0) (pushS (κ 0 0) ss σ 0), stW cI (pushA (κ 0 0) sa 1) (pushS (κ 0 0) ss σ 1), stW cI (pushA (κ 0 0) sa 2) (pushS (κ 0 0) ss σ 2), stW cI (pushA (κ 0 0) sa 3) (pushS (κ 0 0) ss σ 3), stW cI (pushA (κ 0 0) sa 4) (pushS (κ 0 0) ss σ 4), stW cI (pushA (κ 0 0) sa 5) (pushS (κ 0 0) ss σ 5)]) hD [0, 1, 2, 3, 4, 5, 6, 7, 8] (by decide) rfl
  refine lv_aload_n hx hb dX4_settlePart_41 rfl (lv_at hl 0 rfl) ?_
  refine va_get (D := D) (ci := 4) (v := .ref (a 0)) (C := RX4) (T := TX4) (N := 6) hx hb hts hin_X4 hown hK hP 0 rfl rfl 0 (by decide) hw_0 (fun _ h9 => h9) rfl dX4_settlePart_42 ?_
  refine va_get (D := D) (ci := 3) (v := .ref (a 7)) (C := RX3) (T := TX3) (N := 15) hx hb hts hin_X3 hown hK hP 1 rfl rfl 9 (by decide) hw_2 (fun _ h9 => h9) rfl dX4_settlePart_45 ?_
  refine lv_iload_n hx hb dX4_settlePart_48 rfl (lv_at hl 1 rfl) ?_
  refine wi_iald hx hb hK hP 8 0 (n := 16) (f := σ 7) rfl rfl (i := p) (by omega) (by decide) dX4_settlePart_49 ?_
  refine wi_if_ge (tgt := 58) hx hb dX4_settlePart_50 (by decide) (by omega) (fun c_50 => ?_) (fun c_50 => ?_)
  · skip
    refine lv_iload_n hx hb dX4_settlePart_58 rfl (lv_at hl 2 rfl) ?_
    refine lv_istore_n (lv' := [(3, .int (iI (q))), (0, .ref (x 0)), (1, .int (iI (p))), (2, .int (iI (q)))]) hx hb dX4_settlePart_59 rfl hl (by decide) rfl (fun ls hl => ?_)
    refine lv_aload_n hx hb dX4_settlePart_60 rfl (lv_at hl 1 rfl) ?_
    refine va_get (D := D) (ci := 4) (v := .ref (a 0)) (C := RX4) (T := TX4) (N := 6) hx hb hts hin_X4 hown hK hP 0 rfl rfl 0 (by decide) hw_0 (fun _ h9 => h9) rfl dX4_settlePart_61 ?_
    refine lv_iload_n hx hb dX4_settlePart_64 rfl (lv_at hl 2 rfl) ?_
    refine lv_iload_n hx hb dX4_settlePart_65 rfl (lv_at hl 0 rfl) ?_
    have hPc := fl_P (S' := [stW cI a σ]) hP [1] rfl
    have hKc := hK.sub (tys' := [(cI, FieldType.int)]) [0] rfl
    have hDc := fl_D (S' := [stW cI a σ]) hD [1] (by decide) rfl
    have hFc := fl_free (SC := [stW cI a σ]) hD hS hA [1] rfl
    refine va_callv (va_runV (As := [.int (iI (p)), .int (iI (q))]) (rest := []) ⟨hx, hb, hml, hown, hts⟩ (c_X3_addToCounters l D cI cO cC cL H.size a σ (p) (q) (by omega) (hpr)) (cwV 2 hts gX4_settlePart_X3_addToCounters rfl rfl rfl (by decide +kernel) ⟨Nat.le_of_ble_eq_true rfl, Nat.le_of_ble_eq_true rfl⟩) ⟨pcW_blind, va_recv hKc hPc (ci := 3) (q0 := 0) rfl rfl, pcW_of hPc hKc hDc⟩ rfl rfl hl.1 rfl (lv_room (Nat.le_of_ble_eq_true rfl)) dX4_settlePart_66 ⟨(Nat.zero_le _), (Nat.zero_le _)⟩) hS (fun q _ h => hFc q h) hFc (fun  u6 t9 H1 locs ht9 hvm hcl5 hB hz1 hk1 hS => ?_)
    obtain ⟨hP1, hK1, hD1⟩ := hB
    rw [ht9] at hP1
    obtain ⟨hP, hD⟩ := fl_join (SR := [mnW x a sv o rd bu ln, svO cO sv (saF (pushA (κ 0 0) sa)) (sU κ 0 0 (pushK (κ 0 0))), stW cI (pushA (κ 0 0) sa 0) (pushS (κ 0 0) ss σ 0), stW cI (pushA (κ 0 0) sa 1) (pushS (κ 0 0) ss σ 1), stW cI (pushA (κ 0 0) sa 2) (pushS (κ 0 0) ss σ 2), stW cI (pushA (κ 0 0) sa 3) (pushS (κ 0 0) ss σ 3), stW cI (pushA (κ 0 0) sa 4) (pushS (κ 0 0) ss σ 4), stW cI (pushA (κ 0 0) sa 5) (pushS (κ 0 0) ss σ 5)]) (S1 := [stW cI a (addC σ (p) (q))]) hP hD [1] [0, 2, 3, 4, 5, 6, 7, 8] rfl rfl (by decide) (by decide) hk1 hFc hP1 hD1
    generalize H1 = H at hP hS ⊢
    have hP := fl_P (S' := [mnW x a sv o rd bu ln, stW cI a (addC σ (p) (q)), svO cO sv (saF (pushA (κ 0 0) sa)) (sU κ 0 0 (pushK (κ 0 0))), stW cI (pushA (κ 0 0) sa 0) (pushS (κ 0 0) ss σ 0), stW cI (pushA (κ 0 0) sa 1) (pushS (κ 0 0) ss σ 1), stW cI (pushA (κ 0 0) sa 2) (pushS (κ 0 0) ss σ 2), stW cI (pushA (κ 0 0) sa 3) (pushS (κ 0 0) ss σ 3), stW cI (pushA (κ 0 0) sa 4) (pushS (κ 0 0) ss σ 4), stW cI (pushA (κ 0 0) sa 5) (pushS (κ 0 0) ss σ 5)]) hP [0, 8, 1, 2, 3, 4, 5, 6, 7] rfl
    have hD := fl_D (S' := [mnW x a sv o rd bu ln, stW cI a (addC σ (p) (q)), svO cO sv (saF (pushA (κ 0 0) sa)) (sU κ 0 0 (pushK (κ 0 0))), stW cI (pushA (κ 0 0) sa 0) (pushS (κ 0 0) ss σ 0), stW cI (pushA (κ 0 0) sa 1) (pushS (κ 0 0) ss σ 1), stW cI (pushA (κ 0 0) sa 2) (pushS (κ 0 0) ss σ 2), stW cI (pushA (κ 0 0) sa 3) (pushS (κ 0 0) ss σ 3), stW cI (pushA (κ 0 0) sa 4) (pushS (κ 0 0) ss σ 4), stW cI (pushA (κ 0 0) sa 5) (pushS (κ 0 0) ss σ 5)]) hD [0, 8, 1, 2, 3, 4, 5, 6, 7] (by decide) rfl
    refine lv_aload_n hx hb dX4_settlePart_69 rfl (lv_at hl 1 rfl) ?_
    refine va_get (D := D) (ci := 4) (v := .ref (a 0)) (C := RX4) (T := TX4) (N := 6) hx hb hts hin_X4 hown hK hP 0 rfl rfl 0 (by decide) hw_0 (fun _ h9 => h9) rfl dX4_settlePart_70 ?_
    refine va_get (D := D) (ci := 3) (v := .ref (a 7)) (C := RX3) (T := TX3) (N := 15) hx hb hts hin_X3 hown hK hP 1 rfl rfl 9 (by decide) hw_2 (fun _ h9 => h9) rfl dX4_settlePart_73 ?_
    refine lv_iload_n hx hb dX4_settlePart_76 rfl (lv_at hl 2 rfl) ?_
    refine lv_dup2_11 hx hb dX4_settlePart_77 rfl rfl ?_
    refine wi_iald hx hb hK hP 8 0 (n := 16) (f := (addC σ (p) (q)) 7) rfl rfl (i := p) (by omega) (by decide) dX4_settlePart_78 ?_
    refine lv_iload_n hx hb dX4_settlePart_79 rfl (lv_at hl 0 rfl) ?_
    refine wi_isub hx hb dX4_settlePart_80 ?_
    refine wi_iast hx hb hK hP hD hS 8 0 (n := 16) (f := (addC σ (p) (q)) 7) rfl rfl (i := p) (by omega) (by decide) dX4_settlePart_81 (fun H locs hP hD hS => ?_)
    have hP : va_P D vwCl (fl [mnW x a sv o rd bu ln, stW cI a (sU (addC σ (p) (q)) 7 (p) ((((addC σ (p) (q)) 7 (p)) - q))), svO cO sv (saF (pushA (κ 0 0) sa)) (sU κ 0 0 (pushK (κ 0 0))), stW cI (pushA (κ 0 0) sa 0) (pushS (κ 0 0) ss σ 0), stW cI (pushA (κ 0 0) sa 1) (pushS (κ 0 0) ss σ 1), stW cI (pushA (κ 0 0) sa 2) (pushS (κ 0 0) ss σ 2), stW cI (pushA (κ 0 0) sa 3) (pushS (κ 0 0) ss σ 3), stW cI (pushA (κ 0 0) sa 4) (pushS (κ 0 0) ss σ 4), stW cI (pushA (κ 0 0) sa 5) (pushS (κ 0 0) ss σ 5)]) H := hP
    have hD : va_D A (fl [mnW x a sv o rd bu ln, stW cI a (sU (addC σ (p) (q)) 7 (p) ((((addC σ (p) (q)) 7 (p)) - q))), svO cO sv (saF (pushA (κ 0 0) sa)) (sU κ 0 0 (pushK (κ 0 0))), stW cI (pushA (κ 0 0) sa 0) (pushS (κ 0 0) ss σ 0), stW cI (pushA (κ 0 0) sa 1) (pushS (κ 0 0) ss σ 1), stW cI (pushA (κ 0 0) sa 2) (pushS (κ 0 0) ss σ 2), stW cI (pushA (κ 0 0) sa 3) (pushS (κ 0 0) ss σ 3), stW cI (pushA (κ 0 0) sa 4) (pushS (κ 0 0) ss σ 4), stW cI (pushA (κ 0 0) sa 5) (pushS (κ 0 0) ss σ 5)]) := hD
    refine lv_aload_n hx hb dX4_settlePart_82 rfl (lv_at hl 1 rfl) ?_
    refine va_get (D := D) (ci := 4) (v := .ref (a 0)) (C := RX4) (T := TX4) (N := 6) hx hb hts hin_X4 hown hK hP 0 rfl rfl 0 (by decide) hw_0 (fun _ h9 => h9) rfl dX4_settlePart_83 ?_
    refine va_get (D := D) (ci := 3) (v := .ref (a 7)) (C := RX3) (T := TX3) (N := 15) hx hb hts hin_X3 hown hK hP 1 rfl rfl 9 (by decide) hw_2 (fun _ h9 => h9) rfl dX4_settlePart_86 ?_
    refine lv_iload_n hx hb dX4_settlePart_89 rfl (lv_at hl 2 rfl) ?_
    refine wi_iald hx hb hK hP 8 0 (n := 16) (f := (uI ((addC σ (p) (q)) 7) (p) ((((addC σ (p) (q)) 7 (p)) - q)))) rfl rfl (i := p) (by omega) (by decide) dX4_settlePart_90 ?_
    have hx8 : prtX σ p q = q := by rw [hx9]; first | rw [if_pos (by omega)] | rw [if_neg (by omega)]
    have hE : prtS σ p q = (sU (addC σ (p) (q)) 7 (p) ((((addC σ (p) (q)) 7 (p)) - q))) := by unfold prtS; rw [hx8]; rfl
    rw [← hE] at hP hD
    exact W.iret (v := iI (((uI ((addC σ (p) (q)) 7) (p) ((((addC σ (p) (q)) 7 (p)) - q))) (p)))) hx hb hr (fun t9 ht9 hW9 => ⟨⟨(((uI ((addC σ (p) (q)) 7) (p) ((((addC σ (p) (q)) 7 (p)) - q))) (p))), (), rfl, (by rw [uI_s]; show σ 7 p - _ = _; rw [hx8]), ⟨by rw [ht9]; exact hP, va_K.moved hW9.alike hK, hD⟩⟩, hS.F ht9⟩) hS.2.2 dX4_settlePart_91 hlocks
  · skip
    refine lv_iload_n hx hb dX4_settlePart_53 rfl (lv_at hl 2 rfl) ?_
    refine wi_ineg hx hb dX4_settlePart_54 ?_
    refine lv_goto (tgt := 59) hx hb dX4_settlePart_55 (by decide) ?_
    refine lv_istore_n (lv' := [(3, .int (iI ((-q)))), (0, .ref (x 0)), (1, .int (iI (p))), (2, .int (iI (q)))]) hx hb dX4_settlePart_59 rfl hl (by decide) rfl (fun ls hl => ?_)
    refine lv_aload_n hx hb dX4_settlePart_60 rfl (lv_at hl 1 rfl) ?_
    refine va_get (D := D) (ci := 4) (v := .ref (a 0)) (C := RX4) (T := TX4) (N := 6) hx hb hts hin_X4 hown hK hP 0 rfl rfl 0 (by decide) hw_0 (fun _ h9 => h9) rfl dX4_settlePart_61 ?_
    refine lv_iload_n hx hb dX4_settlePart_64 rfl (lv_at hl 2 rfl) ?_
    refine lv_iload_n hx hb dX4_settlePart_65 rfl (lv_at hl 0 rfl) ?_
    have hPc := fl_P (S' := [stW cI a σ]) hP [1] rfl
    have hKc := hK.sub (tys' := [(cI, FieldType.int)]) [0] rfl
    have hDc := fl_D (S' := [stW cI a σ]) hD [1] (by decide) rfl
    have hFc := fl_free (SC := [stW cI a σ]) hD hS hA [1] rfl
    refine va_callv (va_runV (As := [.int (iI (p)), .int (iI ((-q)))]) (rest := []) ⟨hx, hb, hml, hown, hts⟩ (c_X3_addToCounters l D cI cO cC cL H.size a σ (p) ((-q)) (by omega) (hpr)) (cwV 2 hts gX4_settlePart_X3_addToCounters rfl rfl rfl (by decide +kernel) ⟨Nat.le_of_ble_eq_true rfl, Nat.le_of_ble_eq_true rfl⟩) ⟨pcW_blind, va_recv hKc hPc (ci := 3) (q0 := 0) rfl rfl, pcW_of hPc hKc hDc⟩ rfl rfl hl.1 rfl (lv_room (Nat.le_of_ble_eq_true rfl)) dX4_settlePart_66 ⟨(Nat.zero_le _), (Nat.zero_le _)⟩) hS (fun q _ h => hFc q h) hFc (fun  u8 t9 H1 locs ht9 hvm hcl7 hB hz1 hk1 hS => ?_)
    obtain ⟨hP1, hK1, hD1⟩ := hB
    rw [ht9] at hP1
    obtain ⟨hP, hD⟩ := fl_join (SR := [mnW x a sv o rd bu ln, svO cO sv (saF (pushA (κ 0 0) sa)) (sU κ 0 0 (pushK (κ 0 0))), stW cI (pushA (κ 0 0) sa 0) (pushS (κ 0 0) ss σ 0), stW cI (pushA (κ 0 0) sa 1) (pushS (κ 0 0) ss σ 1), stW cI (pushA (κ 0 0) sa 2) (pushS (κ 0 0) ss σ 2), stW cI (pushA (κ 0 0) sa 3) (pushS (κ 0 0) ss σ 3), stW cI (pushA (κ 0 0) sa 4) (pushS (κ 0 0) ss σ 4), stW cI (pushA (κ 0 0) sa 5) (pushS (κ 0 0) ss σ 5)]) (S1 := [stW cI a (addC σ (p) ((-q)))]) hP hD [1] [0, 2, 3, 4, 5, 6, 7, 8] rfl rfl (by decide) (by decide) hk1 hFc hP1 hD1
    generalize H1 = H at hP hS ⊢
    have hP := fl_P (S' := [mnW x a sv o rd bu ln, stW cI a (addC σ (p) ((-q))), svO cO sv (saF (pushA (κ 0 0) sa)) (sU κ 0 0 (pushK (κ 0 0))), stW cI (pushA (κ 0 0) sa 0) (pushS (κ 0 0) ss σ 0), stW cI (pushA (κ 0 0) sa 1) (pushS (κ 0 0) ss σ 1), stW cI (pushA (κ 0 0) sa 2) (pushS (κ 0 0) ss σ 2), stW cI (pushA (κ 0 0) sa 3) (pushS (κ 0 0) ss σ 3), stW cI (pushA (κ 0 0) sa 4) (pushS (κ 0 0) ss σ 4), stW cI (pushA (κ 0 0) sa 5) (pushS (κ 0 0) ss σ 5)]) hP [0, 8, 1, 2, 3, 4, 5, 6, 7] rfl
    have hD := fl_D (S' := [mnW x a sv o rd bu ln, stW cI a (addC σ (p) ((-q))), svO cO sv (saF (pushA (κ 0 0) sa)) (sU κ 0 0 (pushK (κ 0 0))), stW cI (pushA (κ 0 0) sa 0) (pushS (κ 0 0) ss σ 0), stW cI (pushA (κ 0 0) sa 1) (pushS (κ 0 0) ss σ 1), stW cI (pushA (κ 0 0) sa 2) (pushS (κ 0 0) ss σ 2), stW cI (pushA (κ 0 0) sa 3) (pushS (κ 0 0) ss σ 3), stW cI (pushA (κ 0 0) sa 4) (pushS (κ 0 0) ss σ 4), stW cI (pushA (κ 0 0) sa 5) (pushS (κ 0 0) ss σ 5)]) hD [0, 8, 1, 2, 3, 4, 5, 6, 7] (by decide) rfl
    refine lv_aload_n hx hb dX4_settlePart_69 rfl (lv_at hl 1 rfl) ?_
    refine va_get (D := D) (ci := 4) (v := .ref (a 0)) (C := RX4) (T := TX4) (N := 6) hx hb hts hin_X4 hown hK hP 0 rfl rfl 0 (by decide) hw_0 (fun _ h9 => h9) rfl dX4_settlePart_70 ?_
    refine va_get (D := D) (ci := 3) (v := .ref (a 7)) (C := RX3) (T := TX3) (N := 15) hx hb hts hin_X3 hown hK hP 1 rfl rfl 9 (by decide) hw_2 (fun _ h9 => h9) rfl dX4_settlePart_73 ?_
    refine lv_iload_n hx hb dX4_settlePart_76 rfl (lv_at hl 2 rfl) ?_
    refine lv_dup2_11 hx hb dX4_settlePart_77 rfl rfl ?_
    refine wi_iald hx hb hK hP 8 0 (n := 16) (f := (addC σ (p) ((-q))) 7) rfl rfl (i := p) (by omega) (by decide) dX4_settlePart_78 ?_
    refine lv_iload_n hx hb dX4_settlePart_79 rfl (lv_at hl 0 rfl) ?_
    refine wi_isub hx hb dX4_settlePart_80 ?_
    refine wi_iast hx hb hK hP hD hS 8 0 (n := 16) (f := (addC σ (p) ((-q))) 7) rfl rfl (i := p) (by omega) (by decide) dX4_settlePart_81 (fun H locs hP hD hS => ?_)
    have hP : va_P D vwCl (fl [mnW x a sv o rd bu ln, stW cI a (sU (addC σ (p) ((-q))) 7 (p) ((((addC σ (p) ((-q))) 7 (p)) - (-q)))), svO cO sv (saF (pushA (κ 0 0) sa)) (sU κ 0 0 (pushK (κ 0 0))), stW cI (pushA (κ 0 0) sa 0) (pushS (κ 0 0) ss σ 0), stW cI (pushA (κ 0 0) sa 1) (pushS (κ 0 0) ss σ 1), stW cI (pushA (κ 0 0) sa 2) (pushS (κ 0 0) ss σ 2), stW cI (pushA (κ 0 0) sa 3) (pushS (κ 0 0) ss σ 3), stW cI (pushA (κ 0 0) sa 4) (pushS (κ 0 0) ss σ 4), stW cI (pushA (κ 0 0) sa 5) (pushS (κ 0 0) ss σ 5)]) H := hP
    have hD : va_D A (fl [mnW x a sv o rd bu ln, stW cI a (sU (addC σ (p) ((-q))) 7 (p) ((((addC σ (p) ((-q))) 7 (p)) - (-q)))), svO cO sv (saF (pushA (κ 0 0) sa)) (sU κ 0 0 (pushK (κ 0 0))), stW cI (pushA (κ 0 0) sa 0) (pushS (κ 0 0) ss σ 0), stW cI (pushA (κ 0 0) sa 1) (pushS (κ 0 0) ss σ 1), stW cI (pushA (κ 0 0) sa 2) (pushS (κ 0 0) ss σ 2), stW cI (pushA (κ 0 0) sa 3) (pushS (κ 0 0) ss σ 3), stW cI (pushA (κ 0 0) sa 4) (pushS (κ 0 0) ss σ 4), stW cI (pushA (κ 0 0) sa 5) (pushS (κ 0 0) ss σ 5)]) := hD
    refine lv_aload_n hx hb dX4_settlePart_82 rfl (lv_at hl 1 rfl) ?_
    refine va_get (D := D) (ci := 4) (v := .ref (a 0)) (C := RX4) (T := TX4) (N := 6) hx hb hts hin_X4 hown hK hP 0 rfl rfl 0 (by decide) hw_0 (fun _ h9 => h9) rfl dX4_settlePart_83 ?_
    refine va_get (D := D) (ci := 3) (v := .ref (a 7)) (C := RX3) (T := TX3) (N := 15) hx hb hts hin_X3 hown hK hP 1 rfl rfl 9 (by decide) hw_2 (fun _ h9 => h9) rfl dX4_settlePart_86 ?_
    refine lv_iload_n hx hb dX4_settlePart_89 rfl (lv_at hl 2 rfl) ?_
    refine wi_iald hx hb hK hP 8 0 (n := 16) (f := (uI ((addC σ (p) ((-q))) 7) (p) ((((addC σ (p) ((-q))) 7 (p)) - (-q))))) rfl rfl (i := p) (by omega) (by decide) dX4_settlePart_90 ?_
    have hx8 : prtX σ p q = (-q) := by rw [hx9]; first | rw [if_pos (by omega)] | rw [if_neg (by omega)]
    have hE : prtS σ p q = (sU (addC σ (p) ((-q))) 7 (p) ((((addC σ (p) ((-q))) 7 (p)) - (-q)))) := by unfold prtS; rw [hx8]; rfl
    rw [← hE] at hP hD
    exact W.iret (v := iI (((uI ((addC σ (p) ((-q))) 7) (p) ((((addC σ (p) ((-q))) 7 (p)) - (-q)))) (p)))) hx hb hr (fun t9 ht9 hW9 => ⟨⟨(((uI ((addC σ (p) ((-q))) 7) (p) ((((addC σ (p) ((-q))) 7 (p)) - (-q)))) (p))), (), rfl, (by rw [uI_s]; show σ 7 p - _ = _; rw [hx8]), ⟨by rw [ht9]; exact hP, va_K.moved hW9.alike hK, hD⟩⟩, hS.F ht9⟩) hS.2.2 dX4_settlePart_91 hlocks
set_option maxHeartbeats 4000000 in
set_option maxRecDepth 100000 in
theorem c_X4_finish (l : Launch) (D : va_G) (cI cO cC cL : ClassId) (sz : Nat) (x a sv o rd bu : Nat → Nat) (ln σ : Nat → Int → Int) (κ : Nat → Int → Int) (sa : Nat → Nat → Nat) (ss : Nat → Nat → Int → Int) (q iz : Int) (hq : 0 ≤ q ∧ q ≤ 5) (hiz : iz = 0 ∨ iz = 1) (hk : 0 ≤ κ 0 0 ∧ κ 0 0 ≤ 6) (hI : Inv σ) : Met l yX4_finish wsX4_finish ({ frames := 7, cells := 0, slots := 0, locals := 141 } : Room) (pcW D [(cI, FieldType.int), (cO, FieldType.object "PromisedCounters$State"), (cC, FieldType.char)] [.ref (x 0), .int (iI (q)), .int (iI (iz))] (fl [mnW x a sv o rd bu ln, stW cI a σ, svO cO sv (saF sa) κ, stW cI (sa 0) (ss 0), stW cI (sa 1) (ss 1), stW cI (sa 2) (ss 2), stW cI (sa 3) (ss 3), stW cI (sa 4) (ss 4), stW cI (sa 5) (ss 5)]) sz) (wq_i (fun (r : Int) (_ : Unit) => r = σ 0 1 - finS σ q iz 0 1) (fun (_ : Unit) => (bW D [(cI, FieldType.int), (cO, FieldType.object "PromisedCounters$State"), (cC, FieldType.char)] (fl [mnW x a sv o rd bu ln, stW cI a (finS σ q iz), svO cO sv (saF (pushA (κ 0 0) sa)) (sU κ 0 0 (pushK (κ 0 0))), stW cI (pushA (κ 0 0) sa 0) (pushS (κ 0 0) ss σ 0), stW cI (pushA (κ 0 0) sa 1) (pushS (κ 0 0) ss σ 1), stW cI (pushA (κ 0 0) sa 2) (pushS (κ 0 0) ss σ 2), stW cI (pushA (κ 0 0) sa 3) (pushS (κ 0 0) ss σ 3), stW cI (pushA (κ 0 0) sa 4) (pushS (κ 0 0) ss σ 4), stW cI (pushA (κ 0 0) sa 5) (pushS (κ 0 0) ss σ 5)]) (va_A (fl [mnW x a sv o rd bu ln, stW cI a σ, svO cO sv (saF sa) κ, stW cI (sa 0) (ss 0), stW cI (sa 1) (ss 1), stW cI (sa 2) (ss 2), stW cI (sa 3) (ss 3), stW cI (sa 4) (ss 4), stW cI (sa 5) (ss 5)]) sz))) (va_A (fl [mnW x a sv o rd bu ln, stW cI a σ, svO cO sv (saF sa) κ, stW cI (sa 0) (ss 0), stW cI (sa 1) (ss 1), stW cI (sa 2) (ss 2), stW cI (sa 3) (ss 3), stW cI (sa 4) (ss 4), stW cI (sa 5) (ss 5)]) sz)) 0 0 (va_A (fl [mnW x a sv o rd bu ln, stW cI a σ, svO cO sv (saF sa) κ, stW cI (sa 0) (ss 0), stW cI (sa 1) (ss 1), stW cI (sa 2) (ss 2), stW cI (sa 3) (ss 3), stW cI (sa 4) (ss 4), stW cI (sa 5) (ss 5)]) sz) := by
  refine Met.ofW (cc := cX4_finish) (maxL := 5) (ret := (some .int)) (by decide) rfl ?_
  intro p9 e9 s m args9 below9 meth9 c9 s₁ B hml hv
  obtain ⟨rfl, hsz, hP, hK, hD0⟩ := hv
  have hx := B.exec
  have hb := B.bytes
  have hr := B.returns
  have hts := atoms_spec (ws := wsX4_finish) B.pre
  have hown : s.vm.findClass RX4 = some m.cls := findClass_of_methodNamed B.named
  have hlocks := B.notSynchronized
  subst hsz
  have hD := hD0.self (sz := s.heap.size)
  generalize hAe : va_A (fl [mnW x a sv o rd bu ln, stW cI a σ, svO cO sv (saF sa) κ, stW cI (sa 0) (ss 0), stW cI (sa 1) (ss 1), stW cI (sa 2) (ss 2), stW cI (sa 3) (ss 3), stW cI (sa 4) (ss 4), stW cI (sa 5) (ss 5)]) s.heap.size = A at hD ⊢
  have hA : ∀ q : Nat, s.heap.size ≤ q → A q := fun q h => by rw [← hAe]; exact Or.inr h
  have hS : va_S A s.heap s.heap [] := va_S.rf
  have hP : va_P D vwCl (fl [mnW x a sv o rd bu ln, stW cI a σ, svO cO sv (saF sa) κ, stW cI (sa 0) (ss 0), stW cI (sa 1) (ss 1), stW cI (sa 2) (ss 2), stW cI (sa 3) (ss 3), stW cI (sa 4) (ss 4), stW cI (sa 5) (ss 5)]) s.heap := hP
  have hl := lv_entry ([.ref (x 0), .int (iI (q)), .int (iI (iz))]) (n := 5) (Nat.le_of_ble_eq_true rfl)
  rw [lg_entry_eq]
  generalize (lg_sl ([.ref (x 0), .int (iI (q)), .int (iI (iz))]) ++ List.replicate (5 - (lg_sl ([.ref (x 0), .int (iI (q)), .int (iI (iz))])).length) Slot.unset).toArray = ls at hl ⊢
  have hl : lv_has ls 5 [(0, .ref (x 0)), (1, .int (iI (q))), (2, .int (iI (iz)))] := hl
  have hw_0 := hts (.fieldLink RX4 19 "PromisedCounters" "saved" "LPromisedCounters$SavedStates;") (by decide +kernel)
  have hin_X4 : ∀ w ∈ u_ws RX4 TX4 6, w ∈ wsX4_finish := by decide +kernel
  have hw_1 := hts (.fieldLink RX4 10 "PromisedCounters" "state" "LPromisedCounters$State;") (by decide +kernel)
  have hw_2 := hts (.fieldLink RX4 98 "PromisedCounters$State" "promises" "I") (by decide +kernel)
  have hin_X3 : ∀ w ∈ u_ws RX3 TX3 15, w ∈ wsX4_finish := by decide +kernel
  have hw_3 := hts (.fieldLink RX4 130 "PromisedCounters$State" "owner" "[I") (by decide +kernel)
  have hn := hI.n
  have hti := hI.t
  refine lv_iload_n hx hb dX4_finish_0 rfl (lv_at hl 1 rfl) ?_
  refine wi_bipush hx hb dX4_finish_1 (by decide) ?_
  refine wr_callv (va_runS (As := [.int (iI (q)), .int (iI (6))]) (rest := []) ⟨hx, hb, hml, hown, hts⟩ (c_X4_checkIndex l D cI cO cC cL (q) (6) (by omega) (by omega)) (cwS 2 hts gX4_finish_X4_checkIndex rfl rfl rfl (by decide +kernel) ⟨Nat.le_of_ble_eq_true rfl, Nat.le_of_ble_eq_true rfl⟩) ⟨fun _ _ _ _ h => h, fun U hU hW => ⟨rfl, trivial⟩⟩ rfl rfl hl.1 rfl (lv_room (Nat.le_of_ble_eq_true rfl)) dX4_finish_3 ⟨(Nat.zero_le _), (Nat.zero_le _)⟩) (fun hv1 => ?_)
  refine lv_aload_n hx hb dX4_finish_6 rfl (lv_at hl 0 rfl) ?_
  refine va_get (D := D) (ci := 4) (v := .ref (sv 0)) (C := RX4) (T := TX4) (N := 6) hx hb hts hin_X4 hown hK hP 0 rfl rfl 1 (by decide) hw_0 (fun _ h9 => h9) rfl dX4_finish_7 ?_
  refine lv_aload_n hx hb dX4_finish_10 rfl (lv_at hl 0 rfl) ?_
  refine va_get (D := D) (ci := 4) (v := .ref (a 0)) (C := RX4) (T := TX4) (N := 6) hx hb hts hin_X4 hown hK hP 0 rfl rfl 0 (by decide) hw_1 (fun _ h9 => h9) rfl dX4_finish_11 ?_
  have hPc := fl_P (S' := [stW cI a σ, svO cO sv (saF sa) κ, stW cI (sa 0) (ss 0), stW cI (sa 1) (ss 1), stW cI (sa 2) (ss 2), stW cI (sa 3) (ss 3), stW cI (sa 4) (ss 4), stW cI (sa 5) (ss 5)]) hP [1, 2, 3, 4, 5, 6, 7, 8] rfl
  have hKc := hK.sub (tys' := [(cI, FieldType.int), (cO, FieldType.object "PromisedCounters$State")]) [0, 1] rfl
  have hDc := fl_D (S' := [stW cI a σ, svO cO sv (saF sa) κ, stW cI (sa 0) (ss 0), stW cI (sa 1) (ss 1), stW cI (sa 2) (ss 2), stW cI (sa 3) (ss 3), stW cI (sa 4) (ss 4), stW cI (sa 5) (ss 5)]) hD [1, 2, 3, 4, 5, 6, 7, 8] (by decide) rfl
  have hFc := fl_free (SC := [stW cI a σ, svO cO sv (saF sa) κ, stW cI (sa 0) (ss 0), stW cI (sa 1) (ss 1), stW cI (sa 2) (ss 2), stW cI (sa 3) (ss 3), stW cI (sa 4) (ss 4), stW cI (sa 5) (ss 5)]) hD hS hA [1, 2, 3, 4, 5, 6, 7, 8] rfl
  refine va_callv (va_runV (As := [.ref (a 0)]) (rest := []) ⟨hx, hb, hml, hown, hts⟩ (c_X2_save l D cI cO cC cL s.heap.size a σ sv κ sa ss (hk)) (cwV 1 hts gX4_finish_X2_save rfl rfl rfl (by decide +kernel) ⟨Nat.le_of_ble_eq_true rfl, Nat.le_of_ble_eq_true rfl⟩) ⟨pcW_blind, va_recv hKc hPc (ci := 2) (q0 := 13) rfl rfl, pcW_of hPc hKc hDc⟩ rfl rfl hl.1 rfl (lv_room (Nat.le_of_ble_eq_true rfl)) dX4_finish_14 ⟨(Nat.zero_le _), (Nat.zero_le _)⟩) hS (fun q _ h => hFc q h) hFc (fun  u3 t9 H1 locs ht9 hvm hcl2 hB hz1 hk1 hS => ?_)
  obtain ⟨hP1, hK1, hD1⟩ := hB
  rw [ht9] at hP1
  obtain ⟨hP, hD⟩ := fl_join (SR := [mnW x a sv o rd bu ln]) (S1 := [stW cI a σ, svO cO sv (saF (pushA (κ 0 0) sa)) (sU κ 0 0 (pushK (κ 0 0))), stW cI (pushA (κ 0 0) sa 0) (pushS (κ 0 0) ss σ 0), stW cI (pushA (κ 0 0) sa 1) (pushS (κ 0 0) ss σ 1), stW cI (pushA (κ 0 0) sa 2) (pushS (κ 0 0) ss σ 2), stW cI (pushA (κ 0 0) sa 3) (pushS (κ 0 0) ss σ 3), stW cI (pushA (κ 0 0) sa 4) (pushS (κ 0 0) ss σ 4), stW cI (pushA (κ 0 0) sa 5) (pushS (κ 0 0) ss σ 5)]) hP hD [1, 2, 3, 4, 5, 6, 7, 8] [0] rfl rfl (by decide) (by decide) hk1 hFc hP1 hD1
  generalize H1 = H at hP hS ⊢
  have hP := fl_P (S' := [mnW x a sv o rd bu ln, stW cI a σ, svO cO sv (saF (pushA (κ 0 0) sa)) (sU κ 0 0 (pushK (κ 0 0))), stW cI (pushA (κ 0 0) sa 0) (pushS (κ 0 0) ss σ 0), stW cI (pushA (κ 0 0) sa 1) (pushS (κ 0 0) ss σ 1), stW cI (pushA (κ 0 0) sa 2) (pushS (κ 0 0) ss σ 2), stW cI (pushA (κ 0 0) sa 3) (pushS (κ 0 0) ss σ 3), stW cI (pushA (κ 0 0) sa 4) (pushS (κ 0 0) ss σ 4), stW cI (pushA (κ 0 0) sa 5) (pushS (κ 0 0) ss σ 5)]) hP [0, 1, 2, 3, 4, 5, 6, 7, 8] rfl
  have hD := fl_D (S' := [mnW x a sv o rd bu ln, stW cI a σ, svO cO sv (saF (pushA (κ 0 0) sa)) (sU κ 0 0 (pushK (κ 0 0))), stW cI (pushA (κ 0 0) sa 0) (pushS (κ 0 0) ss σ 0), stW cI (pushA (κ 0 0) sa 1) (pushS (κ 0 0) ss σ 1), stW cI (pushA (κ 0 0) sa 2) (pushS (κ 0 0) ss σ 2), stW cI (pushA (κ 0 0) sa 3) (pushS (κ 0 0) ss σ 3), stW cI (pushA (κ 0 0) sa 4) (pushS (κ 0 0) ss σ 4), stW cI (pushA (κ 0 0) sa 5) (pushS (κ 0 0) ss σ 5)]) hD [0, 1, 2, 3, 4, 5, 6, 7, 8] (by decide) rfl
  refine lv_aload_n hx hb dX4_finish_17 rfl (lv_at hl 0 rfl) ?_
  refine va_get (D := D) (ci := 4) (v := .ref (a 0)) (C := RX4) (T := TX4) (N := 6) hx hb hts hin_X4 hown hK hP 0 rfl rfl 0 (by decide) hw_1 (fun _ h9 => h9) rfl dX4_finish_18 ?_
  refine va_get (D := D) (ci := 3) (v := .int (iI ((σ 0 1)))) (C := RX3) (T := TX3) (N := 15) hx hb hts hin_X3 hown hK hP 1 rfl rfl 1 (by decide) hw_2 (fun _ h9 => h9) rfl dX4_finish_21 ?_
  refine lv_istore_n (lv' := [(3, .int (iI ((σ 0 1)))), (0, .ref (x 0)), (1, .int (iI (q))), (2, .int (iI (iz)))]) hx hb dX4_finish_24 rfl hl (by decide) rfl (fun ls hl => ?_)
  refine lv_iload_n hx hb dX4_finish_25 rfl (lv_at hl 0 rfl) ?_
  refine wi_iconst hx hb dX4_finish_26 ?_
  refine wi_isub hx hb dX4_finish_27 ?_
  refine lv_istore (lv' := [(4, .int (iI (((σ 0 1) - 1)))), (3, .int (iI ((σ 0 1)))), (0, .ref (x 0)), (1, .int (iI (q))), (2, .int (iI (iz)))]) hx hb dX4_finish_28 hl (by decide) rfl (fun ls hl => ?_)
  have L30 : ∀ (k30 : Nat), ∀ (τ : Nat → Int → Int) (p : Int), (p + 1).toNat < k30 → (-1 ≤ p ∧ p + 1 ≤ τ 0 1 ∧ τ 0 1 ≤ 16) → (PQ τ) → (finI q iz (p + 1).toNat τ = finS σ q iz) → ∀ (H : Heap) (locs : List Loc), va_P D vwCl (fl [mnW x a sv o rd bu ln, stW cI a τ, svO cO sv (saF (pushA (κ 0 0) sa)) (sU κ 0 0 (pushK (κ 0 0))), stW cI (pushA (κ 0 0) sa 0) (pushS (κ 0 0) ss σ 0), stW cI (pushA (κ 0 0) sa 1) (pushS (κ 0 0) ss σ 1), stW cI (pushA (κ 0 0) sa 2) (pushS (κ 0 0) ss σ 2), stW cI (pushA (κ 0 0) sa 3) (pushS (κ 0 0) ss σ 3), stW cI (pushA (κ 0 0) sa 4) (pushS (κ 0 0) ss σ 4), stW cI (pushA (κ 0 0) sa 5) (pushS (κ 0 0) ss σ 5)]) H → va_D A (fl [mnW x a sv o rd bu ln, stW cI a τ, svO cO sv (saF (pushA (κ 0 0) sa)) (sU κ 0 0 (pushK (κ 0 0))), stW cI (pushA (κ 0 0) sa 0) (pushS (κ 0 0) ss σ 0), stW cI (pushA (κ 0 0) sa 1) (pushS (κ 0 0) ss σ 1), stW cI (pushA (κ 0 0) sa 2) (pushS (κ 0 0) ss σ 2), stW cI (pushA (κ 0 0) sa 3) (pushS (κ 0 0) ss σ 3), stW cI (pushA (κ 0 0) sa 4) (pushS (κ 0 0) ss σ 4), stW cI (pushA (κ 0 0) sa 5) (pushS (κ 0 0) ss σ 5)]) → va_S A s.heap H locs → ∀ (ls : Array Slot), lv_has ls 5 [(4, .int (iI (p))), (3, .int (iI ((σ 0 1)))), (0, .ref (x 0)), (1, .int (iI (q))), (2, .int (iI (iz)))] → W p9 l e9 ({ frames := 7, cells := 0, slots := 0, locals := 141 } : Room) s m ([.ref (x 0), .int (iI (q)), .int (iI (iz))] : List Value).toArray below9 meth9 c9 H locs 0 0 (MQ below9 (wq_i (fun (r : Int) (_ : Unit) => r = σ 0 1 - finS σ q iz 0 1) (fun (_ : Unit) => (bW D [(cI, FieldType.int), (cO, FieldType.object "PromisedCounters$State"), (cC, FieldType.char)] (fl [mnW x a sv o rd bu ln, stW cI a (finS σ q iz), svO cO sv (saF (pushA (κ 0 0) sa)) (sU κ 0 0 (pushK (κ 0 0))), stW cI (pushA (κ 0 0) sa 0) (pushS (κ 0 0) ss σ 0), stW cI (pushA (κ 0 0) sa 1) (pushS (κ 0 0) ss σ 1), stW cI (pushA (κ 0 0) sa 2) (pushS (κ 0 0) ss σ 2), stW cI (pushA (κ 0 0) sa 3) (pushS (κ 0 0) ss σ 3), stW cI (pushA (κ 0 0) sa 4) (pushS (κ 0 0) ss σ 4), stW cI (pushA (κ 0 0) sa 5) (pushS (κ 0 0) ss σ 5)]) A)) A) ([.ref (x 0), .int (iI (q)), .int (iI (iz))] : List Value).toArray s 0 0 A) (F0 m 30 ls []) := by
    intro k30
    induction k30 with
    | zero =>
      intro τ p hm
      exact absurd hm (Nat.not_lt_zero _)
    | succ k30 ih30 =>
      intro τ p hm30 hp hpq hfin H locs hP hD hS ls hl
      refine lv_iload hx hb dX4_finish_30 (lv_at hl 0 rfl) ?_
      refine wi_if_lt (tgt := 83) hx hb dX4_finish_32 (by decide) (by omega) (fun c_32 => ?_) (fun c_32 => ?_)
      · skip
        have hE : τ = finS σ q iz := by rw [← hfin, show p + 1 = 0 by omega]; rfl
        refine lv_iload_n hx hb dX4_finish_83 rfl (lv_at hl 1 rfl) ?_
        refine lv_aload_n hx hb dX4_finish_84 rfl (lv_at hl 2 rfl) ?_
        refine va_get (D := D) (ci := 4) (v := .ref (a 0)) (C := RX4) (T := TX4) (N := 6) hx hb hts hin_X4 hown hK hP 0 rfl rfl 0 (by decide) hw_1 (fun _ h9 => h9) rfl dX4_finish_85 ?_
        refine va_get (D := D) (ci := 3) (v := .int (iI ((τ 0 1)))) (C := RX3) (T := TX3) (N := 15) hx hb hts hin_X3 hown hK hP 1 rfl rfl 1 (by decide) hw_2 (fun _ h9 => h9) rfl dX4_finish_88 ?_
        refine wi_isub hx hb dX4_finish_91 ?_
        have hP : va_P D vwCl (fl [mnW x a sv o rd bu ln, stW cI a (finS σ q iz), svO cO sv (saF (pushA (κ 0 0) sa)) (sU κ 0 0 (pushK (κ 0 0))), stW cI (pushA (κ 0 0) sa 0) (pushS (κ 0 0) ss σ 0), stW cI (pushA (κ 0 0) sa 1) (pushS (κ 0 0) ss σ 1), stW cI (pushA (κ 0 0) sa 2) (pushS (κ 0 0) ss σ 2), stW cI (pushA (κ 0 0) sa 3) (pushS (κ 0 0) ss σ 3), stW cI (pushA (κ 0 0) sa 4) (pushS (κ 0 0) ss σ 4), stW cI (pushA (κ 0 0) sa 5) (pushS (κ 0 0) ss σ 5)]) H := hE ▸ hP
        have hD : va_D A (fl [mnW x a sv o rd bu ln, stW cI a (finS σ q iz), svO cO sv (saF (pushA (κ 0 0) sa)) (sU κ 0 0 (pushK (κ 0 0))), stW cI (pushA (κ 0 0) sa 0) (pushS (κ 0 0) ss σ 0), stW cI (pushA (κ 0 0) sa 1) (pushS (κ 0 0) ss σ 1), stW cI (pushA (κ 0 0) sa 2) (pushS (κ 0 0) ss σ 2), stW cI (pushA (κ 0 0) sa 3) (pushS (κ 0 0) ss σ 3), stW cI (pushA (κ 0 0) sa 4) (pushS (κ 0 0) ss σ 4), stW cI (pushA (κ 0 0) sa 5) (pushS (κ 0 0) ss σ 5)]) := hE ▸ hD
        exact W.iret (v := iI (((σ 0 1) - (τ 0 1)))) hx hb hr (fun t9 ht9 hW9 => ⟨⟨(((σ 0 1) - (τ 0 1))), (), rfl, (by rw [← hE]), ⟨by rw [ht9]; exact hP, va_K.moved hW9.alike hK, hD⟩⟩, hS.F ht9⟩) hS.2.2 dX4_finish_92 hlocks
      · skip
        have hpr := (hpq p (by omega) (by omega)).1
        have hp9 := (hpq p (by omega) (by omega)).2
        obtain ⟨hp1, hp2, hp3, hp4⟩ := id hpr
        refine lv_aload_n hx hb dX4_finish_35 rfl (lv_at hl 2 rfl) ?_
        refine va_get (D := D) (ci := 4) (v := .ref (a 0)) (C := RX4) (T := TX4) (N := 6) hx hb hts hin_X4 hown hK hP 0 rfl rfl 0 (by decide) hw_1 (fun _ h9 => h9) rfl dX4_finish_36 ?_
        refine va_get (D := D) (ci := 3) (v := .ref (a 5)) (C := RX3) (T := TX3) (N := 15) hx hb hts hin_X3 hown hK hP 1 rfl rfl 7 (by decide) hw_3 (fun _ h9 => h9) rfl dX4_finish_39 ?_
        refine lv_iload hx hb dX4_finish_42 (lv_at hl 0 rfl) ?_
        refine wi_iald hx hb hK hP 6 0 (n := 16) (f := τ 5) rfl rfl (i := p) (by omega) (by decide) dX4_finish_44 ?_
        refine lv_iload_n hx hb dX4_finish_45 rfl (lv_at hl 3 rfl) ?_
        refine wi_icmp_eq (tgt := 52) hx hb dX4_finish_46 (by decide) (by omega) (fun c_46 => ?_) (fun c_46 => ?_)
        · skip
          refine lv_iload_n hx hb dX4_finish_52 rfl (lv_at hl 4 rfl) ?_
          refine wi_if_eq (tgt := 68) hx hb dX4_finish_53 (by decide) (by omega) (fun c_53 => ?_) (fun c_53 => ?_)
          · skip
            refine lv_aload_n hx hb dX4_finish_68 rfl (lv_at hl 2 rfl) ?_
            refine va_get (D := D) (ci := 4) (v := .ref (a 0)) (C := RX4) (T := TX4) (N := 6) hx hb hts hin_X4 hown hK hP 0 rfl rfl 0 (by decide) hw_1 (fun _ h9 => h9) rfl dX4_finish_69 ?_
            refine lv_iload hx hb dX4_finish_72 (lv_at hl 0 rfl) ?_
            have hPc := fl_P (S' := [stW cI a τ]) hP [1] rfl
            have hKc := hK.sub (tys' := [(cI, FieldType.int)]) [0] rfl
            have hDc := fl_D (S' := [stW cI a τ]) hD [1] (by decide) rfl
            have hFc := fl_free (SC := [stW cI a τ]) hD hS hA [1] rfl
            refine va_callv (va_runV (As := [.int (iI (p))]) (rest := []) ⟨hx, hb, hml, hown, hts⟩ (c_X3_cancelWhole l D cI cO cC cL H.size a τ (p) (by omega) (by omega) (hpr)) (cwV 1 hts gX4_finish_X3_cancelWhole rfl rfl rfl (by decide +kernel) ⟨Nat.le_of_ble_eq_true rfl, Nat.le_of_ble_eq_true rfl⟩) ⟨pcW_blind, va_recv hKc hPc (ci := 3) (q0 := 0) rfl rfl, pcW_of hPc hKc hDc⟩ rfl rfl hl.1 rfl (lv_room (Nat.le_of_ble_eq_true rfl)) dX4_finish_74 ⟨(Nat.zero_le _), (Nat.zero_le _)⟩) hS (fun q _ h => hFc q h) hFc (fun  u5 t9 H1 locs ht9 hvm hcl4 hB hz1 hk1 hS => ?_)
            obtain ⟨hP1, hK1, hD1⟩ := hB
            rw [ht9] at hP1
            obtain ⟨hP, hD⟩ := fl_join (SR := [mnW x a sv o rd bu ln, svO cO sv (saF (pushA (κ 0 0) sa)) (sU κ 0 0 (pushK (κ 0 0))), stW cI (pushA (κ 0 0) sa 0) (pushS (κ 0 0) ss σ 0), stW cI (pushA (κ 0 0) sa 1) (pushS (κ 0 0) ss σ 1), stW cI (pushA (κ 0 0) sa 2) (pushS (κ 0 0) ss σ 2), stW cI (pushA (κ 0 0) sa 3) (pushS (κ 0 0) ss σ 3), stW cI (pushA (κ 0 0) sa 4) (pushS (κ 0 0) ss σ 4), stW cI (pushA (κ 0 0) sa 5) (pushS (κ 0 0) ss σ 5)]) (S1 := [stW cI a (canS τ (p))]) hP hD [1] [0, 2, 3, 4, 5, 6, 7, 8] rfl rfl (by decide) (by decide) hk1 hFc hP1 hD1
            generalize H1 = H at hP hS ⊢
            have hP := fl_P (S' := [mnW x a sv o rd bu ln, stW cI a (canS τ (p)), svO cO sv (saF (pushA (κ 0 0) sa)) (sU κ 0 0 (pushK (κ 0 0))), stW cI (pushA (κ 0 0) sa 0) (pushS (κ 0 0) ss σ 0), stW cI (pushA (κ 0 0) sa 1) (pushS (κ 0 0) ss σ 1), stW cI (pushA (κ 0 0) sa 2) (pushS (κ 0 0) ss σ 2), stW cI (pushA (κ 0 0) sa 3) (pushS (κ 0 0) ss σ 3), stW cI (pushA (κ 0 0) sa 4) (pushS (κ 0 0) ss σ 4), stW cI (pushA (κ 0 0) sa 5) (pushS (κ 0 0) ss σ 5)]) hP [0, 8, 1, 2, 3, 4, 5, 6, 7] rfl
            have hD := fl_D (S' := [mnW x a sv o rd bu ln, stW cI a (canS τ (p)), svO cO sv (saF (pushA (κ 0 0) sa)) (sU κ 0 0 (pushK (κ 0 0))), stW cI (pushA (κ 0 0) sa 0) (pushS (κ 0 0) ss σ 0), stW cI (pushA (κ 0 0) sa 1) (pushS (κ 0 0) ss σ 1), stW cI (pushA (κ 0 0) sa 2) (pushS (κ 0 0) ss σ 2), stW cI (pushA (κ 0 0) sa 3) (pushS (κ 0 0) ss σ 3), stW cI (pushA (κ 0 0) sa 4) (pushS (κ 0 0) ss σ 4), stW cI (pushA (κ 0 0) sa 5) (pushS (κ 0 0) ss σ 5)]) hD [0, 8, 1, 2, 3, 4, 5, 6, 7] (by decide) rfl
            refine wi_iinc (lv' := [(4, .int (iI ((p + (-1))))), (3, .int (iI ((σ 0 1)))), (0, .ref (x 0)), (1, .int (iI (q))), (2, .int (iI (iz)))]) hx hb dX4_finish_77 hl (k := 0) rfl (by decide) rfl (fun ls hl => ?_)
            refine lv_goto (tgt := 30) hx hb dX4_finish_80 (by decide) ?_
            exact ih30 ((canS τ (p))) ((p + (-1))) (by omega) (by have h9 : (canS τ (p)) 0 1 = τ 0 1 - 1 := remS_n _ _; omega) (hpq.can (by omega)) (by rw [← hfin, show p + -1 + 1 = p by omega, finI_s q iz (k := p) (by omega)]; unfold fin1; rw [if_pos (by omega), if_pos (by omega)]) _ _ hP hD hS ls (lv_sub hl [0, 1, 2, 3, 4] rfl)
          · skip
            refine lv_aload_n hx hb dX4_finish_56 rfl (lv_at hl 2 rfl) ?_
            refine va_get (D := D) (ci := 4) (v := .ref (a 0)) (C := RX4) (T := TX4) (N := 6) hx hb hts hin_X4 hown hK hP 0 rfl rfl 0 (by decide) hw_1 (fun _ h9 => h9) rfl dX4_finish_57 ?_
            refine lv_iload hx hb dX4_finish_60 (lv_at hl 0 rfl) ?_
            have hPc := fl_P (S' := [stW cI a τ]) hP [1] rfl
            have hKc := hK.sub (tys' := [(cI, FieldType.int)]) [0] rfl
            have hDc := fl_D (S' := [stW cI a τ]) hD [1] (by decide) rfl
            have hFc := fl_free (SC := [stW cI a τ]) hD hS hA [1] rfl
            refine va_callv (va_runV (As := [.int (iI (p))]) (rest := []) ⟨hx, hb, hml, hown, hts⟩ (c_X3_settleWhole l D cI cO cC cL H.size a τ (p) (by omega) (by omega) (hpr)) (cwV 1 hts gX4_finish_X3_settleWhole rfl rfl rfl (by decide +kernel) ⟨Nat.le_of_ble_eq_true rfl, Nat.le_of_ble_eq_true rfl⟩) ⟨pcW_blind, va_recv hKc hPc (ci := 3) (q0 := 0) rfl rfl, pcW_of hPc hKc hDc⟩ rfl rfl hl.1 rfl (lv_room (Nat.le_of_ble_eq_true rfl)) dX4_finish_62 ⟨(Nat.zero_le _), (Nat.zero_le _)⟩) hS (fun q _ h => hFc q h) hFc (fun  u7 t9 H1 locs ht9 hvm hcl6 hB hz1 hk1 hS => ?_)
            obtain ⟨hP1, hK1, hD1⟩ := hB
            rw [ht9] at hP1
            obtain ⟨hP, hD⟩ := fl_join (SR := [mnW x a sv o rd bu ln, svO cO sv (saF (pushA (κ 0 0) sa)) (sU κ 0 0 (pushK (κ 0 0))), stW cI (pushA (κ 0 0) sa 0) (pushS (κ 0 0) ss σ 0), stW cI (pushA (κ 0 0) sa 1) (pushS (κ 0 0) ss σ 1), stW cI (pushA (κ 0 0) sa 2) (pushS (κ 0 0) ss σ 2), stW cI (pushA (κ 0 0) sa 3) (pushS (κ 0 0) ss σ 3), stW cI (pushA (κ 0 0) sa 4) (pushS (κ 0 0) ss σ 4), stW cI (pushA (κ 0 0) sa 5) (pushS (κ 0 0) ss σ 5)]) (S1 := [stW cI a (setS τ (p))]) hP hD [1] [0, 2, 3, 4, 5, 6, 7, 8] rfl rfl (by decide) (by decide) hk1 hFc hP1 hD1
            generalize H1 = H at hP hS ⊢
            have hP := fl_P (S' := [mnW x a sv o rd bu ln, stW cI a (setS τ (p)), svO cO sv (saF (pushA (κ 0 0) sa)) (sU κ 0 0 (pushK (κ 0 0))), stW cI (pushA (κ 0 0) sa 0) (pushS (κ 0 0) ss σ 0), stW cI (pushA (κ 0 0) sa 1) (pushS (κ 0 0) ss σ 1), stW cI (pushA (κ 0 0) sa 2) (pushS (κ 0 0) ss σ 2), stW cI (pushA (κ 0 0) sa 3) (pushS (κ 0 0) ss σ 3), stW cI (pushA (κ 0 0) sa 4) (pushS (κ 0 0) ss σ 4), stW cI (pushA (κ 0 0) sa 5) (pushS (κ 0 0) ss σ 5)]) hP [0, 8, 1, 2, 3, 4, 5, 6, 7] rfl
            have hD := fl_D (S' := [mnW x a sv o rd bu ln, stW cI a (setS τ (p)), svO cO sv (saF (pushA (κ 0 0) sa)) (sU κ 0 0 (pushK (κ 0 0))), stW cI (pushA (κ 0 0) sa 0) (pushS (κ 0 0) ss σ 0), stW cI (pushA (κ 0 0) sa 1) (pushS (κ 0 0) ss σ 1), stW cI (pushA (κ 0 0) sa 2) (pushS (κ 0 0) ss σ 2), stW cI (pushA (κ 0 0) sa 3) (pushS (κ 0 0) ss σ 3), stW cI (pushA (κ 0 0) sa 4) (pushS (κ 0 0) ss σ 4), stW cI (pushA (κ 0 0) sa 5) (pushS (κ 0 0) ss σ 5)]) hD [0, 8, 1, 2, 3, 4, 5, 6, 7] (by decide) rfl
            refine lv_goto (tgt := 77) hx hb dX4_finish_65 (by decide) ?_
            refine wi_iinc (lv' := [(4, .int (iI ((p + (-1))))), (3, .int (iI ((σ 0 1)))), (0, .ref (x 0)), (1, .int (iI (q))), (2, .int (iI (iz)))]) hx hb dX4_finish_77 hl (k := 0) rfl (by decide) rfl (fun ls hl => ?_)
            refine lv_goto (tgt := 30) hx hb dX4_finish_80 (by decide) ?_
            exact ih30 ((setS τ (p))) ((p + (-1))) (by omega) (by have h9 : (setS τ (p)) 0 1 = τ 0 1 - 1 := remS_n _ _; omega) (hpq.set (by omega)) (by rw [← hfin, show p + -1 + 1 = p by omega, finI_s q iz (k := p) (by omega)]; unfold fin1; rw [if_pos (by omega), if_neg (by omega)]) _ _ hP hD hS ls (lv_sub hl [0, 1, 2, 3, 4] rfl)
        · skip
          refine lv_goto (tgt := 77) hx hb dX4_finish_49 (by decide) ?_
          refine wi_iinc (lv' := [(4, .int (iI ((p + (-1))))), (3, .int (iI ((σ 0 1)))), (0, .ref (x 0)), (1, .int (iI (q))), (2, .int (iI (iz)))]) hx hb dX4_finish_77 hl (k := 0) rfl (by decide) rfl (fun ls hl => ?_)
          refine lv_goto (tgt := 30) hx hb dX4_finish_80 (by decide) ?_
          exact ih30 (τ) ((p + (-1))) (by omega) (by omega) (hpq) (by rw [← hfin, show p + -1 + 1 = p by omega, finI_s q iz (k := p) (by omega)]; unfold fin1; rw [if_neg (by omega)]) _ _ hP hD hS ls (lv_sub hl [0, 1, 2, 3, 4] rfl)
  exact L30 _ (σ) (((σ 0 1) - 1)) (Nat.lt_succ_self _) (by omega) (hI.pq) (by unfold finS; rw [show σ 0 1 - 1 + 1 = σ 0 1 by omega]) _ _ hP hD hS ls (lv_sub hl [0, 1, 2, 3, 4] rfl)
set_option maxHeartbeats 4000000 in
set_option maxRecDepth 100000 in
theorem c_X4_pass (l : Launch) (D : va_G) (cI cO cC cL : ClassId) (sz : Nat) (x a sv o rd bu : Nat → Nat) (ln σ : Nat → Int → Int) (κ : Nat → Int → Int) (sa : Nat → Nat → Nat) (ss : Nat → Nat → Int → Int) (u : Int) (hu : 1 ≤ u ∧ u ≤ 99) (hu2 : σ 0 0 + u ≤ 9999) (hk : 0 ≤ κ 0 0 ∧ κ 0 0 ≤ 6) (hI : Inv σ) : Met l yX4_pass wsX4_pass ({ frames := 7, cells := 0, slots := 0, locals := 142 } : Room) (pcW D [(cI, FieldType.int), (cO, FieldType.object "PromisedCounters$State"), (cC, FieldType.char)] [.ref (x 0), .int (iI (u))] (fl [mnW x a sv o rd bu ln, stW cI a σ, svO cO sv (saF sa) κ, stW cI (sa 0) (ss 0), stW cI (sa 1) (ss 1), stW cI (sa 2) (ss 2), stW cI (sa 3) (ss 3), stW cI (sa 4) (ss 4), stW cI (sa 5) (ss 5)]) sz) (wq_i (fun (r : Int) (_ : Unit) => r = σ 0 1 - pasT σ u 0 1) (fun (_ : Unit) => (bW D [(cI, FieldType.int), (cO, FieldType.object "PromisedCounters$State"), (cC, FieldType.char)] (fl [mnW x a sv o rd bu ln, stW cI a (pasT σ u), svO cO sv (saF (pushA (κ 0 0) sa)) (sU κ 0 0 (pushK (κ 0 0))), stW cI (pushA (κ 0 0) sa 0) (pushS (κ 0 0) ss σ 0), stW cI (pushA (κ 0 0) sa 1) (pushS (κ 0 0) ss σ 1), stW cI (pushA (κ 0 0) sa 2) (pushS (κ 0 0) ss σ 2), stW cI (pushA (κ 0 0) sa 3) (pushS (κ 0 0) ss σ 3), stW cI (pushA (κ 0 0) sa 4) (pushS (κ 0 0) ss σ 4), stW cI (pushA (κ 0 0) sa 5) (pushS (κ 0 0) ss σ 5)]) (va_A (fl [mnW x a sv o rd bu ln, stW cI a σ, svO cO sv (saF sa) κ, stW cI (sa 0) (ss 0), stW cI (sa 1) (ss 1), stW cI (sa 2) (ss 2), stW cI (sa 3) (ss 3), stW cI (sa 4) (ss 4), stW cI (sa 5) (ss 5)]) sz))) (va_A (fl [mnW x a sv o rd bu ln, stW cI a σ, svO cO sv (saF sa) κ, stW cI (sa 0) (ss 0), stW cI (sa 1) (ss 1), stW cI (sa 2) (ss 2), stW cI (sa 3) (ss 3), stW cI (sa 4) (ss 4), stW cI (sa 5) (ss 5)]) sz)) 0 0 (va_A (fl [mnW x a sv o rd bu ln, stW cI a σ, svO cO sv (saF sa) κ, stW cI (sa 0) (ss 0), stW cI (sa 1) (ss 1), stW cI (sa 2) (ss 2), stW cI (sa 3) (ss 3), stW cI (sa 4) (ss 4), stW cI (sa 5) (ss 5)]) sz) := by
  refine Met.ofW (cc := cX4_pass) (maxL := 4) (ret := (some .int)) (by decide) rfl ?_
  intro p9 e9 s m args9 below9 meth9 c9 s₁ B hml hv
  obtain ⟨rfl, hsz, hP, hK, hD0⟩ := hv
  have hx := B.exec
  have hb := B.bytes
  have hr := B.returns
  have hts := atoms_spec (ws := wsX4_pass) B.pre
  have hown : s.vm.findClass RX4 = some m.cls := findClass_of_methodNamed B.named
  have hlocks := B.notSynchronized
  subst hsz
  have hD := hD0.self (sz := s.heap.size)
  generalize hAe : va_A (fl [mnW x a sv o rd bu ln, stW cI a σ, svO cO sv (saF sa) κ, stW cI (sa 0) (ss 0), stW cI (sa 1) (ss 1), stW cI (sa 2) (ss 2), stW cI (sa 3) (ss 3), stW cI (sa 4) (ss 4), stW cI (sa 5) (ss 5)]) s.heap.size = A at hD ⊢
  have hA : ∀ q : Nat, s.heap.size ≤ q → A q := fun q h => by rw [← hAe]; exact Or.inr h
  have hS : va_S A s.heap s.heap [] := va_S.rf
  have hP : va_P D vwCl (fl [mnW x a sv o rd bu ln, stW cI a σ, svO cO sv (saF sa) κ, stW cI (sa 0) (ss 0), stW cI (sa 1) (ss 1), stW cI (sa 2) (ss 2), stW cI (sa 3) (ss 3), stW cI (sa 4) (ss 4), stW cI (sa 5) (ss 5)]) s.heap := hP
  have hl := lv_entry ([.ref (x 0), .int (iI (u))]) (n := 4) (Nat.le_of_ble_eq_true rfl)
  rw [lg_entry_eq]
  generalize (lg_sl ([.ref (x 0), .int (iI (u))]) ++ List.replicate (4 - (lg_sl ([.ref (x 0), .int (iI (u))])).length) Slot.unset).toArray = ls at hl ⊢
  have hl : lv_has ls 4 [(0, .ref (x 0)), (1, .int (iI (u)))] := hl
  have hw_0 := hts (.fieldLink RX4 10 "PromisedCounters" "state" "LPromisedCounters$State;") (by decide +kernel)
  have hin_X4 : ∀ w ∈ u_ws RX4 TX4 6, w ∈ wsX4_pass := by decide +kernel
  have hw_1 := hts (.fieldLink RX4 127 "PromisedCounters$State" "time" "I") (by decide +kernel)
  have hin_X3 : ∀ w ∈ u_ws RX3 TX3 15, w ∈ wsX4_pass := by decide +kernel
  have hw_2 := hts (.fieldLink RX4 19 "PromisedCounters" "saved" "LPromisedCounters$SavedStates;") (by decide +kernel)
  have hw_3 := hts (.fieldLink RX4 98 "PromisedCounters$State" "promises" "I") (by decide +kernel)
  have hw_4 := hts (.fieldLink RX4 124 "PromisedCounters$State" "until" "[I") (by decide +kernel)
  have hn := hI.n
  have hti := hI.t
  refine lv_iload_n hx hb dX4_pass_0 rfl (lv_at hl 1 rfl) ?_
  refine wi_iconst hx hb dX4_pass_1 ?_
  refine wi_bipush hx hb dX4_pass_2 (by decide) ?_
  refine wr_callv (va_runS (As := [.int (iI (u)), .int (iI (1)), .int (iI (99))]) (rest := []) ⟨hx, hb, hml, hown, hts⟩ (c_X4_checkArgument l D cI cO cC cL (u) (1) (99) (by omega) (by omega) (by omega)) (cwS 3 hts gX4_pass_X4_checkArgument rfl rfl rfl (by decide +kernel) ⟨Nat.le_of_ble_eq_true rfl, Nat.le_of_ble_eq_true rfl⟩) ⟨fun _ _ _ _ h => h, fun U hU hW => ⟨rfl, trivial⟩⟩ rfl rfl hl.1 rfl (lv_room (Nat.le_of_ble_eq_true rfl)) dX4_pass_4 ⟨(Nat.zero_le _), (Nat.zero_le _)⟩) (fun hv1 => ?_)
  refine lv_aload_n hx hb dX4_pass_7 rfl (lv_at hl 0 rfl) ?_
  refine va_get (D := D) (ci := 4) (v := .ref (a 0)) (C := RX4) (T := TX4) (N := 6) hx hb hts hin_X4 hown hK hP 0 rfl rfl 0 (by decide) hw_0 (fun _ h9 => h9) rfl dX4_pass_8 ?_
  refine va_get (D := D) (ci := 3) (v := .int (iI ((σ 0 0)))) (C := RX3) (T := TX3) (N := 15) hx hb hts hin_X3 hown hK hP 1 rfl rfl 0 (by decide) hw_1 (fun _ h9 => h9) rfl dX4_pass_11 ?_
  refine lv_iload_n hx hb dX4_pass_14 rfl (lv_at hl 1 rfl) ?_
  refine wi_iadd hx hb dX4_pass_15 ?_
  refine wi_sipush hx hb dX4_pass_16 (by decide) ?_
  refine wi_icmp_le (tgt := 32) hx hb dX4_pass_19 (by decide) (by omega) (fun c_19 => ?_) (fun c_19 => ?_)
  · skip
    refine lv_aload_n hx hb dX4_pass_32 rfl (lv_at hl 0 rfl) ?_
    refine va_get (D := D) (ci := 4) (v := .ref (sv 0)) (C := RX4) (T := TX4) (N := 6) hx hb hts hin_X4 hown hK hP 0 rfl rfl 1 (by decide) hw_2 (fun _ h9 => h9) rfl dX4_pass_33 ?_
    refine lv_aload_n hx hb dX4_pass_36 rfl (lv_at hl 0 rfl) ?_
    refine va_get (D := D) (ci := 4) (v := .ref (a 0)) (C := RX4) (T := TX4) (N := 6) hx hb hts hin_X4 hown hK hP 0 rfl rfl 0 (by decide) hw_0 (fun _ h9 => h9) rfl dX4_pass_37 ?_
    have hPc := fl_P (S' := [stW cI a σ, svO cO sv (saF sa) κ, stW cI (sa 0) (ss 0), stW cI (sa 1) (ss 1), stW cI (sa 2) (ss 2), stW cI (sa 3) (ss 3), stW cI (sa 4) (ss 4), stW cI (sa 5) (ss 5)]) hP [1, 2, 3, 4, 5, 6, 7, 8] rfl
    have hKc := hK.sub (tys' := [(cI, FieldType.int), (cO, FieldType.object "PromisedCounters$State")]) [0, 1] rfl
    have hDc := fl_D (S' := [stW cI a σ, svO cO sv (saF sa) κ, stW cI (sa 0) (ss 0), stW cI (sa 1) (ss 1), stW cI (sa 2) (ss 2), stW cI (sa 3) (ss 3), stW cI (sa 4) (ss 4), stW cI (sa 5) (ss 5)]) hD [1, 2, 3, 4, 5, 6, 7, 8] (by decide) rfl
    have hFc := fl_free (SC := [stW cI a σ, svO cO sv (saF sa) κ, stW cI (sa 0) (ss 0), stW cI (sa 1) (ss 1), stW cI (sa 2) (ss 2), stW cI (sa 3) (ss 3), stW cI (sa 4) (ss 4), stW cI (sa 5) (ss 5)]) hD hS hA [1, 2, 3, 4, 5, 6, 7, 8] rfl
    refine va_callv (va_runV (As := [.ref (a 0)]) (rest := []) ⟨hx, hb, hml, hown, hts⟩ (c_X2_save l D cI cO cC cL s.heap.size a σ sv κ sa ss (hk)) (cwV 1 hts gX4_pass_X2_save rfl rfl rfl (by decide +kernel) ⟨Nat.le_of_ble_eq_true rfl, Nat.le_of_ble_eq_true rfl⟩) ⟨pcW_blind, va_recv hKc hPc (ci := 2) (q0 := 13) rfl rfl, pcW_of hPc hKc hDc⟩ rfl rfl hl.1 rfl (lv_room (Nat.le_of_ble_eq_true rfl)) dX4_pass_40 ⟨(Nat.zero_le _), (Nat.zero_le _)⟩) hS (fun q _ h => hFc q h) hFc (fun  u3 t9 H1 locs ht9 hvm hcl2 hB hz1 hk1 hS => ?_)
    obtain ⟨hP1, hK1, hD1⟩ := hB
    rw [ht9] at hP1
    obtain ⟨hP, hD⟩ := fl_join (SR := [mnW x a sv o rd bu ln]) (S1 := [stW cI a σ, svO cO sv (saF (pushA (κ 0 0) sa)) (sU κ 0 0 (pushK (κ 0 0))), stW cI (pushA (κ 0 0) sa 0) (pushS (κ 0 0) ss σ 0), stW cI (pushA (κ 0 0) sa 1) (pushS (κ 0 0) ss σ 1), stW cI (pushA (κ 0 0) sa 2) (pushS (κ 0 0) ss σ 2), stW cI (pushA (κ 0 0) sa 3) (pushS (κ 0 0) ss σ 3), stW cI (pushA (κ 0 0) sa 4) (pushS (κ 0 0) ss σ 4), stW cI (pushA (κ 0 0) sa 5) (pushS (κ 0 0) ss σ 5)]) hP hD [1, 2, 3, 4, 5, 6, 7, 8] [0] rfl rfl (by decide) (by decide) hk1 hFc hP1 hD1
    generalize H1 = H at hP hS ⊢
    have hP := fl_P (S' := [mnW x a sv o rd bu ln, stW cI a σ, svO cO sv (saF (pushA (κ 0 0) sa)) (sU κ 0 0 (pushK (κ 0 0))), stW cI (pushA (κ 0 0) sa 0) (pushS (κ 0 0) ss σ 0), stW cI (pushA (κ 0 0) sa 1) (pushS (κ 0 0) ss σ 1), stW cI (pushA (κ 0 0) sa 2) (pushS (κ 0 0) ss σ 2), stW cI (pushA (κ 0 0) sa 3) (pushS (κ 0 0) ss σ 3), stW cI (pushA (κ 0 0) sa 4) (pushS (κ 0 0) ss σ 4), stW cI (pushA (κ 0 0) sa 5) (pushS (κ 0 0) ss σ 5)]) hP [0, 1, 2, 3, 4, 5, 6, 7, 8] rfl
    have hD := fl_D (S' := [mnW x a sv o rd bu ln, stW cI a σ, svO cO sv (saF (pushA (κ 0 0) sa)) (sU κ 0 0 (pushK (κ 0 0))), stW cI (pushA (κ 0 0) sa 0) (pushS (κ 0 0) ss σ 0), stW cI (pushA (κ 0 0) sa 1) (pushS (κ 0 0) ss σ 1), stW cI (pushA (κ 0 0) sa 2) (pushS (κ 0 0) ss σ 2), stW cI (pushA (κ 0 0) sa 3) (pushS (κ 0 0) ss σ 3), stW cI (pushA (κ 0 0) sa 4) (pushS (κ 0 0) ss σ 4), stW cI (pushA (κ 0 0) sa 5) (pushS (κ 0 0) ss σ 5)]) hD [0, 1, 2, 3, 4, 5, 6, 7, 8] (by decide) rfl
    refine lv_aload_n hx hb dX4_pass_43 rfl (lv_at hl 0 rfl) ?_
    refine va_get (D := D) (ci := 4) (v := .ref (a 0)) (C := RX4) (T := TX4) (N := 6) hx hb hts hin_X4 hown hK hP 0 rfl rfl 0 (by decide) hw_0 (fun _ h9 => h9) rfl dX4_pass_44 ?_
    refine va_get (D := D) (ci := 3) (v := .int (iI ((σ 0 1)))) (C := RX3) (T := TX3) (N := 15) hx hb hts hin_X3 hown hK hP 1 rfl rfl 1 (by decide) hw_3 (fun _ h9 => h9) rfl dX4_pass_47 ?_
    refine lv_istore_n (lv' := [(2, .int (iI ((σ 0 1)))), (0, .ref (x 0)), (1, .int (iI (u)))]) hx hb dX4_pass_50 rfl hl (by decide) rfl (fun ls hl => ?_)
    refine lv_aload_n hx hb dX4_pass_51 rfl (lv_at hl 1 rfl) ?_
    refine va_get (D := D) (ci := 4) (v := .ref (a 0)) (C := RX4) (T := TX4) (N := 6) hx hb hts hin_X4 hown hK hP 0 rfl rfl 0 (by decide) hw_0 (fun _ h9 => h9) rfl dX4_pass_52 ?_
    refine lv_dup hx hb dX4_pass_55 rfl ?_
    refine va_get (D := D) (ci := 3) (v := .int (iI ((σ 0 0)))) (C := RX3) (T := TX3) (N := 15) hx hb hts hin_X3 hown hK hP 1 rfl rfl 0 (by decide) hw_1 (fun _ h9 => h9) rfl dX4_pass_56 ?_
    refine lv_iload_n hx hb dX4_pass_59 rfl (lv_at hl 2 rfl) ?_
    refine wi_iadd hx hb dX4_pass_60 ?_
    refine va_put (D := D) (ci := 3) (v := .int (iI (((σ 0 0) + u)))) (ty := .int) (C := RX3) (T := TX3) (N := 15) hx hb hts hin_X3 tyX3 tyX3_ok nmX3 hown hK hP hD hS 1 rfl rfl 0 (by decide) hw_1 (fun _ h9 => h9) rfl (by decide +kernel) rfl rfl (Nat.le_of_ble_eq_true rfl) dX4_pass_61 (fun H locs hP hD hS => ?_)
    have hP : va_P D vwCl (fl [mnW x a sv o rd bu ln, stW cI a (sU σ 0 (0) (((σ 0 0) + u))), svO cO sv (saF (pushA (κ 0 0) sa)) (sU κ 0 0 (pushK (κ 0 0))), stW cI (pushA (κ 0 0) sa 0) (pushS (κ 0 0) ss σ 0), stW cI (pushA (κ 0 0) sa 1) (pushS (κ 0 0) ss σ 1), stW cI (pushA (κ 0 0) sa 2) (pushS (κ 0 0) ss σ 2), stW cI (pushA (κ 0 0) sa 3) (pushS (κ 0 0) ss σ 3), stW cI (pushA (κ 0 0) sa 4) (pushS (κ 0 0) ss σ 4), stW cI (pushA (κ 0 0) sa 5) (pushS (κ 0 0) ss σ 5)]) H := hP
    have hD : va_D A (fl [mnW x a sv o rd bu ln, stW cI a (sU σ 0 (0) (((σ 0 0) + u))), svO cO sv (saF (pushA (κ 0 0) sa)) (sU κ 0 0 (pushK (κ 0 0))), stW cI (pushA (κ 0 0) sa 0) (pushS (κ 0 0) ss σ 0), stW cI (pushA (κ 0 0) sa 1) (pushS (κ 0 0) ss σ 1), stW cI (pushA (κ 0 0) sa 2) (pushS (κ 0 0) ss σ 2), stW cI (pushA (κ 0 0) sa 3) (pushS (κ 0 0) ss σ 3), stW cI (pushA (κ 0 0) sa 4) (pushS (κ 0 0) ss σ 4), stW cI (pushA (κ 0 0) sa 5) (pushS (κ 0 0) ss σ 5)]) := hD
    refine lv_iload_n hx hb dX4_pass_64 rfl (lv_at hl 0 rfl) ?_
    refine wi_iconst hx hb dX4_pass_65 ?_
    refine wi_isub hx hb dX4_pass_66 ?_
    refine lv_istore_n (lv' := [(3, .int (iI (((σ 0 1) - 1)))), (2, .int (iI ((σ 0 1)))), (0, .ref (x 0)), (1, .int (iI (u)))]) hx hb dX4_pass_67 rfl hl (by decide) rfl (fun ls hl => ?_)
    have L68 : ∀ (k68 : Nat), ∀ (τ : Nat → Int → Int) (p : Int), (p + 1).toNat < k68 → (-1 ≤ p ∧ p + 1 ≤ τ 0 1 ∧ τ 0 1 ≤ 16) → (τ 0 0 = σ 0 0 + u) → (PQ τ) → (lapI (p + 1).toNat τ = pasT σ u) → ∀ (H : Heap) (locs : List Loc), va_P D vwCl (fl [mnW x a sv o rd bu ln, stW cI a τ, svO cO sv (saF (pushA (κ 0 0) sa)) (sU κ 0 0 (pushK (κ 0 0))), stW cI (pushA (κ 0 0) sa 0) (pushS (κ 0 0) ss σ 0), stW cI (pushA (κ 0 0) sa 1) (pushS (κ 0 0) ss σ 1), stW cI (pushA (κ 0 0) sa 2) (pushS (κ 0 0) ss σ 2), stW cI (pushA (κ 0 0) sa 3) (pushS (κ 0 0) ss σ 3), stW cI (pushA (κ 0 0) sa 4) (pushS (κ 0 0) ss σ 4), stW cI (pushA (κ 0 0) sa 5) (pushS (κ 0 0) ss σ 5)]) H → va_D A (fl [mnW x a sv o rd bu ln, stW cI a τ, svO cO sv (saF (pushA (κ 0 0) sa)) (sU κ 0 0 (pushK (κ 0 0))), stW cI (pushA (κ 0 0) sa 0) (pushS (κ 0 0) ss σ 0), stW cI (pushA (κ 0 0) sa 1) (pushS (κ 0 0) ss σ 1), stW cI (pushA (κ 0 0) sa 2) (pushS (κ 0 0) ss σ 2), stW cI (pushA (κ 0 0) sa 3) (pushS (κ 0 0) ss σ 3), stW cI (pushA (κ 0 0) sa 4) (pushS (κ 0 0) ss σ 4), stW cI (pushA (κ 0 0) sa 5) (pushS (κ 0 0) ss σ 5)]) → va_S A s.heap H locs → ∀ (ls : Array Slot), lv_has ls 4 [(3, .int (iI (p))), (2, .int (iI ((σ 0 1)))), (0, .ref (x 0)), (1, .int (iI (u)))] → W p9 l e9 ({ frames := 7, cells := 0, slots := 0, locals := 142 } : Room) s m ([.ref (x 0), .int (iI (u))] : List Value).toArray below9 meth9 c9 H locs 0 0 (MQ below9 (wq_i (fun (r : Int) (_ : Unit) => r = σ 0 1 - pasT σ u 0 1) (fun (_ : Unit) => (bW D [(cI, FieldType.int), (cO, FieldType.object "PromisedCounters$State"), (cC, FieldType.char)] (fl [mnW x a sv o rd bu ln, stW cI a (pasT σ u), svO cO sv (saF (pushA (κ 0 0) sa)) (sU κ 0 0 (pushK (κ 0 0))), stW cI (pushA (κ 0 0) sa 0) (pushS (κ 0 0) ss σ 0), stW cI (pushA (κ 0 0) sa 1) (pushS (κ 0 0) ss σ 1), stW cI (pushA (κ 0 0) sa 2) (pushS (κ 0 0) ss σ 2), stW cI (pushA (κ 0 0) sa 3) (pushS (κ 0 0) ss σ 3), stW cI (pushA (κ 0 0) sa 4) (pushS (κ 0 0) ss σ 4), stW cI (pushA (κ 0 0) sa 5) (pushS (κ 0 0) ss σ 5)]) A)) A) ([.ref (x 0), .int (iI (u))] : List Value).toArray s 0 0 A) (F0 m 68 ls []) := by
      intro k68
      induction k68 with
      | zero =>
        intro τ p hm
        exact absurd hm (Nat.not_lt_zero _)
      | succ k68 ih68 =>
        intro τ p hm68 hp hti9 hpq hfin H locs hP hD hS ls hl
        refine lv_iload_n hx hb dX4_pass_68 rfl (lv_at hl 0 rfl) ?_
        refine wi_if_lt (tgt := 105) hx hb dX4_pass_69 (by decide) (by omega) (fun c_69 => ?_) (fun c_69 => ?_)
        · skip
          have hE : τ = pasT σ u := by rw [← hfin, show p + 1 = 0 by omega]; rfl
          refine lv_iload_n hx hb dX4_pass_105 rfl (lv_at hl 1 rfl) ?_
          refine lv_aload_n hx hb dX4_pass_106 rfl (lv_at hl 2 rfl) ?_
          refine va_get (D := D) (ci := 4) (v := .ref (a 0)) (C := RX4) (T := TX4) (N := 6) hx hb hts hin_X4 hown hK hP 0 rfl rfl 0 (by decide) hw_0 (fun _ h9 => h9) rfl dX4_pass_107 ?_
          refine va_get (D := D) (ci := 3) (v := .int (iI ((τ 0 1)))) (C := RX3) (T := TX3) (N := 15) hx hb hts hin_X3 hown hK hP 1 rfl rfl 1 (by decide) hw_3 (fun _ h9 => h9) rfl dX4_pass_110 ?_
          refine wi_isub hx hb dX4_pass_113 ?_
          have hP : va_P D vwCl (fl [mnW x a sv o rd bu ln, stW cI a (pasT σ u), svO cO sv (saF (pushA (κ 0 0) sa)) (sU κ 0 0 (pushK (κ 0 0))), stW cI (pushA (κ 0 0) sa 0) (pushS (κ 0 0) ss σ 0), stW cI (pushA (κ 0 0) sa 1) (pushS (κ 0 0) ss σ 1), stW cI (pushA (κ 0 0) sa 2) (pushS (κ 0 0) ss σ 2), stW cI (pushA (κ 0 0) sa 3) (pushS (κ 0 0) ss σ 3), stW cI (pushA (κ 0 0) sa 4) (pushS (κ 0 0) ss σ 4), stW cI (pushA (κ 0 0) sa 5) (pushS (κ 0 0) ss σ 5)]) H := hE ▸ hP
          have hD : va_D A (fl [mnW x a sv o rd bu ln, stW cI a (pasT σ u), svO cO sv (saF (pushA (κ 0 0) sa)) (sU κ 0 0 (pushK (κ 0 0))), stW cI (pushA (κ 0 0) sa 0) (pushS (κ 0 0) ss σ 0), stW cI (pushA (κ 0 0) sa 1) (pushS (κ 0 0) ss σ 1), stW cI (pushA (κ 0 0) sa 2) (pushS (κ 0 0) ss σ 2), stW cI (pushA (κ 0 0) sa 3) (pushS (κ 0 0) ss σ 3), stW cI (pushA (κ 0 0) sa 4) (pushS (κ 0 0) ss σ 4), stW cI (pushA (κ 0 0) sa 5) (pushS (κ 0 0) ss σ 5)]) := hE ▸ hD
          exact W.iret (v := iI (((σ 0 1) - (τ 0 1)))) hx hb hr (fun t9 ht9 hW9 => ⟨⟨(((σ 0 1) - (τ 0 1))), (), rfl, (by rw [← hE]), ⟨by rw [ht9]; exact hP, va_K.moved hW9.alike hK, hD⟩⟩, hS.F ht9⟩) hS.2.2 dX4_pass_114 hlocks
        · skip
          have hpr := (hpq p (by omega) (by omega)).1
          have hp9 := (hpq p (by omega) (by omega)).2
          obtain ⟨hp1, hp2, hp3, hp4⟩ := id hpr
          refine lv_aload_n hx hb dX4_pass_72 rfl (lv_at hl 2 rfl) ?_
          refine va_get (D := D) (ci := 4) (v := .ref (a 0)) (C := RX4) (T := TX4) (N := 6) hx hb hts hin_X4 hown hK hP 0 rfl rfl 0 (by decide) hw_0 (fun _ h9 => h9) rfl dX4_pass_73 ?_
          refine va_get (D := D) (ci := 3) (v := .ref (a 9)) (C := RX3) (T := TX3) (N := 15) hx hb hts hin_X3 hown hK hP 1 rfl rfl 11 (by decide) hw_4 (fun _ h9 => h9) rfl dX4_pass_76 ?_
          refine lv_iload_n hx hb dX4_pass_79 rfl (lv_at hl 0 rfl) ?_
          refine wi_iald hx hb hK hP 10 0 (n := 16) (f := τ 9) rfl rfl (i := p) (by omega) (by decide) dX4_pass_80 ?_
          refine lv_aload_n hx hb dX4_pass_81 rfl (lv_at hl 2 rfl) ?_
          refine va_get (D := D) (ci := 4) (v := .ref (a 0)) (C := RX4) (T := TX4) (N := 6) hx hb hts hin_X4 hown hK hP 0 rfl rfl 0 (by decide) hw_0 (fun _ h9 => h9) rfl dX4_pass_82 ?_
          refine va_get (D := D) (ci := 3) (v := .int (iI ((τ 0 0)))) (C := RX3) (T := TX3) (N := 15) hx hb hts hin_X3 hown hK hP 1 rfl rfl 0 (by decide) hw_1 (fun _ h9 => h9) rfl dX4_pass_85 ?_
          refine wi_icmp_gt (tgt := 99) hx hb dX4_pass_88 (by decide) (by omega) (fun c_88 => ?_) (fun c_88 => ?_)
          · skip
            refine wi_iinc (lv' := [(3, .int (iI ((p + (-1))))), (2, .int (iI ((σ 0 1)))), (0, .ref (x 0)), (1, .int (iI (u)))]) hx hb dX4_pass_99 hl (k := 0) rfl (by decide) rfl (fun ls hl => ?_)
            refine lv_goto (tgt := 68) hx hb dX4_pass_102 (by decide) ?_
            exact ih68 (τ) ((p + (-1))) (by omega) (by omega) (hti9) (hpq) (by rw [← hfin, show p + -1 + 1 = p by omega, lapI_s (k := p) (by omega)]; unfold lap1; rw [if_neg (by omega)]) _ _ hP hD hS ls (lv_sub hl [0, 1, 2, 3] rfl)
          · skip
            refine lv_aload_n hx hb dX4_pass_91 rfl (lv_at hl 2 rfl) ?_
            refine va_get (D := D) (ci := 4) (v := .ref (a 0)) (C := RX4) (T := TX4) (N := 6) hx hb hts hin_X4 hown hK hP 0 rfl rfl 0 (by decide) hw_0 (fun _ h9 => h9) rfl dX4_pass_92 ?_
            refine lv_iload_n hx hb dX4_pass_95 rfl (lv_at hl 0 rfl) ?_
            have hPc := fl_P (S' := [stW cI a τ]) hP [1] rfl
            have hKc := hK.sub (tys' := [(cI, FieldType.int)]) [0] rfl
            have hDc := fl_D (S' := [stW cI a τ]) hD [1] (by decide) rfl
            have hFc := fl_free (SC := [stW cI a τ]) hD hS hA [1] rfl
            refine va_callv (va_runV (As := [.int (iI (p))]) (rest := []) ⟨hx, hb, hml, hown, hts⟩ (c_X3_lapse l D cI cO cC cL H.size a τ (p) (by omega) (by omega) (hpr)) (cwV 1 hts gX4_pass_X3_lapse rfl rfl rfl (by decide +kernel) ⟨Nat.le_of_ble_eq_true rfl, Nat.le_of_ble_eq_true rfl⟩) ⟨pcW_blind, va_recv hKc hPc (ci := 3) (q0 := 0) rfl rfl, pcW_of hPc hKc hDc⟩ rfl rfl hl.1 rfl (lv_room (Nat.le_of_ble_eq_true rfl)) dX4_pass_96 ⟨(Nat.zero_le _), (Nat.zero_le _)⟩) hS (fun q _ h => hFc q h) hFc (fun  u5 t9 H1 locs ht9 hvm hcl4 hB hz1 hk1 hS => ?_)
            obtain ⟨hP1, hK1, hD1⟩ := hB
            rw [ht9] at hP1
            obtain ⟨hP, hD⟩ := fl_join (SR := [mnW x a sv o rd bu ln, svO cO sv (saF (pushA (κ 0 0) sa)) (sU κ 0 0 (pushK (κ 0 0))), stW cI (pushA (κ 0 0) sa 0) (pushS (κ 0 0) ss σ 0), stW cI (pushA (κ 0 0) sa 1) (pushS (κ 0 0) ss σ 1), stW cI (pushA (κ 0 0) sa 2) (pushS (κ 0 0) ss σ 2), stW cI (pushA (κ 0 0) sa 3) (pushS (κ 0 0) ss σ 3), stW cI (pushA (κ 0 0) sa 4) (pushS (κ 0 0) ss σ 4), stW cI (pushA (κ 0 0) sa 5) (pushS (κ 0 0) ss σ 5)]) (S1 := [stW cI a (lapS τ (p))]) hP hD [1] [0, 2, 3, 4, 5, 6, 7, 8] rfl rfl (by decide) (by decide) hk1 hFc hP1 hD1
            generalize H1 = H at hP hS ⊢
            have hP := fl_P (S' := [mnW x a sv o rd bu ln, stW cI a (lapS τ (p)), svO cO sv (saF (pushA (κ 0 0) sa)) (sU κ 0 0 (pushK (κ 0 0))), stW cI (pushA (κ 0 0) sa 0) (pushS (κ 0 0) ss σ 0), stW cI (pushA (κ 0 0) sa 1) (pushS (κ 0 0) ss σ 1), stW cI (pushA (κ 0 0) sa 2) (pushS (κ 0 0) ss σ 2), stW cI (pushA (κ 0 0) sa 3) (pushS (κ 0 0) ss σ 3), stW cI (pushA (κ 0 0) sa 4) (pushS (κ 0 0) ss σ 4), stW cI (pushA (κ 0 0) sa 5) (pushS (κ 0 0) ss σ 5)]) hP [0, 8, 1, 2, 3, 4, 5, 6, 7] rfl
            have hD := fl_D (S' := [mnW x a sv o rd bu ln, stW cI a (lapS τ (p)), svO cO sv (saF (pushA (κ 0 0) sa)) (sU κ 0 0 (pushK (κ 0 0))), stW cI (pushA (κ 0 0) sa 0) (pushS (κ 0 0) ss σ 0), stW cI (pushA (κ 0 0) sa 1) (pushS (κ 0 0) ss σ 1), stW cI (pushA (κ 0 0) sa 2) (pushS (κ 0 0) ss σ 2), stW cI (pushA (κ 0 0) sa 3) (pushS (κ 0 0) ss σ 3), stW cI (pushA (κ 0 0) sa 4) (pushS (κ 0 0) ss σ 4), stW cI (pushA (κ 0 0) sa 5) (pushS (κ 0 0) ss σ 5)]) hD [0, 8, 1, 2, 3, 4, 5, 6, 7] (by decide) rfl
            refine wi_iinc (lv' := [(3, .int (iI ((p + (-1))))), (2, .int (iI ((σ 0 1)))), (0, .ref (x 0)), (1, .int (iI (u)))]) hx hb dX4_pass_99 hl (k := 0) rfl (by decide) rfl (fun ls hl => ?_)
            refine lv_goto (tgt := 68) hx hb dX4_pass_102 (by decide) ?_
            exact ih68 ((lapS τ (p))) ((p + (-1))) (by omega) (by have h9 : (lapS τ (p)) 0 1 = τ 0 1 - 1 := remS_n _ _; omega) (hti9) (hpq.lap (by omega)) (by rw [← hfin, show p + -1 + 1 = p by omega, lapI_s (k := p) (by omega)]; unfold lap1; rw [if_pos (by omega)]) _ _ hP hD hS ls (lv_sub hl [0, 1, 2, 3] rfl)
    exact L68 _ ((sU σ 0 (0) (((σ 0 0) + u)))) (((σ 0 1) - 1)) (Nat.lt_succ_self _) (by have h9 : sU σ 0 0 (σ 0 0 + u) 0 1 = σ 0 1 := rfl; omega) (rfl) (hI.pq) (by unfold pasT; rw [show σ 0 1 - 1 + 1 = σ 0 1 by omega]) _ _ hP hD hS ls (lv_sub hl [0, 1, 2, 3] rfl)
  · skip
    exfalso; omega
set_option maxHeartbeats 4000000 in
set_option maxRecDepth 100000 in
theorem c_X4_undo (l : Launch) (D : va_G) (cI cO cC cL : ClassId) (sz : Nat) (x a sv o rd bu : Nat → Nat) (ln σ : Nat → Int → Int) (κ : Nat → Int → Int) (sa : Nat → Nat → Nat) (ss : Nat → Nat → Int → Int) (hk : 0 < κ 0 0 ∧ κ 0 0 ≤ 6) : Met l yX4_undo wsX4_undo ({ frames := 6, cells := 0, slots := 0, locals := 120 } : Room) (pcW D [(cI, FieldType.int), (cO, FieldType.object "PromisedCounters$State"), (cC, FieldType.char)] [.ref (x 0)] (fl [mnW x a sv o rd bu ln, stW cI a σ, svO cO sv (saF sa) κ, stW cI (sa 0) (ss 0), stW cI (sa 1) (ss 1), stW cI (sa 2) (ss 2), stW cI (sa 3) (ss 3), stW cI (sa 4) (ss 4), stW cI (sa 5) (ss 5)]) sz) (wq_i (fun (r : Int) (_ : Unit) => r = κ 0 0 - 1) (fun (_ : Unit) => (bW D [(cI, FieldType.int), (cO, FieldType.object "PromisedCounters$State"), (cC, FieldType.char)] (fl [mnW x a sv o rd bu ln, stW cI a (ss (κ 0 0 - 1).toNat), svO cO sv (saF sa) (sU κ 0 0 (κ 0 0 - 1)), stW cI (sa 0) (ss 0), stW cI (sa 1) (ss 1), stW cI (sa 2) (ss 2), stW cI (sa 3) (ss 3), stW cI (sa 4) (ss 4), stW cI (sa 5) (ss 5)]) (va_A (fl [mnW x a sv o rd bu ln, stW cI a σ, svO cO sv (saF sa) κ, stW cI (sa 0) (ss 0), stW cI (sa 1) (ss 1), stW cI (sa 2) (ss 2), stW cI (sa 3) (ss 3), stW cI (sa 4) (ss 4), stW cI (sa 5) (ss 5)]) sz))) (va_A (fl [mnW x a sv o rd bu ln, stW cI a σ, svO cO sv (saF sa) κ, stW cI (sa 0) (ss 0), stW cI (sa 1) (ss 1), stW cI (sa 2) (ss 2), stW cI (sa 3) (ss 3), stW cI (sa 4) (ss 4), stW cI (sa 5) (ss 5)]) sz)) 0 0 (va_A (fl [mnW x a sv o rd bu ln, stW cI a σ, svO cO sv (saF sa) κ, stW cI (sa 0) (ss 0), stW cI (sa 1) (ss 1), stW cI (sa 2) (ss 2), stW cI (sa 3) (ss 3), stW cI (sa 4) (ss 4), stW cI (sa 5) (ss 5)]) sz) := by
  refine Met.ofW (cc := cX4_undo) (maxL := 1) (ret := (some .int)) (by decide) rfl ?_
  intro p9 e9 s m args9 below9 meth9 c9 s₁ B hml hv
  obtain ⟨rfl, hsz, hP, hK, hD0⟩ := hv
  have hx := B.exec
  have hb := B.bytes
  have hr := B.returns
  have hts := atoms_spec (ws := wsX4_undo) B.pre
  have hown : s.vm.findClass RX4 = some m.cls := findClass_of_methodNamed B.named
  have hlocks := B.notSynchronized
  subst hsz
  have hD := hD0.self (sz := s.heap.size)
  generalize hAe : va_A (fl [mnW x a sv o rd bu ln, stW cI a σ, svO cO sv (saF sa) κ, stW cI (sa 0) (ss 0), stW cI (sa 1) (ss 1), stW cI (sa 2) (ss 2), stW cI (sa 3) (ss 3), stW cI (sa 4) (ss 4), stW cI (sa 5) (ss 5)]) s.heap.size = A at hD ⊢
  have hA : ∀ q : Nat, s.heap.size ≤ q → A q := fun q h => by rw [← hAe]; exact Or.inr h
  have hS : va_S A s.heap s.heap [] := va_S.rf
  have hP : va_P D vwCl (fl [mnW x a sv o rd bu ln, stW cI a σ, svO cO sv (saF sa) κ, stW cI (sa 0) (ss 0), stW cI (sa 1) (ss 1), stW cI (sa 2) (ss 2), stW cI (sa 3) (ss 3), stW cI (sa 4) (ss 4), stW cI (sa 5) (ss 5)]) s.heap := hP
  have hl := lv_entry ([.ref (x 0)]) (n := 1) (Nat.le_of_ble_eq_true rfl)
  rw [lg_entry_eq]
  generalize (lg_sl ([.ref (x 0)]) ++ List.replicate (1 - (lg_sl ([.ref (x 0)])).length) Slot.unset).toArray = ls at hl ⊢
  have hl : lv_has ls 1 [(0, .ref (x 0))] := hl
  have hw_0 := hts (.fieldLink RX4 19 "PromisedCounters" "saved" "LPromisedCounters$SavedStates;") (by decide +kernel)
  have hin_X4 : ∀ w ∈ u_ws RX4 TX4 6, w ∈ wsX4_undo := by decide +kernel
  have hw_1 := hts (.fieldLink RX4 160 "PromisedCounters$SavedStates" "many" "I") (by decide +kernel)
  have hin_X2 : ∀ w ∈ u_ws RX2 TX2 2, w ∈ wsX4_undo := by decide +kernel
  have hw_2 := hts (.fieldLink RX4 10 "PromisedCounters" "state" "LPromisedCounters$State;") (by decide +kernel)
  refine lv_aload_n hx hb dX4_undo_0 rfl (lv_at hl 0 rfl) ?_
  refine va_get (D := D) (ci := 4) (v := .ref (sv 0)) (C := RX4) (T := TX4) (N := 6) hx hb hts hin_X4 hown hK hP 0 rfl rfl 1 (by decide) hw_0 (fun _ h9 => h9) rfl dX4_undo_1 ?_
  refine va_get (D := D) (ci := 2) (v := .int (iI ((κ 0 0)))) (C := RX2) (T := TX2) (N := 2) hx hb hts hin_X2 hown hK hP 14 rfl rfl 1 (by decide) hw_1 (fun _ h9 => h9) rfl dX4_undo_4 ?_
  refine wi_if_ne (tgt := 20) hx hb dX4_undo_7 (by decide) (by omega) (fun c_7 => ?_) (fun c_7 => ?_)
  · skip
    refine lv_aload_n hx hb dX4_undo_20 rfl (lv_at hl 0 rfl) ?_
    refine va_get (D := D) (ci := 4) (v := .ref (sv 0)) (C := RX4) (T := TX4) (N := 6) hx hb hts hin_X4 hown hK hP 0 rfl rfl 1 (by decide) hw_0 (fun _ h9 => h9) rfl dX4_undo_21 ?_
    refine lv_aload_n hx hb dX4_undo_24 rfl (lv_at hl 0 rfl) ?_
    refine va_get (D := D) (ci := 4) (v := .ref (a 0)) (C := RX4) (T := TX4) (N := 6) hx hb hts hin_X4 hown hK hP 0 rfl rfl 0 (by decide) hw_2 (fun _ h9 => h9) rfl dX4_undo_25 ?_
    have hPc := fl_P (S' := [stW cI a σ, svO cO sv (saF sa) κ, stW cI (sa 0) (ss 0), stW cI (sa 1) (ss 1), stW cI (sa 2) (ss 2), stW cI (sa 3) (ss 3), stW cI (sa 4) (ss 4), stW cI (sa 5) (ss 5)]) hP [1, 2, 3, 4, 5, 6, 7, 8] rfl
    have hKc := hK.sub (tys' := [(cI, FieldType.int), (cO, FieldType.object "PromisedCounters$State")]) [0, 1] rfl
    have hDc := fl_D (S' := [stW cI a σ, svO cO sv (saF sa) κ, stW cI (sa 0) (ss 0), stW cI (sa 1) (ss 1), stW cI (sa 2) (ss 2), stW cI (sa 3) (ss 3), stW cI (sa 4) (ss 4), stW cI (sa 5) (ss 5)]) hD [1, 2, 3, 4, 5, 6, 7, 8] (by decide) rfl
    have hFc := fl_free (SC := [stW cI a σ, svO cO sv (saF sa) κ, stW cI (sa 0) (ss 0), stW cI (sa 1) (ss 1), stW cI (sa 2) (ss 2), stW cI (sa 3) (ss 3), stW cI (sa 4) (ss 4), stW cI (sa 5) (ss 5)]) hD hS hA [1, 2, 3, 4, 5, 6, 7, 8] rfl
    refine va_callv (va_runV (As := [.ref (a 0)]) (rest := []) ⟨hx, hb, hml, hown, hts⟩ (c_X2_restoreInto l D cI cO cC cL s.heap.size a σ sv κ sa ss (hk)) (cwV 1 hts gX4_undo_X2_restoreInto rfl rfl rfl (by decide +kernel) ⟨Nat.le_of_ble_eq_true rfl, Nat.le_of_ble_eq_true rfl⟩) ⟨pcW_blind, va_recv hKc hPc (ci := 2) (q0 := 13) rfl rfl, pcW_of hPc hKc hDc⟩ rfl rfl hl.1 rfl (lv_room (Nat.le_of_ble_eq_true rfl)) dX4_undo_28 ⟨(Nat.zero_le _), (Nat.zero_le _)⟩) hS (fun q _ h => hFc q h) hFc (fun  u2 t9 H1 locs ht9 hvm hcl1 hB hz1 hk1 hS => ?_)
    obtain ⟨hP1, hK1, hD1⟩ := hB
    rw [ht9] at hP1
    obtain ⟨hP, hD⟩ := fl_join (SR := [mnW x a sv o rd bu ln]) (S1 := [stW cI a (ss (κ 0 0 - 1).toNat), svO cO sv (saF sa) (sU κ 0 0 (κ 0 0 - 1)), stW cI (sa 0) (ss 0), stW cI (sa 1) (ss 1), stW cI (sa 2) (ss 2), stW cI (sa 3) (ss 3), stW cI (sa 4) (ss 4), stW cI (sa 5) (ss 5)]) hP hD [1, 2, 3, 4, 5, 6, 7, 8] [0] rfl rfl (by decide) (by decide) hk1 hFc hP1 hD1
    generalize H1 = H at hP hS ⊢
    have hP := fl_P (S' := [mnW x a sv o rd bu ln, stW cI a (ss (κ 0 0 - 1).toNat), svO cO sv (saF sa) (sU κ 0 0 (κ 0 0 - 1)), stW cI (sa 0) (ss 0), stW cI (sa 1) (ss 1), stW cI (sa 2) (ss 2), stW cI (sa 3) (ss 3), stW cI (sa 4) (ss 4), stW cI (sa 5) (ss 5)]) hP [0, 1, 2, 3, 4, 5, 6, 7, 8] rfl
    have hD := fl_D (S' := [mnW x a sv o rd bu ln, stW cI a (ss (κ 0 0 - 1).toNat), svO cO sv (saF sa) (sU κ 0 0 (κ 0 0 - 1)), stW cI (sa 0) (ss 0), stW cI (sa 1) (ss 1), stW cI (sa 2) (ss 2), stW cI (sa 3) (ss 3), stW cI (sa 4) (ss 4), stW cI (sa 5) (ss 5)]) hD [0, 1, 2, 3, 4, 5, 6, 7, 8] (by decide) rfl
    refine lv_aload_n hx hb dX4_undo_31 rfl (lv_at hl 0 rfl) ?_
    refine va_get (D := D) (ci := 4) (v := .ref (sv 0)) (C := RX4) (T := TX4) (N := 6) hx hb hts hin_X4 hown hK hP 0 rfl rfl 1 (by decide) hw_0 (fun _ h9 => h9) rfl dX4_undo_32 ?_
    refine va_get (D := D) (ci := 2) (v := .int (iI (((sU κ 0 0 (κ 0 0 - 1)) 0 0)))) (C := RX2) (T := TX2) (N := 2) hx hb hts hin_X2 hown hK hP 14 rfl rfl 1 (by decide) hw_1 (fun _ h9 => h9) rfl dX4_undo_35 ?_
    exact W.iret (v := iI (((sU κ 0 0 (κ 0 0 - 1)) 0 0))) hx hb hr (fun t9 ht9 hW9 => ⟨⟨(((sU κ 0 0 (κ 0 0 - 1)) 0 0)), (), rfl, (rfl), ⟨by rw [ht9]; exact hP, va_K.moved hW9.alike hK, hD⟩⟩, hS.F ht9⟩) hS.2.2 dX4_undo_38 hlocks
  · skip
    exfalso; omega
