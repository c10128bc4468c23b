set_option maxHeartbeats 4000000 in
set_option maxRecDepth 100000 in
theorem lk_bounds (l : Launch) (hl9 : l.stackTraces = false) (D : va_G) (cI cO cC cL : ClassId) (sz : Nat) (x a sv o rd bu ob : Nat → Nat) (ln σ κ φ ρ β : Nat → Int → Int) (sa : Nat → Nat → Nat) (ss : Nat → Nat → Int → Int) (f : Nat → Int64) (c lo hi : Int) (hc : R32 c) (hlo : R32 lo) (hhi : R32 hi) (hG : GI σ (κ 0 0) ss (ln 0 0) (β 1)) : Met l yL_bounds wsL_bounds ({ frames := 8, cells := 1, slots := 6, locals := 166 } : Room) (pcWX D [(cI, FieldType.int), (cO, FieldType.object "PromisedCounters$State"), (cC, FieldType.char), (cL, FieldType.long)] [.ref (x 0), .int (iI (c)), .int (iI (lo)), .int (iI (hi)), .ref (ob 0)] (fl [mnW x a sv o rd bu ln, stW cI a σ, svO cO sv (saF sa) κ, stW cI (sa 0) (ss 0), stW cI (sa 1) (ss 1), stW cI (sa 2) (ss 2), stW cI (sa 3) (ss 3), stW cI (sa 4) (ss 4), stW cI (sa 5) (ss 5), ocW cI o φ, rdW rd ρ, bfW cC bu β, ouW cL ob f]) sz) (wq_i (fun (r : Int) (u : LwS) => OPL (cd3 (0 ≤ c ∧ c ≤ 3) ((-999 ≤ lo ∧ lo ≤ 999) ∧ lo ≤ hi ∧ hi ≤ 999) (lo ≤ lowS σ c (σ 0 0) ∧ highS σ c ≤ hi)) r (σ 4 c - σ 3 c) (LwS.f u) (LwQ u σ (κ 0 0) ss (ln 0 0) (β 1)) (LwQ u (bndS σ c lo hi) (pushK (κ 0 0)) (pushS (κ 0 0) ss σ) (ln 0 0) (β 1))) (fun (u : LwS) => (bW D [(cI, FieldType.int), (cO, FieldType.object "PromisedCounters$State"), (cC, FieldType.char), (cL, FieldType.long)] (fl [mnW x a sv o rd bu (LwS.ln u), stW cI a (LwS.σ u), svO cO sv (saF (LwS.sa u)) (LwS.κ u), stW cI (LwS.sa u 0) (LwS.ss u 0), stW cI (LwS.sa u 1) (LwS.ss u 1), stW cI (LwS.sa u 2) (LwS.ss u 2), stW cI (LwS.sa u 3) (LwS.ss u 3), stW cI (LwS.sa u 4) (LwS.ss u 4), stW cI (LwS.sa u 5) (LwS.ss u 5), ocW cI o (LwS.φ u), rdW rd (LwS.ρ u), bfW cC bu (LwS.β u), ouW cL ob (LwS.f u)]) (va_A (fl [mnW x a sv o rd bu ln, stW cI a σ, svO cO sv (saF sa) κ, stW cI (sa 0) (ss 0), stW cI (sa 1) (ss 1), stW cI (sa 2) (ss 2), stW cI (sa 3) (ss 3), stW cI (sa 4) (ss 4), stW cI (sa 5) (ss 5), ocW cI o φ, rdW rd ρ, bfW cC bu β, ouW cL ob f]) sz))) (va_A (fl [mnW x a sv o rd bu ln, stW cI a σ, svO cO sv (saF sa) κ, stW cI (sa 0) (ss 0), stW cI (sa 1) (ss 1), stW cI (sa 2) (ss 2), stW cI (sa 3) (ss 3), stW cI (sa 4) (ss 4), stW cI (sa 5) (ss 5), ocW cI o φ, rdW rd ρ, bfW cC bu β, ouW cL ob f]) sz)) 1 6 (va_A (fl [mnW x a sv o rd bu ln, stW cI a σ, svO cO sv (saF sa) κ, stW cI (sa 0) (ss 0), stW cI (sa 1) (ss 1), stW cI (sa 2) (ss 2), stW cI (sa 3) (ss 3), stW cI (sa 4) (ss 4), stW cI (sa 5) (ss 5), ocW cI o φ, rdW rd ρ, bfW cC bu β, ouW cL ob f]) sz) := by
  refine metH ([(0, 12, 15, 13), (0, 12, 19, 15), (0, 12, 23, 17)]) (cc := cL_bounds) (maxL := 6) (ret := (some .int)) (by decide) rfl ?_
  intro p9 e9 s m args9 below9 meth9 c9 s₁ B hml htab hv
  obtain ⟨rfl, hsz, hP, hK, hD0, hZ⟩ := hv
  have hx := B.exec
  have hb := B.bytes
  have hr := B.returns
  have hts := atoms_spec (ws := wsL_bounds) B.pre
  have hown : s.vm.findClass RL = some m.cls := findClass_of_methodNamed B.named
  have hlocks := B.notSynchronized
  subst hsz
  have hD := hD0.self (sz := s.heap.size)
  generalize hAe : va_A (fl [mnW x a sv o rd bu ln, stW cI a σ, svO cO sv (saF sa) κ, stW cI (sa 0) (ss 0), stW cI (sa 1) (ss 1), stW cI (sa 2) (ss 2), stW cI (sa 3) (ss 3), stW cI (sa 4) (ss 4), stW cI (sa 5) (ss 5), ocW cI o φ, rdW rd ρ, bfW cC bu β, ouW cL ob f]) s.heap.size = A at hD hZ ⊢
  have hA : ∀ q : Nat, s.heap.size ≤ q → A q := fun q h => by rw [← hAe]; exact Or.inr h
  have hS : va_S A s.heap s.heap [] := va_S.rf
  have hP : va_P D vwCl (fl [mnW x a sv o rd bu ln, stW cI a σ, svO cO sv (saF sa) κ, stW cI (sa 0) (ss 0), stW cI (sa 1) (ss 1), stW cI (sa 2) (ss 2), stW cI (sa 3) (ss 3), stW cI (sa 4) (ss 4), stW cI (sa 5) (ss 5), ocW cI o φ, rdW rd ρ, bfW cC bu β, ouW cL ob f]) s.heap := hP
  have hl := lv_entry ([.ref (x 0), .int (iI (c)), .int (iI (lo)), .int (iI (hi)), .ref (ob 0)]) (n := 6) (Nat.le_of_ble_eq_true rfl)
  rw [lg_entry_eq]
  generalize (lg_sl ([.ref (x 0), .int (iI (c)), .int (iI (lo)), .int (iI (hi)), .ref (ob 0)]) ++ List.replicate (6 - (lg_sl ([.ref (x 0), .int (iI (c)), .int (iI (lo)), .int (iI (hi)), .ref (ob 0)])).length) Slot.unset).toArray = ls at hl ⊢
  have hl : lv_has ls 6 [(0, .ref (x 0)), (1, .int (iI (c))), (2, .int (iI (lo))), (3, .int (iI (hi))), (4, .ref (ob 0))] := hl
  have hI := hG.1
  have hkk := hG.2.1
  have hlnb := hG.2.2.2.1
  have hbb := hG.2.2.2.2
  have hnn := hI.n
  have htt := hI.t
  refine lv_aload hx hb dL_bounds_0 (lv_at hl 4 rfl) ?_
  refine wi_iconst hx hb dL_bounds_2 ?_
  refine lv_aload_n hx hb dL_bounds_3 rfl (lv_at hl 0 rfl) ?_
  refine lv_iload_n hx hb dL_bounds_4 rfl (lv_at hl 1 rfl) ?_
  refine lv_iload_n hx hb dL_bounds_5 rfl (lv_at hl 2 rfl) ?_
  refine lv_iload_n hx hb dL_bounds_6 rfl (lv_at hl 3 rfl) ?_
  rcases (cd3_c : (cd3 (0 ≤ c ∧ c ≤ 3) ((-999 ≤ lo ∧ lo ≤ 999) ∧ lo ≤ hi ∧ hi ≤ 999) (lo ≤ lowS σ c (σ 0 0) ∧ highS σ c ≤ hi) = 0 ∧ _) ∨ _) with ⟨h9, hok0, hok1, hok2⟩ | h9 | h9 | h9
  · skip
    have hPc := fl_P (S' := [mnW x a sv o rd bu ln, stW cI a σ, svO cO sv (saF sa) κ, stW cI (sa 0) (ss 0), stW cI (sa 1) (ss 1), stW cI (sa 2) (ss 2), stW cI (sa 3) (ss 3), stW cI (sa 4) (ss 4), stW cI (sa 5) (ss 5)]) hP [0, 1, 2, 3, 4, 5, 6, 7, 8] rfl
    have hKc := hK.sub (tys' := [(cI, FieldType.int), (cO, FieldType.object "PromisedCounters$State"), (cC, FieldType.char)]) [0, 1, 2] rfl
    have hDc := fl_D (S' := [mnW x a sv o rd bu ln, stW cI a σ, svO cO sv (saF sa) κ, stW cI (sa 0) (ss 0), stW cI (sa 1) (ss 1), stW cI (sa 2) (ss 2), stW cI (sa 3) (ss 3), stW cI (sa 4) (ss 4), stW cI (sa 5) (ss 5)]) hD [0, 1, 2, 3, 4, 5, 6, 7, 8] (by decide) rfl
    have hFc := fl_free (SC := [mnW x a sv o rd bu ln, stW cI a σ, svO cO sv (saF sa) κ, stW cI (sa 0) (ss 0), stW cI (sa 1) (ss 1), stW cI (sa 2) (ss 2), stW cI (sa 3) (ss 3), stW cI (sa 4) (ss 4), stW cI (sa 5) (ss 5)]) hD hS hA [0, 1, 2, 3, 4, 5, 6, 7, 8] rfl
    refine wq_calli (va_runV (As := [.int (iI (c)), .int (iI (lo)), .int (iI (hi))]) (rest := [.int (iI (0)), .ref (ob 0)]) ⟨hx, hb, hml, hown, hts⟩ (c_X4_bounds l D cI cO cC cL s.heap.size x a sv o rd bu ln σ κ sa ss (c) (lo) (hi) (by first | assumption | omega) (by first | assumption | omega) (by first | assumption | omega) (by first | assumption | omega) (by first | assumption | omega) (by first | assumption | omega)) (cwV 3 hts gL_bounds_X4_bounds rfl rfl rfl (by decide +kernel) ⟨Nat.le_of_ble_eq_true rfl, Nat.le_of_ble_eq_true rfl⟩) ⟨pcW_blind, va_recv hKc hPc (ci := 4) (q0 := 0) rfl rfl, pcW_of hPc hKc hDc⟩ rfl rfl hl.1 rfl (lv_room (Nat.le_of_ble_eq_true rfl)) dL_bounds_7 ⟨(Nat.zero_le _), (Nat.zero_le _)⟩) hS (fun q _ h => hFc q h) hFc (fun r1 u3 t9 H1 locs ht9 hvm hcl2 hB hz1 hk1 hS => ?_)
    obtain ⟨hP1, hK1, hD1⟩ := hB
    rw [ht9] at hP1
    obtain ⟨hP, hD⟩ := fl_join (SR := [ocW cI o φ, rdW rd ρ, bfW cC bu β, ouW cL ob f]) (S1 := [mnW x a sv o rd bu ln, stW cI a (bndS σ (c) (lo) (hi)), svO cO sv (saF (pushA (κ 0 0) sa)) (sU κ 0 0 (pushK (κ 0 0))), stW cI (pushA (κ 0 0) sa 0) (pushS (κ 0 0) ss σ 0), stW cI (pushA (κ 0 0) sa 1) (pushS (κ 0 0) ss σ 1), stW cI (pushA (κ 0 0) sa 2) (pushS (κ 0 0) ss σ 2), stW cI (pushA (κ 0 0) sa 3) (pushS (κ 0 0) ss σ 3), stW cI (pushA (κ 0 0) sa 4) (pushS (κ 0 0) ss σ 4), stW cI (pushA (κ 0 0) sa 5) (pushS (κ 0 0) ss σ 5)]) hP hD [0, 1, 2, 3, 4, 5, 6, 7, 8] [9, 10, 11, 12] rfl rfl (by decide) (by decide) hk1 hFc hP1 hD1
    generalize H1 = H at hP hS ⊢
    have hP := fl_P (S' := [mnW x a sv o rd bu ln, stW cI a (bndS σ (c) (lo) (hi)), svO cO sv (saF (pushA (κ 0 0) sa)) (sU κ 0 0 (pushK (κ 0 0))), stW cI (pushA (κ 0 0) sa 0) (pushS (κ 0 0) ss σ 0), stW cI (pushA (κ 0 0) sa 1) (pushS (κ 0 0) ss σ 1), stW cI (pushA (κ 0 0) sa 2) (pushS (κ 0 0) ss σ 2), stW cI (pushA (κ 0 0) sa 3) (pushS (κ 0 0) ss σ 3), stW cI (pushA (κ 0 0) sa 4) (pushS (κ 0 0) ss σ 4), stW cI (pushA (κ 0 0) sa 5) (pushS (κ 0 0) ss σ 5), ocW cI o φ, rdW rd ρ, bfW cC bu β, ouW cL ob f]) hP [4, 5, 6, 7, 8, 9, 10, 11, 12, 0, 1, 2, 3] rfl
    have hD := fl_D (S' := [mnW x a sv o rd bu ln, stW cI a (bndS σ (c) (lo) (hi)), svO cO sv (saF (pushA (κ 0 0) sa)) (sU κ 0 0 (pushK (κ 0 0))), stW cI (pushA (κ 0 0) sa 0) (pushS (κ 0 0) ss σ 0), stW cI (pushA (κ 0 0) sa 1) (pushS (κ 0 0) ss σ 1), stW cI (pushA (κ 0 0) sa 2) (pushS (κ 0 0) ss σ 2), stW cI (pushA (κ 0 0) sa 3) (pushS (κ 0 0) ss σ 3), stW cI (pushA (κ 0 0) sa 4) (pushS (κ 0 0) ss σ 4), stW cI (pushA (κ 0 0) sa 5) (pushS (κ 0 0) ss σ 5), ocW cI o φ, rdW rd ρ, bfW cC bu β, ouW cL ob f]) hD [4, 5, 6, 7, 8, 9, 10, 11, 12, 0, 1, 2, 3] (by decide) rfl
    refine lv_i2l (v := iL (r1)) hx hb dL_bounds_10 rfl ?_
    refine wi_last hx hb hK hP hD hS 98 3 rfl rfl dL_bounds_11 (fun H locs hP hD hS => ?_)
    have hP : va_P D vwCl (fl [mnW x a sv o rd bu ln, stW cI a (bndS σ (c) (lo) (hi)), svO cO sv (saF (pushA (κ 0 0) sa)) (sU κ 0 0 (pushK (κ 0 0))), stW cI (pushA (κ 0 0) sa 0) (pushS (κ 0 0) ss σ 0), stW cI (pushA (κ 0 0) sa 1) (pushS (κ 0 0) ss σ 1), stW cI (pushA (κ 0 0) sa 2) (pushS (κ 0 0) ss σ 2), stW cI (pushA (κ 0 0) sa 3) (pushS (κ 0 0) ss σ 3), stW cI (pushA (κ 0 0) sa 4) (pushS (κ 0 0) ss σ 4), stW cI (pushA (κ 0 0) sa 5) (pushS (κ 0 0) ss σ 5), ocW cI o φ, rdW rd ρ, bfW cC bu β, ouW cL ob (fun _ => (iL (r1)))]) H := hP
    have hD : va_D A (fl [mnW x a sv o rd bu ln, stW cI a (bndS σ (c) (lo) (hi)), svO cO sv (saF (pushA (κ 0 0) sa)) (sU κ 0 0 (pushK (κ 0 0))), stW cI (pushA (κ 0 0) sa 0) (pushS (κ 0 0) ss σ 0), stW cI (pushA (κ 0 0) sa 1) (pushS (κ 0 0) ss σ 1), stW cI (pushA (κ 0 0) sa 2) (pushS (κ 0 0) ss σ 2), stW cI (pushA (κ 0 0) sa 3) (pushS (κ 0 0) ss σ 3), stW cI (pushA (κ 0 0) sa 4) (pushS (κ 0 0) ss σ 4), stW cI (pushA (κ 0 0) sa 5) (pushS (κ 0 0) ss σ 5), ocW cI o φ, rdW rd ρ, bfW cC bu β, ouW cL ob (fun _ => (iL (r1)))]) := hD
    refine lv_goto (tgt := 27) hx hb dL_bounds_12 (by decide) ?_
    refine wi_iconst hx hb dL_bounds_27 ?_
    refine W.widen (k := 1) (n := 6) (by decide) (by decide) ?_
    exact W.iret (v := iI (0)) hx hb hr (fun t9 ht9 hW9 => ⟨⟨(0), ⟨ln, (bndS σ (c) (lo) (hi)), (sU κ 0 0 (pushK (κ 0 0))), (pushA (κ 0 0) sa), pushS (κ 0 0) ss σ, φ, ρ, β, (fun _ => (iL (r1)))⟩, rfl, (OPL.good h9 rfl (congrArg (fun z : Int => fun _ : Nat => iL z) hcl2) ⟨rfl, rfl, rfl, rfl, rfl⟩), ⟨by rw [ht9]; exact hP, va_K.moved hW9.alike hK, hD⟩⟩, hS.F ht9⟩) hS.2.2 dL_bounds_28 hlocks
  · skip
    have cx9 := x_X4_bounds l hl9 D cI cO cC cL x a sv o rd bu ln σ c lo hi (by first | assumption | omega) (by first | assumption | omega) (by first | assumption | omega) hI (by rw [h9]; decide)
    rw [h9, show xnA 1 = "java/lang/IndexOutOfBoundsException" from rfl] at cx9
    have hPc := fl_P (S' := [mnW x a sv o rd bu ln, stW cI a σ]) hP [0, 1] rfl
    have hKc := hK.sub (tys' := [(cI, FieldType.int), (cO, FieldType.object "PromisedCounters$State"), (cC, FieldType.char)]) [0, 1, 2] rfl
    have hcl13 := hts (Cond.classLink RL 13 "java/lang/IndexOutOfBoundsException") (by decide +kernel)
    have hcst : (Cond.castable "java/lang/IndexOutOfBoundsException" "java/lang/IndexOutOfBoundsException").before ([.ref (x 0), .int (iI (c)), .int (iI (lo)), .int (iI (hi)), .ref (ob 0)] : List Value).toArray s = true := va_Nw.use (ZB_tabs _ (by decide)) (hZ.2.2.1 (Cond.castable "java/lang/IndexOutOfBoundsException" "java/lang/IndexOutOfBoundsException") (by decide))
    refine catchX (vx_runV (As := [.int (iI (c)), .int (iI (lo)), .int (iI (hi))]) (rest := [.int (iI (0)), .ref (ob 0)]) ⟨hx, hb, hml, hown, hts⟩ cx9 (cwV 3 hts gL_bounds_X4_bounds rfl rfl rfl (by decide +kernel) ⟨Nat.le_of_ble_eq_true rfl, Nat.le_of_ble_eq_true rfl⟩) ⟨pcX_blind, va_recv hKc hPc (ci := 4) (q0 := 0) rfl rfl, pcX_of hPc hKc hZ⟩ rfl rfl hl.1 rfl (lv_room (Nat.le_of_ble_eq_true rfl)) dL_bounds_7 ⟨Nat.le_of_ble_eq_true rfl, Nat.le_of_ble_eq_true rfl⟩) hP hS hown [] ⟨0, 12, 15, 13⟩ [⟨0, 12, 19, 15⟩, ⟨0, 12, 23, 17⟩] htab (fun z hz => nomatch hz) (by decide) (by decide) hcl13 hcst (fun H locs xq hP hS => ?_)
    refine lv_astore (lv' := [(5, .ref (xq)), (0, .ref (x 0)), (1, .int (iI (c))), (2, .int (iI (lo))), (3, .int (iI (hi))), (4, .ref (ob 0))]) hx hb dL_bounds_15 hl (by decide) rfl (fun ls hl => ?_)
    refine wi_iconst hx hb dL_bounds_17 ?_
    refine W.widen (k := 1) (n := 6) (by decide) (by decide) ?_
    exact W.iret (v := iI (1)) hx hb hr (fun t9 ht9 hW9 => ⟨⟨(1), ⟨ln, σ, κ, sa, ss, φ, ρ, β, f⟩, rfl, (OPL.bad h9 (by decide) rfl ⟨rfl, rfl, rfl, rfl, rfl⟩), ⟨by rw [ht9]; exact hP, va_K.moved hW9.alike hK, hD⟩⟩, hS.F ht9⟩) hS.2.2 dL_bounds_18 hlocks
  · skip
    have cx9 := x_X4_bounds l hl9 D cI cO cC cL x a sv o rd bu ln σ c lo hi (by first | assumption | omega) (by first | assumption | omega) (by first | assumption | omega) hI (by rw [h9]; decide)
    rw [h9, show xnA 2 = "java/lang/IllegalArgumentException" from rfl] at cx9
    have hPc := fl_P (S' := [mnW x a sv o rd bu ln, stW cI a σ]) hP [0, 1] rfl
    have hKc := hK.sub (tys' := [(cI, FieldType.int), (cO, FieldType.object "PromisedCounters$State"), (cC, FieldType.char)]) [0, 1, 2] rfl
    have hcl13 := hts (Cond.classLink RL 13 "java/lang/IndexOutOfBoundsException") (by decide +kernel)
    have hcl15 := hts (Cond.classLink RL 15 "java/lang/IllegalArgumentException") (by decide +kernel)
    have hcst : (Cond.castable "java/lang/IllegalArgumentException" "java/lang/IllegalArgumentException").before ([.ref (x 0), .int (iI (c)), .int (iI (lo)), .int (iI (hi)), .ref (ob 0)] : List Value).toArray s = true := va_Nw.use (ZB_tabs _ (by decide)) (hZ.2.2.1 (Cond.castable "java/lang/IllegalArgumentException" "java/lang/IllegalArgumentException") (by decide))
    refine catchX (vx_runV (As := [.int (iI (c)), .int (iI (lo)), .int (iI (hi))]) (rest := [.int (iI (0)), .ref (ob 0)]) ⟨hx, hb, hml, hown, hts⟩ cx9 (cwV 3 hts gL_bounds_X4_bounds rfl rfl rfl (by decide +kernel) ⟨Nat.le_of_ble_eq_true rfl, Nat.le_of_ble_eq_true rfl⟩) ⟨pcX_blind, va_recv hKc hPc (ci := 4) (q0 := 0) rfl rfl, pcX_of hPc hKc hZ⟩ rfl rfl hl.1 rfl (lv_room (Nat.le_of_ble_eq_true rfl)) dL_bounds_7 ⟨Nat.le_of_ble_eq_true rfl, Nat.le_of_ble_eq_true rfl⟩) hP hS hown [⟨0, 12, 15, 13⟩] ⟨0, 12, 19, 15⟩ [⟨0, 12, 23, 17⟩] htab (fun z hz => by cases List.mem_singleton.mp hz; exact Or.inr ⟨by decide, _, hcl13, hZ.2.2.2.1⟩) (by decide) (by decide) hcl15 hcst (fun H locs xq hP hS => ?_)
    refine lv_astore (lv' := [(5, .ref (xq)), (0, .ref (x 0)), (1, .int (iI (c))), (2, .int (iI (lo))), (3, .int (iI (hi))), (4, .ref (ob 0))]) hx hb dL_bounds_19 hl (by decide) rfl (fun ls hl => ?_)
    refine wi_iconst hx hb dL_bounds_21 ?_
    refine W.widen (k := 1) (n := 6) (by decide) (by decide) ?_
    exact W.iret (v := iI (2)) hx hb hr (fun t9 ht9 hW9 => ⟨⟨(2), ⟨ln, σ, κ, sa, ss, φ, ρ, β, f⟩, rfl, (OPL.bad h9 (by decide) rfl ⟨rfl, rfl, rfl, rfl, rfl⟩), ⟨by rw [ht9]; exact hP, va_K.moved hW9.alike hK, hD⟩⟩, hS.F ht9⟩) hS.2.2 dL_bounds_22 hlocks
  · skip
    have cx9 := x_X4_bounds l hl9 D cI cO cC cL x a sv o rd bu ln σ c lo hi (by first | assumption | omega) (by first | assumption | omega) (by first | assumption | omega) hI (by rw [h9]; decide)
    rw [h9, show xnA 3 = "java/lang/IllegalStateException" from rfl] at cx9
    have hPc := fl_P (S' := [mnW x a sv o rd bu ln, stW cI a σ]) hP [0, 1] rfl
    have hKc := hK.sub (tys' := [(cI, FieldType.int), (cO, FieldType.object "PromisedCounters$State"), (cC, FieldType.char)]) [0, 1, 2] rfl
    have hcl13 := hts (Cond.classLink RL 13 "java/lang/IndexOutOfBoundsException") (by decide +kernel)
    have hcl15 := hts (Cond.classLink RL 15 "java/lang/IllegalArgumentException") (by decide +kernel)
    have hcl17 := hts (Cond.classLink RL 17 "java/lang/IllegalStateException") (by decide +kernel)
    have hcst : (Cond.castable "java/lang/IllegalStateException" "java/lang/IllegalStateException").before ([.ref (x 0), .int (iI (c)), .int (iI (lo)), .int (iI (hi)), .ref (ob 0)] : List Value).toArray s = true := va_Nw.use (ZB_tabs _ (by decide)) (hZ.2.2.1 (Cond.castable "java/lang/IllegalStateException" "java/lang/IllegalStateException") (by decide))
    refine catchX (vx_runV (As := [.int (iI (c)), .int (iI (lo)), .int (iI (hi))]) (rest := [.int (iI (0)), .ref (ob 0)]) ⟨hx, hb, hml, hown, hts⟩ cx9 (cwV 3 hts gL_bounds_X4_bounds rfl rfl rfl (by decide +kernel) ⟨Nat.le_of_ble_eq_true rfl, Nat.le_of_ble_eq_true rfl⟩) ⟨pcX_blind, va_recv hKc hPc (ci := 4) (q0 := 0) rfl rfl, pcX_of hPc hKc hZ⟩ rfl rfl hl.1 rfl (lv_room (Nat.le_of_ble_eq_true rfl)) dL_bounds_7 ⟨Nat.le_of_ble_eq_true rfl, Nat.le_of_ble_eq_true rfl⟩) hP hS hown [⟨0, 12, 15, 13⟩, ⟨0, 12, 19, 15⟩] ⟨0, 12, 23, 17⟩ [] htab (fun z hz => (List.mem_cons.mp hz).elim (fun h8 => by cases h8; exact Or.inr ⟨by decide, _, hcl13, hZ.2.2.2.2.1⟩) (fun h8 => by cases List.mem_singleton.mp h8; exact Or.inr ⟨by decide, _, hcl15, hZ.2.2.2.2.2⟩)) (by decide) (by decide) hcl17 hcst (fun H locs xq hP hS => ?_)
    refine lv_astore (lv' := [(5, .ref (xq)), (0, .ref (x 0)), (1, .int (iI (c))), (2, .int (iI (lo))), (3, .int (iI (hi))), (4, .ref (ob 0))]) hx hb dL_bounds_23 hl (by decide) rfl (fun ls hl => ?_)
    refine wi_iconst hx hb dL_bounds_25 ?_
    refine W.widen (k := 1) (n := 6) (by decide) (by decide) ?_
    exact W.iret (v := iI (3)) hx hb hr (fun t9 ht9 hW9 => ⟨⟨(3), ⟨ln, σ, κ, sa, ss, φ, ρ, β, f⟩, rfl, (OPL.bad h9 (by decide) rfl ⟨rfl, rfl, rfl, rfl, rfl⟩), ⟨by rw [ht9]; exact hP, va_K.moved hW9.alike hK, hD⟩⟩, hS.F ht9⟩) hS.2.2 dL_bounds_26 hlocks
set_option maxHeartbeats 4000000 in
set_option maxRecDepth 100000 in
theorem lk_set (l : Launch) (hl9 : l.stackTraces = false) (D : va_G) (cI cO cC cL : ClassId) (sz : Nat) (x a sv o rd bu ob : Nat → Nat) (ln σ κ φ ρ β : Nat → Int → Int) (sa : Nat → Nat → Nat) (ss : Nat → Nat → Int → Int) (f : Nat → Int64) (k v : Int) (hk : R32 k) (hv : R32 v) (hG : GI σ (κ 0 0) ss (ln 0 0) (β 1)) : Met l yL_set wsL_set ({ frames := 8, cells := 1, slots := 6, locals := 165 } : Room) (pcWX D [(cI, FieldType.int), (cO, FieldType.object "PromisedCounters$State"), (cC, FieldType.char), (cL, FieldType.long)] [.ref (x 0), .int (iI (k)), .int (iI (v)), .ref (ob 0)] (fl [mnW x a sv o rd bu ln, stW cI a σ, svO cO sv (saF sa) κ, stW cI (sa 0) (ss 0), stW cI (sa 1) (ss 1), stW cI (sa 2) (ss 2), stW cI (sa 3) (ss 3), stW cI (sa 4) (ss 4), stW cI (sa 5) (ss 5), ocW cI o φ, rdW rd ρ, bfW cC bu β, ouW cL ob f]) sz) (wq_i (fun (r : Int) (u : LwS) => OPL (cd2 (0 ≤ k ∧ k ≤ 1) (1 ≤ v ∧ v ≤ (if k = 0 then 16 else 99))) r (σ 1 k) (LwS.f u) (LwQ u σ (κ 0 0) ss (ln 0 0) (β 1)) (LwQ u (sU σ 1 k v) (pushK (κ 0 0)) (pushS (κ 0 0) ss σ) (ln 0 0) (β 1))) (fun (u : LwS) => (bW D [(cI, FieldType.int), (cO, FieldType.object "PromisedCounters$State"), (cC, FieldType.char), (cL, FieldType.long)] (fl [mnW x a sv o rd bu (LwS.ln u), stW cI a (LwS.σ u), svO cO sv (saF (LwS.sa u)) (LwS.κ u), stW cI (LwS.sa u 0) (LwS.ss u 0), stW cI (LwS.sa u 1) (LwS.ss u 1), stW cI (LwS.sa u 2) (LwS.ss u 2), stW cI (LwS.sa u 3) (LwS.ss u 3), stW cI (LwS.sa u 4) (LwS.ss u 4), stW cI (LwS.sa u 5) (LwS.ss u 5), ocW cI o (LwS.φ u), rdW rd (LwS.ρ u), bfW cC bu (LwS.β u), ouW cL ob (LwS.f u)]) (va_A (fl [mnW x a sv o rd bu ln, stW cI a σ, svO cO sv (saF sa) κ, stW cI (sa 0) (ss 0), stW cI (sa 1) (ss 1), stW cI (sa 2) (ss 2), stW cI (sa 3) (ss 3), stW cI (sa 4) (ss 4), stW cI (sa 5) (ss 5), ocW cI o φ, rdW rd ρ, bfW cC bu β, ouW cL ob f]) sz))) (va_A (fl [mnW x a sv o rd bu ln, stW cI a σ, svO cO sv (saF sa) κ, stW cI (sa 0) (ss 0), stW cI (sa 1) (ss 1), stW cI (sa 2) (ss 2), stW cI (sa 3) (ss 3), stW cI (sa 4) (ss 4), stW cI (sa 5) (ss 5), ocW cI o φ, rdW rd ρ, bfW cC bu β, ouW cL ob f]) sz)) 1 6 (va_A (fl [mnW x a sv o rd bu ln, stW cI a σ, svO cO sv (saF sa) κ, stW cI (sa 0) (ss 0), stW cI (sa 1) (ss 1), stW cI (sa 2) (ss 2), stW cI (sa 3) (ss 3), stW cI (sa 4) (ss 4), stW cI (sa 5) (ss 5), ocW cI o φ, rdW rd ρ, bfW cC bu β, ouW cL ob f]) sz) := by
  refine metH ([(0, 10, 13, 13), (0, 10, 17, 15)]) (cc := cL_set) (maxL := 5) (ret := (some .int)) (by decide) rfl ?_
  intro p9 e9 s m args9 below9 meth9 c9 s₁ B hml htab hv
  obtain ⟨rfl, hsz, hP, hK, hD0, hZ⟩ := hv
  have hx := B.exec
  have hb := B.bytes
  have hr := B.returns
  have hts := atoms_spec (ws := wsL_set) B.pre
  have hown : s.vm.findClass RL = some m.cls := findClass_of_methodNamed B.named
  have hlocks := B.notSynchronized
  subst hsz
  have hD := hD0.self (sz := s.heap.size)
  generalize hAe : va_A (fl [mnW x a sv o rd bu ln, stW cI a σ, svO cO sv (saF sa) κ, stW cI (sa 0) (ss 0), stW cI (sa 1) (ss 1), stW cI (sa 2) (ss 2), stW cI (sa 3) (ss 3), stW cI (sa 4) (ss 4), stW cI (sa 5) (ss 5), ocW cI o φ, rdW rd ρ, bfW cC bu β, ouW cL ob f]) s.heap.size = A at hD hZ ⊢
  have hA : ∀ q : Nat, s.heap.size ≤ q → A q := fun q h => by rw [← hAe]; exact Or.inr h
  have hS : va_S A s.heap s.heap [] := va_S.rf
  have hP : va_P D vwCl (fl [mnW x a sv o rd bu ln, stW cI a σ, svO cO sv (saF sa) κ, stW cI (sa 0) (ss 0), stW cI (sa 1) (ss 1), stW cI (sa 2) (ss 2), stW cI (sa 3) (ss 3), stW cI (sa 4) (ss 4), stW cI (sa 5) (ss 5), ocW cI o φ, rdW rd ρ, bfW cC bu β, ouW cL ob f]) s.heap := hP
  have hl := lv_entry ([.ref (x 0), .int (iI (k)), .int (iI (v)), .ref (ob 0)]) (n := 5) (Nat.le_of_ble_eq_true rfl)
  rw [lg_entry_eq]
  generalize (lg_sl ([.ref (x 0), .int (iI (k)), .int (iI (v)), .ref (ob 0)]) ++ List.replicate (5 - (lg_sl ([.ref (x 0), .int (iI (k)), .int (iI (v)), .ref (ob 0)])).length) Slot.unset).toArray = ls at hl ⊢
  have hl : lv_has ls 5 [(0, .ref (x 0)), (1, .int (iI (k))), (2, .int (iI (v))), (3, .ref (ob 0))] := hl
  have hI := hG.1
  have hkk := hG.2.1
  have hlnb := hG.2.2.2.1
  have hbb := hG.2.2.2.2
  have hnn := hI.n
  have htt := hI.t
  refine lv_aload_n hx hb dL_set_0 rfl (lv_at hl 3 rfl) ?_
  refine wi_iconst hx hb dL_set_1 ?_
  refine lv_aload_n hx hb dL_set_2 rfl (lv_at hl 0 rfl) ?_
  refine lv_iload_n hx hb dL_set_3 rfl (lv_at hl 1 rfl) ?_
  refine lv_iload_n hx hb dL_set_4 rfl (lv_at hl 2 rfl) ?_
  rcases (cd2_c : (cd2 (0 ≤ k ∧ k ≤ 1) (1 ≤ v ∧ v ≤ (if k = 0 then 16 else 99)) = 0 ∧ _) ∨ _) with ⟨h9, hok0, hok1⟩ | h9 | h9
  · skip
    have hPc := fl_P (S' := [mnW x a sv o rd bu ln, stW cI a σ, svO cO sv (saF sa) κ, stW cI (sa 0) (ss 0), stW cI (sa 1) (ss 1), stW cI (sa 2) (ss 2), stW cI (sa 3) (ss 3), stW cI (sa 4) (ss 4), stW cI (sa 5) (ss 5)]) hP [0, 1, 2, 3, 4, 5, 6, 7, 8] rfl
    have hKc := hK.sub (tys' := [(cI, FieldType.int), (cO, FieldType.object "PromisedCounters$State"), (cC, FieldType.char)]) [0, 1, 2] rfl
    have hDc := fl_D (S' := [mnW x a sv o rd bu ln, stW cI a σ, svO cO sv (saF sa) κ, stW cI (sa 0) (ss 0), stW cI (sa 1) (ss 1), stW cI (sa 2) (ss 2), stW cI (sa 3) (ss 3), stW cI (sa 4) (ss 4), stW cI (sa 5) (ss 5)]) hD [0, 1, 2, 3, 4, 5, 6, 7, 8] (by decide) rfl
    have hFc := fl_free (SC := [mnW x a sv o rd bu ln, stW cI a σ, svO cO sv (saF sa) κ, stW cI (sa 0) (ss 0), stW cI (sa 1) (ss 1), stW cI (sa 2) (ss 2), stW cI (sa 3) (ss 3), stW cI (sa 4) (ss 4), stW cI (sa 5) (ss 5)]) hD hS hA [0, 1, 2, 3, 4, 5, 6, 7, 8] rfl
    refine wq_calli (va_runV (As := [.int (iI (k)), .int (iI (v))]) (rest := [.int (iI (0)), .ref (ob 0)]) ⟨hx, hb, hml, hown, hts⟩ (c_X4_set l D cI cO cC cL s.heap.size x a sv o rd bu ln σ κ sa ss (k) (v) (by first | assumption | omega) (by first | assumption | omega) (by first | assumption | omega) (by first | assumption | omega)) (cwV 2 hts gL_set_X4_set rfl rfl rfl (by decide +kernel) ⟨Nat.le_of_ble_eq_true rfl, Nat.le_of_ble_eq_true rfl⟩) ⟨pcW_blind, va_recv hKc hPc (ci := 4) (q0 := 0) rfl rfl, pcW_of hPc hKc hDc⟩ rfl rfl hl.1 rfl (lv_room (Nat.le_of_ble_eq_true rfl)) dL_set_5 ⟨(Nat.zero_le _), (Nat.zero_le _)⟩) hS (fun q _ h => hFc q h) hFc (fun r1 u3 t9 H1 locs ht9 hvm hcl2 hB hz1 hk1 hS => ?_)
    obtain ⟨hP1, hK1, hD1⟩ := hB
    rw [ht9] at hP1
    obtain ⟨hP, hD⟩ := fl_join (SR := [ocW cI o φ, rdW rd ρ, bfW cC bu β, ouW cL ob f]) (S1 := [mnW x a sv o rd bu ln, stW cI a (sU σ 1 (k) (v)), svO cO sv (saF (pushA (κ 0 0) sa)) (sU κ 0 0 (pushK (κ 0 0))), stW cI (pushA (κ 0 0) sa 0) (pushS (κ 0 0) ss σ 0), stW cI (pushA (κ 0 0) sa 1) (pushS (κ 0 0) ss σ 1), stW cI (pushA (κ 0 0) sa 2) (pushS (κ 0 0) ss σ 2), stW cI (pushA (κ 0 0) sa 3) (pushS (κ 0 0) ss σ 3), stW cI (pushA (κ 0 0) sa 4) (pushS (κ 0 0) ss σ 4), stW cI (pushA (κ 0 0) sa 5) (pushS (κ 0 0) ss σ 5)]) hP hD [0, 1, 2, 3, 4, 5, 6, 7, 8] [9, 10, 11, 12] rfl rfl (by decide) (by decide) hk1 hFc hP1 hD1
    generalize H1 = H at hP hS ⊢
    have hP := fl_P (S' := [mnW x a sv o rd bu ln, stW cI a (sU σ 1 (k) (v)), svO cO sv (saF (pushA (κ 0 0) sa)) (sU κ 0 0 (pushK (κ 0 0))), stW cI (pushA (κ 0 0) sa 0) (pushS (κ 0 0) ss σ 0), stW cI (pushA (κ 0 0) sa 1) (pushS (κ 0 0) ss σ 1), stW cI (pushA (κ 0 0) sa 2) (pushS (κ 0 0) ss σ 2), stW cI (pushA (κ 0 0) sa 3) (pushS (κ 0 0) ss σ 3), stW cI (pushA (κ 0 0) sa 4) (pushS (κ 0 0) ss σ 4), stW cI (pushA (κ 0 0) sa 5) (pushS (κ 0 0) ss σ 5), ocW cI o φ, rdW rd ρ, bfW cC bu β, ouW cL ob f]) hP [4, 5, 6, 7, 8, 9, 10, 11, 12, 0, 1, 2, 3] rfl
    have hD := fl_D (S' := [mnW x a sv o rd bu ln, stW cI a (sU σ 1 (k) (v)), svO cO sv (saF (pushA (κ 0 0) sa)) (sU κ 0 0 (pushK (κ 0 0))), stW cI (pushA (κ 0 0) sa 0) (pushS (κ 0 0) ss σ 0), stW cI (pushA (κ 0 0) sa 1) (pushS (κ 0 0) ss σ 1), stW cI (pushA (κ 0 0) sa 2) (pushS (κ 0 0) ss σ 2), stW cI (pushA (κ 0 0) sa 3) (pushS (κ 0 0) ss σ 3), stW cI (pushA (κ 0 0) sa 4) (pushS (κ 0 0) ss σ 4), stW cI (pushA (κ 0 0) sa 5) (pushS (κ 0 0) ss σ 5), ocW cI o φ, rdW rd ρ, bfW cC bu β, ouW cL ob f]) hD [4, 5, 6, 7, 8, 9, 10, 11, 12, 0, 1, 2, 3] (by decide) rfl
    refine lv_i2l (v := iL (r1)) hx hb dL_set_8 rfl ?_
    refine wi_last hx hb hK hP hD hS 98 3 rfl rfl dL_set_9 (fun H locs hP hD hS => ?_)
    have hP : va_P D vwCl (fl [mnW x a sv o rd bu ln, stW cI a (sU σ 1 (k) (v)), svO cO sv (saF (pushA (κ 0 0) sa)) (sU κ 0 0 (pushK (κ 0 0))), stW cI (pushA (κ 0 0) sa 0) (pushS (κ 0 0) ss σ 0), stW cI (pushA (κ 0 0) sa 1) (pushS (κ 0 0) ss σ 1), stW cI (pushA (κ 0 0) sa 2) (pushS (κ 0 0) ss σ 2), stW cI (pushA (κ 0 0) sa 3) (pushS (κ 0 0) ss σ 3), stW cI (pushA (κ 0 0) sa 4) (pushS (κ 0 0) ss σ 4), stW cI (pushA (κ 0 0) sa 5) (pushS (κ 0 0) ss σ 5), ocW cI o φ, rdW rd ρ, bfW cC bu β, ouW cL ob (fun _ => (iL (r1)))]) H := hP
    have hD : va_D A (fl [mnW x a sv o rd bu ln, stW cI a (sU σ 1 (k) (v)), svO cO sv (saF (pushA (κ 0 0) sa)) (sU κ 0 0 (pushK (κ 0 0))), stW cI (pushA (κ 0 0) sa 0) (pushS (κ 0 0) ss σ 0), stW cI (pushA (κ 0 0) sa 1) (pushS (κ 0 0) ss σ 1), stW cI (pushA (κ 0 0) sa 2) (pushS (κ 0 0) ss σ 2), stW cI (pushA (κ 0 0) sa 3) (pushS (κ 0 0) ss σ 3), stW cI (pushA (κ 0 0) sa 4) (pushS (κ 0 0) ss σ 4), stW cI (pushA (κ 0 0) sa 5) (pushS (κ 0 0) ss σ 5), ocW cI o φ, rdW rd ρ, bfW cC bu β, ouW cL ob (fun _ => (iL (r1)))]) := hD
    refine lv_goto (tgt := 21) hx hb dL_set_10 (by decide) ?_
    refine wi_iconst hx hb dL_set_21 ?_
    refine W.widen (k := 1) (n := 6) (by decide) (by decide) ?_
    exact W.iret (v := iI (0)) hx hb hr (fun t9 ht9 hW9 => ⟨⟨(0), ⟨ln, (sU σ 1 (k) (v)), (sU κ 0 0 (pushK (κ 0 0))), (pushA (κ 0 0) sa), pushS (κ 0 0) ss σ, φ, ρ, β, (fun _ => (iL (r1)))⟩, rfl, (OPL.good h9 rfl (congrArg (fun z : Int => fun _ : Nat => iL z) hcl2) ⟨rfl, rfl, rfl, rfl, rfl⟩), ⟨by rw [ht9]; exact hP, va_K.moved hW9.alike hK, hD⟩⟩, hS.F ht9⟩) hS.2.2 dL_set_22 hlocks
  · skip
    have cx9 := x_X4_set l hl9 D cI cO cC cL x a sv o rd bu ln σ k v (by first | assumption | omega) (by first | assumption | omega) hI (by rw [h9]; decide)
    rw [h9, show xnA 1 = "java/lang/IndexOutOfBoundsException" from rfl] at cx9
    have hPc := fl_P (S' := [mnW x a sv o rd bu ln, stW cI a σ]) hP [0, 1] rfl
    have hKc := hK.sub (tys' := [(cI, FieldType.int), (cO, FieldType.object "PromisedCounters$State"), (cC, FieldType.char)]) [0, 1, 2] rfl
    have hcl13 := hts (Cond.classLink RL 13 "java/lang/IndexOutOfBoundsException") (by decide +kernel)
    have hcst : (Cond.castable "java/lang/IndexOutOfBoundsException" "java/lang/IndexOutOfBoundsException").before ([.ref (x 0), .int (iI (k)), .int (iI (v)), .ref (ob 0)] : List Value).toArray s = true := va_Nw.use (ZB_tabs _ (by decide)) (hZ.2.2.1 (Cond.castable "java/lang/IndexOutOfBoundsException" "java/lang/IndexOutOfBoundsException") (by decide))
    refine catchX (vx_runV (As := [.int (iI (k)), .int (iI (v))]) (rest := [.int (iI (0)), .ref (ob 0)]) ⟨hx, hb, hml, hown, hts⟩ cx9 (cwV 2 hts gL_set_X4_set rfl rfl rfl (by decide +kernel) ⟨Nat.le_of_ble_eq_true rfl, Nat.le_of_ble_eq_true rfl⟩) ⟨pcX_blind, va_recv hKc hPc (ci := 4) (q0 := 0) rfl rfl, pcX_of hPc hKc hZ⟩ rfl rfl hl.1 rfl (lv_room (Nat.le_of_ble_eq_true rfl)) dL_set_5 ⟨Nat.le_of_ble_eq_true rfl, Nat.le_of_ble_eq_true rfl⟩) hP hS hown [] ⟨0, 10, 13, 13⟩ [⟨0, 10, 17, 15⟩] htab (fun z hz => nomatch hz) (by decide) (by decide) hcl13 hcst (fun H locs xq hP hS => ?_)
    refine lv_astore (lv' := [(4, .ref (xq)), (0, .ref (x 0)), (1, .int (iI (k))), (2, .int (iI (v))), (3, .ref (ob 0))]) hx hb dL_set_13 hl (by decide) rfl (fun ls hl => ?_)
    refine wi_iconst hx hb dL_set_15 ?_
    refine W.widen (k := 1) (n := 6) (by decide) (by decide) ?_
    exact W.iret (v := iI (1)) hx hb hr (fun t9 ht9 hW9 => ⟨⟨(1), ⟨ln, σ, κ, sa, ss, φ, ρ, β, f⟩, rfl, (OPL.bad h9 (by decide) rfl ⟨rfl, rfl, rfl, rfl, rfl⟩), ⟨by rw [ht9]; exact hP, va_K.moved hW9.alike hK, hD⟩⟩, hS.F ht9⟩) hS.2.2 dL_set_16 hlocks
  · skip
    have cx9 := x_X4_set l hl9 D cI cO cC cL x a sv o rd bu ln σ k v (by first | assumption | omega) (by first | assumption | omega) hI (by rw [h9]; decide)
    rw [h9, show xnA 2 = "java/lang/IllegalArgumentException" from rfl] at cx9
    have hPc := fl_P (S' := [mnW x a sv o rd bu ln, stW cI a σ]) hP [0, 1] rfl
    have hKc := hK.sub (tys' := [(cI, FieldType.int), (cO, FieldType.object "PromisedCounters$State"), (cC, FieldType.char)]) [0, 1, 2] rfl
    have hcl13 := hts (Cond.classLink RL 13 "java/lang/IndexOutOfBoundsException") (by decide +kernel)
    have hcl15 := hts (Cond.classLink RL 15 "java/lang/IllegalArgumentException") (by decide +kernel)
    have hcst : (Cond.castable "java/lang/IllegalArgumentException" "java/lang/IllegalArgumentException").before ([.ref (x 0), .int (iI (k)), .int (iI (v)), .ref (ob 0)] : List Value).toArray s = true := va_Nw.use (ZB_tabs _ (by decide)) (hZ.2.2.1 (Cond.castable "java/lang/IllegalArgumentException" "java/lang/IllegalArgumentException") (by decide))
    refine catchX (vx_runV (As := [.int (iI (k)), .int (iI (v))]) (rest := [.int (iI (0)), .ref (ob 0)]) ⟨hx, hb, hml, hown, hts⟩ cx9 (cwV 2 hts gL_set_X4_set rfl rfl rfl (by decide +kernel) ⟨Nat.le_of_ble_eq_true rfl, Nat.le_of_ble_eq_true rfl⟩) ⟨pcX_blind, va_recv hKc hPc (ci := 4) (q0 := 0) rfl rfl, pcX_of hPc hKc hZ⟩ rfl rfl hl.1 rfl (lv_room (Nat.le_of_ble_eq_true rfl)) dL_set_5 ⟨Nat.le_of_ble_eq_true rfl, Nat.le_of_ble_eq_true rfl⟩) hP hS hown [⟨0, 10, 13, 13⟩] ⟨0, 10, 17, 15⟩ [] htab (fun z hz => by cases List.mem_singleton.mp hz; exact Or.inr ⟨by decide, _, hcl13, hZ.2.2.2.1⟩) (by decide) (by decide) hcl15 hcst (fun H locs xq hP hS => ?_)
    refine lv_astore (lv' := [(4, .ref (xq)), (0, .ref (x 0)), (1, .int (iI (k))), (2, .int (iI (v))), (3, .ref (ob 0))]) hx hb dL_set_17 hl (by decide) rfl (fun ls hl => ?_)
    refine wi_iconst hx hb dL_set_19 ?_
    refine W.widen (k := 1) (n := 6) (by decide) (by decide) ?_
    exact W.iret (v := iI (2)) hx hb hr (fun t9 ht9 hW9 => ⟨⟨(2), ⟨ln, σ, κ, sa, ss, φ, ρ, β, f⟩, rfl, (OPL.bad h9 (by decide) rfl ⟨rfl, rfl, rfl, rfl, rfl⟩), ⟨by rw [ht9]; exact hP, va_K.moved hW9.alike hK, hD⟩⟩, hS.F ht9⟩) hS.2.2 dL_set_20 hlocks
set_option maxHeartbeats 4000000 in
set_option maxRecDepth 100000 in
theorem lk_promise (l : Launch) (hl9 : l.stackTraces = false) (D : va_G) (cI cO cC cL : ClassId) (sz : Nat) (x a sv o rd bu ob : Nat → Nat) (ln σ κ φ ρ β : Nat → Int → Int) (sa : Nat → Nat → Nat) (ss : Nat → Nat → Int → Int) (f : Nat → Int64) (q c y : Int) (hq : R32 q) (hc : R32 c) (hy : R32 y) (hG : GI σ (κ 0 0) ss (ln 0 0) (β 1)) : Met l yL_promise wsL_promise ({ frames := 9, cells := 1, slots := 6, locals := 185 } : Room) (pcWX D [(cI, FieldType.int), (cO, FieldType.object "PromisedCounters$State"), (cC, FieldType.char), (cL, FieldType.long)] [.ref (x 0), .int (iI (q)), .int (iI (c)), .int (iI (y)), .ref (ob 0)] (fl [mnW x a sv o rd bu ln, stW cI a σ, svO cO sv (saF sa) κ, stW cI (sa 0) (ss 0), stW cI (sa 1) (ss 1), stW cI (sa 2) (ss 2), stW cI (sa 3) (ss 3), stW cI (sa 4) (ss 4), stW cI (sa 5) (ss 5), ocW cI o φ, rdW rd ρ, bfW cC bu β, ouW cL ob f]) sz) (wq_i (fun (r : Int) (u : LwS) => OPL (cd3 ((0 ≤ q ∧ q ≤ 5) ∧ (0 ≤ c ∧ c ≤ 3)) (y ≠ 0 ∧ -99 ≤ y ∧ y ≤ 99) (reasonS σ q c y (-1) ≤ 0)) r (σ 0 1) (LwS.f u) (LwQ u σ (κ 0 0) ss (ln 0 0) (β 1)) (LwQ u (addS σ q c y (-1)) (pushK (κ 0 0)) (pushS (κ 0 0) ss σ) (ln 0 0) (β 1))) (fun (u : LwS) => (bW D [(cI, FieldType.int), (cO, FieldType.object "PromisedCounters$State"), (cC, FieldType.char), (cL, FieldType.long)] (fl [mnW x a sv o rd bu (LwS.ln u), stW cI a (LwS.σ u), svO cO sv (saF (LwS.sa u)) (LwS.κ u), stW cI (LwS.sa u 0) (LwS.ss u 0), stW cI (LwS.sa u 1) (LwS.ss u 1), stW cI (LwS.sa u 2) (LwS.ss u 2), stW cI (LwS.sa u 3) (LwS.ss u 3), stW cI (LwS.sa u 4) (LwS.ss u 4), stW cI (LwS.sa u 5) (LwS.ss u 5), ocW cI o (LwS.φ u), rdW rd (LwS.ρ u), bfW cC bu (LwS.β u), ouW cL ob (LwS.f u)]) (va_A (fl [mnW x a sv o rd bu ln, stW cI a σ, svO cO sv (saF sa) κ, stW cI (sa 0) (ss 0), stW cI (sa 1) (ss 1), stW cI (sa 2) (ss 2), stW cI (sa 3) (ss 3), stW cI (sa 4) (ss 4), stW cI (sa 5) (ss 5), ocW cI o φ, rdW rd ρ, bfW cC bu β, ouW cL ob f]) sz))) (va_A (fl [mnW x a sv o rd bu ln, stW cI a σ, svO cO sv (saF sa) κ, stW cI (sa 0) (ss 0), stW cI (sa 1) (ss 1), stW cI (sa 2) (ss 2), stW cI (sa 3) (ss 3), stW cI (sa 4) (ss 4), stW cI (sa 5) (ss 5), ocW cI o φ, rdW rd ρ, bfW cC bu β, ouW cL ob f]) sz)) 1 6 (va_A (fl [mnW x a sv o rd bu ln, stW cI a σ, svO cO sv (saF sa) κ, stW cI (sa 0) (ss 0), stW cI (sa 1) (ss 1), stW cI (sa 2) (ss 2), stW cI (sa 3) (ss 3), stW cI (sa 4) (ss 4), stW cI (sa 5) (ss 5), ocW cI o φ, rdW rd ρ, bfW cC bu β, ouW cL ob f]) sz) := by
  refine metH ([(0, 12, 15, 13), (0, 12, 19, 15), (0, 12, 23, 17)]) (cc := cL_promise) (maxL := 6) (ret := (some .int)) (by decide) rfl ?_
  intro p9 e9 s m args9 below9 meth9 c9 s₁ B hml htab hv
  obtain ⟨rfl, hsz, hP, hK, hD0, hZ⟩ := hv
  have hx := B.exec
  have hb := B.bytes
  have hr := B.returns
  have hts := atoms_spec (ws := wsL_promise) B.pre
  have hown : s.vm.findClass RL = some m.cls := findClass_of_methodNamed B.named
  have hlocks := B.notSynchronized
  subst hsz
  have hD := hD0.self (sz := s.heap.size)
  generalize hAe : va_A (fl [mnW x a sv o rd bu ln, stW cI a σ, svO cO sv (saF sa) κ, stW cI (sa 0) (ss 0), stW cI (sa 1) (ss 1), stW cI (sa 2) (ss 2), stW cI (sa 3) (ss 3), stW cI (sa 4) (ss 4), stW cI (sa 5) (ss 5), ocW cI o φ, rdW rd ρ, bfW cC bu β, ouW cL ob f]) s.heap.size = A at hD hZ ⊢
  have hA : ∀ q : Nat, s.heap.size ≤ q → A q := fun q h => by rw [← hAe]; exact Or.inr h
  have hS : va_S A s.heap s.heap [] := va_S.rf
  have hP : va_P D vwCl (fl [mnW x a sv o rd bu ln, stW cI a σ, svO cO sv (saF sa) κ, stW cI (sa 0) (ss 0), stW cI (sa 1) (ss 1), stW cI (sa 2) (ss 2), stW cI (sa 3) (ss 3), stW cI (sa 4) (ss 4), stW cI (sa 5) (ss 5), ocW cI o φ, rdW rd ρ, bfW cC bu β, ouW cL ob f]) s.heap := hP
  have hl := lv_entry ([.ref (x 0), .int (iI (q)), .int (iI (c)), .int (iI (y)), .ref (ob 0)]) (n := 6) (Nat.le_of_ble_eq_true rfl)
  rw [lg_entry_eq]
  generalize (lg_sl ([.ref (x 0), .int (iI (q)), .int (iI (c)), .int (iI (y)), .ref (ob 0)]) ++ List.replicate (6 - (lg_sl ([.ref (x 0), .int (iI (q)), .int (iI (c)), .int (iI (y)), .ref (ob 0)])).length) Slot.unset).toArray = ls at hl ⊢
  have hl : lv_has ls 6 [(0, .ref (x 0)), (1, .int (iI (q))), (2, .int (iI (c))), (3, .int (iI (y))), (4, .ref (ob 0))] := hl
  have hI := hG.1
  have hkk := hG.2.1
  have hlnb := hG.2.2.2.1
  have hbb := hG.2.2.2.2
  have hnn := hI.n
  have htt := hI.t
  refine lv_aload hx hb dL_promise_0 (lv_at hl 4 rfl) ?_
  refine wi_iconst hx hb dL_promise_2 ?_
  refine lv_aload_n hx hb dL_promise_3 rfl (lv_at hl 0 rfl) ?_
  refine lv_iload_n hx hb dL_promise_4 rfl (lv_at hl 1 rfl) ?_
  refine lv_iload_n hx hb dL_promise_5 rfl (lv_at hl 2 rfl) ?_
  refine lv_iload_n hx hb dL_promise_6 rfl (lv_at hl 3 rfl) ?_
  rcases (cd3_c : (cd3 ((0 ≤ q ∧ q ≤ 5) ∧ (0 ≤ c ∧ c ≤ 3)) (y ≠ 0 ∧ -99 ≤ y ∧ y ≤ 99) (reasonS σ q c y (-1) ≤ 0) = 0 ∧ _) ∨ _) with ⟨h9, hok0, hok1, hok2⟩ | h9 | h9 | h9
  · skip
    have hPc := fl_P (S' := [mnW x a sv o rd bu ln, stW cI a σ, svO cO sv (saF sa) κ, stW cI (sa 0) (ss 0), stW cI (sa 1) (ss 1), stW cI (sa 2) (ss 2), stW cI (sa 3) (ss 3), stW cI (sa 4) (ss 4), stW cI (sa 5) (ss 5)]) hP [0, 1, 2, 3, 4, 5, 6, 7, 8] rfl
    have hKc := hK.sub (tys' := [(cI, FieldType.int), (cO, FieldType.object "PromisedCounters$State"), (cC, FieldType.char)]) [0, 1, 2] rfl
    have hDc := fl_D (S' := [mnW x a sv o rd bu ln, stW cI a σ, svO cO sv (saF sa) κ, stW cI (sa 0) (ss 0), stW cI (sa 1) (ss 1), stW cI (sa 2) (ss 2), stW cI (sa 3) (ss 3), stW cI (sa 4) (ss 4), stW cI (sa 5) (ss 5)]) hD [0, 1, 2, 3, 4, 5, 6, 7, 8] (by decide) rfl
    have hFc := fl_free (SC := [mnW x a sv o rd bu ln, stW cI a σ, svO cO sv (saF sa) κ, stW cI (sa 0) (ss 0), stW cI (sa 1) (ss 1), stW cI (sa 2) (ss 2), stW cI (sa 3) (ss 3), stW cI (sa 4) (ss 4), stW cI (sa 5) (ss 5)]) hD hS hA [0, 1, 2, 3, 4, 5, 6, 7, 8] rfl
    refine wq_calli (va_runV (As := [.int (iI (q)), .int (iI (c)), .int (iI (y))]) (rest := [.int (iI (0)), .ref (ob 0)]) ⟨hx, hb, hml, hown, hts⟩ (c_X4_promise l D cI cO cC cL s.heap.size x a sv o rd bu ln σ κ sa ss (q) (c) (y) (by first | assumption | omega) (by first | assumption | omega) (by first | assumption | omega) (by first | assumption | omega) (by first | assumption | omega) (by first | assumption | omega)) (cwV 3 hts gL_promise_X4_promise rfl rfl rfl (by decide +kernel) ⟨Nat.le_of_ble_eq_true rfl, Nat.le_of_ble_eq_true rfl⟩) ⟨pcW_blind, va_recv hKc hPc (ci := 4) (q0 := 0) rfl rfl, pcW_of hPc hKc hDc⟩ rfl rfl hl.1 rfl (lv_room (Nat.le_of_ble_eq_true rfl)) dL_promise_7 ⟨(Nat.zero_le _), (Nat.zero_le _)⟩) hS (fun q _ h => hFc q h) hFc (fun r1 u3 t9 H1 locs ht9 hvm hcl2 hB hz1 hk1 hS => ?_)
    obtain ⟨hP1, hK1, hD1⟩ := hB
    rw [ht9] at hP1
    obtain ⟨hP, hD⟩ := fl_join (SR := [ocW cI o φ, rdW rd ρ, bfW cC bu β, ouW cL ob f]) (S1 := [mnW x a sv o rd bu ln, stW cI a (addS σ (q) (c) (y) (-1)), svO cO sv (saF (pushA (κ 0 0) sa)) (sU κ 0 0 (pushK (κ 0 0))), stW cI (pushA (κ 0 0) sa 0) (pushS (κ 0 0) ss σ 0), stW cI (pushA (κ 0 0) sa 1) (pushS (κ 0 0) ss σ 1), stW cI (pushA (κ 0 0) sa 2) (pushS (κ 0 0) ss σ 2), stW cI (pushA (κ 0 0) sa 3) (pushS (κ 0 0) ss σ 3), stW cI (pushA (κ 0 0) sa 4) (pushS (κ 0 0) ss σ 4), stW cI (pushA (κ 0 0) sa 5) (pushS (κ 0 0) ss σ 5)]) hP hD [0, 1, 2, 3, 4, 5, 6, 7, 8] [9, 10, 11, 12] rfl rfl (by decide) (by decide) hk1 hFc hP1 hD1
    generalize H1 = H at hP hS ⊢
    have hP := fl_P (S' := [mnW x a sv o rd bu ln, stW cI a (addS σ (q) (c) (y) (-1)), svO cO sv (saF (pushA (κ 0 0) sa)) (sU κ 0 0 (pushK (κ 0 0))), stW cI (pushA (κ 0 0) sa 0) (pushS (κ 0 0) ss σ 0), stW cI (pushA (κ 0 0) sa 1) (pushS (κ 0 0) ss σ 1), stW cI (pushA (κ 0 0) sa 2) (pushS (κ 0 0) ss σ 2), stW cI (pushA (κ 0 0) sa 3) (pushS (κ 0 0) ss σ 3), stW cI (pushA (κ 0 0) sa 4) (pushS (κ 0 0) ss σ 4), stW cI (pushA (κ 0 0) sa 5) (pushS (κ 0 0) ss σ 5), ocW cI o φ, rdW rd ρ, bfW cC bu β, ouW cL ob f]) hP [4, 5, 6, 7, 8, 9, 10, 11, 12, 0, 1, 2, 3] rfl
    have hD := fl_D (S' := [mnW x a sv o rd bu ln, stW cI a (addS σ (q) (c) (y) (-1)), svO cO sv (saF (pushA (κ 0 0) sa)) (sU κ 0 0 (pushK (κ 0 0))), stW cI (pushA (κ 0 0) sa 0) (pushS (κ 0 0) ss σ 0), stW cI (pushA (κ 0 0) sa 1) (pushS (κ 0 0) ss σ 1), stW cI (pushA (κ 0 0) sa 2) (pushS (κ 0 0) ss σ 2), stW cI (pushA (κ 0 0) sa 3) (pushS (κ 0 0) ss σ 3), stW cI (pushA (κ 0 0) sa 4) (pushS (κ 0 0) ss σ 4), stW cI (pushA (κ 0 0) sa 5) (pushS (κ 0 0) ss σ 5), ocW cI o φ, rdW rd ρ, bfW cC bu β, ouW cL ob f]) hD [4, 5, 6, 7, 8, 9, 10, 11, 12, 0, 1, 2, 3] (by decide) rfl
    refine lv_i2l (v := iL (r1)) hx hb dL_promise_10 rfl ?_
    refine wi_last hx hb hK hP hD hS 98 3 rfl rfl dL_promise_11 (fun H locs hP hD hS => ?_)
    have hP : va_P D vwCl (fl [mnW x a sv o rd bu ln, stW cI a (addS σ (q) (c) (y) (-1)), svO cO sv (saF (pushA (κ 0 0) sa)) (sU κ 0 0 (pushK (κ 0 0))), stW cI (pushA (κ 0 0) sa 0) (pushS (κ 0 0) ss σ 0), stW cI (pushA (κ 0 0) sa 1) (pushS (κ 0 0) ss σ 1), stW cI (pushA (κ 0 0) sa 2) (pushS (κ 0 0) ss σ 2), stW cI (pushA (κ 0 0) sa 3) (pushS (κ 0 0) ss σ 3), stW cI (pushA (κ 0 0) sa 4) (pushS (κ 0 0) ss σ 4), stW cI (pushA (κ 0 0) sa 5) (pushS (κ 0 0) ss σ 5), ocW cI o φ, rdW rd ρ, bfW cC bu β, ouW cL ob (fun _ => (iL (r1)))]) H := hP
    have hD : va_D A (fl [mnW x a sv o rd bu ln, stW cI a (addS σ (q) (c) (y) (-1)), svO cO sv (saF (pushA (κ 0 0) sa)) (sU κ 0 0 (pushK (κ 0 0))), stW cI (pushA (κ 0 0) sa 0) (pushS (κ 0 0) ss σ 0), stW cI (pushA (κ 0 0) sa 1) (pushS (κ 0 0) ss σ 1), stW cI (pushA (κ 0 0) sa 2) (pushS (κ 0 0) ss σ 2), stW cI (pushA (κ 0 0) sa 3) (pushS (κ 0 0) ss σ 3), stW cI (pushA (κ 0 0) sa 4) (pushS (κ 0 0) ss σ 4), stW cI (pushA (κ 0 0) sa 5) (pushS (κ 0 0) ss σ 5), ocW cI o φ, rdW rd ρ, bfW cC bu β, ouW cL ob (fun _ => (iL (r1)))]) := hD
    refine lv_goto (tgt := 27) hx hb dL_promise_12 (by decide) ?_
    refine wi_iconst hx hb dL_promise_27 ?_
    refine W.widen (k := 1) (n := 6) (by decide) (by decide) ?_
    exact W.iret (v := iI (0)) hx hb hr (fun t9 ht9 hW9 => ⟨⟨(0), ⟨ln, (addS σ (q) (c) (y) (-1)), (sU κ 0 0 (pushK (κ 0 0))), (pushA (κ 0 0) sa), pushS (κ 0 0) ss σ, φ, ρ, β, (fun _ => (iL (r1)))⟩, rfl, (OPL.good h9 rfl (congrArg (fun z : Int => fun _ : Nat => iL z) hcl2) ⟨rfl, rfl, rfl, rfl, rfl⟩), ⟨by rw [ht9]; exact hP, va_K.moved hW9.alike hK, hD⟩⟩, hS.F ht9⟩) hS.2.2 dL_promise_28 hlocks
  · skip
    have cx9 := x_X4_promise l hl9 D cI cO cC cL x a sv o rd bu ln σ q c y (by first | assumption | omega) (by first | assumption | omega) (by first | assumption | omega) hI (by rw [h9]; decide)
    rw [h9, show xnA 1 = "java/lang/IndexOutOfBoundsException" from rfl] at cx9
    have hPc := fl_P (S' := [mnW x a sv o rd bu ln, stW cI a σ]) hP [0, 1] rfl
    have hKc := hK.sub (tys' := [(cI, FieldType.int), (cO, FieldType.object "PromisedCounters$State"), (cC, FieldType.char)]) [0, 1, 2] rfl
    have hcl13 := hts (Cond.classLink RL 13 "java/lang/IndexOutOfBoundsException") (by decide +kernel)
    have hcst : (Cond.castable "java/lang/IndexOutOfBoundsException" "java/lang/IndexOutOfBoundsException").before ([.ref (x 0), .int (iI (q)), .int (iI (c)), .int (iI (y)), .ref (ob 0)] : List Value).toArray s = true := va_Nw.use (ZB_tabs _ (by decide)) (hZ.2.2.1 (Cond.castable "java/lang/IndexOutOfBoundsException" "java/lang/IndexOutOfBoundsException") (by decide))
    refine catchX (vx_runV (As := [.int (iI (q)), .int (iI (c)), .int (iI (y))]) (rest := [.int (iI (0)), .ref (ob 0)]) ⟨hx, hb, hml, hown, hts⟩ cx9 (cwV 3 hts gL_promise_X4_promise rfl rfl rfl (by decide +kernel) ⟨Nat.le_of_ble_eq_true rfl, Nat.le_of_ble_eq_true rfl⟩) ⟨pcX_blind, va_recv hKc hPc (ci := 4) (q0 := 0) rfl rfl, pcX_of hPc hKc hZ⟩ rfl rfl hl.1 rfl (lv_room (Nat.le_of_ble_eq_true rfl)) dL_promise_7 ⟨Nat.le_of_ble_eq_true rfl, Nat.le_of_ble_eq_true rfl⟩) hP hS hown [] ⟨0, 12, 15, 13⟩ [⟨0, 12, 19, 15⟩, ⟨0, 12, 23, 17⟩] htab (fun z hz => nomatch hz) (by decide) (by decide) hcl13 hcst (fun H locs xq hP hS => ?_)
    refine lv_astore (lv' := [(5, .ref (xq)), (0, .ref (x 0)), (1, .int (iI (q))), (2, .int (iI (c))), (3, .int (iI (y))), (4, .ref (ob 0))]) hx hb dL_promise_15 hl (by decide) rfl (fun ls hl => ?_)
    refine wi_iconst hx hb dL_promise_17 ?_
    refine W.widen (k := 1) (n := 6) (by decide) (by decide) ?_
    exact W.iret (v := iI (1)) hx hb hr (fun t9 ht9 hW9 => ⟨⟨(1), ⟨ln, σ, κ, sa, ss, φ, ρ, β, f⟩, rfl, (OPL.bad h9 (by decide) rfl ⟨rfl, rfl, rfl, rfl, rfl⟩), ⟨by rw [ht9]; exact hP, va_K.moved hW9.alike hK, hD⟩⟩, hS.F ht9⟩) hS.2.2 dL_promise_18 hlocks
  · skip
    have cx9 := x_X4_promise l hl9 D cI cO cC cL x a sv o rd bu ln σ q c y (by first | assumption | omega) (by first | assumption | omega) (by first | assumption | omega) hI (by rw [h9]; decide)
    rw [h9, show xnA 2 = "java/lang/IllegalArgumentException" from rfl] at cx9
    have hPc := fl_P (S' := [mnW x a sv o rd bu ln, stW cI a σ]) hP [0, 1] rfl
    have hKc := hK.sub (tys' := [(cI, FieldType.int), (cO, FieldType.object "PromisedCounters$State"), (cC, FieldType.char)]) [0, 1, 2] rfl
    have hcl13 := hts (Cond.classLink RL 13 "java/lang/IndexOutOfBoundsException") (by decide +kernel)
    have hcl15 := hts (Cond.classLink RL 15 "java/lang/IllegalArgumentException") (by decide +kernel)
    have hcst : (Cond.castable "java/lang/IllegalArgumentException" "java/lang/IllegalArgumentException").before ([.ref (x 0), .int (iI (q)), .int (iI (c)), .int (iI (y)), .ref (ob 0)] : List Value).toArray s = true := va_Nw.use (ZB_tabs _ (by decide)) (hZ.2.2.1 (Cond.castable "java/lang/IllegalArgumentException" "java/lang/IllegalArgumentException") (by decide))
    refine catchX (vx_runV (As := [.int (iI (q)), .int (iI (c)), .int (iI (y))]) (rest := [.int (iI (0)), .ref (ob 0)]) ⟨hx, hb, hml, hown, hts⟩ cx9 (cwV 3 hts gL_promise_X4_promise rfl rfl rfl (by decide +kernel) ⟨Nat.le_of_ble_eq_true rfl, Nat.le_of_ble_eq_true rfl⟩) ⟨pcX_blind, va_recv hKc hPc (ci := 4) (q0 := 0) rfl rfl, pcX_of hPc hKc hZ⟩ rfl rfl hl.1 rfl (lv_room (Nat.le_of_ble_eq_true rfl)) dL_promise_7 ⟨Nat.le_of_ble_eq_true rfl, Nat.le_of_ble_eq_true rfl⟩) hP hS hown [⟨0, 12, 15, 13⟩] ⟨0, 12, 19, 15⟩ [⟨0, 12, 23, 17⟩] htab (fun z hz => by cases List.mem_singleton.mp hz; exact Or.inr ⟨by decide, _, hcl13, hZ.2.2.2.1⟩) (by decide) (by decide) hcl15 hcst (fun H locs xq hP hS => ?_)
    refine lv_astore (lv' := [(5, .ref (xq)), (0, .ref (x 0)), (1, .int (iI (q))), (2, .int (iI (c))), (3, .int (iI (y))), (4, .ref (ob 0))]) hx hb dL_promise_19 hl (by decide) rfl (fun ls hl => ?_)
    refine wi_iconst hx hb dL_promise_21 ?_
    refine W.widen (k := 1) (n := 6) (by decide) (by decide) ?_
    exact W.iret (v := iI (2)) hx hb hr (fun t9 ht9 hW9 => ⟨⟨(2), ⟨ln, σ, κ, sa, ss, φ, ρ, β, f⟩, rfl, (OPL.bad h9 (by decide) rfl ⟨rfl, rfl, rfl, rfl, rfl⟩), ⟨by rw [ht9]; exact hP, va_K.moved hW9.alike hK, hD⟩⟩, hS.F ht9⟩) hS.2.2 dL_promise_22 hlocks
  · skip
    have cx9 := x_X4_promise l hl9 D cI cO cC cL x a sv o rd bu ln σ q c y (by first | assumption | omega) (by first | assumption | omega) (by first | assumption | omega) hI (by rw [h9]; decide)
    rw [h9, show xnA 3 = "java/lang/IllegalStateException" from rfl] at cx9
    have hPc := fl_P (S' := [mnW x a sv o rd bu ln, stW cI a σ]) hP [0, 1] rfl
    have hKc := hK.sub (tys' := [(cI, FieldType.int), (cO, FieldType.object "PromisedCounters$State"), (cC, FieldType.char)]) [0, 1, 2] rfl
    have hcl13 := hts (Cond.classLink RL 13 "java/lang/IndexOutOfBoundsException") (by decide +kernel)
    have hcl15 := hts (Cond.classLink RL 15 "java/lang/IllegalArgumentException") (by decide +kernel)
    have hcl17 := hts (Cond.classLink RL 17 "java/lang/IllegalStateException") (by decide +kernel)
    have hcst : (Cond.castable "java/lang/IllegalStateException" "java/lang/IllegalStateException").before ([.ref (x 0), .int (iI (q)), .int (iI (c)), .int (iI (y)), .ref (ob 0)] : List Value).toArray s = true := va_Nw.use (ZB_tabs _ (by decide)) (hZ.2.2.1 (Cond.castable "java/lang/IllegalStateException" "java/lang/IllegalStateException") (by decide))
    refine catchX (vx_runV (As := [.int (iI (q)), .int (iI (c)), .int (iI (y))]) (rest := [.int (iI (0)), .ref (ob 0)]) ⟨hx, hb, hml, hown, hts⟩ cx9 (cwV 3 hts gL_promise_X4_promise rfl rfl rfl (by decide +kernel) ⟨Nat.le_of_ble_eq_true rfl, Nat.le_of_ble_eq_true rfl⟩) ⟨pcX_blind, va_recv hKc hPc (ci := 4) (q0 := 0) rfl rfl, pcX_of hPc hKc hZ⟩ rfl rfl hl.1 rfl (lv_room (Nat.le_of_ble_eq_true rfl)) dL_promise_7 ⟨Nat.le_of_ble_eq_true rfl, Nat.le_of_ble_eq_true rfl⟩) hP hS hown [⟨0, 12, 15, 13⟩, ⟨0, 12, 19, 15⟩] ⟨0, 12, 23, 17⟩ [] htab (fun z hz => (List.mem_cons.mp hz).elim (fun h8 => by cases h8; exact Or.inr ⟨by decide, _, hcl13, hZ.2.2.2.2.1⟩) (fun h8 => by cases List.mem_singleton.mp h8; exact Or.inr ⟨by decide, _, hcl15, hZ.2.2.2.2.2⟩)) (by decide) (by decide) hcl17 hcst (fun H locs xq hP hS => ?_)
    refine lv_astore (lv' := [(5, .ref (xq)), (0, .ref (x 0)), (1, .int (iI (q))), (2, .int (iI (c))), (3, .int (iI (y))), (4, .ref (ob 0))]) hx hb dL_promise_23 hl (by decide) rfl (fun ls hl => ?_)
    refine wi_iconst hx hb dL_promise_25 ?_
    refine W.widen (k := 1) (n := 6) (by decide) (by decide) ?_
    exact W.iret (v := iI (3)) hx hb hr (fun t9 ht9 hW9 => ⟨⟨(3), ⟨ln, σ, κ, sa, ss, φ, ρ, β, f⟩, rfl, (OPL.bad h9 (by decide) rfl ⟨rfl, rfl, rfl, rfl, rfl⟩), ⟨by rw [ht9]; exact hP, va_K.moved hW9.alike hK, hD⟩⟩, hS.F ht9⟩) hS.2.2 dL_promise_26 hlocks
set_option maxHeartbeats 4000000 in
set_option maxRecDepth 100000 in
theorem lk_transfer (l : Launch) (hl9 : l.stackTraces = false) (D : va_G) (cI cO cC cL : ClassId) (sz : Nat) (x a sv o rd bu ob : Nat → Nat) (ln σ κ φ ρ β : Nat → Int → Int) (sa : Nat → Nat → Nat) (ss : Nat → Nat → Int → Int) (f : Nat → Int64) (q ff t k : Int) (hq : R32 q) (hff : R32 ff) (ht : R32 t) (hk : R32 k) (hG : GI σ (κ 0 0) ss (ln 0 0) (β 1)) : Met l yL_transfer wsL_transfer ({ frames := 8, cells := 1, slots := 6, locals := 168 } : Room) (pcWX D [(cI, FieldType.int), (cO, FieldType.object "PromisedCounters$State"), (cC, FieldType.char), (cL, FieldType.long)] [.ref (x 0), .int (iI (q)), .int (iI (ff)), .int (iI (t)), .int (iI (k)), .ref (ob 0)] (fl [mnW x a sv o rd bu ln, stW cI a σ, svO cO sv (saF sa) κ, stW cI (sa 0) (ss 0), stW cI (sa 1) (ss 1), stW cI (sa 2) (ss 2), stW cI (sa 3) (ss 3), stW cI (sa 4) (ss 4), stW cI (sa 5) (ss 5), ocW cI o φ, rdW rd ρ, bfW cC bu β, ouW cL ob f]) sz) (wq_i (fun (r : Int) (u : LwS) => OPL (cd3 ((0 ≤ q ∧ q ≤ 5) ∧ (0 ≤ ff ∧ ff ≤ 3) ∧ (0 ≤ t ∧ t ≤ 3)) (ff ≠ t ∧ 1 ≤ k ∧ k ≤ 99) (reasonS σ q ff (-k) t ≤ 0)) r (σ 0 1) (LwS.f u) (LwQ u σ (κ 0 0) ss (ln 0 0) (β 1)) (LwQ u (addS σ q ff (-k) t) (pushK (κ 0 0)) (pushS (κ 0 0) ss σ) (ln 0 0) (β 1))) (fun (u : LwS) => (bW D [(cI, FieldType.int), (cO, FieldType.object "PromisedCounters$State"), (cC, FieldType.char), (cL, FieldType.long)] (fl [mnW x a sv o rd bu (LwS.ln u), stW cI a (LwS.σ u), svO cO sv (saF (LwS.sa u)) (LwS.κ u), stW cI (LwS.sa u 0) (LwS.ss u 0), stW cI (LwS.sa u 1) (LwS.ss u 1), stW cI (LwS.sa u 2) (LwS.ss u 2), stW cI (LwS.sa u 3) (LwS.ss u 3), stW cI (LwS.sa u 4) (LwS.ss u 4), stW cI (LwS.sa u 5) (LwS.ss u 5), ocW cI o (LwS.φ u), rdW rd (LwS.ρ u), bfW cC bu (LwS.β u), ouW cL ob (LwS.f u)]) (va_A (fl [mnW x a sv o rd bu ln, stW cI a σ, svO cO sv (saF sa) κ, stW cI (sa 0) (ss 0), stW cI (sa 1) (ss 1), stW cI (sa 2) (ss 2), stW cI (sa 3) (ss 3), stW cI (sa 4) (ss 4), stW cI (sa 5) (ss 5), ocW cI o φ, rdW rd ρ, bfW cC bu β, ouW cL ob f]) sz))) (va_A (fl [mnW x a sv o rd bu ln, stW cI a σ, svO cO sv (saF sa) κ, stW cI (sa 0) (ss 0), stW cI (sa 1) (ss 1), stW cI (sa 2) (ss 2), stW cI (sa 3) (ss 3), stW cI (sa 4) (ss 4), stW cI (sa 5) (ss 5), ocW cI o φ, rdW rd ρ, bfW cC bu β, ouW cL ob f]) sz)) 1 6 (va_A (fl [mnW x a sv o rd bu ln, stW cI a σ, svO cO sv (saF sa) κ, stW cI (sa 0) (ss 0), stW cI (sa 1) (ss 1), stW cI (sa 2) (ss 2), stW cI (sa 3) (ss 3), stW cI (sa 4) (ss 4), stW cI (sa 5) (ss 5), ocW cI o φ, rdW rd ρ, bfW cC bu β, ouW cL ob f]) sz) := by
  refine metH ([(0, 14, 17, 13), (0, 14, 21, 15), (0, 14, 25, 17)]) (cc := cL_transfer) (maxL := 7) (ret := (some .int)) (by decide) rfl ?_
  intro p9 e9 s m args9 below9 meth9 c9 s₁ B hml htab hv
  obtain ⟨rfl, hsz, hP, hK, hD0, hZ⟩ := hv
  have hx := B.exec
  have hb := B.bytes
  have hr := B.returns
  have hts := atoms_spec (ws := wsL_transfer) B.pre
  have hown : s.vm.findClass RL = some m.cls := findClass_of_methodNamed B.named
  have hlocks := B.notSynchronized
  subst hsz
  have hD := hD0.self (sz := s.heap.size)
  generalize hAe : va_A (fl [mnW x a sv o rd bu ln, stW cI a σ, svO cO sv (saF sa) κ, stW cI (sa 0) (ss 0), stW cI (sa 1) (ss 1), stW cI (sa 2) (ss 2), stW cI (sa 3) (ss 3), stW cI (sa 4) (ss 4), stW cI (sa 5) (ss 5), ocW cI o φ, rdW rd ρ, bfW cC bu β, ouW cL ob f]) s.heap.size = A at hD hZ ⊢
  have hA : ∀ q : Nat, s.heap.size ≤ q → A q := fun q h => by rw [← hAe]; exact Or.inr h
  have hS : va_S A s.heap s.heap [] := va_S.rf
  have hP : va_P D vwCl (fl [mnW x a sv o rd bu ln, stW cI a σ, svO cO sv (saF sa) κ, stW cI (sa 0) (ss 0), stW cI (sa 1) (ss 1), stW cI (sa 2) (ss 2), stW cI (sa 3) (ss 3), stW cI (sa 4) (ss 4), stW cI (sa 5) (ss 5), ocW cI o φ, rdW rd ρ, bfW cC bu β, ouW cL ob f]) s.heap := hP
  have hl := lv_entry ([.ref (x 0), .int (iI (q)), .int (iI (ff)), .int (iI (t)), .int (iI (k)), .ref (ob 0)]) (n := 7) (Nat.le_of_ble_eq_true rfl)
  rw [lg_entry_eq]
  generalize (lg_sl ([.ref (x 0), .int (iI (q)), .int (iI (ff)), .int (iI (t)), .int (iI (k)), .ref (ob 0)]) ++ List.replicate (7 - (lg_sl ([.ref (x 0), .int (iI (q)), .int (iI (ff)), .int (iI (t)), .int (iI (k)), .ref (ob 0)])).length) Slot.unset).toArray = ls at hl ⊢
  have hl : lv_has ls 7 [(0, .ref (x 0)), (1, .int (iI (q))), (2, .int (iI (ff))), (3, .int (iI (t))), (4, .int (iI (k))), (5, .ref (ob 0))] := hl
  have hI := hG.1
  have hkk := hG.2.1
  have hlnb := hG.2.2.2.1
  have hbb := hG.2.2.2.2
  have hnn := hI.n
  have htt := hI.t
  refine lv_aload hx hb dL_transfer_0 (lv_at hl 5 rfl) ?_
  refine wi_iconst hx hb dL_transfer_2 ?_
  refine lv_aload_n hx hb dL_transfer_3 rfl (lv_at hl 0 rfl) ?_
  refine lv_iload_n hx hb dL_transfer_4 rfl (lv_at hl 1 rfl) ?_
  refine lv_iload_n hx hb dL_transfer_5 rfl (lv_at hl 2 rfl) ?_
  refine lv_iload_n hx hb dL_transfer_6 rfl (lv_at hl 3 rfl) ?_
  refine lv_iload hx hb dL_transfer_7 (lv_at hl 4 rfl) ?_
  rcases (cd3_c : (cd3 ((0 ≤ q ∧ q ≤ 5) ∧ (0 ≤ ff ∧ ff ≤ 3) ∧ (0 ≤ t ∧ t ≤ 3)) (ff ≠ t ∧ 1 ≤ k ∧ k ≤ 99) (reasonS σ q ff (-k) t ≤ 0) = 0 ∧ _) ∨ _) with ⟨h9, hok0, hok1, hok2⟩ | h9 | h9 | h9
  · skip
    have hPc := fl_P (S' := [mnW x a sv o rd bu ln, stW cI a σ, svO cO sv (saF sa) κ, stW cI (sa 0) (ss 0), stW cI (sa 1) (ss 1), stW cI (sa 2) (ss 2), stW cI (sa 3) (ss 3), stW cI (sa 4) (ss 4), stW cI (sa 5) (ss 5)]) hP [0, 1, 2, 3, 4, 5, 6, 7, 8] rfl
    have hKc := hK.sub (tys' := [(cI, FieldType.int), (cO, FieldType.object "PromisedCounters$State"), (cC, FieldType.char)]) [0, 1, 2] rfl
    have hDc := fl_D (S' := [mnW x a sv o rd bu ln, stW cI a σ, svO cO sv (saF sa) κ, stW cI (sa 0) (ss 0), stW cI (sa 1) (ss 1), stW cI (sa 2) (ss 2), stW cI (sa 3) (ss 3), stW cI (sa 4) (ss 4), stW cI (sa 5) (ss 5)]) hD [0, 1, 2, 3, 4, 5, 6, 7, 8] (by decide) rfl
    have hFc := fl_free (SC := [mnW x a sv o rd bu ln, stW cI a σ, svO cO sv (saF sa) κ, stW cI (sa 0) (ss 0), stW cI (sa 1) (ss 1), stW cI (sa 2) (ss 2), stW cI (sa 3) (ss 3), stW cI (sa 4) (ss 4), stW cI (sa 5) (ss 5)]) hD hS hA [0, 1, 2, 3, 4, 5, 6, 7, 8] rfl
    refine wq_calli (va_runV (As := [.int (iI (q)), .int (iI (ff)), .int (iI (t)), .int (iI (k))]) (rest := [.int (iI (0)), .ref (ob 0)]) ⟨hx, hb, hml, hown, hts⟩ (c_X4_transfer l D cI cO cC cL s.heap.size x a sv o rd bu ln σ κ sa ss (q) (ff) (t) (k) (by first | assumption | omega) (by first | assumption | omega) (by first | assumption | omega) (by first | assumption | omega) (by first | assumption | omega) (by first | assumption | omega) (by first | assumption | omega)) (cwV 4 hts gL_transfer_X4_transfer rfl rfl rfl (by decide +kernel) ⟨Nat.le_of_ble_eq_true rfl, Nat.le_of_ble_eq_true rfl⟩) ⟨pcW_blind, va_recv hKc hPc (ci := 4) (q0 := 0) rfl rfl, pcW_of hPc hKc hDc⟩ rfl rfl hl.1 rfl (lv_room (Nat.le_of_ble_eq_true rfl)) dL_transfer_9 ⟨(Nat.zero_le _), (Nat.zero_le _)⟩) hS (fun q _ h => hFc q h) hFc (fun r1 u3 t9 H1 locs ht9 hvm hcl2 hB hz1 hk1 hS => ?_)
    obtain ⟨hP1, hK1, hD1⟩ := hB
    rw [ht9] at hP1
    obtain ⟨hP, hD⟩ := fl_join (SR := [ocW cI o φ, rdW rd ρ, bfW cC bu β, ouW cL ob f]) (S1 := [mnW x a sv o rd bu ln, stW cI a (addS σ (q) (ff) (-(k)) (t)), svO cO sv (saF (pushA (κ 0 0) sa)) (sU κ 0 0 (pushK (κ 0 0))), stW cI (pushA (κ 0 0) sa 0) (pushS (κ 0 0) ss σ 0), stW cI (pushA (κ 0 0) sa 1) (pushS (κ 0 0) ss σ 1), stW cI (pushA (κ 0 0) sa 2) (pushS (κ 0 0) ss σ 2), stW cI (pushA (κ 0 0) sa 3) (pushS (κ 0 0) ss σ 3), stW cI (pushA (κ 0 0) sa 4) (pushS (κ 0 0) ss σ 4), stW cI (pushA (κ 0 0) sa 5) (pushS (κ 0 0) ss σ 5)]) hP hD [0, 1, 2, 3, 4, 5, 6, 7, 8] [9, 10, 11, 12] rfl rfl (by decide) (by decide) hk1 hFc hP1 hD1
    generalize H1 = H at hP hS ⊢
    have hP := fl_P (S' := [mnW x a sv o rd bu ln, stW cI a (addS σ (q) (ff) (-(k)) (t)), svO cO sv (saF (pushA (κ 0 0) sa)) (sU κ 0 0 (pushK (κ 0 0))), stW cI (pushA (κ 0 0) sa 0) (pushS (κ 0 0) ss σ 0), stW cI (pushA (κ 0 0) sa 1) (pushS (κ 0 0) ss σ 1), stW cI (pushA (κ 0 0) sa 2) (pushS (κ 0 0) ss σ 2), stW cI (pushA (κ 0 0) sa 3) (pushS (κ 0 0) ss σ 3), stW cI (pushA (κ 0 0) sa 4) (pushS (κ 0 0) ss σ 4), stW cI (pushA (κ 0 0) sa 5) (pushS (κ 0 0) ss σ 5), ocW cI o φ, rdW rd ρ, bfW cC bu β, ouW cL ob f]) hP [4, 5, 6, 7, 8, 9, 10, 11, 12, 0, 1, 2, 3] rfl
    have hD := fl_D (S' := [mnW x a sv o rd bu ln, stW cI a (addS σ (q) (ff) (-(k)) (t)), svO cO sv (saF (pushA (κ 0 0) sa)) (sU κ 0 0 (pushK (κ 0 0))), stW cI (pushA (κ 0 0) sa 0) (pushS (κ 0 0) ss σ 0), stW cI (pushA (κ 0 0) sa 1) (pushS (κ 0 0) ss σ 1), stW cI (pushA (κ 0 0) sa 2) (pushS (κ 0 0) ss σ 2), stW cI (pushA (κ 0 0) sa 3) (pushS (κ 0 0) ss σ 3), stW cI (pushA (κ 0 0) sa 4) (pushS (κ 0 0) ss σ 4), stW cI (pushA (κ 0 0) sa 5) (pushS (κ 0 0) ss σ 5), ocW cI o φ, rdW rd ρ, bfW cC bu β, ouW cL ob f]) hD [4, 5, 6, 7, 8, 9, 10, 11, 12, 0, 1, 2, 3] (by decide) rfl
    refine lv_i2l (v := iL (r1)) hx hb dL_transfer_12 rfl ?_
    refine wi_last hx hb hK hP hD hS 98 3 rfl rfl dL_transfer_13 (fun H locs hP hD hS => ?_)
    have hP : va_P D vwCl (fl [mnW x a sv o rd bu ln, stW cI a (addS σ (q) (ff) (-(k)) (t)), svO cO sv (saF (pushA (κ 0 0) sa)) (sU κ 0 0 (pushK (κ 0 0))), stW cI (pushA (κ 0 0) sa 0) (pushS (κ 0 0) ss σ 0), stW cI (pushA (κ 0 0) sa 1) (pushS (κ 0 0) ss σ 1), stW cI (pushA (κ 0 0) sa 2) (pushS (κ 0 0) ss σ 2), stW cI (pushA (κ 0 0) sa 3) (pushS (κ 0 0) ss σ 3), stW cI (pushA (κ 0 0) sa 4) (pushS (κ 0 0) ss σ 4), stW cI (pushA (κ 0 0) sa 5) (pushS (κ 0 0) ss σ 5), ocW cI o φ, rdW rd ρ, bfW cC bu β, ouW cL ob (fun _ => (iL (r1)))]) H := hP
    have hD : va_D A (fl [mnW x a sv o rd bu ln, stW cI a (addS σ (q) (ff) (-(k)) (t)), svO cO sv (saF (pushA (κ 0 0) sa)) (sU κ 0 0 (pushK (κ 0 0))), stW cI (pushA (κ 0 0) sa 0) (pushS (κ 0 0) ss σ 0), stW cI (pushA (κ 0 0) sa 1) (pushS (κ 0 0) ss σ 1), stW cI (pushA (κ 0 0) sa 2) (pushS (κ 0 0) ss σ 2), stW cI (pushA (κ 0 0) sa 3) (pushS (κ 0 0) ss σ 3), stW cI (pushA (κ 0 0) sa 4) (pushS (κ 0 0) ss σ 4), stW cI (pushA (κ 0 0) sa 5) (pushS (κ 0 0) ss σ 5), ocW cI o φ, rdW rd ρ, bfW cC bu β, ouW cL ob (fun _ => (iL (r1)))]) := hD
    refine lv_goto (tgt := 29) hx hb dL_transfer_14 (by decide) ?_
    refine wi_iconst hx hb dL_transfer_29 ?_
    refine W.widen (k := 1) (n := 6) (by decide) (by decide) ?_
    exact W.iret (v := iI (0)) hx hb hr (fun t9 ht9 hW9 => ⟨⟨(0), ⟨ln, (addS σ (q) (ff) (-(k)) (t)), (sU κ 0 0 (pushK (κ 0 0))), (pushA (κ 0 0) sa), pushS (κ 0 0) ss σ, φ, ρ, β, (fun _ => (iL (r1)))⟩, rfl, (OPL.good h9 rfl (congrArg (fun z : Int => fun _ : Nat => iL z) hcl2) ⟨rfl, rfl, rfl, rfl, rfl⟩), ⟨by rw [ht9]; exact hP, va_K.moved hW9.alike hK, hD⟩⟩, hS.F ht9⟩) hS.2.2 dL_transfer_30 hlocks
  · skip
    have cx9 := x_X4_transfer l hl9 D cI cO cC cL x a sv o rd bu ln σ q ff t k (by first | assumption | omega) (by first | assumption | omega) (by first | assumption | omega) (by first | assumption | omega) hI (by rw [h9]; decide)
    rw [h9, show xnA 1 = "java/lang/IndexOutOfBoundsException" from rfl] at cx9
    have hPc := fl_P (S' := [mnW x a sv o rd bu ln, stW cI a σ]) hP [0, 1] rfl
    have hKc := hK.sub (tys' := [(cI, FieldType.int), (cO, FieldType.object "PromisedCounters$State"), (cC, FieldType.char)]) [0, 1, 2] rfl
    have hcl13 := hts (Cond.classLink RL 13 "java/lang/IndexOutOfBoundsException") (by decide +kernel)
    have hcst : (Cond.castable "java/lang/IndexOutOfBoundsException" "java/lang/IndexOutOfBoundsException").before ([.ref (x 0), .int (iI (q)), .int (iI (ff)), .int (iI (t)), .int (iI (k)), .ref (ob 0)] : List Value).toArray s = true := va_Nw.use (ZB_tabs _ (by decide)) (hZ.2.2.1 (Cond.castable "java/lang/IndexOutOfBoundsException" "java/lang/IndexOutOfBoundsException") (by decide))
    refine catchX (vx_runV (As := [.int (iI (q)), .int (iI (ff)), .int (iI (t)), .int (iI (k))]) (rest := [.int (iI (0)), .ref (ob 0)]) ⟨hx, hb, hml, hown, hts⟩ cx9 (cwV 4 hts gL_transfer_X4_transfer rfl rfl rfl (by decide +kernel) ⟨Nat.le_of_ble_eq_true rfl, Nat.le_of_ble_eq_true rfl⟩) ⟨pcX_blind, va_recv hKc hPc (ci := 4) (q0 := 0) rfl rfl, pcX_of hPc hKc hZ⟩ rfl rfl hl.1 rfl (lv_room (Nat.le_of_ble_eq_true rfl)) dL_transfer_9 ⟨Nat.le_of_ble_eq_true rfl, Nat.le_of_ble_eq_true rfl⟩) hP hS hown [] ⟨0, 14, 17, 13⟩ [⟨0, 14, 21, 15⟩, ⟨0, 14, 25, 17⟩] htab (fun z hz => nomatch hz) (by decide) (by decide) hcl13 hcst (fun H locs xq hP hS => ?_)
    refine lv_astore (lv' := [(6, .ref (xq)), (0, .ref (x 0)), (1, .int (iI (q))), (2, .int (iI (ff))), (3, .int (iI (t))), (4, .int (iI (k))), (5, .ref (ob 0))]) hx hb dL_transfer_17 hl (by decide) rfl (fun ls hl => ?_)
    refine wi_iconst hx hb dL_transfer_19 ?_
    refine W.widen (k := 1) (n := 6) (by decide) (by decide) ?_
    exact W.iret (v := iI (1)) hx hb hr (fun t9 ht9 hW9 => ⟨⟨(1), ⟨ln, σ, κ, sa, ss, φ, ρ, β, f⟩, rfl, (OPL.bad h9 (by decide) rfl ⟨rfl, rfl, rfl, rfl, rfl⟩), ⟨by rw [ht9]; exact hP, va_K.moved hW9.alike hK, hD⟩⟩, hS.F ht9⟩) hS.2.2 dL_transfer_20 hlocks
  · skip
    have cx9 := x_X4_transfer l hl9 D cI cO cC cL x a sv o rd bu ln σ q ff t k (by first | assumption | omega) (by first | assumption | omega) (by first | assumption | omega) (by first | assumption | omega) hI (by rw [h9]; decide)
    rw [h9, show xnA 2 = "java/lang/IllegalArgumentException" from rfl] at cx9
    have hPc := fl_P (S' := [mnW x a sv o rd bu ln, stW cI a σ]) hP [0, 1] rfl
    have hKc := hK.sub (tys' := [(cI, FieldType.int), (cO, FieldType.object "PromisedCounters$State"), (cC, FieldType.char)]) [0, 1, 2] rfl
    have hcl13 := hts (Cond.classLink RL 13 "java/lang/IndexOutOfBoundsException") (by decide +kernel)
    have hcl15 := hts (Cond.classLink RL 15 "java/lang/IllegalArgumentException") (by decide +kernel)
    have hcst : (Cond.castable "java/lang/IllegalArgumentException" "java/lang/IllegalArgumentException").before ([.ref (x 0), .int (iI (q)), .int (iI (ff)), .int (iI (t)), .int (iI (k)), .ref (ob 0)] : List Value).toArray s = true := va_Nw.use (ZB_tabs _ (by decide)) (hZ.2.2.1 (Cond.castable "java/lang/IllegalArgumentException" "java/lang/IllegalArgumentException") (by decide))
    refine catchX (vx_runV (As := [.int (iI (q)), .int (iI (ff)), .int (iI (t)), .int (iI (k))]) (rest := [.int (iI (0)), .ref (ob 0)]) ⟨hx, hb, hml, hown, hts⟩ cx9 (cwV 4 hts gL_transfer_X4_transfer rfl rfl rfl (by decide +kernel) ⟨Nat.le_of_ble_eq_true rfl, Nat.le_of_ble_eq_true rfl⟩) ⟨pcX_blind, va_recv hKc hPc (ci := 4) (q0 := 0) rfl rfl, pcX_of hPc hKc hZ⟩ rfl rfl hl.1 rfl (lv_room (Nat.le_of_ble_eq_true rfl)) dL_transfer_9 ⟨Nat.le_of_ble_eq_true rfl, Nat.le_of_ble_eq_true rfl⟩) hP hS hown [⟨0, 14, 17, 13⟩] ⟨0, 14, 21, 15⟩ [⟨0, 14, 25, 17⟩] htab (fun z hz => by cases List.mem_singleton.mp hz; exact Or.inr ⟨by decide, _, hcl13, hZ.2.2.2.1⟩) (by decide) (by decide) hcl15 hcst (fun H locs xq hP hS => ?_)
    refine lv_astore (lv' := [(6, .ref (xq)), (0, .ref (x 0)), (1, .int (iI (q))), (2, .int (iI (ff))), (3, .int (iI (t))), (4, .int (iI (k))), (5, .ref (ob 0))]) hx hb dL_transfer_21 hl (by decide) rfl (fun ls hl => ?_)
    refine wi_iconst hx hb dL_transfer_23 ?_
    refine W.widen (k := 1) (n := 6) (by decide) (by decide) ?_
    exact W.iret (v := iI (2)) hx hb hr (fun t9 ht9 hW9 => ⟨⟨(2), ⟨ln, σ, κ, sa, ss, φ, ρ, β, f⟩, rfl, (OPL.bad h9 (by decide) rfl ⟨rfl, rfl, rfl, rfl, rfl⟩), ⟨by rw [ht9]; exact hP, va_K.moved hW9.alike hK, hD⟩⟩, hS.F ht9⟩) hS.2.2 dL_transfer_24 hlocks
  · skip
    have cx9 := x_X4_transfer l hl9 D cI cO cC cL x a sv o rd bu ln σ q ff t k (by first | assumption | omega) (by first | assumption | omega) (by first | assumption | omega) (by first | assumption | omega) hI (by rw [h9]; decide)
    rw [h9, show xnA 3 = "java/lang/IllegalStateException" from rfl] at cx9
    have hPc := fl_P (S' := [mnW x a sv o rd bu ln, stW cI a σ]) hP [0, 1] rfl
    have hKc := hK.sub (tys' := [(cI, FieldType.int), (cO, FieldType.object "PromisedCounters$State"), (cC, FieldType.char)]) [0, 1, 2] rfl
    have hcl13 := hts (Cond.classLink RL 13 "java/lang/IndexOutOfBoundsException") (by decide +kernel)
    have hcl15 := hts (Cond.classLink RL 15 "java/lang/IllegalArgumentException") (by decide +kernel)
    have hcl17 := hts (Cond.classLink RL 17 "java/lang/IllegalStateException") (by decide +kernel)
    have hcst : (Cond.castable "java/lang/IllegalStateException" "java/lang/IllegalStateException").before ([.ref (x 0), .int (iI (q)), .int (iI (ff)), .int (iI (t)), .int (iI (k)), .ref (ob 0)] : List Value).toArray s = true := va_Nw.use (ZB_tabs _ (by decide)) (hZ.2.2.1 (Cond.castable "java/lang/IllegalStateException" "java/lang/IllegalStateException") (by decide))
    refine catchX (vx_runV (As := [.int (iI (q)), .int (iI (ff)), .int (iI (t)), .int (iI (k))]) (rest := [.int (iI (0)), .ref (ob 0)]) ⟨hx, hb, hml, hown, hts⟩ cx9 (cwV 4 hts gL_transfer_X4_transfer rfl rfl rfl (by decide +kernel) ⟨Nat.le_of_ble_eq_true rfl, Nat.le_of_ble_eq_true rfl⟩) ⟨pcX_blind, va_recv hKc hPc (ci := 4) (q0 := 0) rfl rfl, pcX_of hPc hKc hZ⟩ rfl rfl hl.1 rfl (lv_room (Nat.le_of_ble_eq_true rfl)) dL_transfer_9 ⟨Nat.le_of_ble_eq_true rfl, Nat.le_of_ble_eq_true rfl⟩) hP hS hown [⟨0, 14, 17, 13⟩, ⟨0, 14, 21, 15⟩] ⟨0, 14, 25, 17⟩ [] htab (fun z hz => (List.mem_cons.mp hz).elim (fun h8 => by cases h8; exact Or.inr ⟨by decide, _, hcl13, hZ.2.2.2.2.1⟩) (fun h8 => by cases List.mem_singleton.mp h8; exact Or.inr ⟨by decide, _, hcl15, hZ.2.2.2.2.2⟩)) (by decide) (by decide) hcl17 hcst (fun H locs xq hP hS => ?_)
    refine lv_astore (lv' := [(6, .ref (xq)), (0, .ref (x 0)), (1, .int (iI (q))), (2, .int (iI (ff))), (3, .int (iI (t))), (4, .int (iI (k))), (5, .ref (ob 0))]) hx hb dL_transfer_25 hl (by decide) rfl (fun ls hl => ?_)
    refine wi_iconst hx hb dL_transfer_27 ?_
    refine W.widen (k := 1) (n := 6) (by decide) (by decide) ?_
    exact W.iret (v := iI (3)) hx hb hr (fun t9 ht9 hW9 => ⟨⟨(3), ⟨ln, σ, κ, sa, ss, φ, ρ, β, f⟩, rfl, (OPL.bad h9 (by decide) rfl ⟨rfl, rfl, rfl, rfl, rfl⟩), ⟨by rw [ht9]; exact hP, va_K.moved hW9.alike hK, hD⟩⟩, hS.F ht9⟩) hS.2.2 dL_transfer_28 hlocks
set_option maxHeartbeats 4000000 in
set_option maxRecDepth 100000 in
theorem lk_settle (l : Launch) (hl9 : l.stackTraces = false) (D : va_G) (cI cO cC cL : ClassId) (sz : Nat) (x a sv o rd bu ob : Nat → Nat) (ln σ κ φ ρ β : Nat → Int → Int) (sa : Nat → Nat → Nat) (ss : Nat → Nat → Int → Int) (f : Nat → Int64) (p : Int) (hp : R32 p) (hG : GI σ (κ 0 0) ss (ln 0 0) (β 1)) : Met l yL_settle wsL_settle ({ frames := 8, cells := 1, slots := 6, locals := 163 } : Room) (pcWX D [(cI, FieldType.int), (cO, FieldType.object "PromisedCounters$State"), (cC, FieldType.char), (cL, FieldType.long)] [.ref (x 0), .int (iI (p)), .ref (ob 0)] (fl [mnW x a sv o rd bu ln, stW cI a σ, svO cO sv (saF sa) κ, stW cI (sa 0) (ss 0), stW cI (sa 1) (ss 1), stW cI (sa 2) (ss 2), stW cI (sa 3) (ss 3), stW cI (sa 4) (ss 4), stW cI (sa 5) (ss 5), ocW cI o φ, rdW rd ρ, bfW cC bu β, ouW cL ob f]) sz) (wq_i (fun (r : Int) (u : LwS) => OPL (cd1 (0 ≤ p ∧ p < σ 0 1)) r (setS σ p 2 (σ 6 p)) (LwS.f u) (LwQ u σ (κ 0 0) ss (ln 0 0) (β 1)) (LwQ u (setS σ p) (pushK (κ 0 0)) (pushS (κ 0 0) ss σ) (ln 0 0) (β 1))) (fun (u : LwS) => (bW D [(cI, FieldType.int), (cO, FieldType.object "PromisedCounters$State"), (cC, FieldType.char), (cL, FieldType.long)] (fl [mnW x a sv o rd bu (LwS.ln u), stW cI a (LwS.σ u), svO cO sv (saF (LwS.sa u)) (LwS.κ u), stW cI (LwS.sa u 0) (LwS.ss u 0), stW cI (LwS.sa u 1) (LwS.ss u 1), stW cI (LwS.sa u 2) (LwS.ss u 2), stW cI (LwS.sa u 3) (LwS.ss u 3), stW cI (LwS.sa u 4) (LwS.ss u 4), stW cI (LwS.sa u 5) (LwS.ss u 5), ocW cI o (LwS.φ u), rdW rd (LwS.ρ u), bfW cC bu (LwS.β u), ouW cL ob (LwS.f u)]) (va_A (fl [mnW x a sv o rd bu ln, stW cI a σ, svO cO sv (saF sa) κ, stW cI (sa 0) (ss 0), stW cI (sa 1) (ss 1), stW cI (sa 2) (ss 2), stW cI (sa 3) (ss 3), stW cI (sa 4) (ss 4), stW cI (sa 5) (ss 5), ocW cI o φ, rdW rd ρ, bfW cC bu β, ouW cL ob f]) sz))) (va_A (fl [mnW x a sv o rd bu ln, stW cI a σ, svO cO sv (saF sa) κ, stW cI (sa 0) (ss 0), stW cI (sa 1) (ss 1), stW cI (sa 2) (ss 2), stW cI (sa 3) (ss 3), stW cI (sa 4) (ss 4), stW cI (sa 5) (ss 5), ocW cI o φ, rdW rd ρ, bfW cC bu β, ouW cL ob f]) sz)) 1 6 (va_A (fl [mnW x a sv o rd bu ln, stW cI a σ, svO cO sv (saF sa) κ, stW cI (sa 0) (ss 0), stW cI (sa 1) (ss 1), stW cI (sa 2) (ss 2), stW cI (sa 3) (ss 3), stW cI (sa 4) (ss 4), stW cI (sa 5) (ss 5), ocW cI o φ, rdW rd ρ, bfW cC bu β, ouW cL ob f]) sz) := by
  refine metH ([(0, 9, 12, 13)]) (cc := cL_settle) (maxL := 4) (ret := (some .int)) (by decide) rfl ?_
  intro p9 e9 s m args9 below9 meth9 c9 s₁ B hml htab hv
  obtain ⟨rfl, hsz, hP, hK, hD0, hZ⟩ := hv
  have hx := B.exec
  have hb := B.bytes
  have hr := B.returns
  have hts := atoms_spec (ws := wsL_settle) B.pre
  have hown : s.vm.findClass RL = some m.cls := findClass_of_methodNamed B.named
  have hlocks := B.notSynchronized
  subst hsz
  have hD := hD0.self (sz := s.heap.size)
  generalize hAe : va_A (fl [mnW x a sv o rd bu ln, stW cI a σ, svO cO sv (saF sa) κ, stW cI (sa 0) (ss 0), stW cI (sa 1) (ss 1), stW cI (sa 2) (ss 2), stW cI (sa 3) (ss 3), stW cI (sa 4) (ss 4), stW cI (sa 5) (ss 5), ocW cI o φ, rdW rd ρ, bfW cC bu β, ouW cL ob f]) s.heap.size = A at hD hZ ⊢
  have hA : ∀ q : Nat, s.heap.size ≤ q → A q := fun q h => by rw [← hAe]; exact Or.inr h
  have hS : va_S A s.heap s.heap [] := va_S.rf
  have hP : va_P D vwCl (fl [mnW x a sv o rd bu ln, stW cI a σ, svO cO sv (saF sa) κ, stW cI (sa 0) (ss 0), stW cI (sa 1) (ss 1), stW cI (sa 2) (ss 2), stW cI (sa 3) (ss 3), stW cI (sa 4) (ss 4), stW cI (sa 5) (ss 5), ocW cI o φ, rdW rd ρ, bfW cC bu β, ouW cL ob f]) s.heap := hP
  have hl := lv_entry ([.ref (x 0), .int (iI (p)), .ref (ob 0)]) (n := 4) (Nat.le_of_ble_eq_true rfl)
  rw [lg_entry_eq]
  generalize (lg_sl ([.ref (x 0), .int (iI (p)), .ref (ob 0)]) ++ List.replicate (4 - (lg_sl ([.ref (x 0), .int (iI (p)), .ref (ob 0)])).length) Slot.unset).toArray = ls at hl ⊢
  have hl : lv_has ls 4 [(0, .ref (x 0)), (1, .int (iI (p))), (2, .ref (ob 0))] := hl
  have hI := hG.1
  have hkk := hG.2.1
  have hlnb := hG.2.2.2.1
  have hbb := hG.2.2.2.2
  have hnn := hI.n
  have htt := hI.t
  refine lv_aload_n hx hb dL_settle_0 rfl (lv_at hl 2 rfl) ?_
  refine wi_iconst hx hb dL_settle_1 ?_
  refine lv_aload_n hx hb dL_settle_2 rfl (lv_at hl 0 rfl) ?_
  refine lv_iload_n hx hb dL_settle_3 rfl (lv_at hl 1 rfl) ?_
  rcases (cd1_c : (cd1 (0 ≤ p ∧ p < σ 0 1) = 0 ∧ _) ∨ _) with ⟨h9, hok0⟩ | h9
  · skip
    have hPc := fl_P (S' := [mnW x a sv o rd bu ln, stW cI a σ, svO cO sv (saF sa) κ, stW cI (sa 0) (ss 0), stW cI (sa 1) (ss 1), stW cI (sa 2) (ss 2), stW cI (sa 3) (ss 3), stW cI (sa 4) (ss 4), stW cI (sa 5) (ss 5)]) hP [0, 1, 2, 3, 4, 5, 6, 7, 8] rfl
    have hKc := hK.sub (tys' := [(cI, FieldType.int), (cO, FieldType.object "PromisedCounters$State"), (cC, FieldType.char)]) [0, 1, 2] rfl
    have hDc := fl_D (S' := [mnW x a sv o rd bu ln, stW cI a σ, svO cO sv (saF sa) κ, stW cI (sa 0) (ss 0), stW cI (sa 1) (ss 1), stW cI (sa 2) (ss 2), stW cI (sa 3) (ss 3), stW cI (sa 4) (ss 4), stW cI (sa 5) (ss 5)]) hD [0, 1, 2, 3, 4, 5, 6, 7, 8] (by decide) rfl
    have hFc := fl_free (SC := [mnW x a sv o rd bu ln, stW cI a σ, svO cO sv (saF sa) κ, stW cI (sa 0) (ss 0), stW cI (sa 1) (ss 1), stW cI (sa 2) (ss 2), stW cI (sa 3) (ss 3), stW cI (sa 4) (ss 4), stW cI (sa 5) (ss 5)]) hD hS hA [0, 1, 2, 3, 4, 5, 6, 7, 8] rfl
    refine wq_calli (va_runV (As := [.int (iI (p))]) (rest := [.int (iI (0)), .ref (ob 0)]) ⟨hx, hb, hml, hown, hts⟩ (c_X4_settle l D cI cO cC cL s.heap.size x a sv o rd bu ln σ κ sa ss (p) (by first | assumption | omega) (by first | assumption | omega) (by first | assumption | omega)) (cwV 1 hts gL_settle_X4_settle rfl rfl rfl (by decide +kernel) ⟨Nat.le_of_ble_eq_true rfl, Nat.le_of_ble_eq_true rfl⟩) ⟨pcW_blind, va_recv hKc hPc (ci := 4) (q0 := 0) rfl rfl, pcW_of hPc hKc hDc⟩ rfl rfl hl.1 rfl (lv_room (Nat.le_of_ble_eq_true rfl)) dL_settle_4 ⟨(Nat.zero_le _), (Nat.zero_le _)⟩) hS (fun q _ h => hFc q h) hFc (fun r1 u3 t9 H1 locs ht9 hvm hcl2 hB hz1 hk1 hS => ?_)
    obtain ⟨hP1, hK1, hD1⟩ := hB
    rw [ht9] at hP1
    obtain ⟨hP, hD⟩ := fl_join (SR := [ocW cI o φ, rdW rd ρ, bfW cC bu β, ouW cL ob f]) (S1 := [mnW x a sv o rd bu ln, stW cI a (setS σ (p)), svO cO sv (saF (pushA (κ 0 0) sa)) (sU κ 0 0 (pushK (κ 0 0))), stW cI (pushA (κ 0 0) sa 0) (pushS (κ 0 0) ss σ 0), stW cI (pushA (κ 0 0) sa 1) (pushS (κ 0 0) ss σ 1), stW cI (pushA (κ 0 0) sa 2) (pushS (κ 0 0) ss σ 2), stW cI (pushA (κ 0 0) sa 3) (pushS (κ 0 0) ss σ 3), stW cI (pushA (κ 0 0) sa 4) (pushS (κ 0 0) ss σ 4), stW cI (pushA (κ 0 0) sa 5) (pushS (κ 0 0) ss σ 5)]) hP hD [0, 1, 2, 3, 4, 5, 6, 7, 8] [9, 10, 11, 12] rfl rfl (by decide) (by decide) hk1 hFc hP1 hD1
    generalize H1 = H at hP hS ⊢
    have hP := fl_P (S' := [mnW x a sv o rd bu ln, stW cI a (setS σ (p)), svO cO sv (saF (pushA (κ 0 0) sa)) (sU κ 0 0 (pushK (κ 0 0))), stW cI (pushA (κ 0 0) sa 0) (pushS (κ 0 0) ss σ 0), stW cI (pushA (κ 0 0) sa 1) (pushS (κ 0 0) ss σ 1), stW cI (pushA (κ 0 0) sa 2) (pushS (κ 0 0) ss σ 2), stW cI (pushA (κ 0 0) sa 3) (pushS (κ 0 0) ss σ 3), stW cI (pushA (κ 0 0) sa 4) (pushS (κ 0 0) ss σ 4), stW cI (pushA (κ 0 0) sa 5) (pushS (κ 0 0) ss σ 5), ocW cI o φ, rdW rd ρ, bfW cC bu β, ouW cL ob f]) hP [4, 5, 6, 7, 8, 9, 10, 11, 12, 0, 1, 2, 3] rfl
    have hD := fl_D (S' := [mnW x a sv o rd bu ln, stW cI a (setS σ (p)), svO cO sv (saF (pushA (κ 0 0) sa)) (sU κ 0 0 (pushK (κ 0 0))), stW cI (pushA (κ 0 0) sa 0) (pushS (κ 0 0) ss σ 0), stW cI (pushA (κ 0 0) sa 1) (pushS (κ 0 0) ss σ 1), stW cI (pushA (κ 0 0) sa 2) (pushS (κ 0 0) ss σ 2), stW cI (pushA (κ 0 0) sa 3) (pushS (κ 0 0) ss σ 3), stW cI (pushA (κ 0 0) sa 4) (pushS (κ 0 0) ss σ 4), stW cI (pushA (κ 0 0) sa 5) (pushS (κ 0 0) ss σ 5), ocW cI o φ, rdW rd ρ, bfW cC bu β, ouW cL ob f]) hD [4, 5, 6, 7, 8, 9, 10, 11, 12, 0, 1, 2, 3] (by decide) rfl
    refine lv_i2l (v := iL (r1)) hx hb dL_settle_7 rfl ?_
    refine wi_last hx hb hK hP hD hS 98 3 rfl rfl dL_settle_8 (fun H locs hP hD hS => ?_)
    have hP : va_P D vwCl (fl [mnW x a sv o rd bu ln, stW cI a (setS σ (p)), svO cO sv (saF (pushA (κ 0 0) sa)) (sU κ 0 0 (pushK (κ 0 0))), stW cI (pushA (κ 0 0) sa 0) (pushS (κ 0 0) ss σ 0), stW cI (pushA (κ 0 0) sa 1) (pushS (κ 0 0) ss σ 1), stW cI (pushA (κ 0 0) sa 2) (pushS (κ 0 0) ss σ 2), stW cI (pushA (κ 0 0) sa 3) (pushS (κ 0 0) ss σ 3), stW cI (pushA (κ 0 0) sa 4) (pushS (κ 0 0) ss σ 4), stW cI (pushA (κ 0 0) sa 5) (pushS (κ 0 0) ss σ 5), ocW cI o φ, rdW rd ρ, bfW cC bu β, ouW cL ob (fun _ => (iL (r1)))]) H := hP
    have hD : va_D A (fl [mnW x a sv o rd bu ln, stW cI a (setS σ (p)), svO cO sv (saF (pushA (κ 0 0) sa)) (sU κ 0 0 (pushK (κ 0 0))), stW cI (pushA (κ 0 0) sa 0) (pushS (κ 0 0) ss σ 0), stW cI (pushA (κ 0 0) sa 1) (pushS (κ 0 0) ss σ 1), stW cI (pushA (κ 0 0) sa 2) (pushS (κ 0 0) ss σ 2), stW cI (pushA (κ 0 0) sa 3) (pushS (κ 0 0) ss σ 3), stW cI (pushA (κ 0 0) sa 4) (pushS (κ 0 0) ss σ 4), stW cI (pushA (κ 0 0) sa 5) (pushS (κ 0 0) ss σ 5), ocW cI o φ, rdW rd ρ, bfW cC bu β, ouW cL ob (fun _ => (iL (r1)))]) := hD
    refine lv_goto (tgt := 15) hx hb dL_settle_9 (by decide) ?_
    refine wi_iconst hx hb dL_settle_15 ?_
    refine W.widen (k := 1) (n := 6) (by decide) (by decide) ?_
    exact W.iret (v := iI (0)) hx hb hr (fun t9 ht9 hW9 => ⟨⟨(0), ⟨ln, (setS σ (p)), (sU κ 0 0 (pushK (κ 0 0))), (pushA (κ 0 0) sa), pushS (κ 0 0) ss σ, φ, ρ, β, (fun _ => (iL (r1)))⟩, rfl, (OPL.good h9 rfl (congrArg (fun z : Int => fun _ : Nat => iL z) hcl2) ⟨rfl, rfl, rfl, rfl, rfl⟩), ⟨by rw [ht9]; exact hP, va_K.moved hW9.alike hK, hD⟩⟩, hS.F ht9⟩) hS.2.2 dL_settle_16 hlocks
  · skip
    have cx9 := x_X4_settle l hl9 D cI cO cC cL x a sv o rd bu ln σ p (by first | assumption | omega) hI (by rw [h9]; decide)
    rw [h9, show xnA 1 = "java/lang/IndexOutOfBoundsException" from rfl] at cx9
    have hPc := fl_P (S' := [mnW x a sv o rd bu ln, stW cI a σ]) hP [0, 1] rfl
    have hKc := hK.sub (tys' := [(cI, FieldType.int), (cO, FieldType.object "PromisedCounters$State"), (cC, FieldType.char)]) [0, 1, 2] rfl
    have hcl13 := hts (Cond.classLink RL 13 "java/lang/IndexOutOfBoundsException") (by decide +kernel)
    have hcst : (Cond.castable "java/lang/IndexOutOfBoundsException" "java/lang/IndexOutOfBoundsException").before ([.ref (x 0), .int (iI (p)), .ref (ob 0)] : List Value).toArray s = true := va_Nw.use (ZB_tabs _ (by decide)) (hZ.2.2.1 (Cond.castable "java/lang/IndexOutOfBoundsException" "java/lang/IndexOutOfBoundsException") (by decide))
    refine catchX (vx_runV (As := [.int (iI (p))]) (rest := [.int (iI (0)), .ref (ob 0)]) ⟨hx, hb, hml, hown, hts⟩ cx9 (cwV 1 hts gL_settle_X4_settle rfl rfl rfl (by decide +kernel) ⟨Nat.le_of_ble_eq_true rfl, Nat.le_of_ble_eq_true rfl⟩) ⟨pcX_blind, va_recv hKc hPc (ci := 4) (q0 := 0) rfl rfl, pcX_of hPc hKc hZ⟩ rfl rfl hl.1 rfl (lv_room (Nat.le_of_ble_eq_true rfl)) dL_settle_4 ⟨Nat.le_of_ble_eq_true rfl, Nat.le_of_ble_eq_true rfl⟩) hP hS hown [] ⟨0, 9, 12, 13⟩ [] htab (fun z hz => nomatch hz) (by decide) (by decide) hcl13 hcst (fun H locs xq hP hS => ?_)
    refine lv_astore_n (lv' := [(3, .ref (xq)), (0, .ref (x 0)), (1, .int (iI (p))), (2, .ref (ob 0))]) hx hb dL_settle_12 rfl hl (by decide) rfl (fun ls hl => ?_)
    refine wi_iconst hx hb dL_settle_13 ?_
    refine W.widen (k := 1) (n := 6) (by decide) (by decide) ?_
    exact W.iret (v := iI (1)) hx hb hr (fun t9 ht9 hW9 => ⟨⟨(1), ⟨ln, σ, κ, sa, ss, φ, ρ, β, f⟩, rfl, (OPL.bad h9 (by decide) rfl ⟨rfl, rfl, rfl, rfl, rfl⟩), ⟨by rw [ht9]; exact hP, va_K.moved hW9.alike hK, hD⟩⟩, hS.F ht9⟩) hS.2.2 dL_settle_14 hlocks
set_option maxHeartbeats 4000000 in
set_option maxRecDepth 100000 in
theorem lk_settlePart (l : Launch) (hl9 : l.stackTraces = false) (D : va_G) (cI cO cC cL : ClassId) (sz : Nat) (x a sv o rd bu ob : Nat → Nat) (ln σ κ φ ρ β : Nat → Int → Int) (sa : Nat → Nat → Nat) (ss : Nat → Nat → Int → Int) (f : Nat → Int64) (p q : Int) (hp : R32 p) (hq : R32 q) (hG : GI σ (κ 0 0) ss (ln 0 0) (β 1)) : Met l yL_settlePart wsL_settlePart ({ frames := 8, cells := 1, slots := 6, locals := 165 } : Room) (pcWX D [(cI, FieldType.int), (cO, FieldType.object "PromisedCounters$State"), (cC, FieldType.char), (cL, FieldType.long)] [.ref (x 0), .int (iI (p)), .int (iI (q)), .ref (ob 0)] (fl [mnW x a sv o rd bu ln, stW cI a σ, svO cO sv (saF sa) κ, stW cI (sa 0) (ss 0), stW cI (sa 1) (ss 1), stW cI (sa 2) (ss 2), stW cI (sa 3) (ss 3), stW cI (sa 4) (ss 4), stW cI (sa 5) (ss 5), ocW cI o φ, rdW rd ρ, bfW cC bu β, ouW cL ob f]) sz) (wq_i (fun (r : Int) (u : LwS) => OPL (cd2 (0 ≤ p ∧ p < σ 0 1) (1 ≤ q ∧ q ≤ aI (σ 7 p) - 1)) r (σ 7 p - prtX σ p q) (LwS.f u) (LwQ u σ (κ 0 0) ss (ln 0 0) (β 1)) (LwQ u (prtS σ p q) (pushK (κ 0 0)) (pushS (κ 0 0) ss σ) (ln 0 0) (β 1))) (fun (u : LwS) => (bW D [(cI, FieldType.int), (cO, FieldType.object "PromisedCounters$State"), (cC, FieldType.char), (cL, FieldType.long)] (fl [mnW x a sv o rd bu (LwS.ln u), stW cI a (LwS.σ u), svO cO sv (saF (LwS.sa u)) (LwS.κ u), stW cI (LwS.sa u 0) (LwS.ss u 0), stW cI (LwS.sa u 1) (LwS.ss u 1), stW cI (LwS.sa u 2) (LwS.ss u 2), stW cI (LwS.sa u 3) (LwS.ss u 3), stW cI (LwS.sa u 4) (LwS.ss u 4), stW cI (LwS.sa u 5) (LwS.ss u 5), ocW cI o (LwS.φ u), rdW rd (LwS.ρ u), bfW cC bu (LwS.β u), ouW cL ob (LwS.f u)]) (va_A (fl [mnW x a sv o rd bu ln, stW cI a σ, svO cO sv (saF sa) κ, stW cI (sa 0) (ss 0), stW cI (sa 1) (ss 1), stW cI (sa 2) (ss 2), stW cI (sa 3) (ss 3), stW cI (sa 4) (ss 4), stW cI (sa 5) (ss 5), ocW cI o φ, rdW rd ρ, bfW cC bu β, ouW cL ob f]) sz))) (va_A (fl [mnW x a sv o rd bu ln, stW cI a σ, svO cO sv (saF sa) κ, stW cI (sa 0) (ss 0), stW cI (sa 1) (ss 1), stW cI (sa 2) (ss 2), stW cI (sa 3) (ss 3), stW cI (sa 4) (ss 4), stW cI (sa 5) (ss 5), ocW cI o φ, rdW rd ρ, bfW cC bu β, ouW cL ob f]) sz)) 1 6 (va_A (fl [mnW x a sv o rd bu ln, stW cI a σ, svO cO sv (saF sa) κ, stW cI (sa 0) (ss 0), stW cI (sa 1) (ss 1), stW cI (sa 2) (ss 2), stW cI (sa 3) (ss 3), stW cI (sa 4) (ss 4), stW cI (sa 5) (ss 5), ocW cI o φ, rdW rd ρ, bfW cC bu β, ouW cL ob f]) sz) := by
  refine metH ([(0, 10, 13, 13), (0, 10, 17, 15)]) (cc := cL_settlePart) (maxL := 5) (ret := (some .int)) (by decide) rfl ?_
  intro p9 e9 s m args9 below9 meth9 c9 s₁ B hml htab hv
  obtain ⟨rfl, hsz, hP, hK, hD0, hZ⟩ := hv
  have hx := B.exec
  have hb := B.bytes
  have hr := B.returns
  have hts := atoms_spec (ws := wsL_settlePart) B.pre
  have hown : s.vm.findClass RL = some m.cls := findClass_of_methodNamed B.named
  have hlocks := B.notSynchronized
  subst hsz
  have hD := hD0.self (sz := s.heap.size)
  generalize hAe : va_A (fl [mnW x a sv o rd bu ln, stW cI a σ, svO cO sv (saF sa) κ, stW cI (sa 0) (ss 0), stW cI (sa 1) (ss 1), stW cI (sa 2) (ss 2), stW cI (sa 3) (ss 3), stW cI (sa 4) (ss 4), stW cI (sa 5) (ss 5), ocW cI o φ, rdW rd ρ, bfW cC bu β, ouW cL ob f]) s.heap.size = A at hD hZ ⊢
  have hA : ∀ q : Nat, s.heap.size ≤ q → A q := fun q h => by rw [← hAe]; exact Or.inr h
  have hS : va_S A s.heap s.heap [] := va_S.rf
  have hP : va_P D vwCl (fl [mnW x a sv o rd bu ln, stW cI a σ, svO cO sv (saF sa) κ, stW cI (sa 0) (ss 0), stW cI (sa 1) (ss 1), stW cI (sa 2) (ss 2), stW cI (sa 3) (ss 3), stW cI (sa 4) (ss 4), stW cI (sa 5) (ss 5), ocW cI o φ, rdW rd ρ, bfW cC bu β, ouW cL ob f]) s.heap := hP
  have hl := lv_entry ([.ref (x 0), .int (iI (p)), .int (iI (q)), .ref (ob 0)]) (n := 5) (Nat.le_of_ble_eq_true rfl)
  rw [lg_entry_eq]
  generalize (lg_sl ([.ref (x 0), .int (iI (p)), .int (iI (q)), .ref (ob 0)]) ++ List.replicate (5 - (lg_sl ([.ref (x 0), .int (iI (p)), .int (iI (q)), .ref (ob 0)])).length) Slot.unset).toArray = ls at hl ⊢
  have hl : lv_has ls 5 [(0, .ref (x 0)), (1, .int (iI (p))), (2, .int (iI (q))), (3, .ref (ob 0))] := hl
  have hI := hG.1
  have hkk := hG.2.1
  have hlnb := hG.2.2.2.1
  have hbb := hG.2.2.2.2
  have hnn := hI.n
  have htt := hI.t
  refine lv_aload_n hx hb dL_settlePart_0 rfl (lv_at hl 3 rfl) ?_
  refine wi_iconst hx hb dL_settlePart_1 ?_
  refine lv_aload_n hx hb dL_settlePart_2 rfl (lv_at hl 0 rfl) ?_
  refine lv_iload_n hx hb dL_settlePart_3 rfl (lv_at hl 1 rfl) ?_
  refine lv_iload_n hx hb dL_settlePart_4 rfl (lv_at hl 2 rfl) ?_
  rcases (cd2_c : (cd2 (0 ≤ p ∧ p < σ 0 1) (1 ≤ q ∧ q ≤ aI (σ 7 p) - 1) = 0 ∧ _) ∨ _) with ⟨h9, hok0, hok1⟩ | h9 | h9
  · skip
    have hPc := fl_P (S' := [mnW x a sv o rd bu ln, stW cI a σ, svO cO sv (saF sa) κ, stW cI (sa 0) (ss 0), stW cI (sa 1) (ss 1), stW cI (sa 2) (ss 2), stW cI (sa 3) (ss 3), stW cI (sa 4) (ss 4), stW cI (sa 5) (ss 5)]) hP [0, 1, 2, 3, 4, 5, 6, 7, 8] rfl
    have hKc := hK.sub (tys' := [(cI, FieldType.int), (cO, FieldType.object "PromisedCounters$State"), (cC, FieldType.char)]) [0, 1, 2] rfl
    have hDc := fl_D (S' := [mnW x a sv o rd bu ln, stW cI a σ, svO cO sv (saF sa) κ, stW cI (sa 0) (ss 0), stW cI (sa 1) (ss 1), stW cI (sa 2) (ss 2), stW cI (sa 3) (ss 3), stW cI (sa 4) (ss 4), stW cI (sa 5) (ss 5)]) hD [0, 1, 2, 3, 4, 5, 6, 7, 8] (by decide) rfl
    have hFc := fl_free (SC := [mnW x a sv o rd bu ln, stW cI a σ, svO cO sv (saF sa) κ, stW cI (sa 0) (ss 0), stW cI (sa 1) (ss 1), stW cI (sa 2) (ss 2), stW cI (sa 3) (ss 3), stW cI (sa 4) (ss 4), stW cI (sa 5) (ss 5)]) hD hS hA [0, 1, 2, 3, 4, 5, 6, 7, 8] rfl
    refine wq_calli (va_runV (As := [.int (iI (p)), .int (iI (q))]) (rest := [.int (iI (0)), .ref (ob 0)]) ⟨hx, hb, hml, hown, hts⟩ (c_X4_settlePart l D cI cO cC cL s.heap.size x a sv o rd bu ln σ κ sa ss (p) (q) (by first | assumption | omega) (by first | assumption | omega) (by first | assumption | omega) (by first | assumption | omega)) (cwV 2 hts gL_settlePart_X4_settlePart rfl rfl rfl (by decide +kernel) ⟨Nat.le_of_ble_eq_true rfl, Nat.le_of_ble_eq_true rfl⟩) ⟨pcW_blind, va_recv hKc hPc (ci := 4) (q0 := 0) rfl rfl, pcW_of hPc hKc hDc⟩ rfl rfl hl.1 rfl (lv_room (Nat.le_of_ble_eq_true rfl)) dL_settlePart_5 ⟨(Nat.zero_le _), (Nat.zero_le _)⟩) hS (fun q _ h => hFc q h) hFc (fun r1 u3 t9 H1 locs ht9 hvm hcl2 hB hz1 hk1 hS => ?_)
    obtain ⟨hP1, hK1, hD1⟩ := hB
    rw [ht9] at hP1
    obtain ⟨hP, hD⟩ := fl_join (SR := [ocW cI o φ, rdW rd ρ, bfW cC bu β, ouW cL ob f]) (S1 := [mnW x a sv o rd bu ln, stW cI a (prtS σ (p) (q)), svO cO sv (saF (pushA (κ 0 0) sa)) (sU κ 0 0 (pushK (κ 0 0))), stW cI (pushA (κ 0 0) sa 0) (pushS (κ 0 0) ss σ 0), stW cI (pushA (κ 0 0) sa 1) (pushS (κ 0 0) ss σ 1), stW cI (pushA (κ 0 0) sa 2) (pushS (κ 0 0) ss σ 2), stW cI (pushA (κ 0 0) sa 3) (pushS (κ 0 0) ss σ 3), stW cI (pushA (κ 0 0) sa 4) (pushS (κ 0 0) ss σ 4), stW cI (pushA (κ 0 0) sa 5) (pushS (κ 0 0) ss σ 5)]) hP hD [0, 1, 2, 3, 4, 5, 6, 7, 8] [9, 10, 11, 12] rfl rfl (by decide) (by decide) hk1 hFc hP1 hD1
    generalize H1 = H at hP hS ⊢
    have hP := fl_P (S' := [mnW x a sv o rd bu ln, stW cI a (prtS σ (p) (q)), svO cO sv (saF (pushA (κ 0 0) sa)) (sU κ 0 0 (pushK (κ 0 0))), stW cI (pushA (κ 0 0) sa 0) (pushS (κ 0 0) ss σ 0), stW cI (pushA (κ 0 0) sa 1) (pushS (κ 0 0) ss σ 1), stW cI (pushA (κ 0 0) sa 2) (pushS (κ 0 0) ss σ 2), stW cI (pushA (κ 0 0) sa 3) (pushS (κ 0 0) ss σ 3), stW cI (pushA (κ 0 0) sa 4) (pushS (κ 0 0) ss σ 4), stW cI (pushA (κ 0 0) sa 5) (pushS (κ 0 0) ss σ 5), ocW cI o φ, rdW rd ρ, bfW cC bu β, ouW cL ob f]) hP [4, 5, 6, 7, 8, 9, 10, 11, 12, 0, 1, 2, 3] rfl
    have hD := fl_D (S' := [mnW x a sv o rd bu ln, stW cI a (prtS σ (p) (q)), svO cO sv (saF (pushA (κ 0 0) sa)) (sU κ 0 0 (pushK (κ 0 0))), stW cI (pushA (κ 0 0) sa 0) (pushS (κ 0 0) ss σ 0), stW cI (pushA (κ 0 0) sa 1) (pushS (κ 0 0) ss σ 1), stW cI (pushA (κ 0 0) sa 2) (pushS (κ 0 0) ss σ 2), stW cI (pushA (κ 0 0) sa 3) (pushS (κ 0 0) ss σ 3), stW cI (pushA (κ 0 0) sa 4) (pushS (κ 0 0) ss σ 4), stW cI (pushA (κ 0 0) sa 5) (pushS (κ 0 0) ss σ 5), ocW cI o φ, rdW rd ρ, bfW cC bu β, ouW cL ob f]) hD [4, 5, 6, 7, 8, 9, 10, 11, 12, 0, 1, 2, 3] (by decide) rfl
    refine lv_i2l (v := iL (r1)) hx hb dL_settlePart_8 rfl ?_
    refine wi_last hx hb hK hP hD hS 98 3 rfl rfl dL_settlePart_9 (fun H locs hP hD hS => ?_)
    have hP : va_P D vwCl (fl [mnW x a sv o rd bu ln, stW cI a (prtS σ (p) (q)), svO cO sv (saF (pushA (κ 0 0) sa)) (sU κ 0 0 (pushK (κ 0 0))), stW cI (pushA (κ 0 0) sa 0) (pushS (κ 0 0) ss σ 0), stW cI (pushA (κ 0 0) sa 1) (pushS (κ 0 0) ss σ 1), stW cI (pushA (κ 0 0) sa 2) (pushS (κ 0 0) ss σ 2), stW cI (pushA (κ 0 0) sa 3) (pushS (κ 0 0) ss σ 3), stW cI (pushA (κ 0 0) sa 4) (pushS (κ 0 0) ss σ 4), stW cI (pushA (κ 0 0) sa 5) (pushS (κ 0 0) ss σ 5), ocW cI o φ, rdW rd ρ, bfW cC bu β, ouW cL ob (fun _ => (iL (r1)))]) H := hP
    have hD : va_D A (fl [mnW x a sv o rd bu ln, stW cI a (prtS σ (p) (q)), svO cO sv (saF (pushA (κ 0 0) sa)) (sU κ 0 0 (pushK (κ 0 0))), stW cI (pushA (κ 0 0) sa 0) (pushS (κ 0 0) ss σ 0), stW cI (pushA (κ 0 0) sa 1) (pushS (κ 0 0) ss σ 1), stW cI (pushA (κ 0 0) sa 2) (pushS (κ 0 0) ss σ 2), stW cI (pushA (κ 0 0) sa 3) (pushS (κ 0 0) ss σ 3), stW cI (pushA (κ 0 0) sa 4) (pushS (κ 0 0) ss σ 4), stW cI (pushA (κ 0 0) sa 5) (pushS (κ 0 0) ss σ 5), ocW cI o φ, rdW rd ρ, bfW cC bu β, ouW cL ob (fun _ => (iL (r1)))]) := hD
    refine lv_goto (tgt := 21) hx hb dL_settlePart_10 (by decide) ?_
    refine wi_iconst hx hb dL_settlePart_21 ?_
    refine W.widen (k := 1) (n := 6) (by decide) (by decide) ?_
    exact W.iret (v := iI (0)) hx hb hr (fun t9 ht9 hW9 => ⟨⟨(0), ⟨ln, (prtS σ (p) (q)), (sU κ 0 0 (pushK (κ 0 0))), (pushA (κ 0 0) sa), pushS (κ 0 0) ss σ, φ, ρ, β, (fun _ => (iL (r1)))⟩, rfl, (OPL.good h9 rfl (congrArg (fun z : Int => fun _ : Nat => iL z) hcl2) ⟨rfl, rfl, rfl, rfl, rfl⟩), ⟨by rw [ht9]; exact hP, va_K.moved hW9.alike hK, hD⟩⟩, hS.F ht9⟩) hS.2.2 dL_settlePart_22 hlocks
  · skip
    have cx9 := x_X4_settlePart l hl9 D cI cO cC cL x a sv o rd bu ln σ p q (by first | assumption | omega) (by first | assumption | omega) hI (by rw [h9]; decide)
    rw [h9, show xnA 1 = "java/lang/IndexOutOfBoundsException" from rfl] at cx9
    have hPc := fl_P (S' := [mnW x a sv o rd bu ln, stW cI a σ]) hP [0, 1] rfl
    have hKc := hK.sub (tys' := [(cI, FieldType.int), (cO, FieldType.object "PromisedCounters$State"), (cC, FieldType.char)]) [0, 1, 2] rfl
    have hcl13 := hts (Cond.classLink RL 13 "java/lang/IndexOutOfBoundsException") (by decide +kernel)
    have hcst : (Cond.castable "java/lang/IndexOutOfBoundsException" "java/lang/IndexOutOfBoundsException").before ([.ref (x 0), .int (iI (p)), .int (iI (q)), .ref (ob 0)] : List Value).toArray s = true := va_Nw.use (ZB_tabs _ (by decide)) (hZ.2.2.1 (Cond.castable "java/lang/IndexOutOfBoundsException" "java/lang/IndexOutOfBoundsException") (by decide))
    refine catchX (vx_runV (As := [.int (iI (p)), .int (iI (q))]) (rest := [.int (iI (0)), .ref (ob 0)]) ⟨hx, hb, hml, hown, hts⟩ cx9 (cwV 2 hts gL_settlePart_X4_settlePart rfl rfl rfl (by decide +kernel) ⟨Nat.le_of_ble_eq_true rfl, Nat.le_of_ble_eq_true rfl⟩) ⟨pcX_blind, va_recv hKc hPc (ci := 4) (q0 := 0) rfl rfl, pcX_of hPc hKc hZ⟩ rfl rfl hl.1 rfl (lv_room (Nat.le_of_ble_eq_true rfl)) dL_settlePart_5 ⟨Nat.le_of_ble_eq_true rfl, Nat.le_of_ble_eq_true rfl⟩) hP hS hown [] ⟨0, 10, 13, 13⟩ [⟨0, 10, 17, 15⟩] htab (fun z hz => nomatch hz) (by decide) (by decide) hcl13 hcst (fun H locs xq hP hS => ?_)
    refine lv_astore (lv' := [(4, .ref (xq)), (0, .ref (x 0)), (1, .int (iI (p))), (2, .int (iI (q))), (3, .ref (ob 0))]) hx hb dL_settlePart_13 hl (by decide) rfl (fun ls hl => ?_)
    refine wi_iconst hx hb dL_settlePart_15 ?_
    refine W.widen (k := 1) (n := 6) (by decide) (by decide) ?_
    exact W.iret (v := iI (1)) hx hb hr (fun t9 ht9 hW9 => ⟨⟨(1), ⟨ln, σ, κ, sa, ss, φ, ρ, β, f⟩, rfl, (OPL.bad h9 (by decide) rfl ⟨rfl, rfl, rfl, rfl, rfl⟩), ⟨by rw [ht9]; exact hP, va_K.moved hW9.alike hK, hD⟩⟩, hS.F ht9⟩) hS.2.2 dL_settlePart_16 hlocks
  · skip
    have cx9 := x_X4_settlePart l hl9 D cI cO cC cL x a sv o rd bu ln σ p q (by first | assumption | omega) (by first | assumption | omega) hI (by rw [h9]; decide)
    rw [h9, show xnA 2 = "java/lang/IllegalArgumentException" from rfl] at cx9
    have hPc := fl_P (S' := [mnW x a sv o rd bu ln, stW cI a σ]) hP [0, 1] rfl
    have hKc := hK.sub (tys' := [(cI, FieldType.int), (cO, FieldType.object "PromisedCounters$State"), (cC, FieldType.char)]) [0, 1, 2] rfl
    have hcl13 := hts (Cond.classLink RL 13 "java/lang/IndexOutOfBoundsException") (by decide +kernel)
    have hcl15 := hts (Cond.classLink RL 15 "java/lang/IllegalArgumentException") (by decide +kernel)
    have hcst : (Cond.castable "java/lang/IllegalArgumentException" "java/lang/IllegalArgumentException").before ([.ref (x 0), .int (iI (p)), .int (iI (q)), .ref (ob 0)] : List Value).toArray s = true := va_Nw.use (ZB_tabs _ (by decide)) (hZ.2.2.1 (Cond.castable "java/lang/IllegalArgumentException" "java/lang/IllegalArgumentException") (by decide))
    refine catchX (vx_runV (As := [.int (iI (p)), .int (iI (q))]) (rest := [.int (iI (0)), .ref (ob 0)]) ⟨hx, hb, hml, hown, hts⟩ cx9 (cwV 2 hts gL_settlePart_X4_settlePart rfl rfl rfl (by decide +kernel) ⟨Nat.le_of_ble_eq_true rfl, Nat.le_of_ble_eq_true rfl⟩) ⟨pcX_blind, va_recv hKc hPc (ci := 4) (q0 := 0) rfl rfl, pcX_of hPc hKc hZ⟩ rfl rfl hl.1 rfl (lv_room (Nat.le_of_ble_eq_true rfl)) dL_settlePart_5 ⟨Nat.le_of_ble_eq_true rfl, Nat.le_of_ble_eq_true rfl⟩) hP hS hown [⟨0, 10, 13, 13⟩] ⟨0, 10, 17, 15⟩ [] htab (fun z hz => by cases List.mem_singleton.mp hz; exact Or.inr ⟨by decide, _, hcl13, hZ.2.2.2.1⟩) (by decide) (by decide) hcl15 hcst (fun H locs xq hP hS => ?_)
    refine lv_astore (lv' := [(4, .ref (xq)), (0, .ref (x 0)), (1, .int (iI (p))), (2, .int (iI (q))), (3, .ref (ob 0))]) hx hb dL_settlePart_17 hl (by decide) rfl (fun ls hl => ?_)
    refine wi_iconst hx hb dL_settlePart_19 ?_
    refine W.widen (k := 1) (n := 6) (by decide) (by decide) ?_
    exact W.iret (v := iI (2)) hx hb hr (fun t9 ht9 hW9 => ⟨⟨(2), ⟨ln, σ, κ, sa, ss, φ, ρ, β, f⟩, rfl, (OPL.bad h9 (by decide) rfl ⟨rfl, rfl, rfl, rfl, rfl⟩), ⟨by rw [ht9]; exact hP, va_K.moved hW9.alike hK, hD⟩⟩, hS.F ht9⟩) hS.2.2 dL_settlePart_20 hlocks
set_option maxHeartbeats 4000000 in
set_option maxRecDepth 100000 in
theorem lk_cancel (l : Launch) (hl9 : l.stackTraces = false) (D : va_G) (cI cO cC cL : ClassId) (sz : Nat) (x a sv o rd bu ob : Nat → Nat) (ln σ κ φ ρ β : Nat → Int → Int) (sa : Nat → Nat → Nat) (ss : Nat → Nat → Int → Int) (f : Nat → Int64) (p : Int) (hp : R32 p) (hG : GI σ (κ 0 0) ss (ln 0 0) (β 1)) : Met l yL_cancel wsL_cancel ({ frames := 8, cells := 1, slots := 6, locals := 162 } : Room) (pcWX D [(cI, FieldType.int), (cO, FieldType.object "PromisedCounters$State"), (cC, FieldType.char), (cL, FieldType.long)] [.ref (x 0), .int (iI (p)), .ref (ob 0)] (fl [mnW x a sv o rd bu ln, stW cI a σ, svO cO sv (saF sa) κ, stW cI (sa 0) (ss 0), stW cI (sa 1) (ss 1), stW cI (sa 2) (ss 2), stW cI (sa 3) (ss 3), stW cI (sa 4) (ss 4), stW cI (sa 5) (ss 5), ocW cI o φ, rdW rd ρ, bfW cC bu β, ouW cL ob f]) sz) (wq_i (fun (r : Int) (u : LwS) => OPL (cd1 (0 ≤ p ∧ p < σ 0 1)) r (σ 0 1 - 1) (LwS.f u) (LwQ u σ (κ 0 0) ss (ln 0 0) (β 1)) (LwQ u (canS σ p) (pushK (κ 0 0)) (pushS (κ 0 0) ss σ) (ln 0 0) (β 1))) (fun (u : LwS) => (bW D [(cI, FieldType.int), (cO, FieldType.object "PromisedCounters$State"), (cC, FieldType.char), (cL, FieldType.long)] (fl [mnW x a sv o rd bu (LwS.ln u), stW cI a (LwS.σ u), svO cO sv (saF (LwS.sa u)) (LwS.κ u), stW cI (LwS.sa u 0) (LwS.ss u 0), stW cI (LwS.sa u 1) (LwS.ss u 1), stW cI (LwS.sa u 2) (LwS.ss u 2), stW cI (LwS.sa u 3) (LwS.ss u 3), stW cI (LwS.sa u 4) (LwS.ss u 4), stW cI (LwS.sa u 5) (LwS.ss u 5), ocW cI o (LwS.φ u), rdW rd (LwS.ρ u), bfW cC bu (LwS.β u), ouW cL ob (LwS.f u)]) (va_A (fl [mnW x a sv o rd bu ln, stW cI a σ, svO cO sv (saF sa) κ, stW cI (sa 0) (ss 0), stW cI (sa 1) (ss 1), stW cI (sa 2) (ss 2), stW cI (sa 3) (ss 3), stW cI (sa 4) (ss 4), stW cI (sa 5) (ss 5), ocW cI o φ, rdW rd ρ, bfW cC bu β, ouW cL ob f]) sz))) (va_A (fl [mnW x a sv o rd bu ln, stW cI a σ, svO cO sv (saF sa) κ, stW cI (sa 0) (ss 0), stW cI (sa 1) (ss 1), stW cI (sa 2) (ss 2), stW cI (sa 3) (ss 3), stW cI (sa 4) (ss 4), stW cI (sa 5) (ss 5), ocW cI o φ, rdW rd ρ, bfW cC bu β, ouW cL ob f]) sz)) 1 6 (va_A (fl [mnW x a sv o rd bu ln, stW cI a σ, svO cO sv (saF sa) κ, stW cI (sa 0) (ss 0), stW cI (sa 1) (ss 1), stW cI (sa 2) (ss 2), stW cI (sa 3) (ss 3), stW cI (sa 4) (ss 4), stW cI (sa 5) (ss 5), ocW cI o φ, rdW rd ρ, bfW cC bu β, ouW cL ob f]) sz) := by
  refine metH ([(0, 9, 12, 13)]) (cc := cL_cancel) (maxL := 4) (ret := (some .int)) (by decide) rfl ?_
  intro p9 e9 s m args9 below9 meth9 c9 s₁ B hml htab hv
  obtain ⟨rfl, hsz, hP, hK, hD0, hZ⟩ := hv
  have hx := B.exec
  have hb := B.bytes
  have hr := B.returns
  have hts := atoms_spec (ws := wsL_cancel) B.pre
  have hown : s.vm.findClass RL = some m.cls := findClass_of_methodNamed B.named
  have hlocks := B.notSynchronized
  subst hsz
  have hD := hD0.self (sz := s.heap.size)
  generalize hAe : va_A (fl [mnW x a sv o rd bu ln, stW cI a σ, svO cO sv (saF sa) κ, stW cI (sa 0) (ss 0), stW cI (sa 1) (ss 1), stW cI (sa 2) (ss 2), stW cI (sa 3) (ss 3), stW cI (sa 4) (ss 4), stW cI (sa 5) (ss 5), ocW cI o φ, rdW rd ρ, bfW cC bu β, ouW cL ob f]) s.heap.size = A at hD hZ ⊢
  have hA : ∀ q : Nat, s.heap.size ≤ q → A q := fun q h => by rw [← hAe]; exact Or.inr h
  have hS : va_S A s.heap s.heap [] := va_S.rf
  have hP : va_P D vwCl (fl [mnW x a sv o rd bu ln, stW cI a σ, svO cO sv (saF sa) κ, stW cI (sa 0) (ss 0), stW cI (sa 1) (ss 1), stW cI (sa 2) (ss 2), stW cI (sa 3) (ss 3), stW cI (sa 4) (ss 4), stW cI (sa 5) (ss 5), ocW cI o φ, rdW rd ρ, bfW cC bu β, ouW cL ob f]) s.heap := hP
  have hl := lv_entry ([.ref (x 0), .int (iI (p)), .ref (ob 0)]) (n := 4) (Nat.le_of_ble_eq_true rfl)
  rw [lg_entry_eq]
  generalize (lg_sl ([.ref (x 0), .int (iI (p)), .ref (ob 0)]) ++ List.replicate (4 - (lg_sl ([.ref (x 0), .int (iI (p)), .ref (ob 0)])).length) Slot.unset).toArray = ls at hl ⊢
  have hl : lv_has ls 4 [(0, .ref (x 0)), (1, .int (iI (p))), (2, .ref (ob 0))] := hl
  have hI := hG.1
  have hkk := hG.2.1
  have hlnb := hG.2.2.2.1
  have hbb := hG.2.2.2.2
  have hnn := hI.n
  have htt := hI.t
  refine lv_aload_n hx hb dL_cancel_0 rfl (lv_at hl 2 rfl) ?_
  refine wi_iconst hx hb dL_cancel_1 ?_
  refine lv_aload_n hx hb dL_cancel_2 rfl (lv_at hl 0 rfl) ?_
  refine lv_iload_n hx hb dL_cancel_3 rfl (lv_at hl 1 rfl) ?_
  rcases (cd1_c : (cd1 (0 ≤ p ∧ p < σ 0 1) = 0 ∧ _) ∨ _) with ⟨h9, hok0⟩ | h9
  · skip
    have hPc := fl_P (S' := [mnW x a sv o rd bu ln, stW cI a σ, svO cO sv (saF sa) κ, stW cI (sa 0) (ss 0), stW cI (sa 1) (ss 1), stW cI (sa 2) (ss 2), stW cI (sa 3) (ss 3), stW cI (sa 4) (ss 4), stW cI (sa 5) (ss 5)]) hP [0, 1, 2, 3, 4, 5, 6, 7, 8] rfl
    have hKc := hK.sub (tys' := [(cI, FieldType.int), (cO, FieldType.object "PromisedCounters$State"), (cC, FieldType.char)]) [0, 1, 2] rfl
    have hDc := fl_D (S' := [mnW x a sv o rd bu ln, stW cI a σ, svO cO sv (saF sa) κ, stW cI (sa 0) (ss 0), stW cI (sa 1) (ss 1), stW cI (sa 2) (ss 2), stW cI (sa 3) (ss 3), stW cI (sa 4) (ss 4), stW cI (sa 5) (ss 5)]) hD [0, 1, 2, 3, 4, 5, 6, 7, 8] (by decide) rfl
    have hFc := fl_free (SC := [mnW x a sv o rd bu ln, stW cI a σ, svO cO sv (saF sa) κ, stW cI (sa 0) (ss 0), stW cI (sa 1) (ss 1), stW cI (sa 2) (ss 2), stW cI (sa 3) (ss 3), stW cI (sa 4) (ss 4), stW cI (sa 5) (ss 5)]) hD hS hA [0, 1, 2, 3, 4, 5, 6, 7, 8] rfl
    refine wq_calli (va_runV (As := [.int (iI (p))]) (rest := [.int (iI (0)), .ref (ob 0)]) ⟨hx, hb, hml, hown, hts⟩ (c_X4_cancel l D cI cO cC cL s.heap.size x a sv o rd bu ln σ κ sa ss (p) (by first | assumption | omega) (by first | assumption | omega) (by first | assumption | omega)) (cwV 1 hts gL_cancel_X4_cancel rfl rfl rfl (by decide +kernel) ⟨Nat.le_of_ble_eq_true rfl, Nat.le_of_ble_eq_true rfl⟩) ⟨pcW_blind, va_recv hKc hPc (ci := 4) (q0 := 0) rfl rfl, pcW_of hPc hKc hDc⟩ rfl rfl hl.1 rfl (lv_room (Nat.le_of_ble_eq_true rfl)) dL_cancel_4 ⟨(Nat.zero_le _), (Nat.zero_le _)⟩) hS (fun q _ h => hFc q h) hFc (fun r1 u3 t9 H1 locs ht9 hvm hcl2 hB hz1 hk1 hS => ?_)
    obtain ⟨hP1, hK1, hD1⟩ := hB
    rw [ht9] at hP1
    obtain ⟨hP, hD⟩ := fl_join (SR := [ocW cI o φ, rdW rd ρ, bfW cC bu β, ouW cL ob f]) (S1 := [mnW x a sv o rd bu ln, stW cI a (canS σ (p)), svO cO sv (saF (pushA (κ 0 0) sa)) (sU κ 0 0 (pushK (κ 0 0))), stW cI (pushA (κ 0 0) sa 0) (pushS (κ 0 0) ss σ 0), stW cI (pushA (κ 0 0) sa 1) (pushS (κ 0 0) ss σ 1), stW cI (pushA (κ 0 0) sa 2) (pushS (κ 0 0) ss σ 2), stW cI (pushA (κ 0 0) sa 3) (pushS (κ 0 0) ss σ 3), stW cI (pushA (κ 0 0) sa 4) (pushS (κ 0 0) ss σ 4), stW cI (pushA (κ 0 0) sa 5) (pushS (κ 0 0) ss σ 5)]) hP hD [0, 1, 2, 3, 4, 5, 6, 7, 8] [9, 10, 11, 12] rfl rfl (by decide) (by decide) hk1 hFc hP1 hD1
    generalize H1 = H at hP hS ⊢
    have hP := fl_P (S' := [mnW x a sv o rd bu ln, stW cI a (canS σ (p)), svO cO sv (saF (pushA (κ 0 0) sa)) (sU κ 0 0 (pushK (κ 0 0))), stW cI (pushA (κ 0 0) sa 0) (pushS (κ 0 0) ss σ 0), stW cI (pushA (κ 0 0) sa 1) (pushS (κ 0 0) ss σ 1), stW cI (pushA (κ 0 0) sa 2) (pushS (κ 0 0) ss σ 2), stW cI (pushA (κ 0 0) sa 3) (pushS (κ 0 0) ss σ 3), stW cI (pushA (κ 0 0) sa 4) (pushS (κ 0 0) ss σ 4), stW cI (pushA (κ 0 0) sa 5) (pushS (κ 0 0) ss σ 5), ocW cI o φ, rdW rd ρ, bfW cC bu β, ouW cL ob f]) hP [4, 5, 6, 7, 8, 9, 10, 11, 12, 0, 1, 2, 3] rfl
    have hD := fl_D (S' := [mnW x a sv o rd bu ln, stW cI a (canS σ (p)), svO cO sv (saF (pushA (κ 0 0) sa)) (sU κ 0 0 (pushK (κ 0 0))), stW cI (pushA (κ 0 0) sa 0) (pushS (κ 0 0) ss σ 0), stW cI (pushA (κ 0 0) sa 1) (pushS (κ 0 0) ss σ 1), stW cI (pushA (κ 0 0) sa 2) (pushS (κ 0 0) ss σ 2), stW cI (pushA (κ 0 0) sa 3) (pushS (κ 0 0) ss σ 3), stW cI (pushA (κ 0 0) sa 4) (pushS (κ 0 0) ss σ 4), stW cI (pushA (κ 0 0) sa 5) (pushS (κ 0 0) ss σ 5), ocW cI o φ, rdW rd ρ, bfW cC bu β, ouW cL ob f]) hD [4, 5, 6, 7, 8, 9, 10, 11, 12, 0, 1, 2, 3] (by decide) rfl
    refine lv_i2l (v := iL (r1)) hx hb dL_cancel_7 rfl ?_
    refine wi_last hx hb hK hP hD hS 98 3 rfl rfl dL_cancel_8 (fun H locs hP hD hS => ?_)
    have hP : va_P D vwCl (fl [mnW x a sv o rd bu ln, stW cI a (canS σ (p)), svO cO sv (saF (pushA (κ 0 0) sa)) (sU κ 0 0 (pushK (κ 0 0))), stW cI (pushA (κ 0 0) sa 0) (pushS (κ 0 0) ss σ 0), stW cI (pushA (κ 0 0) sa 1) (pushS (κ 0 0) ss σ 1), stW cI (pushA (κ 0 0) sa 2) (pushS (κ 0 0) ss σ 2), stW cI (pushA (κ 0 0) sa 3) (pushS (κ 0 0) ss σ 3), stW cI (pushA (κ 0 0) sa 4) (pushS (κ 0 0) ss σ 4), stW cI (pushA (κ 0 0) sa 5) (pushS (κ 0 0) ss σ 5), ocW cI o φ, rdW rd ρ, bfW cC bu β, ouW cL ob (fun _ => (iL (r1)))]) H := hP
    have hD : va_D A (fl [mnW x a sv o rd bu ln, stW cI a (canS σ (p)), svO cO sv (saF (pushA (κ 0 0) sa)) (sU κ 0 0 (pushK (κ 0 0))), stW cI (pushA (κ 0 0) sa 0) (pushS (κ 0 0) ss σ 0), stW cI (pushA (κ 0 0) sa 1) (pushS (κ 0 0) ss σ 1), stW cI (pushA (κ 0 0) sa 2) (pushS (κ 0 0) ss σ 2), stW cI (pushA (κ 0 0) sa 3) (pushS (κ 0 0) ss σ 3), stW cI (pushA (κ 0 0) sa 4) (pushS (κ 0 0) ss σ 4), stW cI (pushA (κ 0 0) sa 5) (pushS (κ 0 0) ss σ 5), ocW cI o φ, rdW rd ρ, bfW cC bu β, ouW cL ob (fun _ => (iL (r1)))]) := hD
    refine lv_goto (tgt := 15) hx hb dL_cancel_9 (by decide) ?_
    refine wi_iconst hx hb dL_cancel_15 ?_
    refine W.widen (k := 1) (n := 6) (by decide) (by decide) ?_
    exact W.iret (v := iI (0)) hx hb hr (fun t9 ht9 hW9 => ⟨⟨(0), ⟨ln, (canS σ (p)), (sU κ 0 0 (pushK (κ 0 0))), (pushA (κ 0 0) sa), pushS (κ 0 0) ss σ, φ, ρ, β, (fun _ => (iL (r1)))⟩, rfl, (OPL.good h9 rfl (congrArg (fun z : Int => fun _ : Nat => iL z) hcl2) ⟨rfl, rfl, rfl, rfl, rfl⟩), ⟨by rw [ht9]; exact hP, va_K.moved hW9.alike hK, hD⟩⟩, hS.F ht9⟩) hS.2.2 dL_cancel_16 hlocks
  · skip
    have cx9 := x_X4_cancel l hl9 D cI cO cC cL x a sv o rd bu ln σ p (by first | assumption | omega) hI (by rw [h9]; decide)
    rw [h9, show xnA 1 = "java/lang/IndexOutOfBoundsException" from rfl] at cx9
    have hPc := fl_P (S' := [mnW x a sv o rd bu ln, stW cI a σ]) hP [0, 1] rfl
    have hKc := hK.sub (tys' := [(cI, FieldType.int), (cO, FieldType.object "PromisedCounters$State"), (cC, FieldType.char)]) [0, 1, 2] rfl
    have hcl13 := hts (Cond.classLink RL 13 "java/lang/IndexOutOfBoundsException") (by decide +kernel)
    have hcst : (Cond.castable "java/lang/IndexOutOfBoundsException" "java/lang/IndexOutOfBoundsException").before ([.ref (x 0), .int (iI (p)), .ref (ob 0)] : List Value).toArray s = true := va_Nw.use (ZB_tabs _ (by decide)) (hZ.2.2.1 (Cond.castable "java/lang/IndexOutOfBoundsException" "java/lang/IndexOutOfBoundsException") (by decide))
    refine catchX (vx_runV (As := [.int (iI (p))]) (rest := [.int (iI (0)), .ref (ob 0)]) ⟨hx, hb, hml, hown, hts⟩ cx9 (cwV 1 hts gL_cancel_X4_cancel rfl rfl rfl (by decide +kernel) ⟨Nat.le_of_ble_eq_true rfl, Nat.le_of_ble_eq_true rfl⟩) ⟨pcX_blind, va_recv hKc hPc (ci := 4) (q0 := 0) rfl rfl, pcX_of hPc hKc hZ⟩ rfl rfl hl.1 rfl (lv_room (Nat.le_of_ble_eq_true rfl)) dL_cancel_4 ⟨Nat.le_of_ble_eq_true rfl, Nat.le_of_ble_eq_true rfl⟩) hP hS hown [] ⟨0, 9, 12, 13⟩ [] htab (fun z hz => nomatch hz) (by decide) (by decide) hcl13 hcst (fun H locs xq hP hS => ?_)
    refine lv_astore_n (lv' := [(3, .ref (xq)), (0, .ref (x 0)), (1, .int (iI (p))), (2, .ref (ob 0))]) hx hb dL_cancel_12 rfl hl (by decide) rfl (fun ls hl => ?_)
    refine wi_iconst hx hb dL_cancel_13 ?_
    refine W.widen (k := 1) (n := 6) (by decide) (by decide) ?_
    exact W.iret (v := iI (1)) hx hb hr (fun t9 ht9 hW9 => ⟨⟨(1), ⟨ln, σ, κ, sa, ss, φ, ρ, β, f⟩, rfl, (OPL.bad h9 (by decide) rfl ⟨rfl, rfl, rfl, rfl, rfl⟩), ⟨by rw [ht9]; exact hP, va_K.moved hW9.alike hK, hD⟩⟩, hS.F ht9⟩) hS.2.2 dL_cancel_14 hlocks
set_option maxHeartbeats 4000000 in
set_option maxRecDepth 100000 in
theorem lk_renew (l : Launch) (hl9 : l.stackTraces = false) (D : va_G) (cI cO cC cL : ClassId) (sz : Nat) (x a sv o rd bu ob : Nat → Nat) (ln σ κ φ ρ β : Nat → Int → Int) (sa : Nat → Nat → Nat) (ss : Nat → Nat → Int → Int) (f : Nat → Int64) (p : Int) (hp : R32 p) (hG : GI σ (κ 0 0) ss (ln 0 0) (β 1)) : Met l yL_renew wsL_renew ({ frames := 8, cells := 1, slots := 6, locals := 163 } : Room) (pcWX D [(cI, FieldType.int), (cO, FieldType.object "PromisedCounters$State"), (cC, FieldType.char), (cL, FieldType.long)] [.ref (x 0), .int (iI (p)), .ref (ob 0)] (fl [mnW x a sv o rd bu ln, stW cI a σ, svO cO sv (saF sa) κ, stW cI (sa 0) (ss 0), stW cI (sa 1) (ss 1), stW cI (sa 2) (ss 2), stW cI (sa 3) (ss 3), stW cI (sa 4) (ss 4), stW cI (sa 5) (ss 5), ocW cI o φ, rdW rd ρ, bfW cC bu β, ouW cL ob f]) sz) (wq_i (fun (r : Int) (u : LwS) => OPL (cd1 (0 ≤ p ∧ p < σ 0 1)) r (σ 0 0 + σ 1 1 - σ 9 p) (LwS.f u) (LwQ u σ (κ 0 0) ss (ln 0 0) (β 1)) (LwQ u (renS σ p) (pushK (κ 0 0)) (pushS (κ 0 0) ss σ) (ln 0 0) (β 1))) (fun (u : LwS) => (bW D [(cI, FieldType.int), (cO, FieldType.object "PromisedCounters$State"), (cC, FieldType.char), (cL, FieldType.long)] (fl [mnW x a sv o rd bu (LwS.ln u), stW cI a (LwS.σ u), svO cO sv (saF (LwS.sa u)) (LwS.κ u), stW cI (LwS.sa u 0) (LwS.ss u 0), stW cI (LwS.sa u 1) (LwS.ss u 1), stW cI (LwS.sa u 2) (LwS.ss u 2), stW cI (LwS.sa u 3) (LwS.ss u 3), stW cI (LwS.sa u 4) (LwS.ss u 4), stW cI (LwS.sa u 5) (LwS.ss u 5), ocW cI o (LwS.φ u), rdW rd (LwS.ρ u), bfW cC bu (LwS.β u), ouW cL ob (LwS.f u)]) (va_A (fl [mnW x a sv o rd bu ln, stW cI a σ, svO cO sv (saF sa) κ, stW cI (sa 0) (ss 0), stW cI (sa 1) (ss 1), stW cI (sa 2) (ss 2), stW cI (sa 3) (ss 3), stW cI (sa 4) (ss 4), stW cI (sa 5) (ss 5), ocW cI o φ, rdW rd ρ, bfW cC bu β, ouW cL ob f]) sz))) (va_A (fl [mnW x a sv o rd bu ln, stW cI a σ, svO cO sv (saF sa) κ, stW cI (sa 0) (ss 0), stW cI (sa 1) (ss 1), stW cI (sa 2) (ss 2), stW cI (sa 3) (ss 3), stW cI (sa 4) (ss 4), stW cI (sa 5) (ss 5), ocW cI o φ, rdW rd ρ, bfW cC bu β, ouW cL ob f]) sz)) 1 6 (va_A (fl [mnW x a sv o rd bu ln, stW cI a σ, svO cO sv (saF sa) κ, stW cI (sa 0) (ss 0), stW cI (sa 1) (ss 1), stW cI (sa 2) (ss 2), stW cI (sa 3) (ss 3), stW cI (sa 4) (ss 4), stW cI (sa 5) (ss 5), ocW cI o φ, rdW rd ρ, bfW cC bu β, ouW cL ob f]) sz) := by
  refine metH ([(0, 9, 12, 13)]) (cc := cL_renew) (maxL := 4) (ret := (some .int)) (by decide) rfl ?_
  intro p9 e9 s m args9 below9 meth9 c9 s₁ B hml htab hv
  obtain ⟨rfl, hsz, hP, hK, hD0, hZ⟩ := hv
  have hx := B.exec
  have hb := B.bytes
  have hr := B.returns
  have hts := atoms_spec (ws := wsL_renew) B.pre
  have hown : s.vm.findClass RL = some m.cls := findClass_of_methodNamed B.named
  have hlocks := B.notSynchronized
  subst hsz
  have hD := hD0.self (sz := s.heap.size)
  generalize hAe : va_A (fl [mnW x a sv o rd bu ln, stW cI a σ, svO cO sv (saF sa) κ, stW cI (sa 0) (ss 0), stW cI (sa 1) (ss 1), stW cI (sa 2) (ss 2), stW cI (sa 3) (ss 3), stW cI (sa 4) (ss 4), stW cI (sa 5) (ss 5), ocW cI o φ, rdW rd ρ, bfW cC bu β, ouW cL ob f]) s.heap.size = A at hD hZ ⊢
  have hA : ∀ q : Nat, s.heap.size ≤ q → A q := fun q h => by rw [← hAe]; exact Or.inr h
  have hS : va_S A s.heap s.heap [] := va_S.rf
  have hP : va_P D vwCl (fl [mnW x a sv o rd bu ln, stW cI a σ, svO cO sv (saF sa) κ, stW cI (sa 0) (ss 0), stW cI (sa 1) (ss 1), stW cI (sa 2) (ss 2), stW cI (sa 3) (ss 3), stW cI (sa 4) (ss 4), stW cI (sa 5) (ss 5), ocW cI o φ, rdW rd ρ, bfW cC bu β, ouW cL ob f]) s.heap := hP
  have hl := lv_entry ([.ref (x 0), .int (iI (p)), .ref (ob 0)]) (n := 4) (Nat.le_of_ble_eq_true rfl)
  rw [lg_entry_eq]
  generalize (lg_sl ([.ref (x 0), .int (iI (p)), .ref (ob 0)]) ++ List.replicate (4 - (lg_sl ([.ref (x 0), .int (iI (p)), .ref (ob 0)])).length) Slot.unset).toArray = ls at hl ⊢
  have hl : lv_has ls 4 [(0, .ref (x 0)), (1, .int (iI (p))), (2, .ref (ob 0))] := hl
  have hI := hG.1
  have hkk := hG.2.1
  have hlnb := hG.2.2.2.1
  have hbb := hG.2.2.2.2
  have hnn := hI.n
  have htt := hI.t
  refine lv_aload_n hx hb dL_renew_0 rfl (lv_at hl 2 rfl) ?_
  refine wi_iconst hx hb dL_renew_1 ?_
  refine lv_aload_n hx hb dL_renew_2 rfl (lv_at hl 0 rfl) ?_
  refine lv_iload_n hx hb dL_renew_3 rfl (lv_at hl 1 rfl) ?_
  rcases (cd1_c : (cd1 (0 ≤ p ∧ p < σ 0 1) = 0 ∧ _) ∨ _) with ⟨h9, hok0⟩ | h9
  · skip
    have hPc := fl_P (S' := [mnW x a sv o rd bu ln, stW cI a σ, svO cO sv (saF sa) κ, stW cI (sa 0) (ss 0), stW cI (sa 1) (ss 1), stW cI (sa 2) (ss 2), stW cI (sa 3) (ss 3), stW cI (sa 4) (ss 4), stW cI (sa 5) (ss 5)]) hP [0, 1, 2, 3, 4, 5, 6, 7, 8] rfl
    have hKc := hK.sub (tys' := [(cI, FieldType.int), (cO, FieldType.object "PromisedCounters$State"), (cC, FieldType.char)]) [0, 1, 2] rfl
    have hDc := fl_D (S' := [mnW x a sv o rd bu ln, stW cI a σ, svO cO sv (saF sa) κ, stW cI (sa 0) (ss 0), stW cI (sa 1) (ss 1), stW cI (sa 2) (ss 2), stW cI (sa 3) (ss 3), stW cI (sa 4) (ss 4), stW cI (sa 5) (ss 5)]) hD [0, 1, 2, 3, 4, 5, 6, 7, 8] (by decide) rfl
    have hFc := fl_free (SC := [mnW x a sv o rd bu ln, stW cI a σ, svO cO sv (saF sa) κ, stW cI (sa 0) (ss 0), stW cI (sa 1) (ss 1), stW cI (sa 2) (ss 2), stW cI (sa 3) (ss 3), stW cI (sa 4) (ss 4), stW cI (sa 5) (ss 5)]) hD hS hA [0, 1, 2, 3, 4, 5, 6, 7, 8] rfl
    refine wq_calli (va_runV (As := [.int (iI (p))]) (rest := [.int (iI (0)), .ref (ob 0)]) ⟨hx, hb, hml, hown, hts⟩ (c_X4_renew l D cI cO cC cL s.heap.size x a sv o rd bu ln σ κ sa ss (p) (by first | assumption | omega) (by first | assumption | omega) (by first | assumption | omega)) (cwV 1 hts gL_renew_X4_renew rfl rfl rfl (by decide +kernel) ⟨Nat.le_of_ble_eq_true rfl, Nat.le_of_ble_eq_true rfl⟩) ⟨pcW_blind, va_recv hKc hPc (ci := 4) (q0 := 0) rfl rfl, pcW_of hPc hKc hDc⟩ rfl rfl hl.1 rfl (lv_room (Nat.le_of_ble_eq_true rfl)) dL_renew_4 ⟨(Nat.zero_le _), (Nat.zero_le _)⟩) hS (fun q _ h => hFc q h) hFc (fun r1 u3 t9 H1 locs ht9 hvm hcl2 hB hz1 hk1 hS => ?_)
    obtain ⟨hP1, hK1, hD1⟩ := hB
    rw [ht9] at hP1
    obtain ⟨hP, hD⟩ := fl_join (SR := [ocW cI o φ, rdW rd ρ, bfW cC bu β, ouW cL ob f]) (S1 := [mnW x a sv o rd bu ln, stW cI a (renS σ (p)), svO cO sv (saF (pushA (κ 0 0) sa)) (sU κ 0 0 (pushK (κ 0 0))), stW cI (pushA (κ 0 0) sa 0) (pushS (κ 0 0) ss σ 0), stW cI (pushA (κ 0 0) sa 1) (pushS (κ 0 0) ss σ 1), stW cI (pushA (κ 0 0) sa 2) (pushS (κ 0 0) ss σ 2), stW cI (pushA (κ 0 0) sa 3) (pushS (κ 0 0) ss σ 3), stW cI (pushA (κ 0 0) sa 4) (pushS (κ 0 0) ss σ 4), stW cI (pushA (κ 0 0) sa 5) (pushS (κ 0 0) ss σ 5)]) hP hD [0, 1, 2, 3, 4, 5, 6, 7, 8] [9, 10, 11, 12] rfl rfl (by decide) (by decide) hk1 hFc hP1 hD1
    generalize H1 = H at hP hS ⊢
    have hP := fl_P (S' := [mnW x a sv o rd bu ln, stW cI a (renS σ (p)), svO cO sv (saF (pushA (κ 0 0) sa)) (sU κ 0 0 (pushK (κ 0 0))), stW cI (pushA (κ 0 0) sa 0) (pushS (κ 0 0) ss σ 0), stW cI (pushA (κ 0 0) sa 1) (pushS (κ 0 0) ss σ 1), stW cI (pushA (κ 0 0) sa 2) (pushS (κ 0 0) ss σ 2), stW cI (pushA (κ 0 0) sa 3) (pushS (κ 0 0) ss σ 3), stW cI (pushA (κ 0 0) sa 4) (pushS (κ 0 0) ss σ 4), stW cI (pushA (κ 0 0) sa 5) (pushS (κ 0 0) ss σ 5), ocW cI o φ, rdW rd ρ, bfW cC bu β, ouW cL ob f]) hP [4, 5, 6, 7, 8, 9, 10, 11, 12, 0, 1, 2, 3] rfl
    have hD := fl_D (S' := [mnW x a sv o rd bu ln, stW cI a (renS σ (p)), svO cO sv (saF (pushA (κ 0 0) sa)) (sU κ 0 0 (pushK (κ 0 0))), stW cI (pushA (κ 0 0) sa 0) (pushS (κ 0 0) ss σ 0), stW cI (pushA (κ 0 0) sa 1) (pushS (κ 0 0) ss σ 1), stW cI (pushA (κ 0 0) sa 2) (pushS (κ 0 0) ss σ 2), stW cI (pushA (κ 0 0) sa 3) (pushS (κ 0 0) ss σ 3), stW cI (pushA (κ 0 0) sa 4) (pushS (κ 0 0) ss σ 4), stW cI (pushA (κ 0 0) sa 5) (pushS (κ 0 0) ss σ 5), ocW cI o φ, rdW rd ρ, bfW cC bu β, ouW cL ob f]) hD [4, 5, 6, 7, 8, 9, 10, 11, 12, 0, 1, 2, 3] (by decide) rfl
    refine lv_i2l (v := iL (r1)) hx hb dL_renew_7 rfl ?_
    refine wi_last hx hb hK hP hD hS 98 3 rfl rfl dL_renew_8 (fun H locs hP hD hS => ?_)
    have hP : va_P D vwCl (fl [mnW x a sv o rd bu ln, stW cI a (renS σ (p)), svO cO sv (saF (pushA (κ 0 0) sa)) (sU κ 0 0 (pushK (κ 0 0))), stW cI (pushA (κ 0 0) sa 0) (pushS (κ 0 0) ss σ 0), stW cI (pushA (κ 0 0) sa 1) (pushS (κ 0 0) ss σ 1), stW cI (pushA (κ 0 0) sa 2) (pushS (κ 0 0) ss σ 2), stW cI (pushA (κ 0 0) sa 3) (pushS (κ 0 0) ss σ 3), stW cI (pushA (κ 0 0) sa 4) (pushS (κ 0 0) ss σ 4), stW cI (pushA (κ 0 0) sa 5) (pushS (κ 0 0) ss σ 5), ocW cI o φ, rdW rd ρ, bfW cC bu β, ouW cL ob (fun _ => (iL (r1)))]) H := hP
    have hD : va_D A (fl [mnW x a sv o rd bu ln, stW cI a (renS σ (p)), svO cO sv (saF (pushA (κ 0 0) sa)) (sU κ 0 0 (pushK (κ 0 0))), stW cI (pushA (κ 0 0) sa 0) (pushS (κ 0 0) ss σ 0), stW cI (pushA (κ 0 0) sa 1) (pushS (κ 0 0) ss σ 1), stW cI (pushA (κ 0 0) sa 2) (pushS (κ 0 0) ss σ 2), stW cI (pushA (κ 0 0) sa 3) (pushS (κ 0 0) ss σ 3), stW cI (pushA (κ 0 0) sa 4) (pushS (κ 0 0) ss σ 4), stW cI (pushA (κ 0 0) sa 5) (pushS (κ 0 0) ss σ 5), ocW cI o φ, rdW rd ρ, bfW cC bu β, ouW cL ob (fun _ => (iL (r1)))]) := hD
    refine lv_goto (tgt := 15) hx hb dL_renew_9 (by decide) ?_
    refine wi_iconst hx hb dL_renew_15 ?_
    refine W.widen (k := 1) (n := 6) (by decide) (by decide) ?_
    exact W.iret (v := iI (0)) hx hb hr (fun t9 ht9 hW9 => ⟨⟨(0), ⟨ln, (renS σ (p)), (sU κ 0 0 (pushK (κ 0 0))), (pushA (κ 0 0) sa), pushS (κ 0 0) ss σ, φ, ρ, β, (fun _ => (iL (r1)))⟩, rfl, (OPL.good h9 rfl (congrArg (fun z : Int => fun _ : Nat => iL z) hcl2) ⟨rfl, rfl, rfl, rfl, rfl⟩), ⟨by rw [ht9]; exact hP, va_K.moved hW9.alike hK, hD⟩⟩, hS.F ht9⟩) hS.2.2 dL_renew_16 hlocks
  · skip
    have cx9 := x_X4_renew l hl9 D cI cO cC cL x a sv o rd bu ln σ p (by first | assumption | omega) hI (by rw [h9]; decide)
    rw [h9, show xnA 1 = "java/lang/IndexOutOfBoundsException" from rfl] at cx9
    have hPc := fl_P (S' := [mnW x a sv o rd bu ln, stW cI a σ]) hP [0, 1] rfl
    have hKc := hK.sub (tys' := [(cI, FieldType.int), (cO, FieldType.object "PromisedCounters$State"), (cC, FieldType.char)]) [0, 1, 2] rfl
    have hcl13 := hts (Cond.classLink RL 13 "java/lang/IndexOutOfBoundsException") (by decide +kernel)
    have hcst : (Cond.castable "java/lang/IndexOutOfBoundsException" "java/lang/IndexOutOfBoundsException").before ([.ref (x 0), .int (iI (p)), .ref (ob 0)] : List Value).toArray s = true := va_Nw.use (ZB_tabs _ (by decide)) (hZ.2.2.1 (Cond.castable "java/lang/IndexOutOfBoundsException" "java/lang/IndexOutOfBoundsException") (by decide))
    refine catchX (vx_runV (As := [.int (iI (p))]) (rest := [.int (iI (0)), .ref (ob 0)]) ⟨hx, hb, hml, hown, hts⟩ cx9 (cwV 1 hts gL_renew_X4_renew rfl rfl rfl (by decide +kernel) ⟨Nat.le_of_ble_eq_true rfl, Nat.le_of_ble_eq_true rfl⟩) ⟨pcX_blind, va_recv hKc hPc (ci := 4) (q0 := 0) rfl rfl, pcX_of hPc hKc hZ⟩ rfl rfl hl.1 rfl (lv_room (Nat.le_of_ble_eq_true rfl)) dL_renew_4 ⟨Nat.le_of_ble_eq_true rfl, Nat.le_of_ble_eq_true rfl⟩) hP hS hown [] ⟨0, 9, 12, 13⟩ [] htab (fun z hz => nomatch hz) (by decide) (by decide) hcl13 hcst (fun H locs xq hP hS => ?_)
    refine lv_astore_n (lv' := [(3, .ref (xq)), (0, .ref (x 0)), (1, .int (iI (p))), (2, .ref (ob 0))]) hx hb dL_renew_12 rfl hl (by decide) rfl (fun ls hl => ?_)
    refine wi_iconst hx hb dL_renew_13 ?_
    refine W.widen (k := 1) (n := 6) (by decide) (by decide) ?_
    exact W.iret (v := iI (1)) hx hb hr (fun t9 ht9 hW9 => ⟨⟨(1), ⟨ln, σ, κ, sa, ss, φ, ρ, β, f⟩, rfl, (OPL.bad h9 (by decide) rfl ⟨rfl, rfl, rfl, rfl, rfl⟩), ⟨by rw [ht9]; exact hP, va_K.moved hW9.alike hK, hD⟩⟩, hS.F ht9⟩) hS.2.2 dL_renew_14 hlocks
set_option maxHeartbeats 4000000 in
set_option maxRecDepth 100000 in
theorem lk_finish (l : Launch) (hl9 : l.stackTraces = false) (D : va_G) (cI cO cC cL : ClassId) (sz : Nat) (x a sv o rd bu ob : Nat → Nat) (ln σ κ φ ρ β : Nat → Int → Int) (sa : Nat → Nat → Nat) (ss : Nat → Nat → Int → Int) (f : Nat → Int64) (q iz : Int) (hq : R32 q) (hiz : iz = 0 ∨ iz = 1) (hG : GI σ (κ 0 0) ss (ln 0 0) (β 1)) : Met l yL_finish wsL_finish ({ frames := 8, cells := 1, slots := 6, locals := 165 } : Room) (pcWX D [(cI, FieldType.int), (cO, FieldType.object "PromisedCounters$State"), (cC, FieldType.char), (cL, FieldType.long)] [.ref (x 0), .int (iI (q)), .int (iI (iz)), .ref (ob 0)] (fl [mnW x a sv o rd bu ln, stW cI a σ, svO cO sv (saF sa) κ, stW cI (sa 0) (ss 0), stW cI (sa 1) (ss 1), stW cI (sa 2) (ss 2), stW cI (sa 3) (ss 3), stW cI (sa 4) (ss 4), stW cI (sa 5) (ss 5), ocW cI o φ, rdW rd ρ, bfW cC bu β, ouW cL ob f]) sz) (wq_i (fun (r : Int) (u : LwS) => OPL (cd1 (0 ≤ q ∧ q ≤ 5)) r (σ 0 1 - finS σ q iz 0 1) (LwS.f u) (LwQ u σ (κ 0 0) ss (ln 0 0) (β 1)) (LwQ u (finS σ q iz) (pushK (κ 0 0)) (pushS (κ 0 0) ss σ) (ln 0 0) (β 1))) (fun (u : LwS) => (bW D [(cI, FieldType.int), (cO, FieldType.object "PromisedCounters$State"), (cC, FieldType.char), (cL, FieldType.long)] (fl [mnW x a sv o rd bu (LwS.ln u), stW cI a (LwS.σ u), svO cO sv (saF (LwS.sa u)) (LwS.κ u), stW cI (LwS.sa u 0) (LwS.ss u 0), stW cI (LwS.sa u 1) (LwS.ss u 1), stW cI (LwS.sa u 2) (LwS.ss u 2), stW cI (LwS.sa u 3) (LwS.ss u 3), stW cI (LwS.sa u 4) (LwS.ss u 4), stW cI (LwS.sa u 5) (LwS.ss u 5), ocW cI o (LwS.φ u), rdW rd (LwS.ρ u), bfW cC bu (LwS.β u), ouW cL ob (LwS.f u)]) (va_A (fl [mnW x a sv o rd bu ln, stW cI a σ, svO cO sv (saF sa) κ, stW cI (sa 0) (ss 0), stW cI (sa 1) (ss 1), stW cI (sa 2) (ss 2), stW cI (sa 3) (ss 3), stW cI (sa 4) (ss 4), stW cI (sa 5) (ss 5), ocW cI o φ, rdW rd ρ, bfW cC bu β, ouW cL ob f]) sz))) (va_A (fl [mnW x a sv o rd bu ln, stW cI a σ, svO cO sv (saF sa) κ, stW cI (sa 0) (ss 0), stW cI (sa 1) (ss 1), stW cI (sa 2) (ss 2), stW cI (sa 3) (ss 3), stW cI (sa 4) (ss 4), stW cI (sa 5) (ss 5), ocW cI o φ, rdW rd ρ, bfW cC bu β, ouW cL ob f]) sz)) 1 6 (va_A (fl [mnW x a sv o rd bu ln, stW cI a σ, svO cO sv (saF sa) κ, stW cI (sa 0) (ss 0), stW cI (sa 1) (ss 1), stW cI (sa 2) (ss 2), stW cI (sa 3) (ss 3), stW cI (sa 4) (ss 4), stW cI (sa 5) (ss 5), ocW cI o φ, rdW rd ρ, bfW cC bu β, ouW cL ob f]) sz) := by
  refine metH ([(0, 10, 13, 13)]) (cc := cL_finish) (maxL := 5) (ret := (some .int)) (by decide) rfl ?_
  intro p9 e9 s m args9 below9 meth9 c9 s₁ B hml htab hv
  obtain ⟨rfl, hsz, hP, hK, hD0, hZ⟩ := hv
  have hx := B.exec
  have hb := B.bytes
  have hr := B.returns
  have hts := atoms_spec (ws := wsL_finish) B.pre
  have hown : s.vm.findClass RL = some m.cls := findClass_of_methodNamed B.named
  have hlocks := B.notSynchronized
  subst hsz
  have hD := hD0.self (sz := s.heap.size)
  generalize hAe : va_A (fl [mnW x a sv o rd bu ln, stW cI a σ, svO cO sv (saF sa) κ, stW cI (sa 0) (ss 0), stW cI (sa 1) (ss 1), stW cI (sa 2) (ss 2), stW cI (sa 3) (ss 3), stW cI (sa 4) (ss 4), stW cI (sa 5) (ss 5), ocW cI o φ, rdW rd ρ, bfW cC bu β, ouW cL ob f]) s.heap.size = A at hD hZ ⊢
  have hA : ∀ q : Nat, s.heap.size ≤ q → A q := fun q h => by rw [← hAe]; exact Or.inr h
  have hS : va_S A s.heap s.heap [] := va_S.rf
  have hP : va_P D vwCl (fl [mnW x a sv o rd bu ln, stW cI a σ, svO cO sv (saF sa) κ, stW cI (sa 0) (ss 0), stW cI (sa 1) (ss 1), stW cI (sa 2) (ss 2), stW cI (sa 3) (ss 3), stW cI (sa 4) (ss 4), stW cI (sa 5) (ss 5), ocW cI o φ, rdW rd ρ, bfW cC bu β, ouW cL ob f]) s.heap := hP
  have hl := lv_entry ([.ref (x 0), .int (iI (q)), .int (iI (iz)), .ref (ob 0)]) (n := 5) (Nat.le_of_ble_eq_true rfl)
  rw [lg_entry_eq]
  generalize (lg_sl ([.ref (x 0), .int (iI (q)), .int (iI (iz)), .ref (ob 0)]) ++ List.replicate (5 - (lg_sl ([.ref (x 0), .int (iI (q)), .int (iI (iz)), .ref (ob 0)])).length) Slot.unset).toArray = ls at hl ⊢
  have hl : lv_has ls 5 [(0, .ref (x 0)), (1, .int (iI (q))), (2, .int (iI (iz))), (3, .ref (ob 0))] := hl
  have hI := hG.1
  have hkk := hG.2.1
  have hlnb := hG.2.2.2.1
  have hbb := hG.2.2.2.2
  have hnn := hI.n
  have htt := hI.t
  refine lv_aload_n hx hb dL_finish_0 rfl (lv_at hl 3 rfl) ?_
  refine wi_iconst hx hb dL_finish_1 ?_
  refine lv_aload_n hx hb dL_finish_2 rfl (lv_at hl 0 rfl) ?_
  refine lv_iload_n hx hb dL_finish_3 rfl (lv_at hl 1 rfl) ?_
  refine lv_iload_n hx hb dL_finish_4 rfl (lv_at hl 2 rfl) ?_
  rcases (cd1_c : (cd1 (0 ≤ q ∧ q ≤ 5) = 0 ∧ _) ∨ _) with ⟨h9, hok0⟩ | h9
  · skip
    have hPc := fl_P (S' := [mnW x a sv o rd bu ln, stW cI a σ, svO cO sv (saF sa) κ, stW cI (sa 0) (ss 0), stW cI (sa 1) (ss 1), stW cI (sa 2) (ss 2), stW cI (sa 3) (ss 3), stW cI (sa 4) (ss 4), stW cI (sa 5) (ss 5)]) hP [0, 1, 2, 3, 4, 5, 6, 7, 8] rfl
    have hKc := hK.sub (tys' := [(cI, FieldType.int), (cO, FieldType.object "PromisedCounters$State"), (cC, FieldType.char)]) [0, 1, 2] rfl
    have hDc := fl_D (S' := [mnW x a sv o rd bu ln, stW cI a σ, svO cO sv (saF sa) κ, stW cI (sa 0) (ss 0), stW cI (sa 1) (ss 1), stW cI (sa 2) (ss 2), stW cI (sa 3) (ss 3), stW cI (sa 4) (ss 4), stW cI (sa 5) (ss 5)]) hD [0, 1, 2, 3, 4, 5, 6, 7, 8] (by decide) rfl
    have hFc := fl_free (SC := [mnW x a sv o rd bu ln, stW cI a σ, svO cO sv (saF sa) κ, stW cI (sa 0) (ss 0), stW cI (sa 1) (ss 1), stW cI (sa 2) (ss 2), stW cI (sa 3) (ss 3), stW cI (sa 4) (ss 4), stW cI (sa 5) (ss 5)]) hD hS hA [0, 1, 2, 3, 4, 5, 6, 7, 8] rfl
    refine wq_calli (va_runV (As := [.int (iI (q)), .int (iI (iz))]) (rest := [.int (iI (0)), .ref (ob 0)]) ⟨hx, hb, hml, hown, hts⟩ (c_X4_finish l D cI cO cC cL s.heap.size x a sv o rd bu ln σ κ sa ss (q) (iz) (by first | assumption | omega) (by first | assumption | omega) (by first | assumption | omega) (by first | assumption | omega)) (cwV 2 hts gL_finish_X4_finish rfl rfl rfl (by decide +kernel) ⟨Nat.le_of_ble_eq_true rfl, Nat.le_of_ble_eq_true rfl⟩) ⟨pcW_blind, va_recv hKc hPc (ci := 4) (q0 := 0) rfl rfl, pcW_of hPc hKc hDc⟩ rfl rfl hl.1 rfl (lv_room (Nat.le_of_ble_eq_true rfl)) dL_finish_5 ⟨(Nat.zero_le _), (Nat.zero_le _)⟩) hS (fun q _ h => hFc q h) hFc (fun r1 u3 t9 H1 locs ht9 hvm hcl2 hB hz1 hk1 hS => ?_)
    obtain ⟨hP1, hK1, hD1⟩ := hB
    rw [ht9] at hP1
    obtain ⟨hP, hD⟩ := fl_join (SR := [ocW cI o φ, rdW rd ρ, bfW cC bu β, ouW cL ob f]) (S1 := [mnW x a sv o rd bu ln, stW cI a (finS σ (q) (iz)), svO cO sv (saF (pushA (κ 0 0) sa)) (sU κ 0 0 (pushK (κ 0 0))), stW cI (pushA (κ 0 0) sa 0) (pushS (κ 0 0) ss σ 0), stW cI (pushA (κ 0 0) sa 1) (pushS (κ 0 0) ss σ 1), stW cI (pushA (κ 0 0) sa 2) (pushS (κ 0 0) ss σ 2), stW cI (pushA (κ 0 0) sa 3) (pushS (κ 0 0) ss σ 3), stW cI (pushA (κ 0 0) sa 4) (pushS (κ 0 0) ss σ 4), stW cI (pushA (κ 0 0) sa 5) (pushS (κ 0 0) ss σ 5)]) hP hD [0, 1, 2, 3, 4, 5, 6, 7, 8] [9, 10, 11, 12] rfl rfl (by decide) (by decide) hk1 hFc hP1 hD1
    generalize H1 = H at hP hS ⊢
    have hP := fl_P (S' := [mnW x a sv o rd bu ln, stW cI a (finS σ (q) (iz)), svO cO sv (saF (pushA (κ 0 0) sa)) (sU κ 0 0 (pushK (κ 0 0))), stW cI (pushA (κ 0 0) sa 0) (pushS (κ 0 0) ss σ 0), stW cI (pushA (κ 0 0) sa 1) (pushS (κ 0 0) ss σ 1), stW cI (pushA (κ 0 0) sa 2) (pushS (κ 0 0) ss σ 2), stW cI (pushA (κ 0 0) sa 3) (pushS (κ 0 0) ss σ 3), stW cI (pushA (κ 0 0) sa 4) (pushS (κ 0 0) ss σ 4), stW cI (pushA (κ 0 0) sa 5) (pushS (κ 0 0) ss σ 5), ocW cI o φ, rdW rd ρ, bfW cC bu β, ouW cL ob f]) hP [4, 5, 6, 7, 8, 9, 10, 11, 12, 0, 1, 2, 3] rfl
    have hD := fl_D (S' := [mnW x a sv o rd bu ln, stW cI a (finS σ (q) (iz)), svO cO sv (saF (pushA (κ 0 0) sa)) (sU κ 0 0 (pushK (κ 0 0))), stW cI (pushA (κ 0 0) sa 0) (pushS (κ 0 0) ss σ 0), stW cI (pushA (κ 0 0) sa 1) (pushS (κ 0 0) ss σ 1), stW cI (pushA (κ 0 0) sa 2) (pushS (κ 0 0) ss σ 2), stW cI (pushA (κ 0 0) sa 3) (pushS (κ 0 0) ss σ 3), stW cI (pushA (κ 0 0) sa 4) (pushS (κ 0 0) ss σ 4), stW cI (pushA (κ 0 0) sa 5) (pushS (κ 0 0) ss σ 5), ocW cI o φ, rdW rd ρ, bfW cC bu β, ouW cL ob f]) hD [4, 5, 6, 7, 8, 9, 10, 11, 12, 0, 1, 2, 3] (by decide) rfl
    refine lv_i2l (v := iL (r1)) hx hb dL_finish_8 rfl ?_
    refine wi_last hx hb hK hP hD hS 98 3 rfl rfl dL_finish_9 (fun H locs hP hD hS => ?_)
    have hP : va_P D vwCl (fl [mnW x a sv o rd bu ln, stW cI a (finS σ (q) (iz)), svO cO sv (saF (pushA (κ 0 0) sa)) (sU κ 0 0 (pushK (κ 0 0))), stW cI (pushA (κ 0 0) sa 0) (pushS (κ 0 0) ss σ 0), stW cI (pushA (κ 0 0) sa 1) (pushS (κ 0 0) ss σ 1), stW cI (pushA (κ 0 0) sa 2) (pushS (κ 0 0) ss σ 2), stW cI (pushA (κ 0 0) sa 3) (pushS (κ 0 0) ss σ 3), stW cI (pushA (κ 0 0) sa 4) (pushS (κ 0 0) ss σ 4), stW cI (pushA (κ 0 0) sa 5) (pushS (κ 0 0) ss σ 5), ocW cI o φ, rdW rd ρ, bfW cC bu β, ouW cL ob (fun _ => (iL (r1)))]) H := hP
    have hD : va_D A (fl [mnW x a sv o rd bu ln, stW cI a (finS σ (q) (iz)), svO cO sv (saF (pushA (κ 0 0) sa)) (sU κ 0 0 (pushK (κ 0 0))), stW cI (pushA (κ 0 0) sa 0) (pushS (κ 0 0) ss σ 0), stW cI (pushA (κ 0 0) sa 1) (pushS (κ 0 0) ss σ 1), stW cI (pushA (κ 0 0) sa 2) (pushS (κ 0 0) ss σ 2), stW cI (pushA (κ 0 0) sa 3) (pushS (κ 0 0) ss σ 3), stW cI (pushA (κ 0 0) sa 4) (pushS (κ 0 0) ss σ 4), stW cI (pushA (κ 0 0) sa 5) (pushS (κ 0 0) ss σ 5), ocW cI o φ, rdW rd ρ, bfW cC bu β, ouW cL ob (fun _ => (iL (r1)))]) := hD
    refine lv_goto (tgt := 17) hx hb dL_finish_10 (by decide) ?_
    refine wi_iconst hx hb dL_finish_17 ?_
    refine W.widen (k := 1) (n := 6) (by decide) (by decide) ?_
    exact W.iret (v := iI (0)) hx hb hr (fun t9 ht9 hW9 => ⟨⟨(0), ⟨ln, (finS σ (q) (iz)), (sU κ 0 0 (pushK (κ 0 0))), (pushA (κ 0 0) sa), pushS (κ 0 0) ss σ, φ, ρ, β, (fun _ => (iL (r1)))⟩, rfl, (OPL.good h9 rfl (congrArg (fun z : Int => fun _ : Nat => iL z) hcl2) ⟨rfl, rfl, rfl, rfl, rfl⟩), ⟨by rw [ht9]; exact hP, va_K.moved hW9.alike hK, hD⟩⟩, hS.F ht9⟩) hS.2.2 dL_finish_18 hlocks
  · skip
    have cx9 := x_X4_finish l hl9 D cI cO cC cL x a sv o rd bu ln σ q iz (by first | assumption | omega) hI (by rw [h9]; decide)
    rw [h9, show xnA 1 = "java/lang/IndexOutOfBoundsException" from rfl] at cx9
    have hPc := fl_P (S' := [mnW x a sv o rd bu ln, stW cI a σ]) hP [0, 1] rfl
    have hKc := hK.sub (tys' := [(cI, FieldType.int), (cO, FieldType.object "PromisedCounters$State"), (cC, FieldType.char)]) [0, 1, 2] rfl
    have hcl13 := hts (Cond.classLink RL 13 "java/lang/IndexOutOfBoundsException") (by decide +kernel)
    have hcst : (Cond.castable "java/lang/IndexOutOfBoundsException" "java/lang/IndexOutOfBoundsException").before ([.ref (x 0), .int (iI (q)), .int (iI (iz)), .ref (ob 0)] : List Value).toArray s = true := va_Nw.use (ZB_tabs _ (by decide)) (hZ.2.2.1 (Cond.castable "java/lang/IndexOutOfBoundsException" "java/lang/IndexOutOfBoundsException") (by decide))
    refine catchX (vx_runV (As := [.int (iI (q)), .int (iI (iz))]) (rest := [.int (iI (0)), .ref (ob 0)]) ⟨hx, hb, hml, hown, hts⟩ cx9 (cwV 2 hts gL_finish_X4_finish rfl rfl rfl (by decide +kernel) ⟨Nat.le_of_ble_eq_true rfl, Nat.le_of_ble_eq_true rfl⟩) ⟨pcX_blind, va_recv hKc hPc (ci := 4) (q0 := 0) rfl rfl, pcX_of hPc hKc hZ⟩ rfl rfl hl.1 rfl (lv_room (Nat.le_of_ble_eq_true rfl)) dL_finish_5 ⟨Nat.le_of_ble_eq_true rfl, Nat.le_of_ble_eq_true rfl⟩) hP hS hown [] ⟨0, 10, 13, 13⟩ [] htab (fun z hz => nomatch hz) (by decide) (by decide) hcl13 hcst (fun H locs xq hP hS => ?_)
    refine lv_astore (lv' := [(4, .ref (xq)), (0, .ref (x 0)), (1, .int (iI (q))), (2, .int (iI (iz))), (3, .ref (ob 0))]) hx hb dL_finish_13 hl (by decide) rfl (fun ls hl => ?_)
    refine wi_iconst hx hb dL_finish_15 ?_
    refine W.widen (k := 1) (n := 6) (by decide) (by decide) ?_
    exact W.iret (v := iI (1)) hx hb hr (fun t9 ht9 hW9 => ⟨⟨(1), ⟨ln, σ, κ, sa, ss, φ, ρ, β, f⟩, rfl, (OPL.bad h9 (by decide) rfl ⟨rfl, rfl, rfl, rfl, rfl⟩), ⟨by rw [ht9]; exact hP, va_K.moved hW9.alike hK, hD⟩⟩, hS.F ht9⟩) hS.2.2 dL_finish_16 hlocks
set_option maxHeartbeats 4000000 in
set_option maxRecDepth 100000 in
theorem lk_pass (l : Launch) (hl9 : l.stackTraces = false) (D : va_G) (cI cO cC cL : ClassId) (sz : Nat) (x a sv o rd bu ob : Nat → Nat) (ln σ κ φ ρ β : Nat → Int → Int) (sa : Nat → Nat → Nat) (ss : Nat → Nat → Int → Int) (f : Nat → Int64) (v : Int) (hv : R32 v) (hG : GI σ (κ 0 0) ss (ln 0 0) (β 1)) : Met l yL_pass wsL_pass ({ frames := 8, cells := 1, slots := 6, locals := 165 } : Room) (pcWX D [(cI, FieldType.int), (cO, FieldType.object "PromisedCounters$State"), (cC, FieldType.char), (cL, FieldType.long)] [.ref (x 0), .int (iI (v)), .ref (ob 0)] (fl [mnW x a sv o rd bu ln, stW cI a σ, svO cO sv (saF sa) κ, stW cI (sa 0) (ss 0), stW cI (sa 1) (ss 1), stW cI (sa 2) (ss 2), stW cI (sa 3) (ss 3), stW cI (sa 4) (ss 4), stW cI (sa 5) (ss 5), ocW cI o φ, rdW rd ρ, bfW cC bu β, ouW cL ob f]) sz) (wq_i (fun (r : Int) (u : LwS) => OPL (cd2 (1 ≤ v ∧ v ≤ 99) (σ 0 0 + v ≤ 9999)) r (σ 0 1 - pasT σ v 0 1) (LwS.f u) (LwQ u σ (κ 0 0) ss (ln 0 0) (β 1)) (LwQ u (pasT σ v) (pushK (κ 0 0)) (pushS (κ 0 0) ss σ) (ln 0 0) (β 1))) (fun (u : LwS) => (bW D [(cI, FieldType.int), (cO, FieldType.object "PromisedCounters$State"), (cC, FieldType.char), (cL, FieldType.long)] (fl [mnW x a sv o rd bu (LwS.ln u), stW cI a (LwS.σ u), svO cO sv (saF (LwS.sa u)) (LwS.κ u), stW cI (LwS.sa u 0) (LwS.ss u 0), stW cI (LwS.sa u 1) (LwS.ss u 1), stW cI (LwS.sa u 2) (LwS.ss u 2), stW cI (LwS.sa u 3) (LwS.ss u 3), stW cI (LwS.sa u 4) (LwS.ss u 4), stW cI (LwS.sa u 5) (LwS.ss u 5), ocW cI o (LwS.φ u), rdW rd (LwS.ρ u), bfW cC bu (LwS.β u), ouW cL ob (LwS.f u)]) (va_A (fl [mnW x a sv o rd bu ln, stW cI a σ, svO cO sv (saF sa) κ, stW cI (sa 0) (ss 0), stW cI (sa 1) (ss 1), stW cI (sa 2) (ss 2), stW cI (sa 3) (ss 3), stW cI (sa 4) (ss 4), stW cI (sa 5) (ss 5), ocW cI o φ, rdW rd ρ, bfW cC bu β, ouW cL ob f]) sz))) (va_A (fl [mnW x a sv o rd bu ln, stW cI a σ, svO cO sv (saF sa) κ, stW cI (sa 0) (ss 0), stW cI (sa 1) (ss 1), stW cI (sa 2) (ss 2), stW cI (sa 3) (ss 3), stW cI (sa 4) (ss 4), stW cI (sa 5) (ss 5), ocW cI o φ, rdW rd ρ, bfW cC bu β, ouW cL ob f]) sz)) 1 6 (va_A (fl [mnW x a sv o rd bu ln, stW cI a σ, svO cO sv (saF sa) κ, stW cI (sa 0) (ss 0), stW cI (sa 1) (ss 1), stW cI (sa 2) (ss 2), stW cI (sa 3) (ss 3), stW cI (sa 4) (ss 4), stW cI (sa 5) (ss 5), ocW cI o φ, rdW rd ρ, bfW cC bu β, ouW cL ob f]) sz) := by
  refine metH ([(0, 9, 12, 15), (0, 9, 15, 17)]) (cc := cL_pass) (maxL := 4) (ret := (some .int)) (by decide) rfl ?_
  intro p9 e9 s m args9 below9 meth9 c9 s₁ B hml htab hv
  obtain ⟨rfl, hsz, hP, hK, hD0, hZ⟩ := hv
  have hx := B.exec
  have hb := B.bytes
  have hr := B.returns
  have hts := atoms_spec (ws := wsL_pass) B.pre
  have hown : s.vm.findClass RL = some m.cls := findClass_of_methodNamed B.named
  have hlocks := B.notSynchronized
  subst hsz
  have hD := hD0.self (sz := s.heap.size)
  generalize hAe : va_A (fl [mnW x a sv o rd bu ln, stW cI a σ, svO cO sv (saF sa) κ, stW cI (sa 0) (ss 0), stW cI (sa 1) (ss 1), stW cI (sa 2) (ss 2), stW cI (sa 3) (ss 3), stW cI (sa 4) (ss 4), stW cI (sa 5) (ss 5), ocW cI o φ, rdW rd ρ, bfW cC bu β, ouW cL ob f]) s.heap.size = A at hD hZ ⊢
  have hA : ∀ q : Nat, s.heap.size ≤ q → A q := fun q h => by rw [← hAe]; exact Or.inr h
  have hS : va_S A s.heap s.heap [] := va_S.rf
  have hP : va_P D vwCl (fl [mnW x a sv o rd bu ln, stW cI a σ, svO cO sv (saF sa) κ, stW cI (sa 0) (ss 0), stW cI (sa 1) (ss 1), stW cI (sa 2) (ss 2), stW cI (sa 3) (ss 3), stW cI (sa 4) (ss 4), stW cI (sa 5) (ss 5), ocW cI o φ, rdW rd ρ, bfW cC bu β, ouW cL ob f]) s.heap := hP
  have hl := lv_entry ([.ref (x 0), .int (iI (v)), .ref (ob 0)]) (n := 4) (Nat.le_of_ble_eq_true rfl)
  rw [lg_entry_eq]
  generalize (lg_sl ([.ref (x 0), .int (iI (v)), .ref (ob 0)]) ++ List.replicate (4 - (lg_sl ([.ref (x 0), .int (iI (v)), .ref (ob 0)])).length) Slot.unset).toArray = ls at hl ⊢
  have hl : lv_has ls 4 [(0, .ref (x 0)), (1, .int (iI (v))), (2, .ref (ob 0))] := hl
  have hI := hG.1
  have hkk := hG.2.1
  have hlnb := hG.2.2.2.1
  have hbb := hG.2.2.2.2
  have hnn := hI.n
  have htt := hI.t
  refine lv_aload_n hx hb dL_pass_0 rfl (lv_at hl 2 rfl) ?_
  refine wi_iconst hx hb dL_pass_1 ?_
  refine lv_aload_n hx hb dL_pass_2 rfl (lv_at hl 0 rfl) ?_
  refine lv_iload_n hx hb dL_pass_3 rfl (lv_at hl 1 rfl) ?_
  rcases (cd2_c : (cd2 (1 ≤ v ∧ v ≤ 99) (σ 0 0 + v ≤ 9999) = 0 ∧ _) ∨ _) with ⟨h9, hok0, hok1⟩ | h9 | h9
  · skip
    have hPc := fl_P (S' := [mnW x a sv o rd bu ln, stW cI a σ, svO cO sv (saF sa) κ, stW cI (sa 0) (ss 0), stW cI (sa 1) (ss 1), stW cI (sa 2) (ss 2), stW cI (sa 3) (ss 3), stW cI (sa 4) (ss 4), stW cI (sa 5) (ss 5)]) hP [0, 1, 2, 3, 4, 5, 6, 7, 8] rfl
    have hKc := hK.sub (tys' := [(cI, FieldType.int), (cO, FieldType.object "PromisedCounters$State"), (cC, FieldType.char)]) [0, 1, 2] rfl
    have hDc := fl_D (S' := [mnW x a sv o rd bu ln, stW cI a σ, svO cO sv (saF sa) κ, stW cI (sa 0) (ss 0), stW cI (sa 1) (ss 1), stW cI (sa 2) (ss 2), stW cI (sa 3) (ss 3), stW cI (sa 4) (ss 4), stW cI (sa 5) (ss 5)]) hD [0, 1, 2, 3, 4, 5, 6, 7, 8] (by decide) rfl
    have hFc := fl_free (SC := [mnW x a sv o rd bu ln, stW cI a σ, svO cO sv (saF sa) κ, stW cI (sa 0) (ss 0), stW cI (sa 1) (ss 1), stW cI (sa 2) (ss 2), stW cI (sa 3) (ss 3), stW cI (sa 4) (ss 4), stW cI (sa 5) (ss 5)]) hD hS hA [0, 1, 2, 3, 4, 5, 6, 7, 8] rfl
    refine wq_calli (va_runV (As := [.int (iI (v))]) (rest := [.int (iI (0)), .ref (ob 0)]) ⟨hx, hb, hml, hown, hts⟩ (c_X4_pass l D cI cO cC cL s.heap.size x a sv o rd bu ln σ κ sa ss (v) (by first | assumption | omega) (by first | assumption | omega) (by first | assumption | omega) (by first | assumption | omega)) (cwV 1 hts gL_pass_X4_pass rfl rfl rfl (by decide +kernel) ⟨Nat.le_of_ble_eq_true rfl, Nat.le_of_ble_eq_true rfl⟩) ⟨pcW_blind, va_recv hKc hPc (ci := 4) (q0 := 0) rfl rfl, pcW_of hPc hKc hDc⟩ rfl rfl hl.1 rfl (lv_room (Nat.le_of_ble_eq_true rfl)) dL_pass_4 ⟨(Nat.zero_le _), (Nat.zero_le _)⟩) hS (fun q _ h => hFc q h) hFc (fun r1 u3 t9 H1 locs ht9 hvm hcl2 hB hz1 hk1 hS => ?_)
    obtain ⟨hP1, hK1, hD1⟩ := hB
    rw [ht9] at hP1
    obtain ⟨hP, hD⟩ := fl_join (SR := [ocW cI o φ, rdW rd ρ, bfW cC bu β, ouW cL ob f]) (S1 := [mnW x a sv o rd bu ln, stW cI a (pasT σ (v)), svO cO sv (saF (pushA (κ 0 0) sa)) (sU κ 0 0 (pushK (κ 0 0))), stW cI (pushA (κ 0 0) sa 0) (pushS (κ 0 0) ss σ 0), stW cI (pushA (κ 0 0) sa 1) (pushS (κ 0 0) ss σ 1), stW cI (pushA (κ 0 0) sa 2) (pushS (κ 0 0) ss σ 2), stW cI (pushA (κ 0 0) sa 3) (pushS (κ 0 0) ss σ 3), stW cI (pushA (κ 0 0) sa 4) (pushS (κ 0 0) ss σ 4), stW cI (pushA (κ 0 0) sa 5) (pushS (κ 0 0) ss σ 5)]) hP hD [0, 1, 2, 3, 4, 5, 6, 7, 8] [9, 10, 11, 12] rfl rfl (by decide) (by decide) hk1 hFc hP1 hD1
    generalize H1 = H at hP hS ⊢
    have hP := fl_P (S' := [mnW x a sv o rd bu ln, stW cI a (pasT σ (v)), svO cO sv (saF (pushA (κ 0 0) sa)) (sU κ 0 0 (pushK (κ 0 0))), stW cI (pushA (κ 0 0) sa 0) (pushS (κ 0 0) ss σ 0), stW cI (pushA (κ 0 0) sa 1) (pushS (κ 0 0) ss σ 1), stW cI (pushA (κ 0 0) sa 2) (pushS (κ 0 0) ss σ 2), stW cI (pushA (κ 0 0) sa 3) (pushS (κ 0 0) ss σ 3), stW cI (pushA (κ 0 0) sa 4) (pushS (κ 0 0) ss σ 4), stW cI (pushA (κ 0 0) sa 5) (pushS (κ 0 0) ss σ 5), ocW cI o φ, rdW rd ρ, bfW cC bu β, ouW cL ob f]) hP [4, 5, 6, 7, 8, 9, 10, 11, 12, 0, 1, 2, 3] rfl
    have hD := fl_D (S' := [mnW x a sv o rd bu ln, stW cI a (pasT σ (v)), svO cO sv (saF (pushA (κ 0 0) sa)) (sU κ 0 0 (pushK (κ 0 0))), stW cI (pushA (κ 0 0) sa 0) (pushS (κ 0 0) ss σ 0), stW cI (pushA (κ 0 0) sa 1) (pushS (κ 0 0) ss σ 1), stW cI (pushA (κ 0 0) sa 2) (pushS (κ 0 0) ss σ 2), stW cI (pushA (κ 0 0) sa 3) (pushS (κ 0 0) ss σ 3), stW cI (pushA (κ 0 0) sa 4) (pushS (κ 0 0) ss σ 4), stW cI (pushA (κ 0 0) sa 5) (pushS (κ 0 0) ss σ 5), ocW cI o φ, rdW rd ρ, bfW cC bu β, ouW cL ob f]) hD [4, 5, 6, 7, 8, 9, 10, 11, 12, 0, 1, 2, 3] (by decide) rfl
    refine lv_i2l (v := iL (r1)) hx hb dL_pass_7 rfl ?_
    refine wi_last hx hb hK hP hD hS 98 3 rfl rfl dL_pass_8 (fun H locs hP hD hS => ?_)
    have hP : va_P D vwCl (fl [mnW x a sv o rd bu ln, stW cI a (pasT σ (v)), svO cO sv (saF (pushA (κ 0 0) sa)) (sU κ 0 0 (pushK (κ 0 0))), stW cI (pushA (κ 0 0) sa 0) (pushS (κ 0 0) ss σ 0), stW cI (pushA (κ 0 0) sa 1) (pushS (κ 0 0) ss σ 1), stW cI (pushA (κ 0 0) sa 2) (pushS (κ 0 0) ss σ 2), stW cI (pushA (κ 0 0) sa 3) (pushS (κ 0 0) ss σ 3), stW cI (pushA (κ 0 0) sa 4) (pushS (κ 0 0) ss σ 4), stW cI (pushA (κ 0 0) sa 5) (pushS (κ 0 0) ss σ 5), ocW cI o φ, rdW rd ρ, bfW cC bu β, ouW cL ob (fun _ => (iL (r1)))]) H := hP
    have hD : va_D A (fl [mnW x a sv o rd bu ln, stW cI a (pasT σ (v)), svO cO sv (saF (pushA (κ 0 0) sa)) (sU κ 0 0 (pushK (κ 0 0))), stW cI (pushA (κ 0 0) sa 0) (pushS (κ 0 0) ss σ 0), stW cI (pushA (κ 0 0) sa 1) (pushS (κ 0 0) ss σ 1), stW cI (pushA (κ 0 0) sa 2) (pushS (κ 0 0) ss σ 2), stW cI (pushA (κ 0 0) sa 3) (pushS (κ 0 0) ss σ 3), stW cI (pushA (κ 0 0) sa 4) (pushS (κ 0 0) ss σ 4), stW cI (pushA (κ 0 0) sa 5) (pushS (κ 0 0) ss σ 5), ocW cI o φ, rdW rd ρ, bfW cC bu β, ouW cL ob (fun _ => (iL (r1)))]) := hD
    refine lv_goto (tgt := 18) hx hb dL_pass_9 (by decide) ?_
    refine wi_iconst hx hb dL_pass_18 ?_
    refine W.widen (k := 1) (n := 6) (by decide) (by decide) ?_
    exact W.iret (v := iI (0)) hx hb hr (fun t9 ht9 hW9 => ⟨⟨(0), ⟨ln, (pasT σ (v)), (sU κ 0 0 (pushK (κ 0 0))), (pushA (κ 0 0) sa), pushS (κ 0 0) ss σ, φ, ρ, β, (fun _ => (iL (r1)))⟩, rfl, (OPL.good h9 rfl (congrArg (fun z : Int => fun _ : Nat => iL z) hcl2) ⟨rfl, rfl, rfl, rfl, rfl⟩), ⟨by rw [ht9]; exact hP, va_K.moved hW9.alike hK, hD⟩⟩, hS.F ht9⟩) hS.2.2 dL_pass_19 hlocks
  · skip
    have cx9 := x_X4_pass l hl9 D cI cO cC cL x a sv o rd bu ln σ v (by first | assumption | omega) hI (by rw [h9]; decide)
    rw [h9, show xnB 1 = "java/lang/IllegalArgumentException" from rfl] at cx9
    have hPc := fl_P (S' := [mnW x a sv o rd bu ln, stW cI a σ]) hP [0, 1] rfl
    have hKc := hK.sub (tys' := [(cI, FieldType.int), (cO, FieldType.object "PromisedCounters$State"), (cC, FieldType.char)]) [0, 1, 2] rfl
    have hcl15 := hts (Cond.classLink RL 15 "java/lang/IllegalArgumentException") (by decide +kernel)
    have hcst : (Cond.castable "java/lang/IllegalArgumentException" "java/lang/IllegalArgumentException").before ([.ref (x 0), .int (iI (v)), .ref (ob 0)] : List Value).toArray s = true := va_Nw.use (ZB_tabs _ (by decide)) (hZ.2.2.1 (Cond.castable "java/lang/IllegalArgumentException" "java/lang/IllegalArgumentException") (by decide))
    refine catchX (vx_runV (As := [.int (iI (v))]) (rest := [.int (iI (0)), .ref (ob 0)]) ⟨hx, hb, hml, hown, hts⟩ cx9 (cwV 1 hts gL_pass_X4_pass rfl rfl rfl (by decide +kernel) ⟨Nat.le_of_ble_eq_true rfl, Nat.le_of_ble_eq_true rfl⟩) ⟨pcX_blind, va_recv hKc hPc (ci := 4) (q0 := 0) rfl rfl, pcX_of hPc hKc hZ⟩ rfl rfl hl.1 rfl (lv_room (Nat.le_of_ble_eq_true rfl)) dL_pass_4 ⟨Nat.le_of_ble_eq_true rfl, Nat.le_of_ble_eq_true rfl⟩) hP hS hown [] ⟨0, 9, 12, 15⟩ [⟨0, 9, 15, 17⟩] htab (fun z hz => nomatch hz) (by decide) (by decide) hcl15 hcst (fun H locs xq hP hS => ?_)
    refine lv_astore_n (lv' := [(3, .ref (xq)), (0, .ref (x 0)), (1, .int (iI (v))), (2, .ref (ob 0))]) hx hb dL_pass_12 rfl hl (by decide) rfl (fun ls hl => ?_)
    refine wi_iconst hx hb dL_pass_13 ?_
    refine W.widen (k := 1) (n := 6) (by decide) (by decide) ?_
    exact W.iret (v := iI (1)) hx hb hr (fun t9 ht9 hW9 => ⟨⟨(1), ⟨ln, σ, κ, sa, ss, φ, ρ, β, f⟩, rfl, (OPL.bad h9 (by decide) rfl ⟨rfl, rfl, rfl, rfl, rfl⟩), ⟨by rw [ht9]; exact hP, va_K.moved hW9.alike hK, hD⟩⟩, hS.F ht9⟩) hS.2.2 dL_pass_14 hlocks
  · skip
    have cx9 := x_X4_pass l hl9 D cI cO cC cL x a sv o rd bu ln σ v (by first | assumption | omega) hI (by rw [h9]; decide)
    rw [h9, show xnB 2 = "java/lang/IllegalStateException" from rfl] at cx9
    have hPc := fl_P (S' := [mnW x a sv o rd bu ln, stW cI a σ]) hP [0, 1] rfl
    have hKc := hK.sub (tys' := [(cI, FieldType.int), (cO, FieldType.object "PromisedCounters$State"), (cC, FieldType.char)]) [0, 1, 2] rfl
    have hcl15 := hts (Cond.classLink RL 15 "java/lang/IllegalArgumentException") (by decide +kernel)
    have hcl17 := hts (Cond.classLink RL 17 "java/lang/IllegalStateException") (by decide +kernel)
    have hcst : (Cond.castable "java/lang/IllegalStateException" "java/lang/IllegalStateException").before ([.ref (x 0), .int (iI (v)), .ref (ob 0)] : List Value).toArray s = true := va_Nw.use (ZB_tabs _ (by decide)) (hZ.2.2.1 (Cond.castable "java/lang/IllegalStateException" "java/lang/IllegalStateException") (by decide))
    refine catchX (vx_runV (As := [.int (iI (v))]) (rest := [.int (iI (0)), .ref (ob 0)]) ⟨hx, hb, hml, hown, hts⟩ cx9 (cwV 1 hts gL_pass_X4_pass rfl rfl rfl (by decide +kernel) ⟨Nat.le_of_ble_eq_true rfl, Nat.le_of_ble_eq_true rfl⟩) ⟨pcX_blind, va_recv hKc hPc (ci := 4) (q0 := 0) rfl rfl, pcX_of hPc hKc hZ⟩ rfl rfl hl.1 rfl (lv_room (Nat.le_of_ble_eq_true rfl)) dL_pass_4 ⟨Nat.le_of_ble_eq_true rfl, Nat.le_of_ble_eq_true rfl⟩) hP hS hown [⟨0, 9, 12, 15⟩] ⟨0, 9, 15, 17⟩ [] htab (fun z hz => by cases List.mem_singleton.mp hz; exact Or.inr ⟨by decide, _, hcl15, hZ.2.2.2.2.2⟩) (by decide) (by decide) hcl17 hcst (fun H locs xq hP hS => ?_)
    refine lv_astore_n (lv' := [(3, .ref (xq)), (0, .ref (x 0)), (1, .int (iI (v))), (2, .ref (ob 0))]) hx hb dL_pass_15 rfl hl (by decide) rfl (fun ls hl => ?_)
    refine wi_iconst hx hb dL_pass_16 ?_
    refine W.widen (k := 1) (n := 6) (by decide) (by decide) ?_
    exact W.iret (v := iI (2)) hx hb hr (fun t9 ht9 hW9 => ⟨⟨(2), ⟨ln, σ, κ, sa, ss, φ, ρ, β, f⟩, rfl, (OPL.bad h9 (by decide) rfl ⟨rfl, rfl, rfl, rfl, rfl⟩), ⟨by rw [ht9]; exact hP, va_K.moved hW9.alike hK, hD⟩⟩, hS.F ht9⟩) hS.2.2 dL_pass_17 hlocks
set_option maxHeartbeats 4000000 in
set_option maxRecDepth 100000 in
theorem lk_append (l : Launch) (hl9 : l.stackTraces = false) (D : va_G) (cI cO cC cL : ClassId) (sz : Nat) (x a sv o rd bu ob : Nat → Nat) (ln σ κ φ ρ β : Nat → Int → Int) (sa : Nat → Nat → Nat) (ss : Nat → Nat → Int → Int) (f : Nat → Int64) (c : Int) (hc : R32 c) (hG : GI σ (κ 0 0) ss (ln 0 0) (β 1)) : Met l yL_append wsL_append ({ frames := 8, cells := 1, slots := 6, locals := 163 } : Room) (pcWX D [(cI, FieldType.int), (cO, FieldType.object "PromisedCounters$State"), (cC, FieldType.char), (cL, FieldType.long)] [.ref (x 0), .int (iI (c)), .ref (ob 0)] (fl [mnW x a sv o rd bu ln, stW cI a σ, svO cO sv (saF sa) κ, stW cI (sa 0) (ss 0), stW cI (sa 1) (ss 1), stW cI (sa 2) (ss 2), stW cI (sa 3) (ss 3), stW cI (sa 4) (ss 4), stW cI (sa 5) (ss 5), ocW cI o φ, rdW rd ρ, bfW cC bu β, ouW cL ob f]) sz) (wq_i (fun (r : Int) (u : LwS) => OPL (cd2 (33 ≤ c ∧ c ≤ 126) (ln 0 0 ≠ 60)) r (ln 0 0 + 1) (LwS.f u) (LwQ u σ (κ 0 0) ss (ln 0 0) (β 1)) (LwQ u σ (κ 0 0) ss (ln 0 0 + 1) (uI (β 1) (ln 0 0) c))) (fun (u : LwS) => (bW D [(cI, FieldType.int), (cO, FieldType.object "PromisedCounters$State"), (cC, FieldType.char), (cL, FieldType.long)] (fl [mnW x a sv o rd bu (LwS.ln u), stW cI a (LwS.σ u), svO cO sv (saF (LwS.sa u)) (LwS.κ u), stW cI (LwS.sa u 0) (LwS.ss u 0), stW cI (LwS.sa u 1) (LwS.ss u 1), stW cI (LwS.sa u 2) (LwS.ss u 2), stW cI (LwS.sa u 3) (LwS.ss u 3), stW cI (LwS.sa u 4) (LwS.ss u 4), stW cI (LwS.sa u 5) (LwS.ss u 5), ocW cI o (LwS.φ u), rdW rd (LwS.ρ u), bfW cC bu (LwS.β u), ouW cL ob (LwS.f u)]) (va_A (fl [mnW x a sv o rd bu ln, stW cI a σ, svO cO sv (saF sa) κ, stW cI (sa 0) (ss 0), stW cI (sa 1) (ss 1), stW cI (sa 2) (ss 2), stW cI (sa 3) (ss 3), stW cI (sa 4) (ss 4), stW cI (sa 5) (ss 5), ocW cI o φ, rdW rd ρ, bfW cC bu β, ouW cL ob f]) sz))) (va_A (fl [mnW x a sv o rd bu ln, stW cI a σ, svO cO sv (saF sa) κ, stW cI (sa 0) (ss 0), stW cI (sa 1) (ss 1), stW cI (sa 2) (ss 2), stW cI (sa 3) (ss 3), stW cI (sa 4) (ss 4), stW cI (sa 5) (ss 5), ocW cI o φ, rdW rd ρ, bfW cC bu β, ouW cL ob f]) sz)) 1 6 (va_A (fl [mnW x a sv o rd bu ln, stW cI a σ, svO cO sv (saF sa) κ, stW cI (sa 0) (ss 0), stW cI (sa 1) (ss 1), stW cI (sa 2) (ss 2), stW cI (sa 3) (ss 3), stW cI (sa 4) (ss 4), stW cI (sa 5) (ss 5), ocW cI o φ, rdW rd ρ, bfW cC bu β, ouW cL ob f]) sz) := by
  refine metH ([(0, 9, 12, 15), (0, 9, 15, 17)]) (cc := cL_append) (maxL := 4) (ret := (some .int)) (by decide) rfl ?_
  intro p9 e9 s m args9 below9 meth9 c9 s₁ B hml htab hv
  obtain ⟨rfl, hsz, hP, hK, hD0, hZ⟩ := hv
  have hx := B.exec
  have hb := B.bytes
  have hr := B.returns
  have hts := atoms_spec (ws := wsL_append) B.pre
  have hown : s.vm.findClass RL = some m.cls := findClass_of_methodNamed B.named
  have hlocks := B.notSynchronized
  subst hsz
  have hD := hD0.self (sz := s.heap.size)
  generalize hAe : va_A (fl [mnW x a sv o rd bu ln, stW cI a σ, svO cO sv (saF sa) κ, stW cI (sa 0) (ss 0), stW cI (sa 1) (ss 1), stW cI (sa 2) (ss 2), stW cI (sa 3) (ss 3), stW cI (sa 4) (ss 4), stW cI (sa 5) (ss 5), ocW cI o φ, rdW rd ρ, bfW cC bu β, ouW cL ob f]) s.heap.size = A at hD hZ ⊢
  have hA : ∀ q : Nat, s.heap.size ≤ q → A q := fun q h => by rw [← hAe]; exact Or.inr h
  have hS : va_S A s.heap s.heap [] := va_S.rf
  have hP : va_P D vwCl (fl [mnW x a sv o rd bu ln, stW cI a σ, svO cO sv (saF sa) κ, stW cI (sa 0) (ss 0), stW cI (sa 1) (ss 1), stW cI (sa 2) (ss 2), stW cI (sa 3) (ss 3), stW cI (sa 4) (ss 4), stW cI (sa 5) (ss 5), ocW cI o φ, rdW rd ρ, bfW cC bu β, ouW cL ob f]) s.heap := hP
  have hl := lv_entry ([.ref (x 0), .int (iI (c)), .ref (ob 0)]) (n := 4) (Nat.le_of_ble_eq_true rfl)
  rw [lg_entry_eq]
  generalize (lg_sl ([.ref (x 0), .int (iI (c)), .ref (ob 0)]) ++ List.replicate (4 - (lg_sl ([.ref (x 0), .int (iI (c)), .ref (ob 0)])).length) Slot.unset).toArray = ls at hl ⊢
  have hl : lv_has ls 4 [(0, .ref (x 0)), (1, .int (iI (c))), (2, .ref (ob 0))] := hl
  have hI := hG.1
  have hkk := hG.2.1
  have hlnb := hG.2.2.2.1
  have hbb := hG.2.2.2.2
  have hnn := hI.n
  have htt := hI.t
  refine lv_aload_n hx hb dL_append_0 rfl (lv_at hl 2 rfl) ?_
  refine wi_iconst hx hb dL_append_1 ?_
  refine lv_aload_n hx hb dL_append_2 rfl (lv_at hl 0 rfl) ?_
  refine lv_iload_n hx hb dL_append_3 rfl (lv_at hl 1 rfl) ?_
  rcases (cd2_c : (cd2 (33 ≤ c ∧ c ≤ 126) (ln 0 0 ≠ 60) = 0 ∧ _) ∨ _) with ⟨h9, hok0, hok1⟩ | h9 | h9
  · skip
    have hPc := fl_P (S' := [mnW x a sv o rd bu ln, bfW cC bu β]) hP [0, 11] rfl
    have hKc := hK.sub (tys' := [(cI, FieldType.int), (cO, FieldType.object "PromisedCounters$State"), (cC, FieldType.char)]) [0, 1, 2] rfl
    have hDc := fl_D (S' := [mnW x a sv o rd bu ln, bfW cC bu β]) hD [0, 11] (by decide) rfl
    have hFc := fl_free (SC := [mnW x a sv o rd bu ln, bfW cC bu β]) hD hS hA [0, 11] rfl
    refine wq_calli (va_runV (As := [.int (iI (c))]) (rest := [.int (iI (0)), .ref (ob 0)]) ⟨hx, hb, hml, hown, hts⟩ (c_X4_append l D cI cO cC cL s.heap.size x a sv o rd bu ln β (c) (by first | assumption | omega) (by first | assumption | omega)) (cwV 1 hts gL_append_X4_append rfl rfl rfl (by decide +kernel) ⟨Nat.le_of_ble_eq_true rfl, Nat.le_of_ble_eq_true rfl⟩) ⟨pcW_blind, va_recv hKc hPc (ci := 4) (q0 := 0) rfl rfl, pcW_of hPc hKc hDc⟩ rfl rfl hl.1 rfl (lv_room (Nat.le_of_ble_eq_true rfl)) dL_append_4 ⟨(Nat.zero_le _), (Nat.zero_le _)⟩) hS (fun q _ h => hFc q h) hFc (fun r1 u3 t9 H1 locs ht9 hvm hcl2 hB hz1 hk1 hS => ?_)
    obtain ⟨hP1, hK1, hD1⟩ := hB
    rw [ht9] at hP1
    obtain ⟨hP, hD⟩ := fl_join (SR := [stW cI a σ, svO cO sv (saF sa) κ, stW cI (sa 0) (ss 0), stW cI (sa 1) (ss 1), stW cI (sa 2) (ss 2), stW cI (sa 3) (ss 3), stW cI (sa 4) (ss 4), stW cI (sa 5) (ss 5), ocW cI o φ, rdW rd ρ, ouW cL ob f]) (S1 := [mnW x a sv o rd bu (sU ln 0 0 (ln 0 0 + 1)), bfW cC bu (sU β 1 (ln 0 0) (c))]) hP hD [0, 11] [1, 2, 3, 4, 5, 6, 7, 8, 9, 10, 12] rfl rfl (by decide) (by decide) hk1 hFc hP1 hD1
    generalize H1 = H at hP hS ⊢
    have hP := fl_P (S' := [mnW x a sv o rd bu (sU ln 0 0 (ln 0 0 + 1)), stW cI a σ, svO cO sv (saF sa) κ, stW cI (sa 0) (ss 0), stW cI (sa 1) (ss 1), stW cI (sa 2) (ss 2), stW cI (sa 3) (ss 3), stW cI (sa 4) (ss 4), stW cI (sa 5) (ss 5), ocW cI o φ, rdW rd ρ, bfW cC bu (sU β 1 (ln 0 0) (c)), ouW cL ob f]) hP [11, 0, 1, 2, 3, 4, 5, 6, 7, 8, 9, 12, 10] rfl
    have hD := fl_D (S' := [mnW x a sv o rd bu (sU ln 0 0 (ln 0 0 + 1)), stW cI a σ, svO cO sv (saF sa) κ, stW cI (sa 0) (ss 0), stW cI (sa 1) (ss 1), stW cI (sa 2) (ss 2), stW cI (sa 3) (ss 3), stW cI (sa 4) (ss 4), stW cI (sa 5) (ss 5), ocW cI o φ, rdW rd ρ, bfW cC bu (sU β 1 (ln 0 0) (c)), ouW cL ob f]) hD [11, 0, 1, 2, 3, 4, 5, 6, 7, 8, 9, 12, 10] (by decide) rfl
    refine lv_i2l (v := iL (r1)) hx hb dL_append_7 rfl ?_
    refine wi_last hx hb hK hP hD hS 98 3 rfl rfl dL_append_8 (fun H locs hP hD hS => ?_)
    have hP : va_P D vwCl (fl [mnW x a sv o rd bu (sU ln 0 0 (ln 0 0 + 1)), stW cI a σ, svO cO sv (saF sa) κ, stW cI (sa 0) (ss 0), stW cI (sa 1) (ss 1), stW cI (sa 2) (ss 2), stW cI (sa 3) (ss 3), stW cI (sa 4) (ss 4), stW cI (sa 5) (ss 5), ocW cI o φ, rdW rd ρ, bfW cC bu (sU β 1 (ln 0 0) (c)), ouW cL ob (fun _ => (iL (r1)))]) H := hP
    have hD : va_D A (fl [mnW x a sv o rd bu (sU ln 0 0 (ln 0 0 + 1)), stW cI a σ, svO cO sv (saF sa) κ, stW cI (sa 0) (ss 0), stW cI (sa 1) (ss 1), stW cI (sa 2) (ss 2), stW cI (sa 3) (ss 3), stW cI (sa 4) (ss 4), stW cI (sa 5) (ss 5), ocW cI o φ, rdW rd ρ, bfW cC bu (sU β 1 (ln 0 0) (c)), ouW cL ob (fun _ => (iL (r1)))]) := hD
    refine lv_goto (tgt := 18) hx hb dL_append_9 (by decide) ?_
    refine wi_iconst hx hb dL_append_18 ?_
    refine W.widen (k := 1) (n := 6) (by decide) (by decide) ?_
    exact W.iret (v := iI (0)) hx hb hr (fun t9 ht9 hW9 => ⟨⟨(0), ⟨(sU ln 0 0 (ln 0 0 + 1)), σ, κ, sa, ss, φ, ρ, (sU β 1 (ln 0 0) (c)), (fun _ => (iL (r1)))⟩, rfl, (OPL.good h9 rfl (congrArg (fun z : Int => fun _ : Nat => iL z) hcl2) ⟨rfl, rfl, rfl, rfl, rfl⟩), ⟨by rw [ht9]; exact hP, va_K.moved hW9.alike hK, hD⟩⟩, hS.F ht9⟩) hS.2.2 dL_append_19 hlocks
  · skip
    have cx9 := x_X4_append l hl9 D cI cO cC cL x a sv o rd bu ln c (by first | assumption | omega) (by first | assumption | omega) (by rw [h9]; decide)
    rw [h9, show xnB 1 = "java/lang/IllegalArgumentException" from rfl] at cx9
    have hPc := fl_P (S' := [mnW x a sv o rd bu ln]) hP [0] rfl
    have hKc := hK.sub (tys' := [(cI, FieldType.int), (cO, FieldType.object "PromisedCounters$State"), (cC, FieldType.char)]) [0, 1, 2] rfl
    have hcl15 := hts (Cond.classLink RL 15 "java/lang/IllegalArgumentException") (by decide +kernel)
    have hcst : (Cond.castable "java/lang/IllegalArgumentException" "java/lang/IllegalArgumentException").before ([.ref (x 0), .int (iI (c)), .ref (ob 0)] : List Value).toArray s = true := va_Nw.use (ZB_tabs _ (by decide)) (hZ.2.2.1 (Cond.castable "java/lang/IllegalArgumentException" "java/lang/IllegalArgumentException") (by decide))
    refine catchX (vx_runV (As := [.int (iI (c))]) (rest := [.int (iI (0)), .ref (ob 0)]) ⟨hx, hb, hml, hown, hts⟩ cx9 (cwV 1 hts gL_append_X4_append rfl rfl rfl (by decide +kernel) ⟨Nat.le_of_ble_eq_true rfl, Nat.le_of_ble_eq_true rfl⟩) ⟨pcX_blind, va_recv hKc hPc (ci := 4) (q0 := 0) rfl rfl, pcX_of hPc hKc hZ⟩ rfl rfl hl.1 rfl (lv_room (Nat.le_of_ble_eq_true rfl)) dL_append_4 ⟨Nat.le_of_ble_eq_true rfl, Nat.le_of_ble_eq_true rfl⟩) hP hS hown [] ⟨0, 9, 12, 15⟩ [⟨0, 9, 15, 17⟩] htab (fun z hz => nomatch hz) (by decide) (by decide) hcl15 hcst (fun H locs xq hP hS => ?_)
    refine lv_astore_n (lv' := [(3, .ref (xq)), (0, .ref (x 0)), (1, .int (iI (c))), (2, .ref (ob 0))]) hx hb dL_append_12 rfl hl (by decide) rfl (fun ls hl => ?_)
    refine wi_iconst hx hb dL_append_13 ?_
    refine W.widen (k := 1) (n := 6) (by decide) (by decide) ?_
    exact W.iret (v := iI (1)) hx hb hr (fun t9 ht9 hW9 => ⟨⟨(1), ⟨ln, σ, κ, sa, ss, φ, ρ, β, f⟩, rfl, (OPL.bad h9 (by decide) rfl ⟨rfl, rfl, rfl, rfl, rfl⟩), ⟨by rw [ht9]; exact hP, va_K.moved hW9.alike hK, hD⟩⟩, hS.F ht9⟩) hS.2.2 dL_append_14 hlocks
  · skip
    have cx9 := x_X4_append l hl9 D cI cO cC cL x a sv o rd bu ln c (by first | assumption | omega) (by first | assumption | omega) (by rw [h9]; decide)
    rw [h9, show xnB 2 = "java/lang/IllegalStateException" from rfl] at cx9
    have hPc := fl_P (S' := [mnW x a sv o rd bu ln]) hP [0] rfl
    have hKc := hK.sub (tys' := [(cI, FieldType.int), (cO, FieldType.object "PromisedCounters$State"), (cC, FieldType.char)]) [0, 1, 2] rfl
    have hcl15 := hts (Cond.classLink RL 15 "java/lang/IllegalArgumentException") (by decide +kernel)
    have hcl17 := hts (Cond.classLink RL 17 "java/lang/IllegalStateException") (by decide +kernel)
    have hcst : (Cond.castable "java/lang/IllegalStateException" "java/lang/IllegalStateException").before ([.ref (x 0), .int (iI (c)), .ref (ob 0)] : List Value).toArray s = true := va_Nw.use (ZB_tabs _ (by decide)) (hZ.2.2.1 (Cond.castable "java/lang/IllegalStateException" "java/lang/IllegalStateException") (by decide))
    refine catchX (vx_runV (As := [.int (iI (c))]) (rest := [.int (iI (0)), .ref (ob 0)]) ⟨hx, hb, hml, hown, hts⟩ cx9 (cwV 1 hts gL_append_X4_append rfl rfl rfl (by decide +kernel) ⟨Nat.le_of_ble_eq_true rfl, Nat.le_of_ble_eq_true rfl⟩) ⟨pcX_blind, va_recv hKc hPc (ci := 4) (q0 := 0) rfl rfl, pcX_of hPc hKc hZ⟩ rfl rfl hl.1 rfl (lv_room (Nat.le_of_ble_eq_true rfl)) dL_append_4 ⟨Nat.le_of_ble_eq_true rfl, Nat.le_of_ble_eq_true rfl⟩) hP hS hown [⟨0, 9, 12, 15⟩] ⟨0, 9, 15, 17⟩ [] htab (fun z hz => by cases List.mem_singleton.mp hz; exact Or.inr ⟨by decide, _, hcl15, hZ.2.2.2.2.2⟩) (by decide) (by decide) hcl17 hcst (fun H locs xq hP hS => ?_)
    refine lv_astore_n (lv' := [(3, .ref (xq)), (0, .ref (x 0)), (1, .int (iI (c))), (2, .ref (ob 0))]) hx hb dL_append_15 rfl hl (by decide) rfl (fun ls hl => ?_)
    refine wi_iconst hx hb dL_append_16 ?_
    refine W.widen (k := 1) (n := 6) (by decide) (by decide) ?_
    exact W.iret (v := iI (2)) hx hb hr (fun t9 ht9 hW9 => ⟨⟨(2), ⟨ln, σ, κ, sa, ss, φ, ρ, β, f⟩, rfl, (OPL.bad h9 (by decide) rfl ⟨rfl, rfl, rfl, rfl, rfl⟩), ⟨by rw [ht9]; exact hP, va_K.moved hW9.alike hK, hD⟩⟩, hS.F ht9⟩) hS.2.2 dL_append_17 hlocks
