section LAWS
variable {p : Program} {l : Launch} {e : Env} {s : State} {m : MethodId} {args : Array Value} {below : List Frame} {meth : Method} {c : Code} {Q : State → Prop}
variable {D : va_G} {cI cO cC cL : ClassId} {x a sv o rd bu ob b : Nat → Nat} {ln σ κ φ ρ β μ : Nat → Int → Int} {sa : Nat → Nat → Nat} {ss : Nat → Nat → Int → Int} {f : Nat → Int64} {sc n9 : Nat} {g : Int → Int} {A : Nat → Prop} {H0 : Heap} {ls : Array Slot} 
set_option maxHeartbeats 4000000 in
set_option maxRecDepth 100000 in
theorem law_start (hl9 : l.stackTraces = false) (hx : p.tables.exec = Jvm.exec) (hb : c.code = cL_law) (hlocks : meth.locks = false) (hown : s.vm.findClass RL = some m.cls) (hml : c.maxLocals = 9) (hts : ∀ w ∈ wsL_law, w.before args s = true) (hK : va_K D vwCl [(cI, FieldType.int), (cO, FieldType.object "PromisedCounters$State"), (cC, FieldType.char), (cL, FieldType.long)] s) (hC : CPW s) (hA : ∀ q : Nat, s.heap.size ≤ q → A q) (hgR : ∀ j : Int, R32 (g j)) (hn9 : n9 ≤ 2560) (hZ : ZP A s s.heap) (hX : va_X sc n9 (rI g) s s.heap) (hbl : sc < s.heap.size) (hsc : ¬ A sc)
    (kend : ∀ (cells slots : Nat) (H : Heap) (locs : List Loc) (ls : Array Slot), cells ≤ 1139 → slots ≤ 14922 → va_S A s.heap H locs → W p l e ({ frames := 13, cells := 1139, slots := 14922, locals := 478 } : Room) s m args below meth c H locs cells slots Q (F0 m 1711 ls [])) : W p l e ({ frames := 13, cells := 1139, slots := 14922, locals := 478 } : Room) s m args below meth c s.heap [] 0 0 Q (entryFrame m ([.ref sc] : List Value).toArray 9) := by
  have hS : va_S A s.heap s.heap [] := va_S.rf
  have hP : va_P D vwCl (fl []) s.heap := fun k q h => by simp [fl] at h
  have hD : va_D A (fl []) := ⟨fun i j p q h => by simp [fl] at h, fun k q h => by simp [fl] at h⟩
  have hl := lv_entry ([.ref sc]) (n := 9) (Nat.le_of_ble_eq_true rfl)
  rw [lg_entry_eq]
  generalize (lg_sl ([.ref sc]) ++ List.replicate (9 - (lg_sl ([.ref sc])).length) Slot.unset).toArray = ls at hl ⊢
  have hl : lv_has ls 9 [(0, .ref sc)] := hl
  have hw_0 := hts (.classLink RL 8 RX4) (by decide +kernel)
  have hw_1 := hts (.instantiable RX4 6) (by decide +kernel)
  have hw_2 := hts (.initialized RX4) (by decide +kernel)
  have hin_X4 : ∀ w ∈ u_ws RX4 TX4 6, w ∈ wsL_law := by decide +kernel
  have hw_3 := hts (.instanceMethod yX4_init) (by decide +kernel)
  have hw_4 := hts (.methodLink RL 88 yX4_init) (by decide +kernel)
  have hw_5 := hts (.classLink RL 89 RX5) (by decide +kernel)
  have hw_6 := hts (.instantiable RX5 12) (by decide +kernel)
  have hw_7 := hts (.initialized RX5) (by decide +kernel)
  have hin_X5 : ∀ w ∈ u_ws RX5 TX5 12, w ∈ wsL_law := by decide +kernel
  have hw_8 := hts (.instanceMethod yX5_init) (by decide +kernel)
  have hw_9 := hts (.methodLink RL 91 yX5_init) (by decide +kernel)
  have hw_10 := hts (.arrayClass .long) (by decide +kernel)
  refine va_new (ci := 4) (fs := [.null, .null, .null, .null, .null, .int 0]) (C := RX4) (T := TX4) (N := 6) hx hb hts hin_X4 tyX4 tyX4_ok hown hw_0 hw_1 hw_2 hK hP hD hS hA rfl (fun j hj => by rcases (show j = 0 ∨ j = 1 ∨ j = 2 ∨ j = 3 ∨ j = 4 ∨ j = 5 by omega) with rfl | rfl | rfl | rfl | rfl | rfl <;> rfl) (Nat.le_of_ble_eq_true rfl) (Nat.le_of_ble_eq_true rfl) dL_law_0 (fun q1 H hP hD hS => ?_)
  have hP : va_P D vwCl (fl [[(q1, .inr (4, [.null, .null, .null, .null, .null, .int 0]))]]) H := hP
  have hD : va_D A (fl [[(q1, .inr (4, [.null, .null, .null, .null, .null, .int 0]))]]) := hD
  refine lv_dup hx hb dL_law_3 rfl ?_
  have hPc := fl_P (S' := [[(q1, .inr (4, [.null, .null, .null, .null, .null, .int 0]))]]) hP [0] rfl
  have hPc : va_P D vwCl (fl [[(q1, .inr (4, [.null, .null, .null, .null, .null, .int 0]))]]) H := hPc
  have hDc := fl_D (S' := [[(q1, .inr (4, [.null, .null, .null, .null, .null, .int 0]))]]) hD [0] (by decide) rfl
  have hDc : va_D A (fl [[(q1, .inr (4, [.null, .null, .null, .null, .null, .int 0]))]]) := hDc
  have hFc := fl_free (SC := [[(q1, .inr (4, [.null, .null, .null, .null, .null, .int 0]))]]) hD hS hA [0] rfl
  have hKc := hK.sub (tys' := [(cI, FieldType.int), (cO, FieldType.object "PromisedCounters$State"), (cC, FieldType.char)]) [0, 1, 2] rfl
  refine va_callv (va_runI (As := []) (rest := [.ref (q1)]) ⟨hx, hb, hml, hown, hts⟩ (c_X4_init l D cI cO cC cL H.size (q1)) (cwI 0 hts gL_law_X4_init rfl rfl rfl hw_2 hw_4 hw_3 rfl (by decide +kernel) ⟨Nat.le_of_ble_eq_true rfl, Nat.le_of_ble_eq_true rfl⟩) ⟨pcC_blind, pcC_of hPc hKc hDc hC⟩ rfl rfl hl.1 rfl (lv_room (Nat.le_of_ble_eq_true rfl)) dL_law_4 ⟨Nat.le_of_ble_eq_true rfl, Nat.le_of_ble_eq_true rfl⟩) hS (fun q _ h => hFc q h) hFc (fun u2 t9 H1 locs ht9 hvm hu3 hB hz1 hk1 hS => ?_)
  obtain ⟨hP1, hK1, hD1⟩ := hB
  rw [ht9] at hP1
  obtain ⟨hP, hD⟩ := fl_join (SC := [[(q1, .inr (4, [.null, .null, .null, .null, .null, .int 0]))]]) (SR := []) (S1 := [mnW (fun _ => q1) u2.1 u2.2.1.1 u2.2.2.1 (fun _ => u2.2.2.2.1) (fun _ => u2.2.2.2.2) z0S, stW cI (u2.1) s0S, svO cO (u2.2.1.1) (saF u2.2.1.2) z0S, stW cI (u2.2.1.2 0) s0S, stW cI (u2.2.1.2 1) s0S, stW cI (u2.2.1.2 2) s0S, stW cI (u2.2.1.2 3) s0S, stW cI (u2.2.1.2 4) s0S, stW cI (u2.2.1.2 5) s0S, ocW cI (u2.2.2.1) z0S, rdW (fun _ => u2.2.2.2.1) (fun _ => uI (uI (uI (uI (uI (uI (fun _ => 0) 0 0) 1 0) 2 0) 3 0) 4 (-1)) 5 0), bfW cC (fun _ => u2.2.2.2.2) z0S]) hP hD [0] [] rfl rfl (by decide) (by decide) hk1 hFc hP1 hD1
  generalize H1 = H at hP hS ⊢
  have hP : va_P D vwCl (fl [mnW (fun _ => q1) u2.1 u2.2.1.1 u2.2.2.1 (fun _ => u2.2.2.2.1) (fun _ => u2.2.2.2.2) z0S, stW cI (u2.1) s0S, svO cO (u2.2.1.1) (saF u2.2.1.2) z0S, stW cI (u2.2.1.2 0) s0S, stW cI (u2.2.1.2 1) s0S, stW cI (u2.2.1.2 2) s0S, stW cI (u2.2.1.2 3) s0S, stW cI (u2.2.1.2 4) s0S, stW cI (u2.2.1.2 5) s0S, ocW cI (u2.2.2.1) z0S, rdW (fun _ => u2.2.2.2.1) (fun _ => uI (uI (uI (uI (uI (uI (fun _ => 0) 0 0) 1 0) 2 0) 3 0) 4 (-1)) 5 0), bfW cC (fun _ => u2.2.2.2.2) z0S]) H := hP
  have hD : va_D A (fl [mnW (fun _ => q1) u2.1 u2.2.1.1 u2.2.2.1 (fun _ => u2.2.2.2.1) (fun _ => u2.2.2.2.2) z0S, stW cI (u2.1) s0S, svO cO (u2.2.1.1) (saF u2.2.1.2) z0S, stW cI (u2.2.1.2 0) s0S, stW cI (u2.2.1.2 1) s0S, stW cI (u2.2.1.2 2) s0S, stW cI (u2.2.1.2 3) s0S, stW cI (u2.2.1.2 4) s0S, stW cI (u2.2.1.2 5) s0S, ocW cI (u2.2.2.1) z0S, rdW (fun _ => u2.2.2.2.1) (fun _ => uI (uI (uI (uI (uI (uI (fun _ => 0) 0 0) 1 0) 2 0) 3 0) 4 (-1)) 5 0), bfW cC (fun _ => u2.2.2.2.2) z0S]) := hD
  refine lv_astore_n (lv' := [(1, .ref (q1)), (0, .ref (sc))]) hx hb dL_law_7 rfl hl (by decide) rfl (fun ls hl => ?_)
  refine va_new (ci := 5) (fs := [.null, .null, .int 0, .null, .int 0, .int 0, .int 0, .int 0, .int 0, .null, .int 0, .null]) (C := RX5) (T := TX5) (N := 12) hx hb hts hin_X5 tyX5 tyX5_ok hown hw_5 hw_6 hw_7 hK hP hD hS hA rfl (fun j hj => by rcases (show j = 0 ∨ j = 1 ∨ j = 2 ∨ j = 3 ∨ j = 4 ∨ j = 5 ∨ j = 6 ∨ j = 7 ∨ j = 8 ∨ j = 9 ∨ j = 10 ∨ j = 11 by omega) with rfl | rfl | rfl | rfl | rfl | rfl | rfl | rfl | rfl | rfl | rfl | rfl <;> rfl) (Nat.le_of_ble_eq_true rfl) (Nat.le_of_ble_eq_true rfl) dL_law_8 (fun q4 H hP hD hS => ?_)
  have hP : va_P D vwCl (fl [mnW (fun _ => q1) u2.1 u2.2.1.1 u2.2.2.1 (fun _ => u2.2.2.2.1) (fun _ => u2.2.2.2.2) z0S, stW cI (u2.1) s0S, svO cO (u2.2.1.1) (saF u2.2.1.2) z0S, stW cI (u2.2.1.2 0) s0S, stW cI (u2.2.1.2 1) s0S, stW cI (u2.2.1.2 2) s0S, stW cI (u2.2.1.2 3) s0S, stW cI (u2.2.1.2 4) s0S, stW cI (u2.2.1.2 5) s0S, ocW cI (u2.2.2.1) z0S, rdW (fun _ => u2.2.2.2.1) (fun _ => uI (uI (uI (uI (uI (uI (fun _ => 0) 0 0) 1 0) 2 0) 3 0) 4 (-1)) 5 0), bfW cC (fun _ => u2.2.2.2.2) z0S, [(q4, .inr (5, [.null, .null, .int 0, .null, .int 0, .int 0, .int 0, .int 0, .int 0, .null, .int 0, .null]))]]) H := hP
  have hD : va_D A (fl [mnW (fun _ => q1) u2.1 u2.2.1.1 u2.2.2.1 (fun _ => u2.2.2.2.1) (fun _ => u2.2.2.2.2) z0S, stW cI (u2.1) s0S, svO cO (u2.2.1.1) (saF u2.2.1.2) z0S, stW cI (u2.2.1.2 0) s0S, stW cI (u2.2.1.2 1) s0S, stW cI (u2.2.1.2 2) s0S, stW cI (u2.2.1.2 3) s0S, stW cI (u2.2.1.2 4) s0S, stW cI (u2.2.1.2 5) s0S, ocW cI (u2.2.2.1) z0S, rdW (fun _ => u2.2.2.2.1) (fun _ => uI (uI (uI (uI (uI (uI (fun _ => 0) 0 0) 1 0) 2 0) 3 0) 4 (-1)) 5 0), bfW cC (fun _ => u2.2.2.2.2) z0S, [(q4, .inr (5, [.null, .null, .int 0, .null, .int 0, .int 0, .int 0, .int 0, .int 0, .null, .int 0, .null]))]]) := hD
  refine lv_dup hx hb dL_law_11 rfl ?_
  have hPc := fl_P (S' := [[(q4, .inr (5, [.null, .null, .int 0, .null, .int 0, .int 0, .int 0, .int 0, .int 0, .null, .int 0, .null]))]]) hP [12] rfl
  have hPc : va_P D vwCl (fl [[(q4, .inr (5, [.null, .null, .int 0, .null, .int 0, .int 0, .int 0, .int 0, .int 0, .null, .int 0, .null]))]]) H := hPc
  have hDc := fl_D (S' := [[(q4, .inr (5, [.null, .null, .int 0, .null, .int 0, .int 0, .int 0, .int 0, .int 0, .null, .int 0, .null]))]]) hD [12] (by decide) rfl
  have hDc : va_D A (fl [[(q4, .inr (5, [.null, .null, .int 0, .null, .int 0, .int 0, .int 0, .int 0, .int 0, .null, .int 0, .null]))]]) := hDc
  have hFc := fl_free (SC := [[(q4, .inr (5, [.null, .null, .int 0, .null, .int 0, .int 0, .int 0, .int 0, .int 0, .null, .int 0, .null]))]]) hD hS hA [12] rfl
  have hKc := hK.sub (tys' := [(cI, FieldType.int)]) [0] rfl
  refine va_callv (va_runI (As := []) (rest := [.ref (q4)]) ⟨hx, hb, hml, hown, hts⟩ (c_X5_init l D cI cO cC cL H.size (q4)) (cwI 0 hts gL_law_X5_init rfl rfl rfl hw_7 hw_9 hw_8 rfl (by decide +kernel) ⟨Nat.le_of_ble_eq_true rfl, Nat.le_of_ble_eq_true rfl⟩) ⟨pcW_blind, pcW_of hPc hKc hDc⟩ rfl rfl hl.1 rfl (lv_room (Nat.le_of_ble_eq_true rfl)) dL_law_12 ⟨Nat.le_of_ble_eq_true rfl, Nat.le_of_ble_eq_true rfl⟩) hS (fun q _ h => hFc q h) hFc (fun u5 t9 H1 locs ht9 hvm hu6 hB hz1 hk1 hS => ?_)
  obtain ⟨hP1, hK1, hD1⟩ := hB
  rw [ht9] at hP1
  try dsimp only at hu6
  subst hu6
  obtain ⟨hP, hD⟩ := fl_join (SC := [[(u5 0, .inr (5, [.null, .null, .int 0, .null, .int 0, .int 0, .int 0, .int 0, .int 0, .null, .int 0, .null]))]]) (SR := [mnW (fun _ => q1) u2.1 u2.2.1.1 u2.2.2.1 (fun _ => u2.2.2.2.1) (fun _ => u2.2.2.2.2) z0S, stW cI (u2.1) s0S, svO cO (u2.2.1.1) (saF u2.2.1.2) z0S, stW cI (u2.2.1.2 0) s0S, stW cI (u2.2.1.2 1) s0S, stW cI (u2.2.1.2 2) s0S, stW cI (u2.2.1.2 3) s0S, stW cI (u2.2.1.2 4) s0S, stW cI (u2.2.1.2 5) s0S, ocW cI (u2.2.2.1) z0S, rdW (fun _ => u2.2.2.2.1) (fun _ => uI (uI (uI (uI (uI (uI (fun _ => 0) 0 0) 1 0) 2 0) 3 0) 4 (-1)) 5 0), bfW cC (fun _ => u2.2.2.2.2) z0S]) (S1 := [mdW cI u5 s0M]) hP hD [12] [0, 1, 2, 3, 4, 5, 6, 7, 8, 9, 10, 11] rfl rfl (by decide) (by decide) hk1 hFc hP1 hD1
  generalize H1 = H at hP hS ⊢
  have hP : va_P D vwCl (fl [mnW (fun _ => q1) u2.1 u2.2.1.1 u2.2.2.1 (fun _ => u2.2.2.2.1) (fun _ => u2.2.2.2.2) z0S, stW cI (u2.1) s0S, svO cO (u2.2.1.1) (saF u2.2.1.2) z0S, stW cI (u2.2.1.2 0) s0S, stW cI (u2.2.1.2 1) s0S, stW cI (u2.2.1.2 2) s0S, stW cI (u2.2.1.2 3) s0S, stW cI (u2.2.1.2 4) s0S, stW cI (u2.2.1.2 5) s0S, ocW cI (u2.2.2.1) z0S, rdW (fun _ => u2.2.2.2.1) (fun _ => uI (uI (uI (uI (uI (uI (fun _ => 0) 0 0) 1 0) 2 0) 3 0) 4 (-1)) 5 0), bfW cC (fun _ => u2.2.2.2.2) z0S, mdW cI u5 s0M]) H := hP
  have hD : va_D A (fl [mnW (fun _ => q1) u2.1 u2.2.1.1 u2.2.2.1 (fun _ => u2.2.2.2.1) (fun _ => u2.2.2.2.2) z0S, stW cI (u2.1) s0S, svO cO (u2.2.1.1) (saF u2.2.1.2) z0S, stW cI (u2.2.1.2 0) s0S, stW cI (u2.2.1.2 1) s0S, stW cI (u2.2.1.2 2) s0S, stW cI (u2.2.1.2 3) s0S, stW cI (u2.2.1.2 4) s0S, stW cI (u2.2.1.2 5) s0S, ocW cI (u2.2.2.1) z0S, rdW (fun _ => u2.2.2.2.1) (fun _ => uI (uI (uI (uI (uI (uI (fun _ => 0) 0 0) 1 0) 2 0) 3 0) 4 (-1)) 5 0), bfW cC (fun _ => u2.2.2.2.2) z0S, mdW cI u5 s0M]) := hD
  refine lv_astore_n (lv' := [(2, .ref (u5 0)), (1, .ref (q1)), (0, .ref (sc))]) hx hb dL_law_15 rfl hl (by decide) rfl (fun ls hl => ?_)
  refine wi_iconst hx hb dL_law_16 ?_
  refine wn_newL hx hb hw_10 hK hP hD hS hA 3 (cA := cL) rfl (n := 1) (N := 1) rfl (by decide) (by decide) (Nat.le_of_ble_eq_true rfl) (Nat.le_of_ble_eq_true rfl) dL_law_17 (fun q7 H hP hD hS => ?_)
  have hP : va_P D vwCl (fl [mnW (fun _ => q1) u2.1 u2.2.1.1 u2.2.2.1 (fun _ => u2.2.2.2.1) (fun _ => u2.2.2.2.2) z0S, stW cI (u2.1) s0S, svO cO (u2.2.1.1) (saF u2.2.1.2) z0S, stW cI (u2.2.1.2 0) s0S, stW cI (u2.2.1.2 1) s0S, stW cI (u2.2.1.2 2) s0S, stW cI (u2.2.1.2 3) s0S, stW cI (u2.2.1.2 4) s0S, stW cI (u2.2.1.2 5) s0S, ocW cI (u2.2.2.1) z0S, rdW (fun _ => u2.2.2.2.1) (fun _ => uI (uI (uI (uI (uI (uI (fun _ => 0) 0 0) 1 0) 2 0) 3 0) 4 (-1)) 5 0), bfW cC (fun _ => u2.2.2.2.2) z0S, mdW cI u5 s0M, [(q7, .inl (cL, 1, .inr (.inl (fun _ => 0))))]]) H := hP
  have hD : va_D A (fl [mnW (fun _ => q1) u2.1 u2.2.1.1 u2.2.2.1 (fun _ => u2.2.2.2.1) (fun _ => u2.2.2.2.2) z0S, stW cI (u2.1) s0S, svO cO (u2.2.1.1) (saF u2.2.1.2) z0S, stW cI (u2.2.1.2 0) s0S, stW cI (u2.2.1.2 1) s0S, stW cI (u2.2.1.2 2) s0S, stW cI (u2.2.1.2 3) s0S, stW cI (u2.2.1.2 4) s0S, stW cI (u2.2.1.2 5) s0S, ocW cI (u2.2.2.1) z0S, rdW (fun _ => u2.2.2.2.1) (fun _ => uI (uI (uI (uI (uI (uI (fun _ => 0) 0 0) 1 0) 2 0) 3 0) 4 (-1)) 5 0), bfW cC (fun _ => u2.2.2.2.2) z0S, mdW cI u5 s0M, [(q7, .inl (cL, 1, .inr (.inl (fun _ => 0))))]]) := hD
  refine lv_astore_n (lv' := [(3, .ref (q7)), (2, .ref (u5 0)), (1, .ref (q1)), (0, .ref (sc))]) hx hb dL_law_19 rfl hl (by decide) rfl (fun ls hl => ?_)
  refine wi_iconst hx hb dL_law_20 ?_
  refine lv_istore (lv' := [(4, .int (iI (0))), (3, .ref (q7)), (2, .ref (u5 0)), (1, .ref (q1)), (0, .ref (sc))]) hx hb dL_law_21 hl (by decide) rfl (fun ls hl => ?_)
  have hP := fl_P (S' := [mnW (fun _ => q1) u2.1 u2.2.1.1 u2.2.2.1 (fun _ => u2.2.2.2.1) (fun _ => u2.2.2.2.2) z0S, stW cI (u2.1) s0S, svO cO (u2.2.1.1) (saF u2.2.1.2) z0S, stW cI (u2.2.1.2 0) s0S, stW cI (u2.2.1.2 1) s0S, stW cI (u2.2.1.2 2) s0S, stW cI (u2.2.1.2 3) s0S, stW cI (u2.2.1.2 4) s0S, stW cI (u2.2.1.2 5) s0S, ocW cI (u2.2.2.1) z0S, rdW (fun _ => u2.2.2.2.1) (fun _ => uI (uI (uI (uI (uI (uI (fun _ => 0) 0 0) 1 0) 2 0) 3 0) 4 (-1)) 5 0), bfW cC (fun _ => u2.2.2.2.2) z0S, [(q7, .inl (cL, 1, .inr (.inl (fun _ => 0))))], mdW cI u5 s0M]) hP [0, 1, 2, 3, 4, 5, 6, 7, 8, 9, 10, 11, 13, 12] rfl
  have hD := fl_D (S' := [mnW (fun _ => q1) u2.1 u2.2.1.1 u2.2.2.1 (fun _ => u2.2.2.2.1) (fun _ => u2.2.2.2.2) z0S, stW cI (u2.1) s0S, svO cO (u2.2.1.1) (saF u2.2.1.2) z0S, stW cI (u2.2.1.2 0) s0S, stW cI (u2.2.1.2 1) s0S, stW cI (u2.2.1.2 2) s0S, stW cI (u2.2.1.2 3) s0S, stW cI (u2.2.1.2 4) s0S, stW cI (u2.2.1.2 5) s0S, ocW cI (u2.2.2.1) z0S, rdW (fun _ => u2.2.2.2.1) (fun _ => uI (uI (uI (uI (uI (uI (fun _ => 0) 0 0) 1 0) 2 0) 3 0) 4 (-1)) 5 0), bfW cC (fun _ => u2.2.2.2.2) z0S, [(q7, .inl (cL, 1, .inr (.inl (fun _ => 0))))], mdW cI u5 s0M]) hD [0, 1, 2, 3, 4, 5, 6, 7, 8, 9, 10, 11, 13, 12] (by decide) rfl
  have hP : va_P D vwCl (lawW cI cO cC cL (fun _ => q1) (u2.1) (u2.2.1.1) (u2.2.2.1) (fun _ => u2.2.2.2.1) (fun _ => u2.2.2.2.2) (fun _ => q7) u5 ⟨z0S, s0S, z0S, u2.2.1.2, fun _ => s0S, z0S, (fun _ => uI (uI (uI (uI (uI (uI (fun _ => 0) 0 0) 1 0) 2 0) 3 0) 4 (-1)) 5 0), z0S, fun _ => 0⟩ s0M) H := hP
  have hD : va_D A (lawW cI cO cC cL (fun _ => q1) (u2.1) (u2.2.1.1) (u2.2.2.1) (fun _ => u2.2.2.2.1) (fun _ => u2.2.2.2.2) (fun _ => q7) u5 ⟨z0S, s0S, z0S, u2.2.1.2, fun _ => s0S, z0S, (fun _ => uI (uI (uI (uI (uI (uI (fun _ => 0) 0 0) 1 0) 2 0) 3 0) 4 (-1)) 5 0), z0S, fun _ => 0⟩ s0M) := hD
  have hLI : LI ⟨z0S, s0S, z0S, u2.2.1.2, fun _ => s0S, z0S, (fun _ => uI (uI (uI (uI (uI (uI (fun _ => 0) 0 0) 1 0) 2 0) 3 0) 4 (-1)) 5 0), z0S, fun _ => 0⟩ s0M := LI.of (s := s0S) (k := 0) (n := 0) (q := fun _ => s0S) (b := fun _ => 0) ⟨rfl, rfl, rfl, rfl, rfl⟩ (RelM_0 _) (GI_0 _)
  exact law_loop hl9 hx hb hlocks hown hml hts hK hA hgR hn9 hZ hX hbl hsc kend 2561 0 _ _ ⟨z0S, s0S, z0S, u2.2.1.2, fun _ => s0S, z0S, (fun _ => uI (uI (uI (uI (uI (uI (fun _ => 0) 0 0) 1 0) 2 0) 3 0) 4 (-1)) 5 0), z0S, fun _ => 0⟩ s0M H locs ls (by omega) ⟨by omega, by omega⟩ (by omega) (by omega) hLI hP hD hS (lv_sub hl [4, 3, 2, 1, 0] rfl)
end LAWS
