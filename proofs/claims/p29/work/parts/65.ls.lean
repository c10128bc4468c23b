section LAWS
variable {p : Program} {l : Launch} {e : Env} {s : State} {m : MethodId} {args : Array Value} {below : List Frame} {meth : Method} {c : Code} {Q : State → Prop}
variable {D : va_G} {cI cO cC : ClassId} {x a sv o rd bu : Nat → Nat} {ln ρ β : Nat → Int → Int} {sc n9 : Nat} {g : Int → Int} {A : Nat → Prop}
set_option maxHeartbeats 4000000 in
set_option maxRecDepth 100000 in
theorem law_start (hl9 : l.stackTraces = false) (hx : p.tables.exec = Jvm.exec) (hb : c.code = cL_law) (hlocks : meth.locks = false) (hown : s.vm.findClass RL = some m.cls) (hml : c.maxLocals = 9) (hts : ∀ w ∈ wsL_law, w.before args s = true) (hK : va_K D vwCl [(cI, FieldType.int), (cO, FieldType.object "PromisedCounters$State"), (cC, FieldType.char)] s) (hC : CPW s) (hA : ∀ q : Nat, s.heap.size ≤ q → A q) (hn9 : n9 ≤ 260) (hZ : ZP A s s.heap) (hX : va_X sc n9 (rI g) s s.heap) (hbl : sc < s.heap.size) (hsc : ¬ A sc)
    (kend : ∀ (cells slots : Nat) (H : Heap) (locs : List Loc) (ls : Array Slot), cells ≤ 210 → slots ≤ 3435 → va_S A s.heap H locs → W p l e ({ frames := 13, cells := 210, slots := 3435, locals := 484 } : Room) s m args below meth c H locs cells slots Q (F0 m 140 ls [.int (iI 1)])) : W p l e ({ frames := 13, cells := 210, slots := 3435, locals := 484 } : Room) s m args below meth c s.heap [] 0 0 Q (entryFrame m ([.ref sc] : List Value).toArray 9) := by
  have hS : va_S A s.heap s.heap [] := va_S.rf
  have hP : va_P D vwCl (fl []) s.heap := fun k q h => by simp [fl] at h
  have hD : va_D A (fl []) := ⟨fun i j p q h => by simp [fl] at h, fun k q h => by simp [fl] at h⟩
  have hl := lv_entry ([.ref sc]) (n := 9) (Nat.le_of_ble_eq_true rfl)
  rw [lg_entry_eq]
  generalize (lg_sl ([.ref sc]) ++ List.replicate (9 - (lg_sl ([.ref sc])).length) Slot.unset).toArray = ls at hl ⊢
  have hl : lv_has ls 9 [(0, .ref sc)] := hl
  have hw_0 := hts (.classLink RL 10 RX4) (by decide +kernel)
  have hw_1 := hts (.instantiable RX4 6) (by decide +kernel)
  have hw_2 := hts (.initialized RX4) (by decide +kernel)
  have hin_X4 : ∀ w ∈ u_ws RX4 TX4 6, w ∈ wsL_law := by decide +kernel
  have hw_3 := hts (.instanceMethod yX4_init) (by decide +kernel)
  have hw_4 := hts (.methodLink RL 97 yX4_init) (by decide +kernel)
  refine va_new (ci := 4) (fs := [.null, .null, .null, .null, .null, .int 0]) (C := RX4) (T := TX4) (N := 6) hx hb hts hin_X4 tyX4 tyX4_ok hown hw_0 hw_1 hw_2 hK hP hD hS hA rfl (fun j hj => by rcases (show j = 0 ∨ j = 1 ∨ j = 2 ∨ j = 3 ∨ j = 4 ∨ j = 5 by omega) with rfl | rfl | rfl | rfl | rfl | rfl <;> rfl) (Nat.le_of_ble_eq_true rfl) (Nat.le_of_ble_eq_true rfl) dL_law_0 (fun q1 H hP hD hS => ?_)
  have hP : va_P D vwCl (fl [[(q1, .inr (4, [.null, .null, .null, .null, .null, .int 0]))]]) H := hP
  have hD : va_D A (fl [[(q1, .inr (4, [.null, .null, .null, .null, .null, .int 0]))]]) := hD
  refine lv_dup hx hb dL_law_3 rfl ?_
  have hPc := fl_P (S' := [[(q1, .inr (4, [.null, .null, .null, .null, .null, .int 0]))]]) hP [0] rfl
  have hPc : va_P D vwCl (fl [[(q1, .inr (4, [.null, .null, .null, .null, .null, .int 0]))]]) H := hPc
  have hDc := fl_D (S' := [[(q1, .inr (4, [.null, .null, .null, .null, .null, .int 0]))]]) hD [0] (by decide) rfl
  have hDc : va_D A (fl [[(q1, .inr (4, [.null, .null, .null, .null, .null, .int 0]))]]) := hDc
  have hFc := fl_free (SC := [[(q1, .inr (4, [.null, .null, .null, .null, .null, .int 0]))]]) hD hS hA [0] rfl
  have hKc := hK.sub (tys' := [(cI, FieldType.int), (cO, FieldType.object "PromisedCounters$State"), (cC, FieldType.char)]) [0, 1, 2] rfl
  refine va_callv (va_runI (As := []) (rest := [.ref (q1)]) ⟨hx, hb, hml, hown, hts⟩ (c_X4_init l D cI cO cC cI H.size (q1)) (cwI 0 hts gL_law_X4_init rfl rfl rfl hw_2 hw_4 hw_3 rfl (by decide +kernel) ⟨Nat.le_of_ble_eq_true rfl, Nat.le_of_ble_eq_true rfl⟩) ⟨pcC_blind, pcC_of hPc hKc hDc hC⟩ rfl rfl hl.1 rfl (lv_room (Nat.le_of_ble_eq_true rfl)) dL_law_4 ⟨Nat.le_of_ble_eq_true rfl, Nat.le_of_ble_eq_true rfl⟩) hS (fun q _ h => hFc q h) hFc (fun u2 t9 H1 locs ht9 hvm hu3 hB hz1 hk1 hS => ?_)
  obtain ⟨hP1, hK1, hD1⟩ := hB
  rw [ht9] at hP1
  obtain ⟨hP, hD⟩ := fl_join (SC := [[(q1, .inr (4, [.null, .null, .null, .null, .null, .int 0]))]]) (SR := []) (S1 := [mnW (fun _ => q1) u2.1 u2.2.1.1 u2.2.2.1 (fun _ => u2.2.2.2.1) (fun _ => u2.2.2.2.2) z0S, stW cI (u2.1) s0S, svO cO (u2.2.1.1) (saF u2.2.1.2) z0S, stW cI (u2.2.1.2 0) s0S, stW cI (u2.2.1.2 1) s0S, stW cI (u2.2.1.2 2) s0S, stW cI (u2.2.1.2 3) s0S, stW cI (u2.2.1.2 4) s0S, stW cI (u2.2.1.2 5) s0S, ocW cI (u2.2.2.1) z0S, rdW (fun _ => u2.2.2.2.1) (fun _ => uI (uI (uI (uI (uI (uI (fun _ => 0) 0 0) 1 0) 2 0) 3 0) 4 (-1)) 5 0), bfW cC (fun _ => u2.2.2.2.2) z0S]) hP hD [0] [] rfl rfl (by decide) (by decide) hk1 hFc hP1 hD1
  generalize H1 = H at hP hS ⊢
  have hP : va_P D vwCl (fl [mnW (fun _ => q1) u2.1 u2.2.1.1 u2.2.2.1 (fun _ => u2.2.2.2.1) (fun _ => u2.2.2.2.2) z0S, stW cI (u2.1) s0S, svO cO (u2.2.1.1) (saF u2.2.1.2) z0S, stW cI (u2.2.1.2 0) s0S, stW cI (u2.2.1.2 1) s0S, stW cI (u2.2.1.2 2) s0S, stW cI (u2.2.1.2 3) s0S, stW cI (u2.2.1.2 4) s0S, stW cI (u2.2.1.2 5) s0S, ocW cI (u2.2.2.1) z0S, rdW (fun _ => u2.2.2.2.1) (fun _ => uI (uI (uI (uI (uI (uI (fun _ => 0) 0 0) 1 0) 2 0) 3 0) 4 (-1)) 5 0), bfW cC (fun _ => u2.2.2.2.2) z0S]) H := hP
  have hD : va_D A (fl [mnW (fun _ => q1) u2.1 u2.2.1.1 u2.2.2.1 (fun _ => u2.2.2.2.1) (fun _ => u2.2.2.2.2) z0S, stW cI (u2.1) s0S, svO cO (u2.2.1.1) (saF u2.2.1.2) z0S, stW cI (u2.2.1.2 0) s0S, stW cI (u2.2.1.2 1) s0S, stW cI (u2.2.1.2 2) s0S, stW cI (u2.2.1.2 3) s0S, stW cI (u2.2.1.2 4) s0S, stW cI (u2.2.1.2 5) s0S, ocW cI (u2.2.2.1) z0S, rdW (fun _ => u2.2.2.2.1) (fun _ => uI (uI (uI (uI (uI (uI (fun _ => 0) 0 0) 1 0) 2 0) 3 0) 4 (-1)) 5 0), bfW cC (fun _ => u2.2.2.2.2) z0S]) := hD
  refine lv_astore_n (lv' := [(1, .ref (q1)), (0, .ref (sc))]) hx hb dL_law_7 rfl hl (by decide) rfl (fun ls hl => ?_)
  refine wi_iconst hx hb dL_law_8 ?_
  refine lv_istore_n (lv' := [(2, .int (iI (1))), (1, .ref (q1)), (0, .ref (sc))]) hx hb dL_law_9 rfl hl (by decide) rfl (fun ls hl => ?_)
  refine lv_aload_n hx hb dL_law_10 rfl (lv_at hl 2 rfl) ?_
  refine wi_slen hx hb hX hbl hsc hS dL_law_11 ?_
  refine wi_iconst hx hb dL_law_12 ?_
  refine wi_idiv hx hb (by omega) (by omega) dL_law_13 ?_
  refine wi_bipush hx hb dL_law_14 (by decide) ?_
  refine wi_icmp_le (tgt := 24) hx hb dL_law_16 (by decide) (by omega) (fun c_16 => ?_) (fun c_16 => ?_)
  · skip
    refine lv_aload_n hx hb dL_law_24 rfl (lv_at hl 2 rfl) ?_
    refine wi_slen hx hb hX hbl hsc hS dL_law_25 ?_
    refine wi_iconst hx hb dL_law_26 ?_
    refine wi_idiv hx hb (by omega) (by omega) dL_law_27 ?_
    refine lv_istore_n (lv' := [(3, .int (iI (((n9 : Int) / 4)))), (2, .int (iI (1))), (1, .ref (q1)), (0, .ref (sc))]) hx hb dL_law_28 rfl hl (by decide) rfl (fun ls hl => ?_)
    refine wi_iconst hx hb dL_law_29 ?_
    refine lv_istore (lv' := [(4, .int (iI (0))), (3, .int (iI (((n9 : Int) / 4)))), (2, .int (iI (1))), (1, .ref (q1)), (0, .ref (sc))]) hx hb dL_law_30 hl (by decide) rfl (fun ls hl => ?_)
    have hP : va_P D vwCl (lawP cI cO cC (fun _ => q1) (u2.1) (u2.2.1.1) (u2.2.2.1) (fun _ => u2.2.2.2.1) (fun _ => u2.2.2.2.2) z0S (fun _ => uI (uI (uI (uI (uI (uI (fun _ => 0) 0 0) 1 0) 2 0) 3 0) 4 (-1)) 5 0) z0S (⟨s0S, z0S, u2.2.1.2, fun _ => s0S⟩ : PS) z0S) H := hP
    have hD : va_D A (lawP cI cO cC (fun _ => q1) (u2.1) (u2.2.1.1) (u2.2.2.1) (fun _ => u2.2.2.2.1) (fun _ => u2.2.2.2.2) z0S (fun _ => uI (uI (uI (uI (uI (uI (fun _ => 0) 0 0) 1 0) 2 0) 3 0) 4 (-1)) 5 0) z0S (⟨s0S, z0S, u2.2.1.2, fun _ => s0S⟩ : PS) z0S) := hD
    exact law_loop (x := (fun _ => q1)) (a := u2.1) (sv := u2.2.1.1) (o := u2.2.2.1) (rd := fun _ => u2.2.2.2.1) (bu := fun _ => u2.2.2.2.2) (ln := z0S) (ρ := (fun _ => uI (uI (uI (uI (uI (uI (fun _ => 0) 0 0) 1 0) 2 0) 3 0) 4 (-1)) 5 0)) (β := z0S) hl9 hx hb hlocks hown hml hts hK hA hn9 hZ hX hbl hsc (tu := ((n9 : Int) / 4)) (by omega) kend 41 0 _ _ (⟨s0S, z0S, u2.2.1.2, fun _ => s0S⟩ : PS) z0S H locs ls (by omega) (by omega) (by omega) (by omega) (G2_0 _) hP hD hS (lv_sub hl [4, 3, 2, 1, 0] rfl)
  · skip
    refine wi_bipush hx hb dL_law_19 (by decide) ?_
    refine lv_goto (tgt := 28) hx hb dL_law_21 (by decide) ?_
    refine lv_istore_n (lv' := [(3, .int (iI (40))), (2, .int (iI (1))), (1, .ref (q1)), (0, .ref (sc))]) hx hb dL_law_28 rfl hl (by decide) rfl (fun ls hl => ?_)
    refine wi_iconst hx hb dL_law_29 ?_
    refine lv_istore (lv' := [(4, .int (iI (0))), (3, .int (iI (40))), (2, .int (iI (1))), (1, .ref (q1)), (0, .ref (sc))]) hx hb dL_law_30 hl (by decide) rfl (fun ls hl => ?_)
    have hP : va_P D vwCl (lawP cI cO cC (fun _ => q1) (u2.1) (u2.2.1.1) (u2.2.2.1) (fun _ => u2.2.2.2.1) (fun _ => u2.2.2.2.2) z0S (fun _ => uI (uI (uI (uI (uI (uI (fun _ => 0) 0 0) 1 0) 2 0) 3 0) 4 (-1)) 5 0) z0S (⟨s0S, z0S, u2.2.1.2, fun _ => s0S⟩ : PS) z0S) H := hP
    have hD : va_D A (lawP cI cO cC (fun _ => q1) (u2.1) (u2.2.1.1) (u2.2.2.1) (fun _ => u2.2.2.2.1) (fun _ => u2.2.2.2.2) z0S (fun _ => uI (uI (uI (uI (uI (uI (fun _ => 0) 0 0) 1 0) 2 0) 3 0) 4 (-1)) 5 0) z0S (⟨s0S, z0S, u2.2.1.2, fun _ => s0S⟩ : PS) z0S) := hD
    exact law_loop (x := (fun _ => q1)) (a := u2.1) (sv := u2.2.1.1) (o := u2.2.2.1) (rd := fun _ => u2.2.2.2.1) (bu := fun _ => u2.2.2.2.2) (ln := z0S) (ρ := (fun _ => uI (uI (uI (uI (uI (uI (fun _ => 0) 0 0) 1 0) 2 0) 3 0) 4 (-1)) 5 0)) (β := z0S) hl9 hx hb hlocks hown hml hts hK hA hn9 hZ hX hbl hsc (tu := 40) (by omega) kend 41 0 _ _ (⟨s0S, z0S, u2.2.1.2, fun _ => s0S⟩ : PS) z0S H locs ls (by omega) (by omega) (by omega) (by omega) (G2_0 _) hP hD hS (lv_sub hl [4, 3, 2, 1, 0] rfl)
end LAWS
