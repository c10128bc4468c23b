section LAWL
variable {p : Program} {l : Launch} {e : Env} {s : State} {m : MethodId} {args : Array Value} {below : List Frame} {meth : Method} {c : Code} {H : Heap} {locs : List Loc} {cells slots : Nat} {Q : State → Prop}
variable {D : va_G} {cI cO cC cL : ClassId} {x a sv o rd bu ob b : Nat → Nat} {ln σ κ φ ρ β μ : Nat → Int → Int} {sa : Nat → Nat → Nat} {ss : Nat → Nat → Int → Int} {f : Nat → Int64} {sc n9 : Nat} {g : Int → Int} {A : Nat → Prop} {H0 : Heap} {ls : Array Slot} {i : Int}
set_option maxHeartbeats 4000000 in
set_option maxRecDepth 100000 in
theorem law_loop (hl9 : l.stackTraces = false) (hx : p.tables.exec = Jvm.exec) (hb : c.code = cL_law) (hlocks : meth.locks = false) (hown : s.vm.findClass RL = some m.cls) (hml : c.maxLocals = 9) (hts : ∀ w ∈ wsL_law, w.before args s = true) (hK : va_K D vwCl [(cI, FieldType.int), (cO, FieldType.object "PromisedCounters$State"), (cC, FieldType.char), (cL, FieldType.long)] s) (hA : ∀ q : Nat, H0.size ≤ q → A q) (hgR : ∀ j : Int, R32 (g j)) (hn9 : n9 ≤ 2560) (hZ : ZP A s H0) (hX : va_X sc n9 (rI g) s H0) (hbl : sc < H0.size) (hsc : ¬ A sc)
    (kend : ∀ (cells slots : Nat) (H : Heap) (locs : List Loc) (ls : Array Slot), cells ≤ 1139 → slots ≤ 14922 → va_S A H0 H locs → W p l e ({ frames := 13, cells := 1139, slots := 14922, locals := 478 } : Room) s m args below meth c H locs cells slots Q (F0 m 1711 ls [])) : ∀ (k : Nat) (i : Int) (cells slots : Nat) (u : LwS) (μ : Nat → Int → Int) (H : Heap) (locs : List Loc) (ls : Array Slot), ((n9 : Int) - i).toNat < k → 0 ≤ i ∧ i ≤ 2560 → 5 * (cells : Int) ≤ 525 + i → 5 * (slots : Int) ≤ 33350 + 6 * i → LI u μ → va_P D vwCl (lawW cI cO cC cL x a sv o rd bu ob b u μ) H → va_D A (lawW cI cO cC cL x a sv o rd bu ob b u μ) → va_S A H0 H locs → lv_has ls 9 [(0, .ref (sc)), (1, .ref (x 0)), (2, .ref (b 0)), (3, .ref (ob 0)), (4, .int (iI (i)))] →
      W p l e ({ frames := 13, cells := 1139, slots := 14922, locals := 478 } : Room) s m args below meth c H locs cells slots Q (F0 m 23 ls []) := by
  intro k
  induction k with
  | zero =>
    intro i cells slots u μ H locs ls hm
    exact absurd hm (Nat.not_lt_zero _)
  | succ k ih =>
    intro i cells slots u μ H locs ls hm hi hc hs hLI hP hD hS hl
    have nxt0 : i + 5 ≤ (n9 : Int) → ∀ (u : LwS) (μ : Nat → Int → Int) (H : Heap) (locs : List Loc), LI u μ → va_P D vwCl (lawW cI cO cC cL x a sv o rd bu ob b u μ) H → va_D A (lawW cI cO cC cL x a sv o rd bu ob b u μ) → va_S A H0 H locs → ∀ ls : Array Slot, lv_has ls 9 [(0, .ref (sc)), (1, .ref (x 0)), (2, .ref (b 0)), (3, .ref (ob 0)), (4, .int (iI (i)))] → W p l e ({ frames := 13, cells := 1139, slots := 14922, locals := 478 } : Room) s m args below meth c H locs (cells + 1) (slots + 6) Q (F0 m 1705 ls []) := by
      intro hi5 u2 μ2 H2 locs2 hLI2 hP2 hD2 hS2 ls2 hl2
      refine wi_iinc (lv' := [(4, .int (iI (i + 5))), (0, .ref (sc)), (1, .ref (x 0)), (2, .ref (b 0)), (3, .ref (ob 0))]) hx hb dL_law_1705 hl2 (k := 4) rfl (by decide) rfl (fun ls hl => ?_)
      refine lv_goto (tgt := 23) hx hb dL_law_1708 (by decide) ?_
      exact ih (i + 5) (cells + 1) (slots + 6) u2 μ2 H2 locs2 ls (by omega) ⟨by omega, by omega⟩ (by omega) (by omega) hLI2 hP2 hD2 hS2 (lv_sub hl [1, 2, 3, 4, 0] rfl)
    refine lv_iload hx hb dL_law_23 (lv_at hl 4 rfl) ?_
    refine lv_aload_n hx hb dL_law_25 rfl (lv_at hl 0 rfl) ?_
    refine wi_slen hx hb hX hbl hsc hS dL_law_26 ?_
    refine wi_iconst hx hb dL_law_27 ?_
    refine wi_isub hx hb dL_law_28 ?_
    refine wi_icmp_gt (tgt := 1711) hx hb dL_law_29 (by decide) (by omega) (fun c_29 => ?_) (fun c_29 => ?_)
    · skip
      exact kend cells slots H locs ls (by omega) (by omega) hS
    · skip
      have nxt := nxt0 (by omega)
      refine lv_aload_n hx hb dL_law_32 rfl (lv_at hl 0 rfl) ?_
      refine lv_iload hx hb dL_law_33 (lv_at hl 4 rfl) ?_
      refine wi_sld hx hb hX hbl hsc hS (i := i) (by omega) (by omega) dL_law_35 ?_
      refine wi_bipush hx hb dL_law_36 (by decide) ?_
      obtain ⟨z, hzr, hzv⟩ := iI_of (iI ((g i)) &&& iI 31)
      refine wi_iand hx hb hzv dL_law_38 ?_
      have hsx : (iI (z)).toInt = z := iI_toInt (by omega)
      by_cases hc39_0 : z = 0
      · skip
        refine lv_tableIn (tgt := 156) hx hb dL_law_39 (by rw [hsx]; omega) (by rw [hsx]; omega) (off := 117) (by rw [hsx, hc39_0]; rfl) (by decide) ?_
        exact lc_bounds (l := l) (ln := LwS.ln u) (σ := LwS.σ u) (κ := LwS.κ u) (sa := LwS.sa u) (ss := LwS.ss u) (φ := LwS.φ u) (ρ := LwS.ρ u) (β := LwS.β u) (f := LwS.f u) hl9 hx hb hlocks hown hml hts hK hA hgR (by omega) hn9 (by omega) (by omega) hLI.1 hLI.2.1 hLI.2.2.1 hLI.2.2.2 hZ hX hbl hsc hP hD hS (lv_sub hl [0, 1, 2, 3, 4] rfl) nxt
      by_cases hc39_1 : z = 1
      · skip
        refine lv_tableIn (tgt := 236) hx hb dL_law_39 (by rw [hsx]; omega) (by rw [hsx]; omega) (off := 197) (by rw [hsx, hc39_1]; rfl) (by decide) ?_
        exact lc_set (l := l) (ln := LwS.ln u) (σ := LwS.σ u) (κ := LwS.κ u) (sa := LwS.sa u) (ss := LwS.ss u) (φ := LwS.φ u) (ρ := LwS.ρ u) (β := LwS.β u) (f := LwS.f u) hl9 hx hb hlocks hown hml hts hK hA hgR (by omega) hn9 (by omega) (by omega) hLI.1 hLI.2.1 hLI.2.2.1 hLI.2.2.2 hZ hX hbl hsc hP hD hS (lv_sub hl [0, 1, 2, 3, 4] rfl) nxt
      by_cases hc39_2 : z = 2
      · skip
        refine lv_tableIn (tgt := 304) hx hb dL_law_39 (by rw [hsx]; omega) (by rw [hsx]; omega) (off := 265) (by rw [hsx, hc39_2]; rfl) (by decide) ?_
        exact lc_promise (l := l) (ln := LwS.ln u) (σ := LwS.σ u) (κ := LwS.κ u) (sa := LwS.sa u) (ss := LwS.ss u) (φ := LwS.φ u) (ρ := LwS.ρ u) (β := LwS.β u) (f := LwS.f u) hl9 hx hb hlocks hown hml hts hK hA hgR (by omega) hn9 (by omega) (by omega) hLI.1 hLI.2.1 hLI.2.2.1 hLI.2.2.2 hZ hX hbl hsc hP hD hS (lv_sub hl [0, 1, 2, 3, 4] rfl) nxt
      by_cases hc39_3 : z = 3
      · skip
        refine lv_tableIn (tgt := 384) hx hb dL_law_39 (by rw [hsx]; omega) (by rw [hsx]; omega) (off := 345) (by rw [hsx, hc39_3]; rfl) (by decide) ?_
        exact lc_transfer (l := l) (ln := LwS.ln u) (σ := LwS.σ u) (κ := LwS.κ u) (sa := LwS.sa u) (ss := LwS.ss u) (φ := LwS.φ u) (ρ := LwS.ρ u) (β := LwS.β u) (f := LwS.f u) hl9 hx hb hlocks hown hml hts hK hA hgR (by omega) hn9 (by omega) (by omega) hLI.1 hLI.2.1 hLI.2.2.1 hLI.2.2.2 hZ hX hbl hsc hP hD hS (lv_sub hl [0, 1, 2, 3, 4] rfl) nxt
      by_cases hc39_4 : z = 4
      · skip
        refine lv_tableIn (tgt := 476) hx hb dL_law_39 (by rw [hsx]; omega) (by rw [hsx]; omega) (off := 437) (by rw [hsx, hc39_4]; rfl) (by decide) ?_
        exact lc_settle (l := l) (ln := LwS.ln u) (σ := LwS.σ u) (κ := LwS.κ u) (sa := LwS.sa u) (ss := LwS.ss u) (φ := LwS.φ u) (ρ := LwS.ρ u) (β := LwS.β u) (f := LwS.f u) hl9 hx hb hlocks hown hml hts hK hA hgR (by omega) hn9 (by omega) (by omega) hLI.1 hLI.2.1 hLI.2.2.1 hLI.2.2.2 hZ hX hbl hsc hP hD hS (lv_sub hl [0, 1, 2, 3, 4] rfl) nxt
      by_cases hc39_5 : z = 5
      · skip
        refine lv_tableIn (tgt := 532) hx hb dL_law_39 (by rw [hsx]; omega) (by rw [hsx]; omega) (off := 493) (by rw [hsx, hc39_5]; rfl) (by decide) ?_
        exact lc_settlePart (l := l) (ln := LwS.ln u) (σ := LwS.σ u) (κ := LwS.κ u) (sa := LwS.sa u) (ss := LwS.ss u) (φ := LwS.φ u) (ρ := LwS.ρ u) (β := LwS.β u) (f := LwS.f u) hl9 hx hb hlocks hown hml hts hK hA hgR (by omega) hn9 (by omega) (by omega) hLI.1 hLI.2.1 hLI.2.2.1 hLI.2.2.2 hZ hX hbl hsc hP hD hS (lv_sub hl [0, 1, 2, 3, 4] rfl) nxt
      by_cases hc39_6 : z = 6
      · skip
        refine lv_tableIn (tgt := 600) hx hb dL_law_39 (by rw [hsx]; omega) (by rw [hsx]; omega) (off := 561) (by rw [hsx, hc39_6]; rfl) (by decide) ?_
        exact lc_cancel (l := l) (ln := LwS.ln u) (σ := LwS.σ u) (κ := LwS.κ u) (sa := LwS.sa u) (ss := LwS.ss u) (φ := LwS.φ u) (ρ := LwS.ρ u) (β := LwS.β u) (f := LwS.f u) hl9 hx hb hlocks hown hml hts hK hA hgR (by omega) hn9 (by omega) (by omega) hLI.1 hLI.2.1 hLI.2.2.1 hLI.2.2.2 hZ hX hbl hsc hP hD hS (lv_sub hl [0, 1, 2, 3, 4] rfl) nxt
      by_cases hc39_7 : z = 7
      · skip
        refine lv_tableIn (tgt := 656) hx hb dL_law_39 (by rw [hsx]; omega) (by rw [hsx]; omega) (off := 617) (by rw [hsx, hc39_7]; rfl) (by decide) ?_
        exact lc_renew (l := l) (ln := LwS.ln u) (σ := LwS.σ u) (κ := LwS.κ u) (sa := LwS.sa u) (ss := LwS.ss u) (φ := LwS.φ u) (ρ := LwS.ρ u) (β := LwS.β u) (f := LwS.f u) hl9 hx hb hlocks hown hml hts hK hA hgR (by omega) hn9 (by omega) (by omega) hLI.1 hLI.2.1 hLI.2.2.1 hLI.2.2.2 hZ hX hbl hsc hP hD hS (lv_sub hl [0, 1, 2, 3, 4] rfl) nxt
      by_cases hc39_8 : z = 8
      · skip
        refine lv_tableIn (tgt := 712) hx hb dL_law_39 (by rw [hsx]; omega) (by rw [hsx]; omega) (off := 673) (by rw [hsx, hc39_8]; rfl) (by decide) ?_
        exact lc_finish (l := l) (ln := LwS.ln u) (σ := LwS.σ u) (κ := LwS.κ u) (sa := LwS.sa u) (ss := LwS.ss u) (φ := LwS.φ u) (ρ := LwS.ρ u) (β := LwS.β u) (f := LwS.f u) hl9 hx hb hlocks hown hml hts hK hA hgR (by omega) hn9 (by omega) (by omega) hLI.1 hLI.2.1 hLI.2.2.1 hLI.2.2.2 hZ hX hbl hsc hP hD hS (lv_sub hl [0, 1, 2, 3, 4] rfl) nxt
      by_cases hc39_9 : z = 9
      · skip
        refine lv_tableIn (tgt := 796) hx hb dL_law_39 (by rw [hsx]; omega) (by rw [hsx]; omega) (off := 757) (by rw [hsx, hc39_9]; rfl) (by decide) ?_
        exact lc_pass (l := l) (ln := LwS.ln u) (σ := LwS.σ u) (κ := LwS.κ u) (sa := LwS.sa u) (ss := LwS.ss u) (φ := LwS.φ u) (ρ := LwS.ρ u) (β := LwS.β u) (f := LwS.f u) hl9 hx hb hlocks hown hml hts hK hA hgR (by omega) hn9 (by omega) (by omega) hLI.1 hLI.2.1 hLI.2.2.1 hLI.2.2.2 hZ hX hbl hsc hP hD hS (lv_sub hl [0, 1, 2, 3, 4] rfl) nxt
      by_cases hc39_10 : z = 10
      · skip
        refine lv_tableIn (tgt := 852) hx hb dL_law_39 (by rw [hsx]; omega) (by rw [hsx]; omega) (off := 813) (by rw [hsx, hc39_10]; rfl) (by decide) ?_
        exact lc_append (l := l) (ln := LwS.ln u) (σ := LwS.σ u) (κ := LwS.κ u) (sa := LwS.sa u) (ss := LwS.ss u) (φ := LwS.φ u) (ρ := LwS.ρ u) (β := LwS.β u) (f := LwS.f u) hl9 hx hb hlocks hown hml hts hK hA hgR (by omega) hn9 (by omega) (by omega) hLI.1 hLI.2.1 hLI.2.2.1 hLI.2.2.2 hZ hX hbl hsc hP hD hS (lv_sub hl [0, 1, 2, 3, 4] rfl) nxt
      by_cases hc39_11 : z = 11
      · skip
        refine lv_tableIn (tgt := 908) hx hb dL_law_39 (by rw [hsx]; omega) (by rw [hsx]; omega) (off := 869) (by rw [hsx, hc39_11]; rfl) (by decide) ?_
        exact lc_clearBuffer (l := l) (ln := LwS.ln u) (σ := LwS.σ u) (κ := LwS.κ u) (sa := LwS.sa u) (ss := LwS.ss u) (φ := LwS.φ u) (ρ := LwS.ρ u) (β := LwS.β u) (f := LwS.f u) hl9 hx hb hlocks hown hml hts hK hA hgR (by omega) hn9 (by omega) (by omega) hLI.1 hLI.2.1 hLI.2.2.1 hLI.2.2.2 hZ hX hbl hsc hP hD hS (lv_sub hl [0, 1, 2, 3, 4] rfl) nxt
      by_cases hc39_12 : z = 12
      · skip
        refine lv_tableIn (tgt := 921) hx hb dL_law_39 (by rw [hsx]; omega) (by rw [hsx]; omega) (off := 882) (by rw [hsx, hc39_12]; rfl) (by decide) ?_
        exact lc_firstError (l := l) (ln := LwS.ln u) (σ := LwS.σ u) (κ := LwS.κ u) (sa := LwS.sa u) (ss := LwS.ss u) (φ := LwS.φ u) (ρ := LwS.ρ u) (β := LwS.β u) (f := LwS.f u) hl9 hx hb hlocks hown hml hts hK hA hgR (by omega) hn9 (by omega) (by omega) hLI.1 hLI.2.1 hLI.2.2.1 hLI.2.2.2 hZ hX hbl hsc hP hD hS (lv_sub hl [0, 1, 2, 3, 4] rfl) nxt
      by_cases hc39_13 : z = 13
      · skip
        refine lv_tableIn (tgt := 934) hx hb dL_law_39 (by rw [hsx]; omega) (by rw [hsx]; omega) (off := 895) (by rw [hsx, hc39_13]; rfl) (by decide) ?_
        exact lc_promiseAll (l := l) (ln := LwS.ln u) (σ := LwS.σ u) (κ := LwS.κ u) (sa := LwS.sa u) (ss := LwS.ss u) (φ := LwS.φ u) (ρ := LwS.ρ u) (β := LwS.β u) (f := LwS.f u) hl9 hx hb hlocks hown hml hts hK hA hgR (by omega) hn9 (by omega) (by omega) hLI.1 hLI.2.1 hLI.2.2.1 hLI.2.2.2 hZ hX hbl hsc hP hD hS (lv_sub hl [0, 1, 2, 3, 4] rfl) nxt
      by_cases hc39_14 : z = 14
      · skip
        refine lv_tableIn (tgt := 978) hx hb dL_law_39 (by rw [hsx]; omega) (by rw [hsx]; omega) (off := 939) (by rw [hsx, hc39_14]; rfl) (by decide) ?_
        exact lc_undo (l := l) (ln := LwS.ln u) (σ := LwS.σ u) (κ := LwS.κ u) (sa := LwS.sa u) (ss := LwS.ss u) (φ := LwS.φ u) (ρ := LwS.ρ u) (β := LwS.β u) (f := LwS.f u) hl9 hx hb hlocks hown hml hts hK hA hgR (by omega) hn9 (by omega) (by omega) hLI.1 hLI.2.1 hLI.2.2.1 hLI.2.2.2 hZ hX hbl hsc hP hD hS (lv_sub hl [0, 1, 2, 3, 4] rfl) nxt
      by_cases hc39_15 : z = 15
      · skip
        refine lv_tableIn (tgt := 1022) hx hb dL_law_39 (by rw [hsx]; omega) (by rw [hsx]; omega) (off := 983) (by rw [hsx, hc39_15]; rfl) (by decide) ?_
        exact lc_counter (l := l) (ln := LwS.ln u) (σ := LwS.σ u) (κ := LwS.κ u) (sa := LwS.sa u) (ss := LwS.ss u) (φ := LwS.φ u) (ρ := LwS.ρ u) (β := LwS.β u) (f := LwS.f u) hl9 hx hb hlocks hown hml hts hK hA hgR (by omega) hn9 (by omega) (by omega) hLI.1 hLI.2.1 hLI.2.2.1 hLI.2.2.2 hZ hX hbl hsc hP hD hS (lv_sub hl [0, 1, 2, 3, 4] rfl) nxt
      by_cases hc39_16 : z = 16
      · skip
        refine lv_tableIn (tgt := 1090) hx hb dL_law_39 (by rw [hsx]; omega) (by rw [hsx]; omega) (off := 1051) (by rw [hsx, hc39_16]; rfl) (by decide) ?_
        exact lc_promiseOf (l := l) (ln := LwS.ln u) (σ := LwS.σ u) (κ := LwS.κ u) (sa := LwS.sa u) (ss := LwS.ss u) (φ := LwS.φ u) (ρ := LwS.ρ u) (β := LwS.β u) (f := LwS.f u) hl9 hx hb hlocks hown hml hts hK hA hgR (by omega) hn9 (by omega) (by omega) hLI.1 hLI.2.1 hLI.2.2.1 hLI.2.2.2 hZ hX hbl hsc hP hD hS (lv_sub hl [0, 1, 2, 3, 4] rfl) nxt
      by_cases hc39_17 : z = 17
      · skip
        refine lv_tableIn (tgt := 1158) hx hb dL_law_39 (by rw [hsx]; omega) (by rw [hsx]; omega) (off := 1119) (by rw [hsx, hc39_17]; rfl) (by decide) ?_
        exact lc_owner (l := l) (ln := LwS.ln u) (σ := LwS.σ u) (κ := LwS.κ u) (sa := LwS.sa u) (ss := LwS.ss u) (φ := LwS.φ u) (ρ := LwS.ρ u) (β := LwS.β u) (f := LwS.f u) hl9 hx hb hlocks hown hml hts hK hA hgR (by omega) hn9 (by omega) (by omega) hLI.1 hLI.2.1 hLI.2.2.1 hLI.2.2.2 hZ hX hbl hsc hP hD hS (lv_sub hl [0, 1, 2, 3, 4] rfl) nxt
      by_cases hc39_18 : z = 18
      · skip
        refine lv_tableIn (tgt := 1226) hx hb dL_law_39 (by rw [hsx]; omega) (by rw [hsx]; omega) (off := 1187) (by rw [hsx, hc39_18]; rfl) (by decide) ?_
        exact lc_count (l := l) (ln := LwS.ln u) (σ := LwS.σ u) (κ := LwS.κ u) (sa := LwS.sa u) (ss := LwS.ss u) (φ := LwS.φ u) (ρ := LwS.ρ u) (β := LwS.β u) (f := LwS.f u) hl9 hx hb hlocks hown hml hts hK hA hgR (by omega) hn9 (by omega) (by omega) hLI.1 hLI.2.1 hLI.2.2.1 hLI.2.2.2 hZ hX hbl hsc hP hD hS (lv_sub hl [0, 1, 2, 3, 4] rfl) nxt
      by_cases hc39_19 : z = 19
      · skip
        refine lv_tableIn (tgt := 1282) hx hb dL_law_39 (by rw [hsx]; omega) (by rw [hsx]; omega) (off := 1243) (by rw [hsx, hc39_19]; rfl) (by decide) ?_
        exact lc_setting (l := l) (ln := LwS.ln u) (σ := LwS.σ u) (κ := LwS.κ u) (sa := LwS.sa u) (ss := LwS.ss u) (φ := LwS.φ u) (ρ := LwS.ρ u) (β := LwS.β u) (f := LwS.f u) hl9 hx hb hlocks hown hml hts hK hA hgR (by omega) hn9 (by omega) (by omega) hLI.1 hLI.2.1 hLI.2.2.1 hLI.2.2.2 hZ hX hbl hsc hP hD hS (lv_sub hl [0, 1, 2, 3, 4] rfl) nxt
      by_cases hc39_20 : z = 20
      · skip
        refine lv_tableIn (tgt := 1338) hx hb dL_law_39 (by rw [hsx]; omega) (by rw [hsx]; omega) (off := 1299) (by rw [hsx, hc39_20]; rfl) (by decide) ?_
        exact lc_whyNot (l := l) (ln := LwS.ln u) (σ := LwS.σ u) (κ := LwS.κ u) (sa := LwS.sa u) (ss := LwS.ss u) (φ := LwS.φ u) (ρ := LwS.ρ u) (β := LwS.β u) (f := LwS.f u) hl9 hx hb hlocks hown hml hts hK hA hgR (by omega) hn9 (by omega) (by omega) hLI.1 hLI.2.1 hLI.2.2.1 hLI.2.2.2 hZ hX hbl hsc hP hD hS (lv_sub hl [0, 1, 2, 3, 4] rfl) nxt
      by_cases hc39_21 : z = 21
      · skip
        refine lv_tableIn (tgt := 1418) hx hb dL_law_39 (by rw [hsx]; omega) (by rw [hsx]; omega) (off := 1379) (by rw [hsx, hc39_21]; rfl) (by decide) ?_
        exact lc_canBe (l := l) (ln := LwS.ln u) (σ := LwS.σ u) (κ := LwS.κ u) (sa := LwS.sa u) (ss := LwS.ss u) (φ := LwS.φ u) (ρ := LwS.ρ u) (β := LwS.β u) (f := LwS.f u) hl9 hx hb hlocks hown hml hts hK hA hgR (by omega) hn9 (by omega) (by omega) hLI.1 hLI.2.1 hLI.2.2.1 hLI.2.2.2 hZ hX hbl hsc hP hD hS (lv_sub hl [0, 1, 2, 3, 4] rfl) nxt
      by_cases hc39_22 : z = 22
      · skip
        refine lv_tableIn (tgt := 1486) hx hb dL_law_39 (by rw [hsx]; omega) (by rw [hsx]; omega) (off := 1447) (by rw [hsx, hc39_22]; rfl) (by decide) ?_
        exact lc_mostFor (l := l) (ln := LwS.ln u) (σ := LwS.σ u) (κ := LwS.κ u) (sa := LwS.sa u) (ss := LwS.ss u) (φ := LwS.φ u) (ρ := LwS.ρ u) (β := LwS.β u) (f := LwS.f u) hl9 hx hb hlocks hown hml hts hK hA hgR (by omega) hn9 (by omega) (by omega) hLI.1 hLI.2.1 hLI.2.2.1 hLI.2.2.2 hZ hX hbl hsc hP hD hS (lv_sub hl [0, 1, 2, 3, 4] rfl) nxt
      by_cases hc39_23 : z = 23
      · skip
        refine lv_tableIn (tgt := 1582) hx hb dL_law_39 (by rw [hsx]; omega) (by rw [hsx]; omega) (off := 1543) (by rw [hsx, hc39_23]; rfl) (by decide) ?_
        exact lc_ifPassed (l := l) (ln := LwS.ln u) (σ := LwS.σ u) (κ := LwS.κ u) (sa := LwS.sa u) (ss := LwS.ss u) (φ := LwS.φ u) (ρ := LwS.ρ u) (β := LwS.β u) (f := LwS.f u) hl9 hx hb hlocks hown hml hts hK hA hgR (by omega) hn9 (by omega) (by omega) hLI.1 hLI.2.1 hLI.2.2.1 hLI.2.2.2 hZ hX hbl hsc hP hD hS (lv_sub hl [0, 1, 2, 3, 4] rfl) nxt
      by_cases hc39_24 : z = 24
      · skip
        refine lv_tableIn (tgt := 1650) hx hb dL_law_39 (by rw [hsx]; omega) (by rw [hsx]; omega) (off := 1611) (by rw [hsx, hc39_24]; rfl) (by decide) ?_
        exact lc_heldShare (l := l) (ln := LwS.ln u) (σ := LwS.σ u) (κ := LwS.κ u) (sa := LwS.sa u) (ss := LwS.ss u) (φ := LwS.φ u) (ρ := LwS.ρ u) (β := LwS.β u) (f := LwS.f u) hl9 hx hb hlocks hown hml hts hK hA hgR (by omega) hn9 (by omega) (by omega) hLI.1 hLI.2.1 hLI.2.2.1 hLI.2.2.2 hZ hX hbl hsc hP hD hS (lv_sub hl [0, 1, 2, 3, 4] rfl) nxt
      by_cases hc39_25 : z = 25
      · skip
        refine lv_tableIn (tgt := 1691) hx hb dL_law_39 (by rw [hsx]; omega) (by rw [hsx]; omega) (off := 1652) (by rw [hsx, hc39_25]; rfl) (by decide) ?_
        exact lc_digest (l := l) (ln := LwS.ln u) (σ := LwS.σ u) (κ := LwS.κ u) (sa := LwS.sa u) (ss := LwS.ss u) (φ := LwS.φ u) (ρ := LwS.ρ u) (β := LwS.β u) (f := LwS.f u) hl9 hx hb hlocks hown hml hts hK hA hgR (by omega) hn9 (by omega) (by omega) hLI.1 hLI.2.1 hLI.2.2.1 hLI.2.2.2 hZ hX hbl hsc hP hD hS (lv_sub hl [0, 1, 2, 3, 4] rfl) nxt
      refine lv_tableOut (tgt := 1705) hx hb dL_law_39 (by rw [hsx]; omega) (by decide) ?_
      refine W.widen (k := cells + 1) (n := slots + 6) (by omega) (by omega) ?_
      exact nxt u μ H locs hLI hP hD hS ls (lv_sub hl [0, 1, 2, 3, 4] rfl)
end LAWL
