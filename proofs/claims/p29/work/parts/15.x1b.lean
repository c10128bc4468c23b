set_option maxHeartbeats 4000000 in
set_option maxRecDepth 100000 in
theorem c_X1_fill (l : Launch) (D : va_G) (cI cO cC cL : ClassId) (sz : Nat) (o : Nat → Nat) (φ : Nat → Int → Int) (a : Nat → Nat) (σ : Nat → Int → Int) (c : Int) (hc : 0 ≤ c ∧ c < 4) (hI : Inv σ) : Met l yX1_fill wsX1_fill ({ frames := 3, cells := 0, slots := 0, locals := 69 } : Room) (pcW D [(cI, FieldType.int)] [.ref (o 0), .ref (a 0), .int (iI (c))] (fl [ocW cI o φ, stW cI a σ]) sz) (wq_i (fun (r : Int) (ψ : Nat → Int → Int) => r = (highS σ c - lowS σ c (σ 0 0)) ∧ (∀ i : Int, 0 ≤ i → i ≤ (highS σ c - lowS σ c (σ 0 0)) → ψ 1 i = FW σ c (σ 0 1).toNat (i - (σ 2 c - lowS σ c (σ 0 0))))) (fun (ψ : Nat → Int → Int) => (bW D [(cI, FieldType.int)] (fl [ocW cI o ψ, stW cI a σ]) (va_A (fl [ocW cI o φ, stW cI a σ]) sz))) (va_A (fl [ocW cI o φ, stW cI a σ]) sz)) 0 0 (va_A (fl [ocW cI o φ, stW cI a σ]) sz) := by
  refine Met.ofW (cc := cX1_fill) (maxL := 9) (ret := (some .int)) (by decide) rfl ?_
  intro p9 e9 s m args9 below9 meth9 c9 s₁ B hml hv
  obtain ⟨rfl, hsz, hP, hK, hD0⟩ := hv
  have hx := B.exec
  have hb := B.bytes
  have hr := B.returns
  have hts := atoms_spec (ws := wsX1_fill) B.pre
  have hown : s.vm.findClass RX1 = some m.cls := findClass_of_methodNamed B.named
  have hlocks := B.notSynchronized
  subst hsz
  have hD := hD0.self (sz := s.heap.size)
  generalize hAe : va_A (fl [ocW cI o φ, stW cI a σ]) s.heap.size = A at hD ⊢
  have hA : ∀ q : Nat, s.heap.size ≤ q → A q := fun q h => by rw [← hAe]; exact Or.inr h
  have hS : va_S A s.heap s.heap [] := va_S.rf
  have hP : va_P D vwCl (fl [ocW cI o φ, stW cI a σ]) s.heap := hP
  have hl := lv_entry ([.ref (o 0), .ref (a 0), .int (iI (c))]) (n := 9) (Nat.le_of_ble_eq_true rfl)
  rw [lg_entry_eq]
  generalize (lg_sl ([.ref (o 0), .ref (a 0), .int (iI (c))]) ++ List.replicate (9 - (lg_sl ([.ref (o 0), .ref (a 0), .int (iI (c))])).length) Slot.unset).toArray = ls at hl ⊢
  have hl : lv_has ls 9 [(0, .ref (o 0)), (1, .ref (a 0)), (2, .int (iI (c)))] := hl
  have hw_0 := hts (.fieldLink RX1 28 "PromisedCounters$State" "value" "[I") (by decide +kernel)
  have hin_X3 : ∀ w ∈ u_ws RX3 TX3 15, w ∈ wsX1_fill := by decide +kernel
  have hw_1 := hts (.fieldLink RX1 9 "PromisedCounters$Outcomes" "fewest" "[I") (by decide +kernel)
  have hin_X1 : ∀ w ∈ u_ws RX1 TX1 1, w ∈ wsX1_fill := by decide +kernel
  have hw_2 := hts (.fieldLink RX1 31 "PromisedCounters$State" "promises" "I") (by decide +kernel)
  have hn := hI.n
  have hti := hI.t
  have hcc := hI.c hc.1 hc.2
  have hlm := low_mn hI c
  have hhm := high_mx σ c
  have hmr := mx_r hI c (k := (σ 0 1).toNat) (by omega)
  refine lv_aload_n hx hb dX1_fill_0 rfl (lv_at hl 1 rfl) ?_
  refine lv_iload_n hx hb dX1_fill_1 rfl (lv_at hl 2 rfl) ?_
  have hPc := fl_P (S' := [stW cI a σ]) hP [1] rfl
  refine wr_calli (va_runV (As := [.int (iI (c))]) (rest := []) ⟨hx, hb, hml, hown, hts⟩ (c_X3_lowOf l D cI cO cC cL a σ (c) (hc) (hI)) (cwV 1 hts gX1_fill_X3_lowOf rfl rfl rfl (by decide +kernel) ⟨Nat.le_of_ble_eq_true rfl, Nat.le_of_ble_eq_true rfl⟩) ⟨pcR_blind, va_recv hK hPc (ci := 3) (q0 := 0) rfl rfl, pcR_of hPc hK⟩ rfl rfl hl.1 rfl (lv_room (Nat.le_of_ble_eq_true rfl)) dX1_fill_2 ⟨(Nat.zero_le _), (Nat.zero_le _)⟩) (fun r1 hr1 => ?_)
  subst hr1
  refine lv_istore_n (lv' := [(3, .int (iI ((lowS σ (c) (σ 0 0))))), (0, .ref (o 0)), (1, .ref (a 0)), (2, .int (iI (c)))]) hx hb dX1_fill_5 rfl hl (by decide) rfl (fun ls hl => ?_)
  refine lv_aload_n hx hb dX1_fill_6 rfl (lv_at hl 2 rfl) ?_
  refine lv_iload_n hx hb dX1_fill_7 rfl (lv_at hl 3 rfl) ?_
  have hPc := fl_P (S' := [stW cI a σ]) hP [1] rfl
  refine wr_calli (va_runV (As := [.int (iI (c))]) (rest := []) ⟨hx, hb, hml, hown, hts⟩ (c_X3_highOf l D cI cO cC cL a σ (c) (hc) (hI)) (cwV 1 hts gX1_fill_X3_highOf rfl rfl rfl (by decide +kernel) ⟨Nat.le_of_ble_eq_true rfl, Nat.le_of_ble_eq_true rfl⟩) ⟨pcR_blind, va_recv hK hPc (ci := 3) (q0 := 0) rfl rfl, pcR_of hPc hK⟩ rfl rfl hl.1 rfl (lv_room (Nat.le_of_ble_eq_true rfl)) dX1_fill_8 ⟨(Nat.zero_le _), (Nat.zero_le _)⟩) (fun r2 hr2 => ?_)
  subst hr2
  refine lv_iload_n hx hb dX1_fill_11 rfl (lv_at hl 0 rfl) ?_
  refine wi_isub hx hb dX1_fill_12 ?_
  refine lv_istore (lv' := [(4, .int (iI (((highS σ (c)) - (lowS σ (c) (σ 0 0)))))), (3, .int (iI ((lowS σ (c) (σ 0 0))))), (0, .ref (o 0)), (1, .ref (a 0)), (2, .int (iI (c)))]) hx hb dX1_fill_13 hl (by decide) rfl (fun ls hl => ?_)
  refine wi_iconst hx hb dX1_fill_15 ?_
  refine lv_istore (lv' := [(5, .int (iI (0))), (4, .int (iI (((highS σ (c)) - (lowS σ (c) (σ 0 0)))))), (3, .int (iI ((lowS σ (c) (σ 0 0))))), (0, .ref (o 0)), (1, .ref (a 0)), (2, .int (iI (c)))]) hx hb dX1_fill_16 hl (by decide) rfl (fun ls hl => ?_)
  have L18 : ∀ (k18 : Nat), ∀ (τ : Nat → Int → Int) (i : Int), ((highS σ c - lowS σ c (σ 0 0)) + 1 - i).toNat < k18 → (0 ≤ i ∧ i ≤ (highS σ c - lowS σ c (σ 0 0)) + 1) → (∀ k : Int, 0 ≤ k → k < i → τ 1 k = -1) → ∀ (H : Heap) (locs : List Loc), va_P D vwCl (fl [ocW cI o τ, stW cI a σ]) H → va_D A (fl [ocW cI o τ, stW cI a σ]) → va_S A s.heap H locs → ∀ (ls : Array Slot), lv_has ls 9 [(5, .int (iI (i))), (4, .int (iI (((highS σ (c)) - (lowS σ (c) (σ 0 0)))))), (3, .int (iI ((lowS σ (c) (σ 0 0))))), (0, .ref (o 0)), (1, .ref (a 0)), (2, .int (iI (c)))] → W p9 l e9 ({ frames := 3, cells := 0, slots := 0, locals := 69 } : Room) s m ([.ref (o 0), .ref (a 0), .int (iI (c))] : List Value).toArray below9 meth9 c9 H locs 0 0 (MQ below9 (wq_i (fun (r : Int) (ψ : Nat → Int → Int) => r = (highS σ c - lowS σ c (σ 0 0)) ∧ (∀ i : Int, 0 ≤ i → i ≤ (highS σ c - lowS σ c (σ 0 0)) → ψ 1 i = FW σ c (σ 0 1).toNat (i - (σ 2 c - lowS σ c (σ 0 0))))) (fun (ψ : Nat → Int → Int) => (bW D [(cI, FieldType.int)] (fl [ocW cI o ψ, stW cI a σ]) A)) A) ([.ref (o 0), .ref (a 0), .int (iI (c))] : List Value).toArray s 0 0 A) (F0 m 18 ls []) := by
    intro k18
    induction k18 with
    | zero =>
      intro τ i hm
      exact absurd hm (Nat.not_lt_zero _)
    | succ k18 ih18 =>
      intro τ i hm18 hi hτ H locs hP hD hS ls hl
      refine lv_iload hx hb dX1_fill_18 (lv_at hl 0 rfl) ?_
      refine lv_iload hx hb dX1_fill_20 (lv_at hl 1 rfl) ?_
      refine wi_icmp_gt (tgt := 39) hx hb dX1_fill_22 (by decide) (by omega) (fun c_22 => ?_) (fun c_22 => ?_)
      · skip
        refine lv_aload_n hx hb dX1_fill_39 rfl (lv_at hl 4 rfl) ?_
        refine va_get (D := D) (ci := 3) (v := .ref (a 2)) (C := RX3) (T := TX3) (N := 15) hx hb hts hin_X3 hown hK hP 2 rfl rfl 4 (by decide) hw_0 (fun _ h9 => h9) rfl dX1_fill_40 ?_
        refine lv_iload_n hx hb dX1_fill_43 rfl (lv_at hl 5 rfl) ?_
        refine wi_iald hx hb hK hP 4 0 (n := 4) (f := σ 2) rfl rfl (i := c) (by omega) (by decide) dX1_fill_44 ?_
        refine lv_iload_n hx hb dX1_fill_45 rfl (lv_at hl 2 rfl) ?_
        refine wi_isub hx hb dX1_fill_46 ?_
        refine lv_istore (lv' := [(5, .int (iI (((σ 2 (c)) - (lowS σ (c) (σ 0 0)))))), (4, .int (iI (((highS σ (c)) - (lowS σ (c) (σ 0 0)))))), (3, .int (iI ((lowS σ (c) (σ 0 0))))), (0, .ref (o 0)), (1, .ref (a 0)), (2, .int (iI (c)))]) hx hb dX1_fill_47 hl (by decide) rfl (fun ls hl => ?_)
        refine lv_iload hx hb dX1_fill_49 (lv_at hl 0 rfl) ?_
        refine lv_istore (lv' := [(6, .int (iI (((σ 2 (c)) - (lowS σ (c) (σ 0 0)))))), (5, .int (iI (((σ 2 (c)) - (lowS σ (c) (σ 0 0)))))), (4, .int (iI (((highS σ (c)) - (lowS σ (c) (σ 0 0)))))), (3, .int (iI ((lowS σ (c) (σ 0 0))))), (0, .ref (o 0)), (1, .ref (a 0)), (2, .int (iI (c)))]) hx hb dX1_fill_51 hl (by decide) rfl (fun ls hl => ?_)
        refine lv_aload_n hx hb dX1_fill_53 rfl (lv_at hl 4 rfl) ?_
        refine va_get (D := D) (ci := 1) (v := .ref (o 1)) (C := RX1) (T := TX1) (N := 1) hx hb hts hin_X1 hown hK hP 0 rfl rfl 0 (by decide) hw_1 (fun _ h9 => h9) rfl dX1_fill_54 ?_
        refine lv_iload hx hb dX1_fill_57 (lv_at hl 1 rfl) ?_
        refine wi_iconst hx hb dX1_fill_59 ?_
        refine wi_iast hx hb hK hP hD hS 1 0 (n := 1585) (f := τ 1) rfl rfl (i := ((σ 2 (c)) - (lowS σ (c) (σ 0 0)))) (by omega) (by decide) dX1_fill_60 (fun H locs hP hD hS => ?_)
        have hP : va_P D vwCl (fl [ocW cI o (sU τ 1 (((σ 2 (c)) - (lowS σ (c) (σ 0 0)))) (0)), stW cI a σ]) H := hP
        have hD : va_D A (fl [ocW cI o (sU τ 1 (((σ 2 (c)) - (lowS σ (c) (σ 0 0)))) (0)), stW cI a σ]) := hD
        refine wi_iconst hx hb dX1_fill_61 ?_
        refine lv_istore (lv' := [(7, .int (iI (0))), (6, .int (iI (((σ 2 (c)) - (lowS σ (c) (σ 0 0)))))), (5, .int (iI (((σ 2 (c)) - (lowS σ (c) (σ 0 0)))))), (4, .int (iI (((highS σ (c)) - (lowS σ (c) (σ 0 0)))))), (3, .int (iI ((lowS σ (c) (σ 0 0))))), (0, .ref (o 0)), (1, .ref (a 0)), (2, .int (iI (c)))]) hx hb dX1_fill_62 hl (by decide) rfl (fun ls hl => ?_)
        have L64 : ∀ (k64 : Nat), ∀ (τ2 : Nat → Int → Int) (bot : Int) (top : Int) (p : Int), (σ 0 1 - p).toNat < k64 → (0 ≤ p ∧ p ≤ σ 0 1) → (bot = (σ 2 c - lowS σ c (σ 0 0)) + mnS σ c p.toNat) → (top = (σ 2 c - lowS σ c (σ 0 0)) + mxS σ c p.toNat) → (∀ i : Int, 0 ≤ i → i ≤ (highS σ c - lowS σ c (σ 0 0)) → τ2 1 i = FW σ c p.toNat (i - (σ 2 c - lowS σ c (σ 0 0)))) → ∀ (H : Heap) (locs : List Loc), va_P D vwCl (fl [ocW cI o τ2, stW cI a σ]) H → va_D A (fl [ocW cI o τ2, stW cI a σ]) → va_S A s.heap H locs → ∀ (ls : Array Slot), lv_has ls 9 [(7, .int (iI (p))), (6, .int (iI (top))), (5, .int (iI (bot))), (4, .int (iI (((highS σ (c)) - (lowS σ (c) (σ 0 0)))))), (3, .int (iI ((lowS σ (c) (σ 0 0))))), (0, .ref (o 0)), (1, .ref (a 0)), (2, .int (iI (c)))] → W p9 l e9 ({ frames := 3, cells := 0, slots := 0, locals := 69 } : Room) s m ([.ref (o 0), .ref (a 0), .int (iI (c))] : List Value).toArray below9 meth9 c9 H locs 0 0 (MQ below9 (wq_i (fun (r : Int) (ψ : Nat → Int → Int) => r = (highS σ c - lowS σ c (σ 0 0)) ∧ (∀ i : Int, 0 ≤ i → i ≤ (highS σ c - lowS σ c (σ 0 0)) → ψ 1 i = FW σ c (σ 0 1).toNat (i - (σ 2 c - lowS σ c (σ 0 0))))) (fun (ψ : Nat → Int → Int) => (bW D [(cI, FieldType.int)] (fl [ocW cI o ψ, stW cI a σ]) A)) A) ([.ref (o 0), .ref (a 0), .int (iI (c))] : List Value).toArray s 0 0 A) (F0 m 64 ls []) := by
          intro k64
          induction k64 with
          | zero =>
            intro τ2 bot top p hm
            exact absurd hm (Nat.not_lt_zero _)
          | succ k64 ih64 =>
            intro τ2 bot top p hm64 hp hbot htop hτ2 H locs hP hD hS ls hl
            refine lv_iload hx hb dX1_fill_64 (lv_at hl 0 rfl) ?_
            refine lv_aload_n hx hb dX1_fill_66 rfl (lv_at hl 6 rfl) ?_
            refine va_get (D := D) (ci := 3) (v := .int (iI ((σ 0 1)))) (C := RX3) (T := TX3) (N := 15) hx hb hts hin_X3 hown hK hP 2 rfl rfl 1 (by decide) hw_2 (fun _ h9 => h9) rfl dX1_fill_67 ?_
            refine wi_icmp_ge (tgt := 136) hx hb dX1_fill_70 (by decide) (by omega) (fun c_70 => ?_) (fun c_70 => ?_)
            · skip
              refine lv_iload hx hb dX1_fill_136 (lv_at hl 3 rfl) ?_
              exact W.iret (v := iI (((highS σ (c)) - (lowS σ (c) (σ 0 0))))) hx hb hr (fun t9 ht9 hW9 => ⟨⟨(((highS σ (c)) - (lowS σ (c) (σ 0 0)))), τ2, rfl, (⟨rfl, fun i h1 h2 => by rw [hτ2 i h1 h2, show p = σ 0 1 by omega]⟩), ⟨by rw [ht9]; exact hP, va_K.moved hW9.alike hK, hD⟩⟩, hS.F ht9⟩) hS.2.2 dX1_fill_138 hlocks
            · skip
              have hpr := hI.pr (p := p) (by omega) (by omega)
              have hq1 := (mx_r hI c (k := p.toNat) (by omega)).2
              have hq2 := (mx_r hI c (k := (p + 1).toNat) (by omega)).2
              have hcr := chg_r hpr c
              have hpn : p.toNat ≤ (σ 0 1).toNat := by omega
              have hpn1 : (p + 1).toNat ≤ (σ 0 1).toNat := by omega
              have hm1 := mn_mono σ c hpn
              have hm2 := mx_mono σ c hpn
              have hm3 := mn_mono σ c hpn1
              have hm4 := mx_mono σ c hpn1
              have hs1 : mnS σ c (p + 1).toNat = mnS σ c p.toNat + min (chg σ p c) 0 := sm_step (by omega)
              have hs2 : mxS σ c (p + 1).toNat = mxS σ c p.toNat + max (chg σ p c) 0 := sm_step (by omega)
              refine lv_aload_n hx hb dX1_fill_73 rfl (lv_at hl 6 rfl) ?_
              refine lv_iload hx hb dX1_fill_74 (lv_at hl 0 rfl) ?_
              refine lv_iload_n hx hb dX1_fill_76 rfl (lv_at hl 7 rfl) ?_
              have hPc := fl_P (S' := [stW cI a σ]) hP [1] rfl
              refine wr_calli (va_runV (As := [.int (iI (p)), .int (iI (c))]) (rest := []) ⟨hx, hb, hml, hown, hts⟩ (c_X3_changeOf l D cI cO cC cL a σ (p) (c) (by omega) (by omega) (hpr)) (cwV 2 hts gX1_fill_X3_changeOf rfl rfl rfl (by decide +kernel) ⟨Nat.le_of_ble_eq_true rfl, Nat.le_of_ble_eq_true rfl⟩) ⟨pcR_blind, va_recv hK hPc (ci := 3) (q0 := 0) rfl rfl, pcR_of hPc hK⟩ rfl rfl hl.1 rfl (lv_room (Nat.le_of_ble_eq_true rfl)) dX1_fill_77 ⟨(Nat.zero_le _), (Nat.zero_le _)⟩) (fun r3 hr3 => ?_)
              subst hr3
              refine lv_istore (lv' := [(8, .int (iI ((chg σ (p) (c))))), (7, .int (iI (p))), (6, .int (iI (top))), (5, .int (iI (bot))), (4, .int (iI (((highS σ (c)) - (lowS σ (c) (σ 0 0)))))), (3, .int (iI ((lowS σ (c) (σ 0 0))))), (0, .ref (o 0)), (1, .ref (a 0)), (2, .int (iI (c)))]) hx hb dX1_fill_80 hl (by decide) rfl (fun ls hl => ?_)
              refine lv_iload hx hb dX1_fill_82 (lv_at hl 0 rfl) ?_
              refine wi_if_le (tgt := 107) hx hb dX1_fill_84 (by decide) (by omega) (fun c_84 => ?_) (fun c_84 => ?_)
              · skip
                refine lv_iload hx hb dX1_fill_107 (lv_at hl 0 rfl) ?_
                refine wi_if_ge (tgt := 130) hx hb dX1_fill_109 (by decide) (by omega) (fun c_109 => ?_) (fun c_109 => ?_)
                · skip
                  refine wi_iinc (lv' := [(7, .int (iI ((p + 1)))), (8, .int (iI ((chg σ (p) (c))))), (6, .int (iI (top))), (5, .int (iI (bot))), (4, .int (iI (((highS σ (c)) - (lowS σ (c) (σ 0 0)))))), (3, .int (iI ((lowS σ (c) (σ 0 0))))), (0, .ref (o 0)), (1, .ref (a 0)), (2, .int (iI (c)))]) hx hb dX1_fill_130 hl (k := 1) rfl (by decide) rfl (fun ls hl => ?_)
                  refine lv_goto (tgt := 64) hx hb dX1_fill_133 (by decide) ?_
                  exact ih64 (τ2) (bot) (top) ((p + 1)) (by omega) (by omega) (by omega) (by omega) (fun i h1 h2 => by rw [FW_step σ c _ (by omega), if_pos (by omega)]; exact hτ2 i h1 h2) _ _ hP hD hS ls (lv_sub hl [0, 2, 3, 4, 5, 6, 7, 8] rfl)
                · skip
                  refine lv_iload hx hb dX1_fill_112 (lv_at hl 3 rfl) ?_
                  refine lv_iload hx hb dX1_fill_114 (lv_at hl 0 rfl) ?_
                  refine wi_iadd hx hb dX1_fill_116 ?_
                  refine lv_istore (lv' := [(5, .int (iI ((bot + (chg σ (p) (c)))))), (8, .int (iI ((chg σ (p) (c))))), (7, .int (iI (p))), (6, .int (iI (top))), (4, .int (iI (((highS σ (c)) - (lowS σ (c) (σ 0 0)))))), (3, .int (iI ((lowS σ (c) (σ 0 0))))), (0, .ref (o 0)), (1, .ref (a 0)), (2, .int (iI (c)))]) hx hb dX1_fill_117 hl (by decide) rfl (fun ls hl => ?_)
                  refine lv_aload_n hx hb dX1_fill_119 rfl (lv_at hl 6 rfl) ?_
                  refine lv_iload hx hb dX1_fill_120 (lv_at hl 1 rfl) ?_
                  refine wi_ineg hx hb dX1_fill_122 ?_
                  refine lv_iload hx hb dX1_fill_123 (lv_at hl 0 rfl) ?_
                  refine lv_iload hx hb dX1_fill_125 (lv_at hl 3 rfl) ?_
                  have hPc := fl_P (S' := [ocW cI o τ2]) hP [0] rfl
                  have hDc := fl_D (S' := [ocW cI o τ2]) hD [0] (by decide) rfl
                  have hFc := fl_free (SC := [ocW cI o τ2]) hD hS hA [0] rfl
                  refine va_callv (va_runV (As := [.int (iI ((-(chg σ (p) (c))))), .int (iI ((bot + (chg σ (p) (c))))), .int (iI (top))]) (rest := []) ⟨hx, hb, hml, hown, hts⟩ (c_X1_addDownward l D cI cO cC cL H.size o τ2 ((-(chg σ (p) (c)))) ((bot + (chg σ (p) (c)))) (top) (by omega) (by omega) (by omega) (fun k h1 h2 => by rw [hτ2 k (by omega) (by omega)]; have := FW_r σ c p.toNat (k - (σ 2 c - lowS σ c (σ 0 0))); omega)) (cwV 3 hts gX1_fill_X1_addDownward rfl rfl rfl (by decide +kernel) ⟨Nat.le_of_ble_eq_true rfl, Nat.le_of_ble_eq_true rfl⟩) ⟨pcW_blind, va_recv hK hPc (ci := 1) (q0 := 0) rfl rfl, pcW_of hPc hK hDc⟩ rfl rfl hl.1 rfl (lv_room (Nat.le_of_ble_eq_true rfl)) dX1_fill_127 ⟨(Nat.zero_le _), (Nat.zero_le _)⟩) hS (fun q _ h => hFc q h) hFc (fun  u5 t9 H1 locs ht9 hvm hcl4 hB hz1 hk1 hS => ?_)
                  obtain ⟨hP1, hK1, hD1⟩ := hB
                  rw [ht9] at hP1
                  obtain ⟨hP, hD⟩ := fl_join (SR := [stW cI a σ]) (S1 := [ocW cI o (sR τ2 1 (mapT (τ2 1) (-((-(chg σ (p) (c))))) ((bot + (chg σ (p) (c)))) ((top) - ((-(chg σ (p) (c)))))))]) hP hD [0] [1] rfl rfl (by decide) (by decide) hk1 hFc hP1 hD1
                  generalize H1 = H at hP hS ⊢
                  have hP := fl_P (S' := [ocW cI o (sR τ2 1 (mapT (τ2 1) (-((-(chg σ (p) (c))))) ((bot + (chg σ (p) (c)))) ((top) - ((-(chg σ (p) (c))))))), stW cI a σ]) hP [1, 0] rfl
                  have hD := fl_D (S' := [ocW cI o (sR τ2 1 (mapT (τ2 1) (-((-(chg σ (p) (c))))) ((bot + (chg σ (p) (c)))) ((top) - ((-(chg σ (p) (c))))))), stW cI a σ]) hD [1, 0] (by decide) rfl
                  refine wi_iinc (lv' := [(7, .int (iI ((p + 1)))), (5, .int (iI ((bot + (chg σ (p) (c)))))), (8, .int (iI ((chg σ (p) (c))))), (6, .int (iI (top))), (4, .int (iI (((highS σ (c)) - (lowS σ (c) (σ 0 0)))))), (3, .int (iI ((lowS σ (c) (σ 0 0))))), (0, .ref (o 0)), (1, .ref (a 0)), (2, .int (iI (c)))]) hx hb dX1_fill_130 hl (k := 2) rfl (by decide) rfl (fun ls hl => ?_)
                  refine lv_goto (tgt := 64) hx hb dX1_fill_133 (by decide) ?_
                  exact ih64 ((sR τ2 1 (mapT (τ2 1) (-((-(chg σ (p) (c))))) ((bot + (chg σ (p) (c)))) ((top) - ((-(chg σ (p) (c)))))))) ((bot + (chg σ (p) (c)))) (top) ((p + 1)) (by omega) (by omega) (by omega) (by omega) (fun i h1 h2 => by show mapT (τ2 1) (-(-chg σ p c)) (bot + chg σ p c) (top - -chg σ p c) i = _; rw [show -(-chg σ p c) = chg σ p c by omega, show top - -chg σ p c = top + chg σ p c by omega]; exact FW_dn (by omega) hτ2 (by omega) htop (by omega) (by omega) (by omega) i h1 h2) _ _ hP hD hS ls (lv_sub hl [0, 3, 1, 4, 5, 6, 7, 8] rfl)
              · skip
                refine lv_iload hx hb dX1_fill_87 (lv_at hl 2 rfl) ?_
                refine lv_iload hx hb dX1_fill_89 (lv_at hl 0 rfl) ?_
                refine wi_iadd hx hb dX1_fill_91 ?_
                refine lv_istore (lv' := [(6, .int (iI ((top + (chg σ (p) (c)))))), (8, .int (iI ((chg σ (p) (c))))), (7, .int (iI (p))), (5, .int (iI (bot))), (4, .int (iI (((highS σ (c)) - (lowS σ (c) (σ 0 0)))))), (3, .int (iI ((lowS σ (c) (σ 0 0))))), (0, .ref (o 0)), (1, .ref (a 0)), (2, .int (iI (c)))]) hx hb dX1_fill_92 hl (by decide) rfl (fun ls hl => ?_)
                refine lv_aload_n hx hb dX1_fill_94 rfl (lv_at hl 6 rfl) ?_
                refine lv_iload hx hb dX1_fill_95 (lv_at hl 1 rfl) ?_
                refine lv_iload hx hb dX1_fill_97 (lv_at hl 3 rfl) ?_
                refine lv_iload hx hb dX1_fill_99 (lv_at hl 0 rfl) ?_
                have hPc := fl_P (S' := [ocW cI o τ2]) hP [0] rfl
                have hDc := fl_D (S' := [ocW cI o τ2]) hD [0] (by decide) rfl
                have hFc := fl_free (SC := [ocW cI o τ2]) hD hS hA [0] rfl
                refine va_callv (va_runV (As := [.int (iI ((chg σ (p) (c)))), .int (iI (bot)), .int (iI ((top + (chg σ (p) (c)))))]) (rest := []) ⟨hx, hb, hml, hown, hts⟩ (c_X1_addUpward l D cI cO cC cL H.size o τ2 ((chg σ (p) (c))) (bot) ((top + (chg σ (p) (c)))) (by omega) (by omega) (by omega) (fun k h1 h2 => by rw [hτ2 k (by omega) (by omega)]; have := FW_r σ c p.toNat (k - (σ 2 c - lowS σ c (σ 0 0))); omega)) (cwV 3 hts gX1_fill_X1_addUpward rfl rfl rfl (by decide +kernel) ⟨Nat.le_of_ble_eq_true rfl, Nat.le_of_ble_eq_true rfl⟩) ⟨pcW_blind, va_recv hK hPc (ci := 1) (q0 := 0) rfl rfl, pcW_of hPc hK hDc⟩ rfl rfl hl.1 rfl (lv_room (Nat.le_of_ble_eq_true rfl)) dX1_fill_101 ⟨(Nat.zero_le _), (Nat.zero_le _)⟩) hS (fun q _ h => hFc q h) hFc (fun  u7 t9 H1 locs ht9 hvm hcl6 hB hz1 hk1 hS => ?_)
                obtain ⟨hP1, hK1, hD1⟩ := hB
                rw [ht9] at hP1
                obtain ⟨hP, hD⟩ := fl_join (SR := [stW cI a σ]) (S1 := [ocW cI o (sR τ2 1 (mapT (τ2 1) ((chg σ (p) (c))) ((bot) + ((chg σ (p) (c)))) ((top + (chg σ (p) (c))))))]) hP hD [0] [1] rfl rfl (by decide) (by decide) hk1 hFc hP1 hD1
                generalize H1 = H at hP hS ⊢
                have hP := fl_P (S' := [ocW cI o (sR τ2 1 (mapT (τ2 1) ((chg σ (p) (c))) ((bot) + ((chg σ (p) (c)))) ((top + (chg σ (p) (c)))))), stW cI a σ]) hP [1, 0] rfl
                have hD := fl_D (S' := [ocW cI o (sR τ2 1 (mapT (τ2 1) ((chg σ (p) (c))) ((bot) + ((chg σ (p) (c)))) ((top + (chg σ (p) (c)))))), stW cI a σ]) hD [1, 0] (by decide) rfl
                refine lv_goto (tgt := 130) hx hb dX1_fill_104 (by decide) ?_
                refine wi_iinc (lv' := [(7, .int (iI ((p + 1)))), (6, .int (iI ((top + (chg σ (p) (c)))))), (8, .int (iI ((chg σ (p) (c))))), (5, .int (iI (bot))), (4, .int (iI (((highS σ (c)) - (lowS σ (c) (σ 0 0)))))), (3, .int (iI ((lowS σ (c) (σ 0 0))))), (0, .ref (o 0)), (1, .ref (a 0)), (2, .int (iI (c)))]) hx hb dX1_fill_130 hl (k := 2) rfl (by decide) rfl (fun ls hl => ?_)
                refine lv_goto (tgt := 64) hx hb dX1_fill_133 (by decide) ?_
                exact ih64 ((sR τ2 1 (mapT (τ2 1) ((chg σ (p) (c))) ((bot) + ((chg σ (p) (c)))) ((top + (chg σ (p) (c))))))) (bot) ((top + (chg σ (p) (c)))) ((p + 1)) (by omega) (by omega) (by omega) (by omega) (fun i h1 h2 => FW_up (by omega) hτ2 hbot (by omega) (by omega) (by omega) (by omega) i h1 h2) _ _ hP hD hS ls (lv_sub hl [0, 1, 3, 4, 5, 6, 7, 8] rfl)
        exact L64 _ ((sU τ 1 (((σ 2 (c)) - (lowS σ (c) (σ 0 0)))) (0))) (((σ 2 (c)) - (lowS σ (c) (σ 0 0)))) (((σ 2 (c)) - (lowS σ (c) (σ 0 0)))) (0) (Nat.lt_succ_self _) (by omega) (by show _ = (σ 2 c - lowS σ c (σ 0 0)) + 0; omega) (by show _ = (σ 2 c - lowS σ c (σ 0 0)) + 0; omega) (fun k h1 h2 => (Decidable.em (k = (σ 2 c - lowS σ c (σ 0 0)))).elim (fun q => by show uI (τ 1) (σ 2 c - lowS σ c (σ 0 0)) 0 k = if k - (σ 2 c - lowS σ c (σ 0 0)) = 0 then 0 else -1; rw [q, uI_s, if_pos (by omega)]) (fun q => by show uI (τ 1) (σ 2 c - lowS σ c (σ 0 0)) 0 k = if k - (σ 2 c - lowS σ c (σ 0 0)) = 0 then 0 else -1; rw [uI_n q, if_neg (by omega)]; exact hτ k h1 (by omega))) _ _ hP hD hS ls (lv_sub hl [0, 1, 2, 3, 4, 5, 6, 7] rfl)
      · skip
        refine lv_aload_n hx hb dX1_fill_25 rfl (lv_at hl 3 rfl) ?_
        refine va_get (D := D) (ci := 1) (v := .ref (o 1)) (C := RX1) (T := TX1) (N := 1) hx hb hts hin_X1 hown hK hP 0 rfl rfl 0 (by decide) hw_1 (fun _ h9 => h9) rfl dX1_fill_26 ?_
        refine lv_iload hx hb dX1_fill_29 (lv_at hl 0 rfl) ?_
        refine wi_iconst hx hb dX1_fill_31 ?_
        refine wi_iast hx hb hK hP hD hS 1 0 (n := 1585) (f := τ 1) rfl rfl (i := i) (by omega) (by decide) dX1_fill_32 (fun H locs hP hD hS => ?_)
        have hP : va_P D vwCl (fl [ocW cI o (sU τ 1 (i) (-1)), stW cI a σ]) H := hP
        have hD : va_D A (fl [ocW cI o (sU τ 1 (i) (-1)), stW cI a σ]) := hD
        refine wi_iinc (lv' := [(5, .int (iI ((i + 1)))), (4, .int (iI (((highS σ (c)) - (lowS σ (c) (σ 0 0)))))), (3, .int (iI ((lowS σ (c) (σ 0 0))))), (0, .ref (o 0)), (1, .ref (a 0)), (2, .int (iI (c)))]) hx hb dX1_fill_33 hl (k := 0) rfl (by decide) rfl (fun ls hl => ?_)
        refine lv_goto (tgt := 18) hx hb dX1_fill_36 (by decide) ?_
        exact ih18 ((sU τ 1 (i) (-1))) ((i + 1)) (by omega) (by omega) (fun k h1 h2 => (Decidable.em (k = i)).elim (fun q => by show uI (τ 1) i (-1) k = -1; rw [q, uI_s]) (fun q => by show uI (τ 1) i (-1) k = -1; rw [uI_n q]; exact hτ k h1 (by omega))) _ _ hP hD hS ls (lv_sub hl [0, 1, 2, 3, 4, 5] rfl)
  exact L18 _ (φ) (0) (Nat.lt_succ_self _) (by omega) (fun k h1 h2 => by omega) _ _ hP hD hS ls (lv_sub hl [0, 1, 2, 3, 4, 5] rfl)
set_option maxHeartbeats 4000000 in
set_option maxRecDepth 100000 in
theorem c_X1_manyOf (l : Launch) (D : va_G) (cI cO cC cL : ClassId) (sz : Nat) (o : Nat → Nat) (φ : Nat → Int → Int) (a : Nat → Nat) (σ : Nat → Int → Int) (c : Int) (hc : 0 ≤ c ∧ c < 4) (hI : Inv σ) : Met l yX1_manyOf wsX1_manyOf ({ frames := 4, cells := 0, slots := 0, locals := 97 } : Room) (pcW D [(cI, FieldType.int)] [.ref (o 0), .ref (a 0), .int (iI (c))] (fl [ocW cI o φ, stW cI a σ]) sz) (wq_i (fun (r : Int) (ψ : Nat → Int → Int) => r = cntW σ c) (fun (ψ : Nat → Int → Int) => (bW D [(cI, FieldType.int)] (fl [ocW cI o ψ, stW cI a σ]) (va_A (fl [ocW cI o φ, stW cI a σ]) sz))) (va_A (fl [ocW cI o φ, stW cI a σ]) sz)) 0 0 (va_A (fl [ocW cI o φ, stW cI a σ]) sz) := by
  refine Met.ofW (cc := cX1_manyOf) (maxL := 6) (ret := (some .int)) (by decide) rfl ?_
  intro p9 e9 s m args9 below9 meth9 c9 s₁ B hml hv
  obtain ⟨rfl, hsz, hP, hK, hD0⟩ := hv
  have hx := B.exec
  have hb := B.bytes
  have hr := B.returns
  have hts := atoms_spec (ws := wsX1_manyOf) B.pre
  have hown : s.vm.findClass RX1 = some m.cls := findClass_of_methodNamed B.named
  have hlocks := B.notSynchronized
  subst hsz
  have hD := hD0.self (sz := s.heap.size)
  generalize hAe : va_A (fl [ocW cI o φ, stW cI a σ]) s.heap.size = A at hD ⊢
  have hA : ∀ q : Nat, s.heap.size ≤ q → A q := fun q h => by rw [← hAe]; exact Or.inr h
  have hS : va_S A s.heap s.heap [] := va_S.rf
  have hP : va_P D vwCl (fl [ocW cI o φ, stW cI a σ]) s.heap := hP
  have hl := lv_entry ([.ref (o 0), .ref (a 0), .int (iI (c))]) (n := 6) (Nat.le_of_ble_eq_true rfl)
  rw [lg_entry_eq]
  generalize (lg_sl ([.ref (o 0), .ref (a 0), .int (iI (c))]) ++ List.replicate (6 - (lg_sl ([.ref (o 0), .ref (a 0), .int (iI (c))])).length) Slot.unset).toArray = ls at hl ⊢
  have hl : lv_has ls 6 [(0, .ref (o 0)), (1, .ref (a 0)), (2, .int (iI (c)))] := hl
  have hw_0 := hts (.fieldLink RX1 9 "PromisedCounters$Outcomes" "fewest" "[I") (by decide +kernel)
  have hin_X1 : ∀ w ∈ u_ws RX1 TX1 1, w ∈ wsX1_manyOf := by decide +kernel
  have hn := hI.n
  have hti := hI.t
  have hcc := hI.c hc.1 hc.2
  have hlm := low_mn hI c
  have hhm := high_mx σ c
  have hmr := mx_r hI c (k := (σ 0 1).toNat) (by omega)
  refine lv_aload_n hx hb dX1_manyOf_0 rfl (lv_at hl 0 rfl) ?_
  refine lv_aload_n hx hb dX1_manyOf_1 rfl (lv_at hl 1 rfl) ?_
  refine lv_iload_n hx hb dX1_manyOf_2 rfl (lv_at hl 2 rfl) ?_
  have hFc := fl_free (SC := [ocW cI o φ, stW cI a σ]) hD hS hA [0, 1] rfl
  refine wq_calli (va_runV (As := [.ref (a 0), .int (iI (c))]) (rest := []) ⟨hx, hb, hml, hown, hts⟩ (c_X1_fill l D cI cO cC cL s.heap.size o φ a σ (c) (hc) (hI)) (cwV 2 hts gX1_manyOf_X1_fill rfl rfl rfl (by decide +kernel) ⟨Nat.le_of_ble_eq_true rfl, Nat.le_of_ble_eq_true rfl⟩) ⟨pcW_blind, va_recv hK hP (ci := 1) (q0 := 0) rfl rfl, pcW_of hP hK hD⟩ rfl rfl hl.1 rfl (lv_room (Nat.le_of_ble_eq_true rfl)) dX1_manyOf_3 ⟨(Nat.zero_le _), (Nat.zero_le _)⟩) hS (fun q _ h => hFc q h) hFc (fun r1 u3 t9 H1 locs ht9 hvm hcl2 hB hz1 hk1 hS => ?_)
  obtain ⟨hP1, hK1, hD1⟩ := hB
  rw [ht9] at hP1
  obtain ⟨hP, hD⟩ := fl_join (SR := []) (S1 := [ocW cI o u3, stW cI a σ]) hP hD [0, 1] [] rfl rfl (by decide) (by decide) hk1 hFc hP1 hD1
  generalize H1 = H at hP hS ⊢
  have hP : va_P D vwCl (fl [ocW cI o u3, stW cI a σ]) H := hP
  have hD : va_D A (fl [ocW cI o u3, stW cI a σ]) := hD
  obtain ⟨hr9, hu9⟩ := hcl2
  have hfw := fun z => FW_r σ c (σ 0 1).toNat z
  refine lv_istore_n (lv' := [(3, .int (iI (r1))), (0, .ref (o 0)), (1, .ref (a 0)), (2, .int (iI (c)))]) hx hb dX1_manyOf_6 rfl hl (by decide) rfl (fun ls hl => ?_)
  refine wi_iconst hx hb dX1_manyOf_7 ?_
  refine lv_istore (lv' := [(4, .int (iI (0))), (3, .int (iI (r1))), (0, .ref (o 0)), (1, .ref (a 0)), (2, .int (iI (c)))]) hx hb dX1_manyOf_8 hl (by decide) rfl (fun ls hl => ?_)
  refine wi_iconst hx hb dX1_manyOf_10 ?_
  refine lv_istore (lv' := [(5, .int (iI (0))), (4, .int (iI (0))), (3, .int (iI (r1))), (0, .ref (o 0)), (1, .ref (a 0)), (2, .int (iI (c)))]) hx hb dX1_manyOf_11 hl (by decide) rfl (fun ls hl => ?_)
  have L13 : ∀ (k13 : Nat), ∀ (i : Int) (acc : Int), ((highS σ c - lowS σ c (σ 0 0)) + 1 - i).toNat < k13 → (0 ≤ i ∧ i ≤ (highS σ c - lowS σ c (σ 0 0)) + 1) → (acc = sm (fun i => if FW σ c (σ 0 1).toNat (i - (σ 2 c - lowS σ c (σ 0 0))) = -1 then 0 else 1) i.toNat) → ∀ (ls : Array Slot), lv_has ls 6 [(5, .int (iI (i))), (4, .int (iI (acc))), (3, .int (iI (r1))), (0, .ref (o 0)), (1, .ref (a 0)), (2, .int (iI (c)))] → W p9 l e9 ({ frames := 4, cells := 0, slots := 0, locals := 97 } : Room) s m ([.ref (o 0), .ref (a 0), .int (iI (c))] : List Value).toArray below9 meth9 c9 H locs 0 0 (MQ below9 (wq_i (fun (r : Int) (ψ : Nat → Int → Int) => r = cntW σ c) (fun (ψ : Nat → Int → Int) => (bW D [(cI, FieldType.int)] (fl [ocW cI o ψ, stW cI a σ]) A)) A) ([.ref (o 0), .ref (a 0), .int (iI (c))] : List Value).toArray s 0 0 A) (F0 m 13 ls []) := by
    intro k13
    induction k13 with
    | zero =>
      intro i acc hm
      exact absurd hm (Nat.not_lt_zero _)
    | succ k13 ih13 =>
      intro i acc hm13 hi hacc ls hl
      refine lv_iload hx hb dX1_manyOf_13 (lv_at hl 0 rfl) ?_
      refine lv_iload_n hx hb dX1_manyOf_15 rfl (lv_at hl 2 rfl) ?_
      refine wi_icmp_gt (tgt := 39) hx hb dX1_manyOf_16 (by decide) (by omega) (fun c_16 => ?_) (fun c_16 => ?_)
      · skip
        refine lv_iload hx hb dX1_manyOf_39 (lv_at hl 1 rfl) ?_
        exact W.iret (v := iI (acc)) hx hb hr (fun t9 ht9 hW9 => ⟨⟨(acc), u3, rfl, (by rw [hacc, show i = (highS σ c - lowS σ c (σ 0 0)) + 1 by omega]; exact cnt_eq hI c rfl rfl), ⟨by rw [ht9]; exact hP, va_K.moved hW9.alike hK, hD⟩⟩, hS.F ht9⟩) hS.2.2 dX1_manyOf_41 hlocks
      · skip
        refine lv_aload_n hx hb dX1_manyOf_19 rfl (lv_at hl 3 rfl) ?_
        refine va_get (D := D) (ci := 1) (v := .ref (o 1)) (C := RX1) (T := TX1) (N := 1) hx hb hts hin_X1 hown hK hP 0 rfl rfl 0 (by decide) hw_0 (fun _ h9 => h9) rfl dX1_manyOf_20 ?_
        refine lv_iload hx hb dX1_manyOf_23 (lv_at hl 0 rfl) ?_
        refine wi_iald hx hb hK hP 1 0 (n := 1585) (f := u3 1) rfl rfl (i := i) (by omega) (by decide) dX1_manyOf_25 ?_
        have hui := hu9 i (by omega) (by omega)
        have hui2 := FW_r σ c (σ 0 1).toNat (i - (σ 2 c - lowS σ c (σ 0 0)))
        refine wi_iconst hx hb dX1_manyOf_26 ?_
        refine wi_icmp_eq (tgt := 33) hx hb dX1_manyOf_27 (by decide) (by omega) (fun c_27 => ?_) (fun c_27 => ?_)
        · skip
          refine wi_iinc (lv' := [(5, .int (iI ((i + 1)))), (4, .int (iI (acc))), (3, .int (iI (r1))), (0, .ref (o 0)), (1, .ref (a 0)), (2, .int (iI (c)))]) hx hb dX1_manyOf_33 hl (k := 0) rfl (by decide) rfl (fun ls hl => ?_)
          refine lv_goto (tgt := 13) hx hb dX1_manyOf_36 (by decide) ?_
          exact ih13 ((i + 1)) (acc) (by omega) (by omega) (by rw [sm_step (by omega)]; omega)  ls (lv_sub hl [0, 1, 2, 3, 4, 5] rfl)
        · skip
          refine wi_iinc (lv' := [(4, .int (iI ((acc + 1)))), (5, .int (iI (i))), (3, .int (iI (r1))), (0, .ref (o 0)), (1, .ref (a 0)), (2, .int (iI (c)))]) hx hb dX1_manyOf_30 hl (k := 1) rfl (by decide) rfl (fun ls hl => ?_)
          refine wi_iinc (lv' := [(5, .int (iI ((i + 1)))), (4, .int (iI ((acc + 1)))), (3, .int (iI (r1))), (0, .ref (o 0)), (1, .ref (a 0)), (2, .int (iI (c)))]) hx hb dX1_manyOf_33 hl (k := 1) rfl (by decide) rfl (fun ls hl => ?_)
          refine lv_goto (tgt := 13) hx hb dX1_manyOf_36 (by decide) ?_
          exact ih13 ((i + 1)) ((acc + 1)) (by omega) (by omega) (by rw [sm_step (by omega)]; omega)  ls (lv_sub hl [0, 1, 2, 3, 4, 5] rfl)
  exact L13 _ (0) (0) (Nat.lt_succ_self _) (by omega) (rfl)  ls (lv_sub hl [0, 1, 2, 3, 4, 5] rfl)
set_option maxHeartbeats 4000000 in
set_option maxRecDepth 100000 in
theorem c_X1_fewestFor (l : Launch) (D : va_G) (cI cO cC cL : ClassId) (sz : Nat) (o : Nat → Nat) (φ : Nat → Int → Int) (a : Nat → Nat) (σ : Nat → Int → Int) (c x : Int) (hc : 0 ≤ c ∧ c < 4) (hx0 : R32 x) (hI : Inv σ) : Met l yX1_fewestFor wsX1_fewestFor ({ frames := 4, cells := 0, slots := 0, locals := 97 } : Room) (pcW D [(cI, FieldType.int)] [.ref (o 0), .ref (a 0), .int (iI (c)), .int (iI (x))] (fl [ocW cI o φ, stW cI a σ]) sz) (wq_i (fun (r : Int) (ψ : Nat → Int → Int) => r = fewS σ c x) (fun (ψ : Nat → Int → Int) => (bW D [(cI, FieldType.int)] (fl [ocW cI o ψ, stW cI a σ]) (va_A (fl [ocW cI o φ, stW cI a σ]) sz))) (va_A (fl [ocW cI o φ, stW cI a σ]) sz)) 0 0 (va_A (fl [ocW cI o φ, stW cI a σ]) sz) := by
  refine Met.ofW (cc := cX1_fewestFor) (maxL := 5) (ret := (some .int)) (by decide) rfl ?_
  intro p9 e9 s m args9 below9 meth9 c9 s₁ B hml hv
  obtain ⟨rfl, hsz, hP, hK, hD0⟩ := hv
  have hx := B.exec
  have hb := B.bytes
  have hr := B.returns
  have hts := atoms_spec (ws := wsX1_fewestFor) B.pre
  have hown : s.vm.findClass RX1 = some m.cls := findClass_of_methodNamed B.named
  have hlocks := B.notSynchronized
  subst hsz
  have hD := hD0.self (sz := s.heap.size)
  generalize hAe : va_A (fl [ocW cI o φ, stW cI a σ]) s.heap.size = A at hD ⊢
  have hA : ∀ q : Nat, s.heap.size ≤ q → A q := fun q h => by rw [← hAe]; exact Or.inr h
  have hS : va_S A s.heap s.heap [] := va_S.rf
  have hP : va_P D vwCl (fl [ocW cI o φ, stW cI a σ]) s.heap := hP
  have hl := lv_entry ([.ref (o 0), .ref (a 0), .int (iI (c)), .int (iI (x))]) (n := 5) (Nat.le_of_ble_eq_true rfl)
  rw [lg_entry_eq]
  generalize (lg_sl ([.ref (o 0), .ref (a 0), .int (iI (c)), .int (iI (x))]) ++ List.replicate (5 - (lg_sl ([.ref (o 0), .ref (a 0), .int (iI (c)), .int (iI (x))])).length) Slot.unset).toArray = ls at hl ⊢
  have hl : lv_has ls 5 [(0, .ref (o 0)), (1, .ref (a 0)), (2, .int (iI (c))), (3, .int (iI (x)))] := hl
  have hw_0 := hts (.fieldLink RX1 9 "PromisedCounters$Outcomes" "fewest" "[I") (by decide +kernel)
  have hin_X1 : ∀ w ∈ u_ws RX1 TX1 1, w ∈ wsX1_fewestFor := by decide +kernel
  have hn := hI.n
  have hti := hI.t
  have hcc := hI.c hc.1 hc.2
  have hlm := low_mn hI c
  have hhm := high_mx σ c
  have hmr := mx_r hI c (k := (σ 0 1).toNat) (by omega)
  refine lv_aload_n hx hb dX1_fewestFor_0 rfl (lv_at hl 1 rfl) ?_
  refine lv_iload_n hx hb dX1_fewestFor_1 rfl (lv_at hl 2 rfl) ?_
  have hPc := fl_P (S' := [stW cI a σ]) hP [1] rfl
  refine wr_calli (va_runV (As := [.int (iI (c))]) (rest := []) ⟨hx, hb, hml, hown, hts⟩ (c_X3_lowOf l D cI cO cC cL a σ (c) (hc) (hI)) (cwV 1 hts gX1_fewestFor_X3_lowOf rfl rfl rfl (by decide +kernel) ⟨Nat.le_of_ble_eq_true rfl, Nat.le_of_ble_eq_true rfl⟩) ⟨pcR_blind, va_recv hK hPc (ci := 3) (q0 := 0) rfl rfl, pcR_of hPc hK⟩ rfl rfl hl.1 rfl (lv_room (Nat.le_of_ble_eq_true rfl)) dX1_fewestFor_2 ⟨(Nat.zero_le _), (Nat.zero_le _)⟩) (fun r1 hr1 => ?_)
  subst hr1
  refine lv_istore (lv' := [(4, .int (iI ((lowS σ (c) (σ 0 0))))), (0, .ref (o 0)), (1, .ref (a 0)), (2, .int (iI (c))), (3, .int (iI (x)))]) hx hb dX1_fewestFor_5 hl (by decide) rfl (fun ls hl => ?_)
  refine lv_iload_n hx hb dX1_fewestFor_7 rfl (lv_at hl 4 rfl) ?_
  refine lv_iload hx hb dX1_fewestFor_8 (lv_at hl 0 rfl) ?_
  refine wi_icmp_lt (tgt := 22) hx hb dX1_fewestFor_10 (by decide) (by omega) (fun c_10 => ?_) (fun c_10 => ?_)
  · skip
    refine wi_iconst hx hb dX1_fewestFor_22 ?_
    exact W.iret (v := iI (-1)) hx hb hr (fun t9 ht9 hW9 => ⟨⟨(-1), φ, rfl, (by unfold fewS; rw [if_pos (by omega)]), ⟨by rw [ht9]; exact hP, va_K.moved hW9.alike hK, hD⟩⟩, hS.F ht9⟩) hS.2.2 dX1_fewestFor_23 hlocks
  · skip
    refine lv_iload_n hx hb dX1_fewestFor_13 rfl (lv_at hl 4 rfl) ?_
    refine lv_aload_n hx hb dX1_fewestFor_14 rfl (lv_at hl 2 rfl) ?_
    refine lv_iload_n hx hb dX1_fewestFor_15 rfl (lv_at hl 3 rfl) ?_
    have hPc := fl_P (S' := [stW cI a σ]) hP [1] rfl
    refine wr_calli (va_runV (As := [.int (iI (c))]) (rest := [.int (iI (x))]) ⟨hx, hb, hml, hown, hts⟩ (c_X3_highOf l D cI cO cC cL a σ (c) (hc) (hI)) (cwV 1 hts gX1_fewestFor_X3_highOf rfl rfl rfl (by decide +kernel) ⟨Nat.le_of_ble_eq_true rfl, Nat.le_of_ble_eq_true rfl⟩) ⟨pcR_blind, va_recv hK hPc (ci := 3) (q0 := 0) rfl rfl, pcR_of hPc hK⟩ rfl rfl hl.1 rfl (lv_room (Nat.le_of_ble_eq_true rfl)) dX1_fewestFor_16 ⟨(Nat.zero_le _), (Nat.zero_le _)⟩) (fun r2 hr2 => ?_)
    subst hr2
    refine wi_icmp_le (tgt := 24) hx hb dX1_fewestFor_19 (by decide) (by omega) (fun c_19 => ?_) (fun c_19 => ?_)
    · skip
      refine lv_aload_n hx hb dX1_fewestFor_24 rfl (lv_at hl 1 rfl) ?_
      refine lv_aload_n hx hb dX1_fewestFor_25 rfl (lv_at hl 2 rfl) ?_
      refine lv_iload_n hx hb dX1_fewestFor_26 rfl (lv_at hl 3 rfl) ?_
      have hFc := fl_free (SC := [ocW cI o φ, stW cI a σ]) hD hS hA [0, 1] rfl
      refine wq_calli (va_runV (As := [.ref (a 0), .int (iI (c))]) (rest := []) ⟨hx, hb, hml, hown, hts⟩ (c_X1_fill l D cI cO cC cL s.heap.size o φ a σ (c) (hc) (hI)) (cwV 2 hts gX1_fewestFor_X1_fill rfl rfl rfl (by decide +kernel) ⟨Nat.le_of_ble_eq_true rfl, Nat.le_of_ble_eq_true rfl⟩) ⟨pcW_blind, va_recv hK hP (ci := 1) (q0 := 0) rfl rfl, pcW_of hP hK hD⟩ rfl rfl hl.1 rfl (lv_room (Nat.le_of_ble_eq_true rfl)) dX1_fewestFor_27 ⟨(Nat.zero_le _), (Nat.zero_le _)⟩) hS (fun q _ h => hFc q h) hFc (fun r3 u5 t9 H1 locs ht9 hvm hcl4 hB hz1 hk1 hS => ?_)
      obtain ⟨hP1, hK1, hD1⟩ := hB
      rw [ht9] at hP1
      obtain ⟨hP, hD⟩ := fl_join (SR := []) (S1 := [ocW cI o u5, stW cI a σ]) hP hD [0, 1] [] rfl rfl (by decide) (by decide) hk1 hFc hP1 hD1
      generalize H1 = H at hP hS ⊢
      have hP : va_P D vwCl (fl [ocW cI o u5, stW cI a σ]) H := hP
      have hD : va_D A (fl [ocW cI o u5, stW cI a σ]) := hD
      obtain ⟨hr9, hu9⟩ := hcl4
      refine lv_pop hx hb dX1_fewestFor_30 rfl ?_
      refine lv_aload_n hx hb dX1_fewestFor_31 rfl (lv_at hl 1 rfl) ?_
      refine va_get (D := D) (ci := 1) (v := .ref (o 1)) (C := RX1) (T := TX1) (N := 1) hx hb hts hin_X1 hown hK hP 0 rfl rfl 0 (by decide) hw_0 (fun _ h9 => h9) rfl dX1_fewestFor_32 ?_
      refine lv_iload_n hx hb dX1_fewestFor_35 rfl (lv_at hl 4 rfl) ?_
      refine lv_iload hx hb dX1_fewestFor_36 (lv_at hl 0 rfl) ?_
      refine wi_isub hx hb dX1_fewestFor_38 ?_
      refine wi_iald hx hb hK hP 1 0 (n := 1585) (f := u5 1) rfl rfl (i := (x - (lowS σ (c) (σ 0 0)))) (by omega) (by decide) dX1_fewestFor_39 ?_
      exact W.iret (v := iI ((u5 1 ((x - (lowS σ (c) (σ 0 0))))))) hx hb hr (fun t9 ht9 hW9 => ⟨⟨((u5 1 ((x - (lowS σ (c) (σ 0 0)))))), u5, rfl, (by unfold fewS; rw [if_neg (by omega), hu9 _ (by omega) (by omega)]; exact congrArg _ (by omega)), ⟨by rw [ht9]; exact hP, va_K.moved hW9.alike hK, hD⟩⟩, hS.F ht9⟩) hS.2.2 dX1_fewestFor_40 hlocks
    · skip
      refine wi_iconst hx hb dX1_fewestFor_22 ?_
      exact W.iret (v := iI (-1)) hx hb hr (fun t9 ht9 hW9 => ⟨⟨(-1), φ, rfl, (by unfold fewS; rw [if_pos (by omega)]), ⟨by rw [ht9]; exact hP, va_K.moved hW9.alike hK, hD⟩⟩, hS.F ht9⟩) hS.2.2 dX1_fewestFor_23 hlocks
