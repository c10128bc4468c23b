/-! the digest as a function of the state -/
def mixL (h v : Int64) : Int64 := 31 * h + v
def itL (g : Int → Int64 → Int64) : Nat → Int64 → Int64
  | 0, h => h
  | n + 1, h => g (n : Int) (itL g n h)
theorem itL_s {g : Int → Int64 → Int64} {h : Int64} {k : Int} (hk : 0 ≤ k) : itL g (k + 1).toNat h = g k (itL g k.toNat h) := by
  obtain ⟨n, rfl⟩ := Int.eq_ofNat_of_zero_le hk
  rfl
theorem itL_0 (g : Int → Int64 → Int64) (h : Int64) : h = itL g (0 : Int).toNat h := rfl
theorem itL_c {g g' : Int → Int64 → Int64} : ∀ {n : Nat} {h : Int64}, (∀ j : Int, 0 ≤ j → j < (n : Int) → ∀ x, g j x = g' j x) → itL g n h = itL g' n h
  | 0, _, _ => rfl
  | n + 1, h, q => by
    show g (n : Int) (itL g n h) = g' (n : Int) (itL g' n h)
    rw [q (n : Int) (by omega) (by omega), itL_c (n := n) (fun j j0 j1 x => q j j0 (by omega) x)]
def dCnt (σ : Nat → Int → Int) (κ : Int) (h : Int64) : Int64 := itL (fun w h => mixL h (iL (cntS σ κ w))) 10 h
def dSet (σ : Nat → Int → Int) (h : Int64) : Int64 := itL (fun k h => mixL h (iL (σ 1 k))) 2 h
def dCt1 (σ : Nat → Int → Int) (c : Int) (h : Int64) : Int64 := mixL (mixL (mixL (itL (fun w h => mixL h (iL (ctrS σ c w))) 10 h) (iL (fewS σ c 5))) (iL (mostS σ 0 c 1))) (iL (mostS σ 0 c 0))
def dCtr (σ : Nat → Int → Int) (h : Int64) : Int64 := itL (dCt1 σ) 4 h
def dPr1 (σ : Nat → Int → Int) (p : Int) (h : Int64) : Int64 := itL (fun w h => mixL h (iL (prmS σ p w))) 6 h
def dPrm (σ : Nat → Int → Int) (h : Int64) : Int64 := itL (dPr1 σ) (σ 0 1).toNat h
def dOw1 (σ : Nat → Int → Int) (o : Int) (h : Int64) : Int64 := mixL (itL (fun w h => mixL h (iL (ownS σ o w))) 5 h) (iL (reasonS σ o 1 7 (-1)))
def dOwn (σ : Nat → Int → Int) (h : Int64) : Int64 := itL (dOw1 σ) 6 h
def dPas (σ : Nat → Int → Int) (h : Int64) : Int64 := itL (fun w h => mixL h (iL (pasS σ 5 w))) 5 h
def dBuf (β : Int → Int) (ln : Int) (h : Int64) : Int64 := itL (fun j h => mixL h (iL (β j))) ln.toNat h
def hldS (σ : Nat → Int → Int) : Int := sm (fun c => highS σ c - lowS σ c (σ 0 0)) 4
def romS (σ : Nat → Int → Int) : Int := sm (fun c => σ 4 c - σ 3 c) 4
def shrS (σ : Nat → Int → Int) : UInt64 := shD (hldS σ) (romS σ)
def digS (σ : Nat → Int → Int) (κ ln : Int) (β : Int → Int) : Int64 := dBuf β ln (mixL (mixL (dPas σ (dOwn σ (dPrm σ (dCtr σ (dSet σ (dCnt σ κ 2713)))))) (shrS σ).toInt64) (iL ln))
theorem hld_r {σ : Nat → Int → Int} (hI : Inv σ) : 0 ≤ hldS σ ∧ hldS σ ≤ romS σ ∧ romS σ ≤ 7992 := by
  have h0 := hI.c (c := 0) (by omega) (by omega)
  have h1 := hI.c (c := 1) (by omega) (by omega)
  have h2 := hI.c (c := 2) (by omega) (by omega)
  have h3 := hI.c (c := 3) (by omega) (by omega)
  have e1 : hldS σ = 0 + (highS σ 0 - lowS σ 0 (σ 0 0)) + (highS σ 1 - lowS σ 1 (σ 0 0)) + (highS σ 2 - lowS σ 2 (σ 0 0)) + (highS σ 3 - lowS σ 3 (σ 0 0)) := rfl
  have e2 : romS σ = 0 + (σ 4 0 - σ 3 0) + (σ 4 1 - σ 3 1) + (σ 4 2 - σ 3 2) + (σ 4 3 - σ 3 3) := rfl
  omega
theorem shr_SH {σ : Nat → Int → Int} (hI : Inv σ) : SH (shrS σ) := by
  obtain ⟨h1, h2, h3⟩ := hld_r hI
  exact SH_of h1 h2 h3
theorem shr_n64 {σ : Nat → Int → Int} (hI : Inv σ) {h r : Int} (e1 : h = hldS σ) (e2 : r = romS σ) (z : r ≠ 0) : vf_n64 (FP.ddiv (FP.i2d (iI h)) (FP.i2d (iI r))) := by
  obtain ⟨h1, h2, h3⟩ := hld_r hI
  exact sh_div (by omega) (by omega) (by omega) z
theorem ofI_sub1 (a : Int) : Int64.ofInt a - Int64.ofNat 1 = Int64.ofInt (a - 1) := (Int64.ofInt_sub a 1).symm
set_option maxHeartbeats 4000000 in
set_option maxRecDepth 100000 in
theorem c_X4_bitsOfShare (l : Launch) (D : va_G) (cI cO cC cL : ClassId) (d : UInt64) (hd : SH d) : Met l yX4_bitsOfShare wsX4_bitsOfShare ({ frames := 0, cells := 0, slots := 0, locals := 0 } : Room) (va_Pc [.double d] (fun _ => True)) (vp_Sl (fun r => r = d.toInt64)) 0 0 (fun _ => False) := by
  refine Met.ofW (cc := cX4_bitsOfShare) (maxL := 8) (ret := (some .long)) (by decide) rfl ?_
  intro p9 e9 s m args9 below9 meth9 c9 s₁ B hml hv
  obtain ⟨rfl, -⟩ := hv
  have hx := B.exec
  have hb := B.bytes
  have hr := B.returns
  have hts := atoms_spec (ws := wsX4_bitsOfShare) B.pre
  have hown : s.vm.findClass RX4 = some m.cls := findClass_of_methodNamed B.named
  have hlocks := B.notSynchronized
  have hl := lv_entry ([.double d]) (n := 8) (Nat.le_of_ble_eq_true rfl)
  rw [lg_entry_eq]
  generalize (lg_sl ([.double d]) ++ List.replicate (8 - (lg_sl ([.double d])).length) Slot.unset).toArray = ls at hl ⊢
  have hl : lv_has ls 8 [(0, .double d)] := hl
  have hw0 := hts (Cond.constantLong RX4 285 (1023)) (by decide +kernel)
  have hw1 := hts (Cond.constantDouble RX4 287 (4611686018427387904)) (by decide +kernel)
  have hw2 := hts (Cond.constantDouble RX4 289 (4841369599423283200)) (by decide +kernel)
  refine lv_dload_n hx hb dX4_bitsOfShare_0 rfl (lv_at hl 0 rfl) ?_
  refine lv_dconst0 hx hb dX4_bitsOfShare_1 ?_
  refine lv_dcmp hx hb dX4_bitsOfShare_2 ?_
  rcases hd with rfl | ⟨E, t, hE0, hE1, ht, rfl⟩
  · rw [show Op.cmpValue (FP.dcmp 0 FP.dconst0) CmpOp.g = iI 0 from (by decide +kernel)]
    refine wi_if_gt (tgt := 8) hx hb dX4_bitsOfShare_3 (by decide) (by omega) (fun c_3 => ?_) (fun c_3 => ?_)
    · exfalso; omega
    · refine lv_lconst hx hb dX4_bitsOfShare_6 rfl ?_
      exact W.lret (v := Int64.ofNat 0) hx hb hr (fun t9 ht9 hW9 => ⟨Int64.ofNat 0, rfl, rfl, ht9⟩) (fun _ h => nomatch h) dX4_bitsOfShare_7 hlocks
  · rw [nd_gt0 (by omega) (by omega) ht, show Op.cmpValue (some Ordering.gt) CmpOp.g = iI 1 from rfl]
    refine wi_if_gt (tgt := 8) hx hb dX4_bitsOfShare_3 (by decide) (by omega) (fun c_3 => ?_) (fun c_3 => ?_)
    · refine lv_dload_n hx hb dX4_bitsOfShare_8 rfl (lv_at hl 0 rfl) ?_
      refine lv_dstore_n (lv' := [(2, .double (nd E t)), (0, .double (nd E t))]) hx hb dX4_bitsOfShare_9 rfl hl (by decide) rfl (fun ls hl => ?_)
      refine lv_ldc2 hx hb hown hw0 dX4_bitsOfShare_10 ?_
      refine lv_lstore (lv' := [(4, .long 1023), (2, .double (nd E t)), (0, .double (nd E t))]) hx hb dX4_bitsOfShare_13 hl (by decide) rfl (fun ls hl => ?_)
      refine wi_iconst hx hb dX4_bitsOfShare_15 ?_
      refine lv_istore (lv' := [(6, .int (iI 0)), (4, .long 1023), (2, .double (nd E t)), (0, .double (nd E t))]) hx hb dX4_bitsOfShare_16 hl (by decide) rfl (fun ls hl => ?_)
      have L18 : ∀ (k18 : Nat), ∀ (F : Nat), 1023 - F < k18 → E ≤ F ∧ F ≤ 1023 → ∀ (ls : Array Slot), lv_has ls 8 [(6, .int (iI ((F : Int) - (E : Int)))), (4, .long (Int64.ofInt (1023 - ((F : Int) - (E : Int))))), (2, .double (nd F t)), (0, .double (nd E t))] → W p9 l e9 ({ frames := 0, cells := 0, slots := 0, locals := 0 } : Room) s m ([.double (nd E t)] : List Value).toArray below9 meth9 c9 s.heap [] 0 0 (MQ below9 (vp_Sl (fun r => r = (nd E t).toInt64)) ([.double (nd E t)] : List Value).toArray s 0 0 (fun _ => False)) (F0 m 18 ls []) := by
        intro k18
        induction k18 with
        | zero =>
          intro F hm
          exact absurd hm (Nat.not_lt_zero _)
        | succ k18 ih18 =>
          intro F hm hF ls hl
          refine lv_iload hx hb dX4_bitsOfShare_18 (lv_at hl 0 rfl) ?_
          refine wi_bipush hx hb dX4_bitsOfShare_20 (by decide) ?_
          refine wi_icmp_ge (tgt := 49) hx hb dX4_bitsOfShare_22 (by decide) (by omega) (fun c_22 => ?_) (fun c_22 => ?_)
          · exfalso; omega
          · refine lv_dload_n hx hb dX4_bitsOfShare_25 rfl (lv_at hl 2 rfl) ?_
            refine lv_dconst1 hx hb dX4_bitsOfShare_26 ?_
            refine lv_dcmp hx hb dX4_bitsOfShare_27 ?_
            by_cases z : F = 1023
            · subst z
              have hge : ∃ v : Int, (v = 1 ∨ v = 0) ∧ Op.cmpValue (FP.dcmp (nd 1023 t) FP.dconst1) CmpOp.g = iI v := by
                rcases nd_ge1 ht with h | h <;> rw [h]
                · exact ⟨1, Or.inl rfl, rfl⟩
                · exact ⟨0, Or.inr rfl, rfl⟩
              obtain ⟨v, hv, hve⟩ := hge
              rw [hve]
              refine wi_if_ge (tgt := 49) hx hb dX4_bitsOfShare_28 (by decide) (by omega) (fun c_28 => ?_) (fun c_28 => ?_)
              · obtain ⟨g1, g2, g3⟩ := nd_frac ht
                refine lv_dload_n hx hb dX4_bitsOfShare_49 rfl (lv_at hl 2 rfl) ?_
                refine lv_dconst1 hx hb dX4_bitsOfShare_50 ?_
                refine lv_dsub hx hb dX4_bitsOfShare_51 (n64_of g1) ?_
                refine lv_ldc2d hx hb hown hw2 dX4_bitsOfShare_52 ?_
                refine lv_dmul hx hb dX4_bitsOfShare_55 (n64_of g2) ?_
                refine lv_d2l hx hb dX4_bitsOfShare_56 ?_
                rw [g3]
                refine lv_lstore (lv' := [(6, .long (Int64.ofInt (t : Int))), (4, .long (Int64.ofInt (1023 - (((1023 : Nat) : Int) - (E : Int))))), (2, .double (nd 1023 t)), (0, .double (nd E t))]) hx hb dX4_bitsOfShare_57 hl (by decide) rfl (fun ls hl => ?_)
                refine lv_lload hx hb dX4_bitsOfShare_59 (lv_at hl 1 rfl) ?_
                refine wi_bipush hx hb dX4_bitsOfShare_61 (by decide) ?_
                refine lv_lshl hx hb dX4_bitsOfShare_63 rfl ?_
                refine lv_lload hx hb dX4_bitsOfShare_64 (lv_at hl 0 rfl) ?_
                refine lv_lor hx hb dX4_bitsOfShare_66 ?_
                rw [show (1023 - (((1023 : Nat) : Int) - (E : Int))) = (E : Int) by omega, nd_bits (by omega) ht]
                exact W.lret (v := (nd E t).toInt64) hx hb hr (fun t9 ht9 hW9 => ⟨(nd E t).toInt64, rfl, rfl, ht9⟩) (fun _ h => nomatch h) dX4_bitsOfShare_67 hlocks
              · exfalso; omega
            · rw [nd_lt1 (by omega) (by omega) ht, show Op.cmpValue (some Ordering.lt) CmpOp.g = iI (-1) from rfl]
              refine wi_if_ge (tgt := 49) hx hb dX4_bitsOfShare_28 (by decide) (by omega) (fun c_28 => ?_) (fun c_28 => ?_)
              · exfalso; omega
              · refine lv_dload_n hx hb dX4_bitsOfShare_31 rfl (lv_at hl 2 rfl) ?_
                refine lv_ldc2d hx hb hown hw1 dX4_bitsOfShare_32 ?_
                refine lv_dmul hx hb dX4_bitsOfShare_35 (by rw [nd_mul2 (by omega) (by omega) ht]; exact n64_of (nd_ne (by omega) (by omega) ht)) ?_
                rw [nd_mul2 (by omega) (by omega) ht]
                refine lv_dstore_n (lv' := [(2, .double (nd (F + 1) t)), (6, .int (iI ((F : Int) - (E : Int)))), (4, .long (Int64.ofInt (1023 - ((F : Int) - (E : Int))))), (0, .double (nd E t))]) hx hb dX4_bitsOfShare_36 rfl hl (by decide) rfl (fun ls hl => ?_)
                refine lv_lload hx hb dX4_bitsOfShare_37 (lv_at hl 2 rfl) ?_
                refine lv_lconst hx hb dX4_bitsOfShare_39 rfl ?_
                refine lv_lsub hx hb dX4_bitsOfShare_40 ?_
                rw [show Int64.ofInt (1023 - ((F : Int) - (E : Int))) - Int64.ofNat ((1 : Fin 2) : Nat) = Int64.ofInt (1023 - (((F + 1 : Nat) : Int) - (E : Int))) from (ofI_sub1 _).trans (congrArg Int64.ofInt (by omega))]
                refine lv_lstore (lv' := [(4, .long (Int64.ofInt (1023 - (((F + 1 : Nat) : Int) - (E : Int))))), (2, .double (nd (F + 1) t)), (6, .int (iI ((F : Int) - (E : Int)))), (0, .double (nd E t))]) hx hb dX4_bitsOfShare_41 hl (by decide) rfl (fun ls hl => ?_)
                refine wi_iinc (lv' := [(6, .int (iI ((F : Int) - (E : Int) + 1))), (4, .long (Int64.ofInt (1023 - (((F + 1 : Nat) : Int) - (E : Int))))), (2, .double (nd (F + 1) t)), (0, .double (nd E t))]) hx hb dX4_bitsOfShare_43 hl (k := 2) rfl (by decide) rfl (fun ls hl => ?_)
                rw [show (F : Int) - (E : Int) + 1 = ((F + 1 : Nat) : Int) - (E : Int) by omega] at hl
                refine lv_goto (tgt := 18) hx hb dX4_bitsOfShare_46 (by decide) ?_
                exact ih18 (F + 1) (by omega) (by omega) ls hl
      have e0 : ((E : Nat) : Int) - (E : Int) = 0 := by omega
      refine L18 (1023 - E + 1) E (by omega) (by omega) ls ?_
      rw [e0]
      exact hl
    · exfalso; omega
set_option maxHeartbeats 4000000 in
set_option maxRecDepth 100000 in
theorem c_isNaN (l : Launch) (d : UInt64) (hd : SH d) : Met l yJxe99ae_isNaN_b9ae7 wsJxe99ae_isNaN_b9ae7 ({ frames := 0, cells := 0, slots := 0, locals := 0 } : Room) (va_Pc [.double d] (fun _ => True)) (wr_Si (fun r => r = 0)) 0 0 (fun _ => False) := by
  refine Met.ofW (cc := cJxe99ae_isNaN_b9ae7) (maxL := 2) (ret := (some .boolean)) (by decide) rfl ?_
  intro p9 e9 s m args9 below9 meth9 c9 s₁ B hml hv
  obtain ⟨rfl, -⟩ := hv
  have hx := B.exec
  have hb := B.bytes
  have hr := B.returns
  have hlocks := B.notSynchronized
  have hl := lv_entry ([.double d]) (n := 2) (Nat.le_of_ble_eq_true rfl)
  rw [lg_entry_eq]
  generalize (lg_sl ([.double d]) ++ List.replicate (2 - (lg_sl ([.double d])).length) Slot.unset).toArray = ls at hl ⊢
  have hl : lv_has ls 2 [(0, .double d)] := hl
  refine lv_dload_n hx hb dJxe99ae_isNaN_b9ae7_0 rfl (lv_at hl 0 rfl) ?_
  refine lv_dload_n hx hb dJxe99ae_isNaN_b9ae7_1 rfl (lv_at hl 0 rfl) ?_
  refine lv_dcmp hx hb dJxe99ae_isNaN_b9ae7_2 ?_
  rw [hd.eq, show Op.cmpValue (some Ordering.eq) CmpOp.l = iI 0 from rfl]
  refine wi_if_eq (tgt := 10) hx hb dJxe99ae_isNaN_b9ae7_3 (by decide) (by omega) (fun c_3 => ?_) (fun c_3 => ?_)
  · refine wi_iconst hx hb dJxe99ae_isNaN_b9ae7_10 ?_
    exact W.zret (v := iI 0) hx hb hr (nar_z (by omega)) (fun t9 ht9 hW9 => ⟨0, rfl, rfl, ht9⟩) (fun _ h => nomatch h) dJxe99ae_isNaN_b9ae7_11 hlocks
  · exfalso; omega
set_option maxHeartbeats 4000000 in
set_option maxRecDepth 100000 in
theorem c_toLongBits (l : Launch) (D : va_G) (cI cO cC cL : ClassId) (d : UInt64) (hd : SH d) : Met l yJxe99ae_doubleToLongBits_ccdee wsJxe99ae_doubleToLongBits_ccdee ({ frames := 1, cells := 0, slots := 0, locals := 40 } : Room) (va_Pc [.double d] (fun _ => True)) (vp_Sl (fun r => r = d.toInt64)) 0 0 (fun _ => False) := by
  refine Met.ofW (cc := cJxe99ae_doubleToLongBits_ccdee) (maxL := 2) (ret := (some .long)) (by decide) rfl ?_
  intro p9 e9 s m args9 below9 meth9 c9 s₁ B hml hv
  obtain ⟨rfl, -⟩ := hv
  have hx := B.exec
  have hb := B.bytes
  have hr := B.returns
  have hts := atoms_spec (ws := wsJxe99ae_doubleToLongBits_ccdee) B.pre
  have hown : s.vm.findClass RJxe99ae = some m.cls := findClass_of_methodNamed B.named
  have hlocks := B.notSynchronized
  have hl := lv_entry ([.double d]) (n := 2) (Nat.le_of_ble_eq_true rfl)
  rw [lg_entry_eq]
  generalize (lg_sl ([.double d]) ++ List.replicate (2 - (lg_sl ([.double d])).length) Slot.unset).toArray = ls at hl ⊢
  have hl : lv_has ls 2 [(0, .double d)] := hl
  refine lv_dload_n hx hb dJxe99ae_doubleToLongBits_ccdee_0 rfl (lv_at hl 0 rfl) ?_
  refine wr_calli (va_runS (As := [.double d]) (rest := []) ⟨hx, hb, hml, hown, hts⟩ (c_isNaN l d hd) (cwS 1 hts gJxe99ae_doubleToLongBits_ccdee_Jxe99ae_isNaN_b9ae7 rfl rfl rfl (by decide +kernel) ⟨Nat.le_of_ble_eq_true rfl, Nat.le_of_ble_eq_true rfl⟩) ⟨fun _ _ _ _ h => h, fun U hU hW => ⟨rfl, trivial⟩⟩ rfl rfl hl.1 rfl (lv_room (Nat.le_of_ble_eq_true rfl)) dJxe99ae_doubleToLongBits_ccdee_1 ⟨(Nat.zero_le _), (Nat.zero_le _)⟩) (fun r hr1 => ?_)
  subst hr1
  refine wi_if_ne (tgt := 12) hx hb dJxe99ae_doubleToLongBits_ccdee_4 (by decide) (by omega) (fun c_4 => ?_) (fun c_4 => ?_)
  · exfalso; omega
  · refine lv_dload_n hx hb dJxe99ae_doubleToLongBits_ccdee_7 rfl (lv_at hl 0 rfl) ?_
    refine vn_d2l hx hb (hml.trans hl.1.symm) hown (hts (.methodLink RJxe99ae 134 ⟨"java/lang/Double", "doubleToRawLongBits", "(D)J"⟩) (by decide +kernel)) (hts (.native ⟨"java/lang/Double", "doubleToRawLongBits", "(D)J"⟩) (by decide +kernel)) (hts (.static ⟨"java/lang/Double", "doubleToRawLongBits", "(D)J"⟩) (by decide +kernel)) (hts (.initialized "java/lang/Double") (by decide +kernel)) (Nat.le_of_ble_eq_true rfl) (Nat.le_of_ble_eq_true rfl) dJxe99ae_doubleToLongBits_ccdee_8 ?_
    exact W.lret (v := d.toInt64) hx hb hr (fun t9 ht9 hW9 => ⟨d.toInt64, rfl, rfl, ht9⟩) (fun _ h => nomatch h) dJxe99ae_doubleToLongBits_ccdee_11 hlocks
