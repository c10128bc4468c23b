/-! a share as a double: 0, or its exponent's place E and its fraction t -/
def nd (E t : Nat) : UInt64 := UInt64.ofNat (E * 4503599627370496 + t)
theorem nd_nat {E t : Nat} (hE : E < 2047) (ht : t < 4503599627370496) : (nd E t).toNat = E * 4503599627370496 + t := by
  unfold nd
  rw [UInt64.toNat_ofNat']
  exact Nat.mod_eq_of_lt (by omega)
theorem nd_val {E t : Nat} (h1 : 1 ≤ E) (h2 : E ≤ 2046) (ht : t < 4503599627370496) : FP.Core.val64 (nd E t) = .fin false (4503599627370496 + t) ((E : Int) - 1075) := by
  show FP.Core.decode FP.Core.b64 (nd E t).toNat = _
  have he : FP.Core.b64.exps = 2048 := by decide +kernel
  have htl : FP.Core.b64.tails = 4503599627370496 := by decide +kernel
  have hq : FP.Core.b64.qmin = -1074 := by decide +kernel
  have h := FP.Core.decode_assemble FP.Core.b64 false E t (by omega) (by omega)
  have ha : FP.Core.assemble FP.Core.b64 false E t = E * 4503599627370496 + t := by
    unfold FP.Core.assemble
    rw [he, htl]
    show (0 * 2048 + E) * 4503599627370496 + t = _
    omega
  rw [ha, he, if_neg (by omega), if_neg (by omega), htl, hq] at h
  rw [nd_nat (by omega) ht, h]
  congr 1
  omega
theorem nd_ne {E t : Nat} (h1 : 1 ≤ E) (h2 : E ≤ 2046) (ht : t < 4503599627370496) : FP.Core.val64 (nd E t) ≠ .nan := by
  rw [nd_val h1 h2 ht]; exact FP.Core.Datum.noConfusion
theorem nd_fits {E t : Nat} (h1 : 1 ≤ E) (h2 : E ≤ 2046) (ht : t < 4503599627370496) : FP.Core.fits FP.Core.b64 (.fin false (4503599627370496 + t) ((E : Int) - 1075)) := by
  rw [← nd_val h1 h2 ht]; exact FP.Core.val64_fits _
/-- no NaN by its bits -/
theorem n64_of {a : UInt64} (h : FP.Core.val64 a ≠ .nan) : vf_n64 a := by
  rw [FP.Core.ne_nan] at h
  unfold vf_n64
  rw [UInt64.le_iff_toNat_le, FP.Core.mask_toNat]
  exact h
theorem nd_mul2 {E t : Nat} (h1 : 1 ≤ E) (h2 : E ≤ 2045) (ht : t < 4503599627370496) : FP.dmul (nd E t) 4611686018427387904 = nd (E + 1) t := by
  have hv2 : FP.Core.val64 4611686018427387904 = .fin false 4503599627370496 (-51) := by decide +kernel
  have hv : FP.Core.val64 (FP.Core.dmul (nd E t) 4611686018427387904) = FP.Core.val64 (nd (E + 1) t) := by
    rw [FP.Core.val64_dmul, nd_val h1 (by omega) ht, hv2, nd_val (by omega) (by omega) ht]
    have hf := nd_fits (E := E + 1) (t := t) (by omega) (by omega) ht
    show FP.Core.roundRatio FP.Core.b64 false ((4503599627370496 + t) * 4503599627370496) 1 ((E : Int) - 1075 + -51) = _
    refine FP.Core.roundRatio_exact FP.Core.good_b64 (by decide) hf ?_
    rw [show ((E : Int) - 1075 + -51 - (((E + 1 : Nat) : Int) - 1075)).toNat = 0 by omega, show ((((E + 1 : Nat) : Int) - 1075) - ((E : Int) - 1075 + -51)).toNat = 52 by omega]
    omega
  exact FP.Core.val64_inj (by rw [hv]; exact nd_ne (by omega) (by omega) ht) hv
/-- the fraction of a number from 1 to 2, as a whole number -/
theorem nd_sub {t : Nat} (ht : t < 4503599627370496) : ∃ c q, FP.Core.val64 (FP.dsub (nd 1023 t) FP.dconst1) = .fin false c q ∧ -1074 ≤ q ∧ c * 2 ^ (q + 1074).toNat = t * 2 ^ 1022 := by
  have hv1 : FP.Core.val64 FP.dconst1 = .fin false 4503599627370496 (-52) := by decide +kernel
  have h : FP.Core.val64 (FP.Core.dsub (nd 1023 t) FP.dconst1) = FP.Core.round FP.Core.b64 (.fin false t (-52)) := by
    rw [FP.Core.val64_dsub, nd_val (by omega) (by omega) ht, hv1]
    congr 1
    show FP.Core.Datum.fin (FP.Core.sumSign false true (FP.Core.sumUnits false (4503599627370496 + t) (-52) true 4503599627370496 (-52) (-52))) (FP.Core.sumUnits false (4503599627370496 + t) (-52) true 4503599627370496 (-52) (-52)).natAbs (-52) = _
    have hs : FP.Core.sumUnits false (4503599627370496 + t) (-52) true 4503599627370496 (-52) (-52) = (t : Int) := by
      show ((((4503599627370496 + t) * 1 : Nat) : Int)) + -((4503599627370496 * 1 : Nat) : Int) = (t : Int)
      omega
    rw [hs]
    have hg : FP.Core.sumSign false true (t : Int) = false := by
      unfold FP.Core.sumSign
      by_cases z : (t : Int) = 0
      · rw [if_pos z]; rfl
      · rw [if_neg z]; exact decide_eq_false (by omega)
    rw [hg, Int.natAbs_natCast]
  have hp : FP.Core.b64.p = 53 := rfl
  have hq : FP.Core.b64.qmin = -1074 := by decide +kernel
  have hm : FP.Core.b64.qmax = 971 := by decide +kernel
  obtain ⟨c, q, h1, h2⟩ := FP.Core.round_exact FP.Core.good_b64 false (c := t) (q := -52) (by rw [hp]; omega) (by rw [hq]; omega) (by rw [hm]; omega)
  have hfit := FP.Core.round_fits FP.Core.good_b64 (.fin false t (-52))
  rw [h1] at hfit
  have hq2 := hfit.2.1
  rw [hq] at hq2
  rw [hq] at h2
  refine ⟨c, q, h.trans h1, hq2, ?_⟩
  have h3 : c * 2 ^ (q - (-1074)).toNat = t * 2 ^ ((-52 : Int) - (-1074)).toNat := h2
  rw [show q + 1074 = q - (-1074) by omega]
  exact h3
theorem pow_shift {c t k : Nat} (h : c * 2 ^ k = t * 2 ^ 1022) : c * 4503599627370496 * 2 ^ (k - 1074) = t * 2 ^ (1074 - k) := by
  have e52 : (4503599627370496 : Nat) = 2 ^ 52 := by decide +kernel
  rw [e52]
  by_cases z : 1074 ≤ k
  · rw [show 1074 - k = 0 by omega]
    obtain ⟨m, rfl⟩ : ∃ m, k = m + 1074 := ⟨k - 1074, by omega⟩
    rw [show m + 1074 - 1074 = m by omega]
    rw [show m + 1074 = m + 52 + 1022 by omega, Nat.pow_add, Nat.pow_add, ← Nat.mul_assoc] at h
    have h2 := Nat.eq_of_mul_eq_mul_right (Nat.two_pow_pos 1022) h
    rw [Nat.mul_assoc, Nat.mul_comm (2 ^ 52), h2]
    omega
  · obtain ⟨m, hm⟩ : ∃ m, 1074 = m + k := ⟨1074 - k, by omega⟩
    rw [show k - 1074 = 0 by omega, show 1074 - k = m by omega]
    refine Nat.eq_of_mul_eq_mul_right (Nat.two_pow_pos k) ?_
    have h2 : c * 2 ^ k * 2 ^ 52 = t * 2 ^ 1022 * 2 ^ 52 := by rw [h]
    rw [Nat.mul_assoc t, ← Nat.pow_add, show 1022 + 52 = m + k by omega, Nat.pow_add, ← Nat.mul_assoc] at h2
    rw [← h2, Nat.pow_zero, Nat.mul_one, Nat.mul_right_comm]
theorem nd_frac {t : Nat} (ht : t < 4503599627370496) : FP.Core.val64 (FP.dsub (nd 1023 t) FP.dconst1) ≠ .nan ∧ FP.Core.val64 (FP.dmul (FP.dsub (nd 1023 t) FP.dconst1) 4841369599423283200) ≠ .nan ∧ FP.d2l (FP.dmul (FP.dsub (nd 1023 t) FP.dconst1) 4841369599423283200) = Int64.ofInt (t : Int) := by
  obtain ⟨c, q, h1, h2, h3⟩ := nd_sub ht
  have hv : FP.Core.val64 4841369599423283200 = .fin false 4503599627370496 0 := by decide +kernel
  have hw : FP.Core.Whole (t : Int) (.fin false (c * 4503599627370496) (q + 0)) := by
    show FP.Core.signed false (c * 4503599627370496 * 2 ^ (q + 0).toNat) = (t : Int) * ((2 ^ (-(q + 0)).toNat : Nat) : Int)
    have h4 := pow_shift h3
    rw [show (q + 0).toNat = (q + 1074).toNat - 1074 by omega, show (-(q + 0)).toNat = 1074 - (q + 1074).toNat by omega]
    show ((c * 4503599627370496 * 2 ^ ((q + 1074).toNat - 1074) : Nat) : Int) = _
    rw [h4, Int.natCast_mul]
  have hd : FP.Core.DInt (t : Int) (FP.Core.dmul (FP.Core.dsub (nd 1023 t) FP.dconst1) 4841369599423283200) := by
    show FP.Core.Whole (t : Int) (FP.Core.val64 (FP.Core.dmul (FP.Core.dsub (nd 1023 t) FP.dconst1) 4841369599423283200))
    rw [FP.Core.val64_dmul, hv, show FP.Core.val64 (FP.Core.dsub (nd 1023 t) FP.dconst1) = .fin false c q from h1]
    exact FP.Core.whole_round FP.Core.good_b64 FP.Core.wide_b64 (by show (t : Int).natAbs ≤ 2 ^ 53; rw [Int.natAbs_natCast]; omega) hw
  have hi : (Int64.ofInt (t : Int)).toInt = (t : Int) := Int64.toInt_ofInt_of_le (by omega) (by omega)
  refine ⟨by rw [h1]; exact FP.Core.Datum.noConfusion, FP.Core.DInt_ne_nan hd, FP.Core.d2l_int (by rw [hi]; exact hd)⟩
/-- a whole number above 0 as a double -/
theorem i2d_nat {n : Nat} (h0 : 0 < n) (h1 : n < 2147483648) : ∃ j : Nat, FP.Core.val64 (FP.i2d (iI (n : Int))) = .fin false (n * 2 ^ j) (-(j : Int)) := by
  have e : (iI (n : Int)).toInt = (n : Int) := iI_toInt ⟨by omega, by omega⟩
  have l1 : 2 ^ n.log2 ≤ n := Nat.log2_self_le (by omega)
  have l2 : n < 2 ^ (n.log2 + 1) := Nat.lt_log2_self
  have l3 : n.log2 < 31 := (Nat.pow_lt_pow_iff_right (by decide : 1 < 2)).mp (Nat.lt_of_le_of_lt l1 h1)
  refine ⟨52 - n.log2, ?_⟩
  have hv : FP.Core.val64 (FP.Core.i2d (iI (n : Int))) = FP.Core.roundRatio FP.Core.b64 false n 1 0 := by
    rw [FP.Core.val64_i2d, e]
    show FP.Core.roundRatio FP.Core.b64 (decide ((n : Int) < 0)) (n : Int).natAbs 1 0 = _
    rw [decide_eq_false (by omega), Int.natAbs_natCast]
  generalize n.log2 = L at l1 l2 l3 ⊢
  rw [show FP.Core.val64 (FP.i2d (iI (n : Int))) = _ from hv]
  have hp : FP.Core.b64.p = 53 := rfl
  have hq : FP.Core.b64.qmin = -1074 := by decide +kernel
  have hm : FP.Core.b64.qmax = 971 := by decide +kernel
  have htl : FP.Core.b64.tails = 2 ^ 52 := by decide +kernel
  refine FP.Core.roundRatio_exact FP.Core.good_b64 (by decide) ⟨?_, by omega, by omega, Or.inr ?_⟩ ?_
  · rw [hp]
    calc n * 2 ^ (52 - L) < 2 ^ (L + 1) * 2 ^ (52 - L) := Nat.mul_lt_mul_of_pos_right l2 (Nat.two_pow_pos _)
      _ = 2 ^ 53 := by rw [← Nat.pow_add]; congr 1; omega
  · rw [htl]
    calc 2 ^ 52 = 2 ^ L * 2 ^ (52 - L) := by rw [← Nat.pow_add]; congr 1; omega
      _ ≤ n * 2 ^ (52 - L) := Nat.mul_le_mul_right _ l1
  · rw [show ((0 : Int) - -((52 - L : Nat) : Int)).toNat = 52 - L by omega, show (-((52 - L : Nat) : Int) - 0).toNat = 0 by omega]
    simp
theorem ddiv_val {h r : Nat} (h0 : 0 < h) (h1 : h < 2147483648) (r0 : 0 < r) (r1 : r < 2147483648) : FP.Core.val64 (FP.ddiv (FP.i2d (iI (h : Int))) (FP.i2d (iI (r : Int)))) = FP.Core.roundRatio FP.Core.b64 false h r 0 := by
  obtain ⟨j, hj⟩ := i2d_nat h0 h1
  obtain ⟨k, hk⟩ := i2d_nat r0 r1
  show FP.Core.val64 (FP.Core.ddiv (FP.i2d (iI (h : Int))) (FP.i2d (iI (r : Int)))) = _
  rw [FP.Core.val64_ddiv, hj, hk]
  have hz : r * 2 ^ k ≠ 0 := Nat.ne_of_gt (Nat.mul_pos r0 (Nat.two_pow_pos k))
  show (if r * 2 ^ k = 0 then (if h * 2 ^ j = 0 then FP.Core.Datum.nan else .inf (false != false)) else FP.Core.roundRatio FP.Core.b64 (false != false) (h * 2 ^ j) (r * 2 ^ k) (-(j : Int) - -(k : Int))) = _
  rw [if_neg hz]
  refine FP.Core.roundRatio_congr (Nat.mul_pos r0 (Nat.two_pow_pos k)) r0 ?_
  rw [show (-(j : Int) - -(k : Int) - 0).toNat = k - j by omega, show (0 - (-(j : Int) - -(k : Int))).toNat = j - k by omega]
  rw [Nat.mul_right_comm h, Nat.mul_assoc (h * r), ← Nat.pow_add, ← Nat.mul_assoc h, Nat.mul_assoc (h * r), ← Nat.pow_add]
  congr 2
  omega
/-- a share above 0 -/
theorem share_nd {h r : Nat} (h0 : 0 < h) (hr : h ≤ r) (r1 : r ≤ 7992) : ∃ E t : Nat, 1010 ≤ E ∧ E ≤ 1023 ∧ t < 4503599627370496 ∧ FP.ddiv (FP.i2d (iI (h : Int))) (FP.i2d (iI (r : Int))) = nd E t := by
  have hv := ddiv_val h0 (by omega) (show 0 < r by omega) (by omega)
  generalize FP.ddiv (FP.i2d (iI (h : Int))) (FP.i2d (iI (r : Int))) = a at hv
  have hq : FP.Core.b64.qmin = -1074 := by decide +kernel
  have htl : FP.Core.b64.tails = 4503599627370496 := by decide +kernel
  have hd : FP.Core.decode FP.Core.b64 a.toNat = FP.Core.roundRatio FP.Core.b64 false h r 0 := hv
  have hu : ∀ E : Nat, 1 ≤ E → FP.Core.unitsOf FP.Core.b64 (E * 4503599627370496) = 4503599627370496 * 2 ^ (E - 1) := fun E hE => by
    have h9 := FP.Core.unitsOf_start (f := FP.Core.b64) hE
    rw [htl] at h9
    exact h9
  have hin : FP.Core.inUnits h 0 (-1074) = h * 2 ^ 1074 := rfl
  have e1 : (4503599627370496 : Nat) * 2 ^ (1023 - 1) = 2 ^ 1074 := by decide +kernel
  have e2 : (4503599627370496 : Nat) * 2 ^ (1010 - 1) * 8192 = 2 ^ 1074 := by decide +kernel
  have hle : FP.Core.mag FP.Core.b64 a.toNat ≤ 1023 * 4503599627370496 := by
    refine FP.Core.mag_le FP.Core.good_b64 (e0 := -1074) hd (by omega) (by omega) (by omega) ?_
    rw [hin, hu 1023 (by omega), e1, hq]
    rw [show ((-1074 : Int) - -1074).toNat = 0 from rfl, Nat.pow_zero, Nat.mul_one, Nat.mul_comm]
    exact Nat.mul_le_mul_left _ hr
  have hge : 1010 * 4503599627370496 ≤ FP.Core.mag FP.Core.b64 a.toNat := by
    refine FP.Core.mag_ge FP.Core.good_b64 (e0 := -1074) hd (by omega) (by omega) (by omega) (by rw [FP.Core.infBits_b64]; omega) ?_
    rw [hin, hu 1010 (by omega), hq]
    rw [show ((-1074 : Int) - -1074).toNat = 0 from rfl, Nat.pow_zero, Nat.mul_one]
    have key : ∀ X Y : Nat, X * 8192 = Y → X * r ≤ h * Y := fun X Y e => by
      rw [← e, Nat.mul_comm h, Nat.mul_assoc]
      exact Nat.mul_le_mul_left _ (by omega)
    exact key _ _ e2
  have hs : FP.Core.sgn (FP.Core.decode FP.Core.b64 a.toNat) = decide (FP.Core.half FP.Core.b64 ≤ a.toNat) := FP.Core.sgn_decode (by rw [FP.Core.infBits_b64]; omega) (FP.Core.lt_full64 a)
  rw [hd, FP.Core.sgn_roundRatio, FP.Core.half_b64] at hs
  have hlt : a.toNat < 2 ^ 63 := by
    have h9 := of_decide_eq_false hs.symm
    omega
  have hm : FP.Core.mag FP.Core.b64 a.toNat = a.toNat := FP.Core.mag_of_lt (by rw [FP.Core.half_b64]; exact hlt)
  rw [hm] at hle hge
  refine ⟨a.toNat / 4503599627370496, a.toNat % 4503599627370496, by omega, by omega, by omega, ?_⟩
  have hx := nd_nat (E := a.toNat / 4503599627370496) (t := a.toNat % 4503599627370496) (by omega) (by omega)
  exact UInt64.toNat_inj.mp (by rw [hx]; omega)
theorem share_z {r : Nat} (r0 : 0 < r) (r1 : r ≤ 7992) : FP.ddiv (FP.i2d (iI 0)) (FP.i2d (iI (r : Int))) = 0 := by
  obtain ⟨k, hk⟩ := i2d_nat r0 (by omega)
  have h0 : FP.Core.val64 (FP.i2d (iI 0)) = .fin false 0 (-1074) := by decide +kernel
  have hz0 : FP.Core.val64 0 = .fin false 0 (-1074) := by decide +kernel
  have hz : r * 2 ^ k ≠ 0 := Nat.ne_of_gt (Nat.mul_pos r0 (Nat.two_pow_pos k))
  have hv : FP.Core.val64 (FP.Core.ddiv (FP.i2d (iI 0)) (FP.i2d (iI (r : Int)))) = FP.Core.val64 0 := by
    rw [FP.Core.val64_ddiv, h0, hk, hz0]
    show (if r * 2 ^ k = 0 then (if 0 = 0 then FP.Core.Datum.nan else .inf (false != false)) else FP.Core.roundRatio FP.Core.b64 (false != false) 0 (r * 2 ^ k) (-1074 - -(k : Int))) = _
    rw [if_neg hz]
    unfold FP.Core.roundRatio
    rw [if_pos rfl, show FP.Core.b64.qmin = -1074 by decide +kernel]
    rfl
  exact FP.Core.val64_inj (by rw [hv, hz0]; exact FP.Core.Datum.noConfusion) hv
/-- what a share may be -/
def SH (d : UInt64) : Prop := d = 0 ∨ ∃ E t : Nat, 1010 ≤ E ∧ E ≤ 1023 ∧ t < 4503599627370496 ∧ d = nd E t
def shD (h r : Int) : UInt64 := if r = 0 then FP.dconst0 else FP.ddiv (FP.i2d (iI h)) (FP.i2d (iI r))
theorem SH_of {h r : Int} (h0 : 0 ≤ h) (hr : h ≤ r) (r1 : r ≤ 7992) : SH (shD h r) := by
  unfold shD
  by_cases z : r = 0
  · rw [if_pos z]; exact Or.inl rfl
  · rw [if_neg z]
    obtain ⟨n, rfl⟩ := Int.eq_ofNat_of_zero_le (show 0 ≤ r by omega)
    obtain ⟨k, rfl⟩ := Int.eq_ofNat_of_zero_le h0
    by_cases y : k = 0
    · subst y; exact Or.inl (share_z (by omega) (by omega))
    · exact Or.inr (share_nd (by omega) (by omega) (by omega))
theorem SH.ne {d : UInt64} (h : SH d) : FP.Core.val64 d ≠ .nan := by
  rcases h with rfl | ⟨E, t, h1, h2, h3, rfl⟩
  · decide +kernel
  · exact nd_ne (by omega) (by omega) h3
theorem SH.n64 {d : UInt64} (h : SH d) : vf_n64 d := n64_of h.ne
theorem SH.eq {d : UInt64} (h : SH d) : FP.dcmp d d = some .eq := FP.Core.dcmp_self h.ne
theorem sh_div {h r : Int} (h0 : 0 ≤ h) (hr : h ≤ r) (r1 : r ≤ 7992) (z : r ≠ 0) : vf_n64 (FP.ddiv (FP.i2d (iI h)) (FP.i2d (iI r))) := by
  have h9 := SH_of h0 hr r1
  unfold shD at h9
  rw [if_neg z] at h9
  exact h9.n64
theorem nd_gt0 {E t : Nat} (h1 : 1 ≤ E) (h2 : E ≤ 2046) (ht : t < 4503599627370496) : FP.dcmp (nd E t) FP.dconst0 = some .gt := by
  have hz : FP.Core.val64 FP.dconst0 ≠ .nan := by decide +kernel
  have hn := nd_nat (E := E) (t := t) (by omega) ht
  have h0 : FP.dconst0.toNat = 0 := rfl
  exact ((FP.Core.mono_bits (nd_ne h1 h2 ht) hz (by omega) (by omega)).2.2).mpr (by omega)
theorem nd_lt1 {E t : Nat} (h1 : 1 ≤ E) (h2 : E < 1023) (ht : t < 4503599627370496) : FP.dcmp (nd E t) FP.dconst1 = some .lt := by
  have hz : FP.Core.val64 FP.dconst1 ≠ .nan := by decide +kernel
  have hn := nd_nat (E := E) (t := t) (by omega) ht
  have h0 : FP.dconst1.toNat = 1023 * 4503599627370496 := by decide +kernel
  exact ((FP.Core.mono_bits (nd_ne h1 (by omega) ht) hz (by omega) (by omega)).1).mpr (by omega)
theorem nd_ge1 {t : Nat} (ht : t < 4503599627370496) : FP.dcmp (nd 1023 t) FP.dconst1 = some .gt ∨ FP.dcmp (nd 1023 t) FP.dconst1 = some .eq := by
  have hz : FP.Core.val64 FP.dconst1 ≠ .nan := by decide +kernel
  have hn := nd_nat (E := 1023) (t := t) (by omega) ht
  have h0 : FP.dconst1.toNat = 1023 * 4503599627370496 := by decide +kernel
  have h9 := FP.Core.mono_bits (nd_ne (E := 1023) (t := t) (by omega) (by omega) ht) hz (by omega) (by omega)
  by_cases z : t = 0
  · exact Or.inr (h9.2.1.mpr (by omega))
  · exact Or.inl (h9.2.2.mpr (by omega))
theorem nd_bits {E t : Nat} (h1 : E ≤ 1023) (ht : t < 4503599627370496) : (Int64.ofInt (E : Int)) <<< ((iI 52).toInt64 &&& 63) ||| Int64.ofInt (t : Int) = (nd E t).toInt64 := by
  have ek : (iI 52).toInt64 &&& 63 = 52 := by decide +kernel
  have es : ((52 : Int64).toBitVec.smod 64) = 52#64 := by decide +kernel
  refine Int64.toBitVec_inj.mp ?_
  rw [ek, Int64.toBitVec_or, Int64.toBitVec_shiftLeft, es, Int64.toBitVec_ofInt, Int64.toBitVec_ofInt, BitVec.ofInt_natCast, BitVec.ofInt_natCast]
  refine BitVec.eq_of_toNat_eq ?_
  have hn := nd_nat (E := E) (t := t) (by omega) ht
  have hr : ((nd E t).toInt64.toBitVec).toNat = E * 4503599627370496 + t := hn
  rw [hr, BitVec.toNat_or, BitVec.shiftLeft_eq', BitVec.toNat_shiftLeft, BitVec.toNat_ofNat, BitVec.toNat_ofNat, BitVec.toNat_ofNat]
  rw [show 52 % 2 ^ 64 = 52 from rfl, Nat.mod_eq_of_lt (show E < 2 ^ 64 by omega), Nat.mod_eq_of_lt (show t < 2 ^ 64 by omega), Nat.shiftLeft_eq, Nat.mod_eq_of_lt (show E * 2 ^ 52 < 2 ^ 64 by omega)]
  rw [← Nat.shiftLeft_eq, ← Nat.shiftLeft_add_eq_or_of_lt (show t < 2 ^ 52 by omega), Nat.shiftLeft_eq]
