/-! a promise comes: the state stays in order -/
theorem addS_row (σ : Nat → Int → Int) (o c y to : Int) (j : Int) : addS σ o c y to 5 j = uI (σ 5) (σ 0 1) o j ∧ addS σ o c y to 6 j = uI (σ 6) (σ 0 1) c j ∧ addS σ o c y to 7 j = uI (σ 7) (σ 0 1) y j ∧ addS σ o c y to 8 j = uI (σ 8) (σ 0 1) to j ∧ addS σ o c y to 9 j = uI (σ 9) (σ 0 1) (σ 0 0 + σ 1 1) j := ⟨rfl, rfl, rfl, rfl, rfl⟩
theorem addS_n (σ : Nat → Int → Int) (o c y to : Int) : addS σ o c y to 0 1 = σ 0 1 + 1 := rfl
theorem addS_t (σ : Nat → Int → Int) (o c y to : Int) : addS σ o c y to 0 0 = σ 0 0 := rfl
theorem chg_old {σ : Nat → Int → Int} {o c y to j : Int} (h : j ≠ σ 0 1) (d : Int) : chg (addS σ o c y to) j d = chg σ j d := by
  obtain ⟨e5, e6, e7, e8, e9⟩ := addS_row σ o c y to j
  unfold chg
  rw [e6, e7, e8, uI_n h, uI_n h, uI_n h]
theorem chg_new (σ : Nat → Int → Int) (o c y to d : Int) : chg (addS σ o c y to) (σ 0 1) d = if c = d then y else if to = d then -y else 0 := by
  obtain ⟨e5, e6, e7, e8, e9⟩ := addS_row σ o c y to (σ 0 1)
  unfold chg
  rw [e6, e7, e8, uI_s, uI_s, uI_s]
theorem low_add {σ : Nat → Int → Int} (hI : Inv σ) {o c y to : Int} (d : Int) : lowS (addS σ o c y to) d (σ 0 0) = lowS σ d (σ 0 0) + min (if c = d then y else if to = d then -y else 0) 0 := by
  have hn := hI.n
  have h1 := hI.2.2.2.1
  unfold lowS
  rw [addS_n, sm_step hn.1]
  rw [sm_congr (h := fun p => if σ 0 0 < σ 9 p then min (chg σ p d) 0 else 0) (fun j j0 j1 => by
    show (if σ 0 0 < addS σ o c y to 9 j then min (chg (addS σ o c y to) j d) 0 else 0) = if σ 0 0 < σ 9 j then min (chg σ j d) 0 else 0
    rw [chg_old (by omega), (addS_row σ o c y to j).2.2.2.2, uI_n (by omega)])]
  rw [chg_new, (addS_row σ o c y to (σ 0 1)).2.2.2.2, uI_s, if_pos (by omega)]
  show σ 2 d + _ = _
  omega
theorem high_add {σ : Nat → Int → Int} (hI : Inv σ) {o c y to : Int} (d : Int) : highS (addS σ o c y to) d = highS σ d + max (if c = d then y else if to = d then -y else 0) 0 := by
  have hn := hI.n
  unfold highS
  rw [addS_n, sm_step hn.1]
  rw [sm_congr (h := fun p => max (chg σ p d) 0) (fun j j0 j1 => by
    show max (chg (addS σ o c y to) j d) 0 = max (chg σ j d) 0
    rw [chg_old (by omega)])]
  rw [chg_new]
  show σ 2 d + _ = _
  omega
theorem reason_0 {σ : Nat → Int → Int} {o c y to : Int} (h : reasonS σ o c y to ≤ 0) : σ 0 1 < 16 ∧ (y < 0 → -y ≤ lowS σ c (σ 0 0) - σ 3 c) ∧ (0 < y → y ≤ σ 4 c - highS σ c) ∧ (to ≠ -1 → -y ≤ σ 4 to - highS σ to) := by
  refine ⟨reason_16 h, ?_⟩
  have hrn : reasonN σ o = if 16 ≤ σ 0 1 then 1 else if σ 1 0 ≤ ofN σ o then 2 else 0 := rfl
  unfold reasonS at h
  by_cases q : reasonN σ o ≠ 0
  · rw [if_pos q] at h; omega
  · rw [if_neg q] at h
    by_cases z : y < 0 ∧ lowS σ c (σ 0 0) - σ 3 c < -y
    · rw [if_pos z] at h; omega
    · rw [if_neg z] at h
      by_cases w : 0 < y ∧ σ 4 c - highS σ c < y
      · rw [if_pos w] at h; omega
      · rw [if_neg w] at h
        by_cases v : to ≠ -1 ∧ σ 4 to - highS σ to < -y
        · rw [if_pos v] at h; omega
        · omega
theorem Inv.add {σ : Nat → Int → Int} (hI : Inv σ) {o c y to : Int} (ho : 0 ≤ o ∧ o ≤ 5) (hc : 0 ≤ c ∧ c ≤ 3) (hy : -99 ≤ y ∧ y ≤ 99 ∧ y ≠ 0) (hto : to = -1 ∨ (0 ≤ to ∧ to ≤ 3 ∧ to ≠ c ∧ y < 0)) (hr : reasonS σ o c y to ≤ 0) : Inv (addS σ o c y to) := by
  obtain ⟨r0, r1, r2, r3⟩ := reason_0 hr
  have hn := hI.n
  have ht := hI.t
  have h1 := hI.2.2.1
  have h2 := hI.2.2.2.1
  refine ⟨hI.1, ⟨by rw [addS_n]; omega, by rw [addS_n]; omega⟩, h1, h2, fun d d0 d1 => ?_, fun p p0 p1 => ?_⟩
  · have hd := hI.c d0 d1
    rw [addS_t, low_add hI, high_add hI]
    show (-999 ≤ σ 3 d ∧ σ 4 d ≤ 999) ∧ σ 3 d ≤ _ ∧ _ ≤ σ 4 d
    by_cases e : c = d
    · rw [if_pos e]
      subst e
      omega
    · rw [if_neg e]
      by_cases e2 : to = d
      · rw [if_pos e2]
        subst e2
        have := r3 (by omega)
        omega
      · rw [if_neg e2]; omega
  · rw [addS_n] at p1
    obtain ⟨e5, e6, e7, e8, e9⟩ := addS_row σ o c y to p
    unfold PR
    rw [e5, e6, e7, e8, e9, addS_t]
    by_cases z : p = σ 0 1
    · rw [z, uI_s, uI_s, uI_s, uI_s, uI_s]; omega
    · rw [uI_n z, uI_n z, uI_n z, uI_n z, uI_n z]
      exact hI.pr p0 (by omega)
