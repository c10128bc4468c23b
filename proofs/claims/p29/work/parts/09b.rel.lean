/-! the reference's row under the writers -/
theorem uI_e {f : Int → Int} {i j x : Int} (h : j = i) : uI f i x j = x := by rw [h, uI_s]
theorem RelN.congr {σ : Nat → Int → Int} {ν ν' : Int → Int} (h : RelN σ ν) (hn : σ 0 1 ≤ 16) (e : ∀ j : Int, 0 ≤ j → j < 115 → ν' j = ν j) : RelN σ ν' := by
  obtain ⟨⟨h0, h1, h2, h3, h4⟩, hc, ho, hq⟩ := h
  refine ⟨⟨?_, ?_, ?_, ?_, ?_⟩, fun c c0 c1 => ?_, fun o o0 o1 => ?_, fun p p0 p1 => ?_⟩
  · rw [e 0 (by omega) (by omega)]; exact h0
  · rw [e 1 (by omega) (by omega)]; exact h1
  · rw [e 2 (by omega) (by omega)]; exact h2
  · rw [e 3 (by omega) (by omega)]; exact h3
  · rw [e 4 (by omega) (by omega)]; exact h4
  · rw [e _ (by omega) (by omega), e _ (by omega) (by omega), e _ (by omega) (by omega)]; exact hc c c0 c1
  · rw [e _ (by omega) (by omega), e _ (by omega) (by omega), e _ (by omega) (by omega)]; exact ho o o0 o1
  · rw [e _ (by omega) (by omega), e _ (by omega) (by omega), e _ (by omega) (by omega), e _ (by omega) (by omega), e _ (by omega) (by omega)]; exact hq p p0 p1
def shM (f : Int → Int) (a k : Int) : Int → Int := fun j => if a ≤ j ∧ j < k then f (j + 5) else f j
theorem shM_in {f : Int → Int} {a k j : Int} (h : a ≤ j ∧ j < k) : shM f a k j = f (j + 5) := if_pos h
theorem shM_out {f : Int → Int} {a k j : Int} (h : ¬ (a ≤ j ∧ j < k)) : shM f a k j = f j := if_neg h
theorem shM_0 (f : Int → Int) (a : Int) : f = shM f a a := by funext j; rw [shM_out (by omega)]
theorem shM_s {f : Int → Int} {a k : Int} (h : a ≤ k) : uI (shM f a k) k (shM f a k (k + 5)) = shM f a (k + 1) := by
  funext j
  by_cases e : j = k
  · rw [uI_e e, e, shM_out (by omega), shM_in (by omega)]
  · rw [uI_n e]
    by_cases q : a ≤ j ∧ j < k
    · rw [shM_in q, shM_in (by omega)]
    · rw [shM_out q, shM_out (by omega)]
theorem remS_0 (τ : Nat → Int → Int) (p : Int) : remS τ p 0 = uI (τ 0) 1 (τ 0 1 - 1) := rfl
theorem remS_row (τ : Nat → Int → Int) (p : Int) {i : Nat} (h : 5 ≤ i ∧ i ≤ 9) (j : Int) : remS τ p i j = if p ≤ j ∧ j < τ 0 1 - 1 then τ i (j + 1) else τ i j := shP_row τ p _ (by omega) h j
theorem remS_o (τ : Nat → Int → Int) (p : Int) {i : Nat} (h0 : i ≠ 0) (h : ¬ (5 ≤ i ∧ i ≤ 9)) : remS τ p i = τ i := by
  show (if i = 0 then _ else if 5 ≤ i ∧ i ≤ 9 then _ else τ i) = τ i
  rw [if_neg h0, if_neg h]
/-- one more or less in a row of counts -/
theorem RelN_cnt {σ : Nat → Int → Int} {ν : Int → Int} (h : RelN σ ν) (hn : σ 0 1 ≤ 16) {how ow : Int} {R : Nat} (hh : (how = 17 ∧ R = 10) ∨ (how = 23 ∧ R = 11) ∨ (how = 29 ∧ R = 12)) (hw : 0 ≤ ow ∧ ow < 6) (x : Int) : RelN (sU σ R ow x) (uI ν (how + ow) x) := by
  obtain ⟨⟨h0, h1, h2, h3, h4⟩, hc, ho, hq⟩ := h
  have e : ∀ k : Nat, k < 10 → sU σ R ow x k = σ k := fun k hk => sU_ne (by omega)
  have n : ∀ j : Int, (j < 17 ∨ 35 ≤ j) → uI ν (how + ow) x j = ν j := fun j hj => uI_n (by omega)
  refine ⟨⟨?_, ?_, ?_, ?_, ?_⟩, fun c c0 c1 => ?_, fun o o0 o1 => ?_, fun p p0 p1 => ?_⟩
  · rw [n _ (by omega), e 0 (by omega)]; exact h0
  · rw [n _ (by omega), e 1 (by omega)]; exact h1
  · rw [n _ (by omega), e 1 (by omega)]; exact h2
  · rw [n _ (by omega), e 0 (by omega)]; exact h3
  · rw [n _ (by omega), e 0 (by omega)]; exact h4
  · rw [n _ (by omega), n _ (by omega), n _ (by omega), e 2 (by omega), e 3 (by omega), e 4 (by omega)]; exact hc c c0 c1
  · obtain ⟨z1, z2, z3⟩ := ho o o0 o1
    rcases hh with ⟨rfl, rfl⟩ | ⟨rfl, rfl⟩ | ⟨rfl, rfl⟩
    · rw [sU_same, sU_ne (by decide), sU_ne (by decide), uI_n (j := 23 + o) (by omega), uI_n (j := 29 + o) (by omega)]
      refine ⟨?_, z2, z3⟩
      by_cases q : o = ow
      · rw [q, uI_s, uI_s]
      · rw [uI_n (by omega), uI_n q]; exact z1
    · rw [sU_same, sU_ne (by decide), sU_ne (by decide), uI_n (j := 17 + o) (by omega), uI_n (j := 29 + o) (by omega)]
      refine ⟨z1, ?_, z3⟩
      by_cases q : o = ow
      · rw [q, uI_s, uI_s]
      · rw [uI_n (by omega), uI_n q]; exact z2
    · rw [sU_same, sU_ne (by decide), sU_ne (by decide), uI_n (j := 17 + o) (by omega), uI_n (j := 23 + o) (by omega)]
      refine ⟨z1, z2, ?_⟩
      by_cases q : o = ow
      · rw [q, uI_s, uI_s]
      · rw [uI_n (by omega), uI_n q]; exact z3
  · rw [e 0 (by omega)] at p1
    rw [n _ (by omega), n _ (by omega), n _ (by omega), n _ (by omega), n _ (by omega), e 5 (by omega), e 6 (by omega), e 7 (by omega), e 8 (by omega), e 9 (by omega)]; exact hq p p0 p1
/-- a promise goes from the row -/
theorem RelN_rem {τ : Nat → Int → Int} {ν : Int → Int} (h : RelN τ ν) (hn : τ 0 1 ≤ 16) {p x : Int} (hp : 0 ≤ p ∧ p < τ 0 1) (hx : x = τ 0 1 - 1) : RelN (remS τ p) (shM (uI ν 3 x) (35 + 5 * p) (35 + 5 * (τ 0 1 - 1))) := by
  obtain ⟨⟨h0, h1, h2, h3, h4⟩, hc, ho, hq⟩ := h
  have n : ∀ j : Int, j < 35 → j ≠ 3 → shM (uI ν 3 x) (35 + 5 * p) (35 + 5 * (τ 0 1 - 1)) j = ν j := fun j h1 h2 => by rw [shM_out (by omega), uI_n h2]
  refine ⟨⟨?_, ?_, ?_, ?_, ?_⟩, fun c c0 c1 => ?_, fun o o0 o1 => ?_, fun q q0 q1 => ?_⟩
  · rw [n _ (by omega) (by omega), remS_0, uI_n (by omega)]; exact h0
  · rw [n _ (by omega) (by omega), remS_o τ p (by decide) (by omega)]; exact h1
  · rw [n _ (by omega) (by omega), remS_o τ p (by decide) (by omega)]; exact h2
  · rw [shM_out (by omega), uI_s, remS_0, uI_s]; exact hx
  · rw [n _ (by omega) (by omega), remS_0, uI_n (by omega)]; exact h4
  · rw [n _ (by omega) (by omega), n _ (by omega) (by omega), n _ (by omega) (by omega), remS_o τ p (by decide) (by omega), remS_o τ p (by decide) (by omega), remS_o τ p (by decide) (by omega)]; exact hc c c0 c1
  · rw [n _ (by omega) (by omega), n _ (by omega) (by omega), n _ (by omega) (by omega), remS_o τ p (by decide) (by omega), remS_o τ p (by decide) (by omega), remS_o τ p (by decide) (by omega)]; exact ho o o0 o1
  · rw [remS_0, uI_s] at q1
    have hl : ∀ w : Int, 0 ≤ w → w < 5 → shM (uI ν 3 x) (35 + 5 * p) (35 + 5 * (τ 0 1 - 1)) (35 + 5 * q + w) = if p ≤ q then ν (35 + 5 * (q + 1) + w) else ν (35 + 5 * q + w) := by
      intro w w0 w1
      by_cases z : p ≤ q
      · rw [shM_in (by omega), if_pos z, uI_n (by omega), show 35 + 5 * q + w + 5 = 35 + 5 * (q + 1) + w by omega]
      · rw [shM_out (by omega), if_neg z, uI_n (by omega)]
    rw [hl 0 (by omega) (by omega), hl 1 (by omega) (by omega), hl 2 (by omega) (by omega), hl 3 (by omega) (by omega), hl 4 (by omega) (by omega)]
    rw [remS_row τ p (by omega), remS_row τ p (by omega), remS_row τ p (by omega), remS_row τ p (by omega), remS_row τ p (by omega)]
    by_cases z : p ≤ q
    · simp only [if_pos z, if_pos (show p ≤ q ∧ q < τ 0 1 - 1 from ⟨z, q1⟩)]
      exact hq (q + 1) (by omega) (by omega)
    · simp only [if_neg z, if_neg (show ¬ (p ≤ q ∧ q < τ 0 1 - 1) from fun e => z e.1)]
      exact hq q q0 (by omega)
/-- a value's change -/
theorem RelN_val {σ : Nat → Int → Int} {ν : Int → Int} (h : RelN σ ν) {c x : Int} (hc0 : 0 ≤ c ∧ c < 4) : RelN (sR σ 2 (uI (σ 2) c x)) (uI ν (5 + c) x) := by
  obtain ⟨⟨h0, h1, h2, h3, h4⟩, hc, ho, hq⟩ := h
  refine ⟨⟨?_, ?_, ?_, ?_, ?_⟩, fun d d0 d1 => ?_, fun o o0 o1 => ?_, fun p p0 p1 => ?_⟩
  · rw [uI_n (by omega)]; exact h0
  · rw [uI_n (by omega)]; exact h1
  · rw [uI_n (by omega)]; exact h2
  · rw [uI_n (by omega)]; exact h3
  · rw [uI_n (by omega)]; exact h4
  · obtain ⟨z1, z2, z3⟩ := hc d d0 d1
    rw [uI_n (j := 9 + d) (by omega), uI_n (j := 13 + d) (by omega)]
    refine ⟨?_, z2, z3⟩
    show _ = uI (σ 2) c x d
    by_cases q : d = c
    · rw [q, uI_s, uI_s]
    · rw [uI_n (by omega), uI_n q]; exact z1
  · rw [uI_n (by omega), uI_n (by omega), uI_n (by omega)]; exact ho o o0 o1
  · have p1' : p < σ 0 1 := p1
    rw [uI_n (by omega), uI_n (by omega), uI_n (by omega), uI_n (by omega), uI_n (by omega)]; exact hq p p0 p1'
theorem RelN_add {σ : Nat → Int → Int} {ν ν' : Int → Int} (h : RelN σ ν) (hn : 0 ≤ σ 0 1 ∧ σ 0 1 < 16) {o c y to : Int} (e : ∀ j : Int, 0 ≤ j → j < 35 + 5 * σ 0 1 → j ≠ 3 → j ≠ 4 → ν' j = ν j) (e3 : ν' 3 = σ 0 1 + 1) (e4 : ν' 4 = σ 0 2 + 1)
    (r0 : ν' (35 + 5 * σ 0 1 + 0) = o) (r1 : ν' (35 + 5 * σ 0 1 + 1) = c) (r2 : ν' (35 + 5 * σ 0 1 + 2) = y) (r3 : ν' (35 + 5 * σ 0 1 + 3) = to) (r4 : ν' (35 + 5 * σ 0 1 + 4) = σ 0 0 + σ 1 1) : RelN (addS σ o c y to) ν' := by
  obtain ⟨⟨h0, h1, h2, h3, h4⟩, hc, ho, hq⟩ := h
  refine ⟨⟨?_, ?_, ?_, ?_, ?_⟩, fun d d0 d1 => ?_, fun u u0 u1 => ?_, fun p p0 p1 => ?_⟩
  · rw [e _ (by omega) (by omega) (by omega) (by omega)]; exact h0
  · rw [e _ (by omega) (by omega) (by omega) (by omega)]; exact h1
  · rw [e _ (by omega) (by omega) (by omega) (by omega)]; exact h2
  · exact e3
  · exact e4
  · rw [e _ (by omega) (by omega) (by omega) (by omega), e _ (by omega) (by omega) (by omega) (by omega), e _ (by omega) (by omega) (by omega) (by omega)]; exact hc d d0 d1
  · rw [e _ (by omega) (by omega) (by omega) (by omega), e _ (by omega) (by omega) (by omega) (by omega), e _ (by omega) (by omega) (by omega) (by omega)]; exact ho u u0 u1
  · have p1' : p < σ 0 1 + 1 := p1
    show _ = uI (σ 5) (σ 0 1) o p ∧ _ = uI (σ 6) (σ 0 1) c p ∧ _ = uI (σ 7) (σ 0 1) y p ∧ _ = uI (σ 8) (σ 0 1) to p ∧ _ = uI (σ 9) (σ 0 1) (σ 0 0 + σ 1 1) p
    by_cases z : p = σ 0 1
    · rw [z, uI_s, uI_s, uI_s, uI_s, uI_s]; exact ⟨r0, r1, r2, r3, r4⟩
    · rw [uI_n z, uI_n z, uI_n z, uI_n z, uI_n z, e _ (by omega) (by omega) (by omega) (by omega), e _ (by omega) (by omega) (by omega) (by omega), e _ (by omega) (by omega) (by omega) (by omega), e _ (by omega) (by omega) (by omega) (by omega), e _ (by omega) (by omega) (by omega) (by omega)]
      exact hq p p0 (by omega)
/-- the promises' numbers are in their ranges, whatever the time -/
def PQ (τ : Nat → Int → Int) : Prop := ∀ q : Int, 0 ≤ q → q < τ 0 1 → PR0 τ q ∧ (0 ≤ τ 9 q ∧ τ 9 q ≤ 20000)
theorem Inv.pq {σ : Nat → Int → Int} (h : Inv σ) : PQ σ := fun q h0 h1 => by
  have h2 := h.pr h0 h1
  have h3 := h.t
  obtain ⟨-, -, -, -, h4⟩ := id h2
  exact ⟨h2.p0, by omega, by omega⟩
theorem remS_n (τ : Nat → Int → Int) (p : Int) : remS τ p 0 1 = τ 0 1 - 1 := by rw [remS_0, uI_s]
theorem PQ.rem {τ : Nat → Int → Int} (h : PQ τ) {p : Int} (hp : 0 ≤ p ∧ p < τ 0 1) : PQ (remS τ p) := by
  intro q h0 h1
  rw [remS_n] at h1
  have e : ∀ i : Nat, 5 ≤ i ∧ i ≤ 9 → remS τ p i q = τ i (if p ≤ q then q + 1 else q) := by
    intro i hi
    rw [remS_row τ p hi]
    by_cases z : p ≤ q
    · rw [if_pos ⟨z, h1⟩, if_pos z]
    · rw [if_neg (fun w => z w.1), if_neg z]
  have h2 := h (if p ≤ q then q + 1 else q) (by split <;> omega) (by split <;> omega)
  unfold PR0 at h2 ⊢
  rw [e 5 (by omega), e 6 (by omega), e 7 (by omega), e 8 (by omega), e 9 (by omega)]
  exact h2
theorem PQ.set {τ : Nat → Int → Int} (h : PQ τ) {p : Int} (hp : 0 ≤ p ∧ p < τ 0 1) : PQ (setS τ p) := PQ.rem (τ := sU (addC τ p (τ 7 p)) 10 (τ 5 p) (τ 10 (τ 5 p) + 1)) (fun q h0 h1 => h q h0 h1) hp
theorem PQ.can {τ : Nat → Int → Int} (h : PQ τ) {p : Int} (hp : 0 ≤ p ∧ p < τ 0 1) : PQ (canS τ p) := PQ.rem (τ := sU τ 11 (τ 5 p) (τ 11 (τ 5 p) + 1)) (fun q h0 h1 => h q h0 h1) hp
theorem PQ.lap {τ : Nat → Int → Int} (h : PQ τ) {p : Int} (hp : 0 ≤ p ∧ p < τ 0 1) : PQ (lapS τ p) := PQ.rem (τ := sU τ 12 (τ 5 p) (τ 12 (τ 5 p) + 1)) (fun q h0 h1 => h q h0 h1) hp
theorem RelN_sc {σ : Nat → Int → Int} {ν : Int → Int} (h : RelN σ ν) (x : Int) : RelN (sU σ 0 0 x) (uI ν 0 x) := by
  obtain ⟨⟨h0, h1, h2, h3, h4⟩, hc, ho, hq⟩ := h
  have e : ∀ k : Nat, k ≠ 0 → sU σ 0 0 x k = σ k := fun k hk => sU_ne hk
  refine ⟨⟨?_, ?_, ?_, ?_, ?_⟩, fun c c0 c1 => ?_, fun o o0 o1 => ?_, fun p p0 p1 => ?_⟩
  · rw [uI_s, sU_same, uI_s]
  · rw [uI_n (by omega)]; exact h1
  · rw [uI_n (by omega)]; exact h2
  · rw [uI_n (by omega), sU_same, uI_n (by omega)]; exact h3
  · rw [uI_n (by omega), sU_same, uI_n (by omega)]; exact h4
  · rw [uI_n (by omega), uI_n (by omega), uI_n (by omega)]; exact hc c c0 c1
  · rw [uI_n (by omega), uI_n (by omega), uI_n (by omega)]; exact ho o o0 o1
  · rw [sU_same, uI_n (by omega)] at p1
    rw [uI_n (by omega), uI_n (by omega), uI_n (by omega), uI_n (by omega), uI_n (by omega)]; exact hq p p0 p1
theorem RelN_bnd {σ : Nat → Int → Int} {ν : Int → Int} (h : RelN σ ν) {c lo hi : Int} (hc0 : 0 ≤ c ∧ c < 4) : RelN (bndS σ c lo hi) (uI (uI ν (9 + c) lo) (13 + c) hi) := by
  obtain ⟨⟨h0, h1, h2, h3, h4⟩, hc, ho, hq⟩ := h
  have n : ∀ j : Int, (j < 9 ∨ 17 ≤ j) → uI (uI ν (9 + c) lo) (13 + c) hi j = ν j := fun j hj => by rw [uI_n (by omega), uI_n (by omega)]
  refine ⟨⟨?_, ?_, ?_, ?_, ?_⟩, fun d d0 d1 => ?_, fun o o0 o1 => ?_, fun p p0 p1 => ?_⟩
  · rw [n _ (by omega)]; exact h0
  · rw [n _ (by omega)]; exact h1
  · rw [n _ (by omega)]; exact h2
  · rw [n _ (by omega)]; exact h3
  · rw [n _ (by omega)]; exact h4
  · obtain ⟨z1, z2, z3⟩ := hc d d0 d1
    rw [n _ (by omega)]
    refine ⟨z1, ?_, ?_⟩
    · show _ = uI (σ 3) c lo d
      rw [uI_n (by omega)]
      by_cases q : d = c
      · rw [q, uI_s, uI_s]
      · rw [uI_n (by omega), uI_n q]; exact z2
    · show _ = uI (σ 4) c hi d
      by_cases q : d = c
      · rw [q, uI_s, uI_s]
      · rw [uI_n (by omega), uI_n (by omega), uI_n q]; exact z3
  · rw [n _ (by omega), n _ (by omega), n _ (by omega)]; exact ho o o0 o1
  · have p1' : p < σ 0 1 := p1
    rw [n _ (by omega), n _ (by omega), n _ (by omega), n _ (by omega), n _ (by omega)]; exact hq p p0 p1'
theorem RelN_set {σ : Nat → Int → Int} {ν : Int → Int} (h : RelN σ ν) {k v : Int} (hk : 0 ≤ k ∧ k ≤ 1) : RelN (sU σ 1 k v) (uI ν (1 + k) v) := by
  obtain ⟨⟨h0, h1, h2, h3, h4⟩, hc, ho, hq⟩ := h
  have n : ∀ j : Int, (j < 1 ∨ 3 ≤ j) → uI ν (1 + k) v j = ν j := fun j hj => uI_n (by omega)
  refine ⟨⟨?_, ?_, ?_, ?_, ?_⟩, fun d d0 d1 => ?_, fun o o0 o1 => ?_, fun p p0 p1 => ?_⟩
  · rw [n _ (by omega)]; exact h0
  · show _ = uI (σ 1) k v 0
    by_cases q : k = 0
    · rw [q, uI_s]; exact uI_s _ _ _
    · rw [uI_n (by omega), uI_n (by omega)]; exact h1
  · show _ = uI (σ 1) k v 1
    by_cases q : k = 1
    · rw [q, uI_s]; exact uI_s _ _ _
    · rw [uI_n (by omega), uI_n (by omega)]; exact h2
  · rw [n _ (by omega)]; exact h3
  · rw [n _ (by omega)]; exact h4
  · rw [n _ (by omega), n _ (by omega), n _ (by omega)]; exact hc d d0 d1
  · rw [n _ (by omega), n _ (by omega), n _ (by omega)]; exact ho o o0 o1
  · have p1' : p < σ 0 1 := p1
    rw [n _ (by omega), n _ (by omega), n _ (by omega), n _ (by omega), n _ (by omega)]; exact hq p p0 p1'
/-- one number of a promise -/
theorem RelN_fld {σ : Nat → Int → Int} {ν : Int → Int} (h : RelN σ ν) (hn : σ 0 1 ≤ 16) {p w x : Int} {R : Nat} (hp : 0 ≤ p ∧ p < σ 0 1) (hw : (w = 2 ∧ R = 7) ∨ (w = 4 ∧ R = 9)) : RelN (sU σ R p x) (uI ν (35 + 5 * p + w) x) := by
  obtain ⟨⟨h0, h1, h2, h3, h4⟩, hc, ho, hq⟩ := h
  have n : ∀ j : Int, j < 35 → uI ν (35 + 5 * p + w) x j = ν j := fun j hj => uI_n (by omega)
  have e : ∀ k : Nat, k ≠ 7 → k ≠ 9 → sU σ R p x k = σ k := fun k h7 h9 => sU_ne (by omega)
  refine ⟨⟨?_, ?_, ?_, ?_, ?_⟩, fun d d0 d1 => ?_, fun o o0 o1 => ?_, fun q p0 p1 => ?_⟩
  · rw [n _ (by omega), e 0 (by omega) (by omega)]; exact h0
  · rw [n _ (by omega), e 1 (by omega) (by omega)]; exact h1
  · rw [n _ (by omega), e 1 (by omega) (by omega)]; exact h2
  · rw [n _ (by omega), e 0 (by omega) (by omega)]; exact h3
  · rw [n _ (by omega), e 0 (by omega) (by omega)]; exact h4
  · rw [n _ (by omega), n _ (by omega), n _ (by omega), e 2 (by omega) (by omega), e 3 (by omega) (by omega), e 4 (by omega) (by omega)]; exact hc d d0 d1
  · rw [n _ (by omega), n _ (by omega), n _ (by omega), e 10 (by omega) (by omega), e 11 (by omega) (by omega), e 12 (by omega) (by omega)]; exact ho o o0 o1
  · rw [e 0 (by omega) (by omega)] at p1
    obtain ⟨z0, z1, z2, z3, z4⟩ := hq q p0 p1
    rw [e 5 (by omega) (by omega), e 6 (by omega) (by omega), e 8 (by omega) (by omega)]
    rcases hw with ⟨rfl, rfl⟩ | ⟨rfl, rfl⟩
    · rw [uI_n (j := 35 + 5 * q + 0) (by omega), uI_n (j := 35 + 5 * q + 1) (by omega), uI_n (j := 35 + 5 * q + 3) (by omega), uI_n (j := 35 + 5 * q + 4) (by omega), sU_same, sU_ne (show (9 : Nat) ≠ 7 by decide)]
      refine ⟨z0, z1, ?_, z3, z4⟩
      by_cases y : q = p
      · rw [y, uI_s, uI_s]
      · rw [uI_n (by omega), uI_n y]; exact z2
    · rw [uI_n (j := 35 + 5 * q + 0) (by omega), uI_n (j := 35 + 5 * q + 1) (by omega), uI_n (j := 35 + 5 * q + 2) (by omega), uI_n (j := 35 + 5 * q + 3) (by omega), sU_same, sU_ne (show (7 : Nat) ≠ 9 by decide)]
      refine ⟨z0, z1, z2, z3, ?_⟩
      by_cases y : q = p
      · rw [y, uI_s, uI_s]
      · rw [uI_n (by omega), uI_n y]; exact z4
