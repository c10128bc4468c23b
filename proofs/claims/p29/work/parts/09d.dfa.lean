/-! texts: the reader's six numbers (place, isBelow, size, from, to, who) as a function -/
abbrev dOk (δ : Int → Int) (c : Int) : Prop :=
  (δ 0 = 0 ∧ 48 ≤ c ∧ c ≤ 51) ∨ (δ 0 = 1 ∧ (c = 43 ∨ c = 45 ∨ c = 62)) ∨ (δ 0 = 2 ∧ 48 ≤ c ∧ c ≤ 51 ∧ c - 48 ≠ δ 3) ∨ (δ 0 = 3 ∧ c = 58) ∨ (δ 0 = 4 ∧ 49 ≤ c ∧ c ≤ 57) ∨
  (δ 0 = 5 ∧ ((48 ≤ c ∧ c ≤ 57) ∨ c = 111 ∨ c = 59)) ∨ (δ 0 = 6 ∧ (c = 111 ∨ c = 59)) ∨ (δ 0 = 7 ∧ 48 ≤ c ∧ c ≤ 53) ∨ (δ 0 = 8 ∧ c = 59)
def dNx (δ : Int → Int) (c : Int) : Int → Int :=
  if δ 0 = 0 then uI (uI (uI (uI δ 3 (c - 48)) 4 (-1)) 5 0) 0 1
  else if δ 0 = 1 then uI (uI δ 1 (if c = 43 then 0 else 1)) 0 (if c = 62 then 2 else 4)
  else if δ 0 = 2 then uI (uI δ 4 (c - 48)) 0 3
  else if δ 0 = 3 then uI δ 0 4
  else if δ 0 = 4 then uI (uI δ 2 (c - 48)) 0 5
  else if δ 0 = 5 then (if 48 ≤ c ∧ c ≤ 57 then uI (uI δ 2 (10 * δ 2 + (c - 48))) 0 6 else if c = 111 then uI δ 0 7 else uI δ 0 0)
  else if δ 0 = 6 then (if c = 111 then uI δ 0 7 else uI δ 0 0)
  else if δ 0 = 7 then uI (uI δ 5 (c - 48)) 0 8
  else uI δ 0 0
theorem dNx_0 {δ : Int → Int} (h : δ 0 = 0) (c : Int) : dNx δ c = uI (uI (uI (uI δ 3 (c - 48)) 4 (-1)) 5 0) 0 1 := by unfold dNx; rw [if_pos h]
theorem dNx_1 {δ : Int → Int} (h : δ 0 = 1) (c : Int) : dNx δ c = uI (uI δ 1 (if c = 43 then 0 else 1)) 0 (if c = 62 then 2 else 4) := by unfold dNx; rw [if_neg (by omega), if_pos h]
theorem dNx_2 {δ : Int → Int} (h : δ 0 = 2) (c : Int) : dNx δ c = uI (uI δ 4 (c - 48)) 0 3 := by unfold dNx; rw [if_neg (by omega), if_neg (by omega), if_pos h]
theorem dNx_3 {δ : Int → Int} (h : δ 0 = 3) (c : Int) : dNx δ c = uI δ 0 4 := by unfold dNx; rw [if_neg (by omega), if_neg (by omega), if_neg (by omega), if_pos h]
theorem dNx_4 {δ : Int → Int} (h : δ 0 = 4) (c : Int) : dNx δ c = uI (uI δ 2 (c - 48)) 0 5 := by unfold dNx; rw [if_neg (by omega), if_neg (by omega), if_neg (by omega), if_neg (by omega), if_pos h]
theorem dNx_5 {δ : Int → Int} (h : δ 0 = 5) (c : Int) : dNx δ c = (if 48 ≤ c ∧ c ≤ 57 then uI (uI δ 2 (10 * δ 2 + (c - 48))) 0 6 else if c = 111 then uI δ 0 7 else uI δ 0 0) := by unfold dNx; rw [if_neg (by omega), if_neg (by omega), if_neg (by omega), if_neg (by omega), if_neg (by omega), if_pos h]
theorem dNx_6 {δ : Int → Int} (h : δ 0 = 6) (c : Int) : dNx δ c = (if c = 111 then uI δ 0 7 else uI δ 0 0) := by unfold dNx; rw [if_neg (by omega), if_neg (by omega), if_neg (by omega), if_neg (by omega), if_neg (by omega), if_neg (by omega), if_pos h]
theorem dNx_7 {δ : Int → Int} (h : δ 0 = 7) (c : Int) : dNx δ c = uI (uI δ 5 (c - 48)) 0 8 := by unfold dNx; rw [if_neg (by omega), if_neg (by omega), if_neg (by omega), if_neg (by omega), if_neg (by omega), if_neg (by omega), if_neg (by omega), if_pos h]
theorem dNx_8 {δ : Int → Int} (h : δ 0 = 8) (c : Int) : dNx δ c = uI δ 0 0 := by unfold dNx; rw [if_neg (by omega), if_neg (by omega), if_neg (by omega), if_neg (by omega), if_neg (by omega), if_neg (by omega), if_neg (by omega), if_neg (by omega)]
/-- what the numbers are at each place -/
def dWf (δ : Int → Int) : Prop := (0 ≤ δ 0 ∧ δ 0 ≤ 8) ∧ (1 ≤ δ 0 → (0 ≤ δ 3 ∧ δ 3 ≤ 3) ∧ (δ 4 = -1 ∨ (0 ≤ δ 4 ∧ δ 4 ≤ 3 ∧ δ 4 ≠ δ 3)) ∧ (0 ≤ δ 5 ∧ δ 5 ≤ 5)) ∧ (δ 0 = 1 ∨ δ 0 = 2 → δ 4 = -1) ∧ (2 ≤ δ 0 → (δ 1 = 0 ∨ δ 1 = 1)) ∧ (δ 0 = 2 ∨ δ 0 = 3 → δ 1 = 1) ∧ (2 ≤ δ 0 → δ 4 ≠ -1 → δ 1 = 1) ∧ (δ 0 = 5 → 1 ≤ δ 2 ∧ δ 2 ≤ 9) ∧ (5 ≤ δ 0 → 1 ≤ δ 2 ∧ δ 2 ≤ 99)
theorem dWf_0 {δ : Int → Int} (h : δ 0 = 0) : dWf δ := by
  unfold dWf; omega
theorem dWf_nx {δ : Int → Int} {c : Int} (h : dWf δ) (ok : dOk δ c) : dWf (dNx δ c) := by
  unfold dWf at h
  obtain ⟨h0, h1, h2, h3, h4, h5, h6, h7⟩ := h
  rcases (show δ 0 = 0 ∨ δ 0 = 1 ∨ δ 0 = 2 ∨ δ 0 = 3 ∨ δ 0 = 4 ∨ δ 0 = 5 ∨ δ 0 = 6 ∨ δ 0 = 7 ∨ δ 0 = 8 by omega) with q | q | q | q | q | q | q | q | q
  · rw [dNx_0 q]; unfold dWf; simp (disch := omega) only [uI_e, uI_n]
    exact ⟨by omega, fun _ => ⟨by omega, Or.inl trivial, by omega⟩, fun _ => trivial, fun h => by omega, fun h => by omega, fun h => by omega, fun h => by omega, fun h => by omega⟩
  · rw [dNx_1 q]; unfold dWf; simp (disch := omega) only [uI_e, uI_n]; omega
  · rw [dNx_2 q]; unfold dWf; simp (disch := omega) only [uI_e, uI_n]; omega
  · rw [dNx_3 q]; unfold dWf; simp (disch := omega) only [uI_e, uI_n]; omega
  · rw [dNx_4 q]; unfold dWf; simp (disch := omega) only [uI_e, uI_n]; omega
  · rw [dNx_5 q]; split
    · unfold dWf; simp (disch := omega) only [uI_e, uI_n]; omega
    · split
      · unfold dWf; simp (disch := omega) only [uI_e, uI_n]; omega
      · unfold dWf; simp (disch := omega) only [uI_e, uI_n]; omega
  · rw [dNx_6 q]; split
    · unfold dWf; simp (disch := omega) only [uI_e, uI_n]; omega
    · unfold dWf; simp (disch := omega) only [uI_e, uI_n]; omega
  · rw [dNx_7 q]; unfold dWf; simp (disch := omega) only [uI_e, uI_n]; omega
  · rw [dNx_8 q]; unfold dWf; simp (disch := omega) only [uI_e, uI_n]; omega
def feR (β : Int → Int) : Nat → (Int → Int) → Int → Int
  | 0, _, i => i
  | n + 1, δ, i => if dOk δ (β i) then feR β n (dNx δ (β i)) (i + 1) else i
def endR (β : Int → Int) : Nat → (Int → Int) → Int → (Int → Int)
  | 0, δ, _ => δ
  | n + 1, δ, i => if dOk δ (β i) then endR β n (dNx δ (β i)) (i + 1) else δ
abbrev dFin (δ : Int → Int) : Prop := δ 0 = 5 ∨ δ 0 = 6 ∨ δ 0 = 8
def byD (δ : Int → Int) : Int := if δ 1 = 0 then δ 2 else -δ 2
def plR (β : Int → Int) : Nat → (Int → Int) → Int → List (Int × Int × Int × Int)
  | 0, _, _ => []
  | n + 1, δ, i => if n = 0 ∨ β (i + 1) = 59 then ((dNx δ (β i)) 5, (dNx δ (β i)) 3, byD (dNx δ (β i)), (dNx δ (β i)) 4) :: plR β n (dNx δ (β i)) (i + 1) else plR β n (dNx δ (β i)) (i + 1)
theorem toNat_s {i n : Int} (h : i < n) : (n - i).toNat = (n - (i + 1)).toNat + 1 := by omega
theorem fe_step {β δ : Int → Int} {i n : Int} (h : i < n) (ok : dOk δ (β i)) : feR β (n - i).toNat δ i = feR β (n - (i + 1)).toNat (dNx δ (β i)) (i + 1) := by rw [toNat_s h]; exact if_pos ok
theorem fe_stop {β δ : Int → Int} {i n : Int} (h : i < n) (no : ¬ dOk δ (β i)) : feR β (n - i).toNat δ i = i := by rw [toNat_s h]; exact if_neg no
theorem fe_end {β δ : Int → Int} {i n : Int} (h : i = n) : feR β (n - i).toNat δ i = i := by rw [show (n - i).toNat = 0 by omega]; rfl
theorem en_step {β δ : Int → Int} {i n : Int} (h : i < n) (ok : dOk δ (β i)) : endR β (n - i).toNat δ i = endR β (n - (i + 1)).toNat (dNx δ (β i)) (i + 1) := by rw [toNat_s h]; exact if_pos ok
theorem en_end {β δ : Int → Int} {i n : Int} (h : i = n) : endR β (n - i).toNat δ i = δ := by rw [show (n - i).toNat = 0 by omega]; rfl
theorem pl_end {β δ : Int → Int} {i n : Int} (h : i = n) : plR β (n - i).toNat δ i = [] := by rw [show (n - i).toNat = 0 by omega]; rfl
theorem pl_on {β δ : Int → Int} {i n : Int} (h : i + 1 < n) (hb : β (i + 1) ≠ 59) : plR β (n - i).toNat δ i = plR β (n - (i + 1)).toNat (dNx δ (β i)) (i + 1) := by
  rw [toNat_s (by omega)]; exact if_neg (by omega)
theorem pl_cut {β δ : Int → Int} {i n : Int} (h : i < n) (hb : i + 1 = n ∨ β (i + 1) = 59) : plR β (n - i).toNat δ i = ((dNx δ (β i)) 5, (dNx δ (β i)) 3, byD (dNx δ (β i)), (dNx δ (β i)) 4) :: plR β (n - (i + 1)).toNat (dNx δ (β i)) (i + 1) := by
  rw [toNat_s h]; exact if_pos (by omega)
/-- a part as it may be promised -/
def PO (q : Int × Int × Int × Int) : Prop := (0 ≤ q.1 ∧ q.1 ≤ 5) ∧ (0 ≤ q.2.1 ∧ q.2.1 ≤ 3) ∧ (-99 ≤ q.2.2.1 ∧ q.2.2.1 ≤ 99 ∧ q.2.2.1 ≠ 0) ∧ (q.2.2.2 = -1 ∨ (0 ≤ q.2.2.2 ∧ q.2.2.2 ≤ 3 ∧ q.2.2.2 ≠ q.2.1 ∧ q.2.2.1 < 0))
theorem PO_of {δ : Int → Int} (h : dWf δ) (hf : dFin δ) : PO (δ 5, δ 3, byD δ, δ 4) := by
  unfold dWf at h
  have hb : byD δ = if δ 1 = 0 then δ 2 else -δ 2 := rfl
  unfold PO
  show (0 ≤ δ 5 ∧ δ 5 ≤ 5) ∧ (0 ≤ δ 3 ∧ δ 3 ≤ 3) ∧ (-99 ≤ byD δ ∧ byD δ ≤ 99 ∧ byD δ ≠ 0) ∧ (δ 4 = -1 ∨ (0 ≤ δ 4 ∧ δ 4 ≤ 3 ∧ δ 4 ≠ δ 3 ∧ byD δ < 0))
  omega
def prS : List (Int × Int × Int × Int) → (Nat → Int → Int) → (Nat → Int → Int)
  | [], σ => σ
  | q :: L, σ => if 0 < reasonS σ q.1 q.2.1 q.2.2.1 q.2.2.2 then σ else prS L (addS σ q.1 q.2.1 q.2.2.1 q.2.2.2)
def prC : List (Int × Int × Int × Int) → (Nat → Int → Int) → Int
  | [], _ => 0
  | q :: L, σ => if 0 < reasonS σ q.1 q.2.1 q.2.2.1 q.2.2.2 then 0 else prC L (addS σ q.1 q.2.1 q.2.2.1 q.2.2.2) + 1
