/-! what the writers make of a state -/
def addS (σ : Nat → Int → Int) (o c y to : Int) : Nat → Int → Int :=
  sU (sU (sU (sU (sU (sU (sU σ 5 (σ 0 1) o) 6 (σ 0 1) c) 7 (σ 0 1) y) 8 (σ 0 1) to) 9 (σ 0 1) (σ 0 0 + σ 1 1)) 0 1 (σ 0 1 + 1)) 0 2 (σ 0 2 + 1)
def addR (σ : Nat → Int → Int) (p x : Int) : Int → Int :=
  if σ 8 p = -1 then uI (σ 2) (σ 6 p) (σ 2 (σ 6 p) + x) else uI (uI (σ 2) (σ 6 p) (σ 2 (σ 6 p) + x)) (σ 8 p) (uI (σ 2) (σ 6 p) (σ 2 (σ 6 p) + x) (σ 8 p) - x)
theorem addR_def (σ : Nat → Int → Int) (p x : Int) : addR σ p x = if σ 8 p = -1 then uI (σ 2) (σ 6 p) (σ 2 (σ 6 p) + x) else uI (uI (σ 2) (σ 6 p) (σ 2 (σ 6 p) + x)) (σ 8 p) (uI (σ 2) (σ 6 p) (σ 2 (σ 6 p) + x) (σ 8 p) - x) := rfl
def addC (σ : Nat → Int → Int) (p x : Int) : Nat → Int → Int := sR σ 2 (addR σ p x)
/-- rows 5 to 9 from p on moved down as far as q -/
def shP (σ : Nat → Int → Int) (p q : Int) : Nat → Int → Int := fun i => if i = 0 then uI (σ 0) 1 (σ 0 1 - 1) else if 5 ≤ i ∧ i ≤ 9 then (fun j => if p ≤ j ∧ j < q then σ i (j + 1) else σ i j) else σ i
def remS (σ : Nat → Int → Int) (p : Int) : Nat → Int → Int := shP σ p (σ 0 1 - 1)
theorem shP_0 (σ : Nat → Int → Int) (p : Int) : sU σ 0 1 (σ 0 1 - 1) = shP σ p p := by
  funext i j
  show (if i = 0 then uI (σ 0) 1 (σ 0 1 - 1) else σ i) j = (if i = 0 then uI (σ 0) 1 (σ 0 1 - 1) else if 5 ≤ i ∧ i ≤ 9 then (fun j => if p ≤ j ∧ j < p then σ i (j + 1) else σ i j) else σ i) j
  by_cases h : i = 0
  · rw [if_pos h, if_pos h]
  · rw [if_neg h, if_neg h]
    by_cases h2 : 5 ≤ i ∧ i ≤ 9
    · rw [if_pos h2]; exact (if_neg (by omega)).symm
    · rw [if_neg h2]
theorem shP_row (σ : Nat → Int → Int) (p q : Int) {i : Nat} (h0 : i ≠ 0) (h : 5 ≤ i ∧ i ≤ 9) (j : Int) : shP σ p q i j = if p ≤ j ∧ j < q then σ i (j + 1) else σ i j := by
  show (if i = 0 then uI (σ 0) 1 (σ 0 1 - 1) else if 5 ≤ i ∧ i ≤ 9 then (fun j => if p ≤ j ∧ j < q then σ i (j + 1) else σ i j) else σ i) j = _
  rw [if_neg h0, if_pos h]
theorem shP_s (σ : Nat → Int → Int) {p q : Int} (h : p ≤ q) : sU (sU (sU (sU (sU (shP σ p q) 5 q (shP σ p q 5 (q + 1))) 6 q (shP σ p q 6 (q + 1))) 7 q (shP σ p q 7 (q + 1))) 8 q (shP σ p q 8 (q + 1))) 9 q (shP σ p q 9 (q + 1)) = shP σ p (q + 1) := by
  funext i j
  by_cases h5 : 5 ≤ i ∧ i ≤ 9
  · rw [shP_row σ p (q + 1) (by omega) h5 j]
    have hv : ∀ k : Nat, 5 ≤ k ∧ k ≤ 9 → uI (shP σ p q k) q (shP σ p q k (q + 1)) j = if p ≤ j ∧ j < q + 1 then σ k (j + 1) else σ k j := by
      intro k hk
      by_cases hj : j = q
      · subst hj
        rw [uI_s, shP_row σ p j (by omega) hk (j + 1), if_neg (by omega), if_pos (by omega)]
      · rw [uI_n hj, shP_row σ p q (by omega) hk j]
        by_cases h1 : p ≤ j ∧ j < q
        · rw [if_pos h1, if_pos (by omega)]
        · rw [if_neg h1, if_neg (by omega)]
    rcases (show i = 5 ∨ i = 6 ∨ i = 7 ∨ i = 8 ∨ i = 9 by omega) with rfl | rfl | rfl | rfl | rfl
    · exact hv 5 (by omega)
    · exact hv 6 (by omega)
    · exact hv 7 (by omega)
    · exact hv 8 (by omega)
    · exact hv 9 (by omega)
  · have e1 : ∀ (τ : Nat → Int → Int) (k : Nat) (x : Int), 5 ≤ k ∧ k ≤ 9 → sU τ k q x i = τ i := fun τ k x hk => sU_ne (by omega)
    rw [e1 _ 9 _ (by omega), e1 _ 8 _ (by omega), e1 _ 7 _ (by omega), e1 _ 6 _ (by omega), e1 _ 5 _ (by omega)]
    show (if i = 0 then uI (σ 0) 1 (σ 0 1 - 1) else if 5 ≤ i ∧ i ≤ 9 then (fun j => if p ≤ j ∧ j < q then σ i (j + 1) else σ i j) else σ i) j = (if i = 0 then uI (σ 0) 1 (σ 0 1 - 1) else if 5 ≤ i ∧ i ≤ 9 then (fun j => if p ≤ j ∧ j < q + 1 then σ i (j + 1) else σ i j) else σ i) j
    rw [if_neg h5, if_neg h5]
def setS (σ : Nat → Int → Int) (p : Int) : Nat → Int → Int := remS (sU (addC σ p (σ 7 p)) 10 (σ 5 p) (σ 10 (σ 5 p) + 1)) p
def canS (σ : Nat → Int → Int) (p : Int) : Nat → Int → Int := remS (sU σ 11 (σ 5 p) (σ 11 (σ 5 p) + 1)) p
def lapS (σ : Nat → Int → Int) (p : Int) : Nat → Int → Int := remS (sU σ 12 (σ 5 p) (σ 12 (σ 5 p) + 1)) p
/-- a promise's numbers, but for its time -/
def PR0 (σ : Nat → Int → Int) (p : Int) : Prop := (0 ≤ σ 5 p ∧ σ 5 p < 6) ∧ (0 ≤ σ 6 p ∧ σ 6 p < 4) ∧ (-99 ≤ σ 7 p ∧ σ 7 p ≤ 99 ∧ σ 7 p ≠ 0) ∧ (σ 8 p = -1 ∨ (0 ≤ σ 8 p ∧ σ 8 p < 4 ∧ σ 8 p ≠ σ 6 p ∧ σ 7 p < 0))
theorem PR.p0 {σ : Nat → Int → Int} {p : Int} (h : PR σ p) : PR0 σ p := ⟨h.1, h.2.1, h.2.2.1, h.2.2.2.1⟩
def cd1 (a : Prop) [Decidable a] : Int := if ¬ a then 1 else 0
def cd2 (a b : Prop) [Decidable a] [Decidable b] : Int := if ¬ a then 1 else if ¬ b then 2 else 0
def cd3 (a b c : Prop) [Decidable a] [Decidable b] [Decidable c] : Int := if ¬ a then 1 else if ¬ b then 2 else if ¬ c then 3 else 0
def bndS (σ : Nat → Int → Int) (c lo hi : Int) : Nat → Int → Int := sU (sU σ 3 c lo) 4 c hi
def prtX (σ : Nat → Int → Int) (p q : Int) : Int := if σ 7 p < 0 then -q else q
def prtS (σ : Nat → Int → Int) (p q : Int) : Nat → Int → Int := sU (addC σ p (prtX σ p q)) 7 p (σ 7 p - prtX σ p q)
def renS (σ : Nat → Int → Int) (p : Int) : Nat → Int → Int := sU σ 9 p (σ 0 0 + σ 1 1)
def fin1 (σ : Nat → Int → Int) (o s k : Int) : Nat → Int → Int := if σ 5 k = o then (if s = 0 then canS σ k else setS σ k) else σ
def finI (o s : Int) : Nat → (Nat → Int → Int) → (Nat → Int → Int)
  | 0, σ => σ
  | k + 1, σ => finI o s k (fin1 σ o s (k : Int))
def finS (σ : Nat → Int → Int) (o s : Int) : Nat → Int → Int := finI o s (σ 0 1).toNat σ
def lap1 (σ : Nat → Int → Int) (k : Int) : Nat → Int → Int := if σ 9 k ≤ σ 0 0 then lapS σ k else σ
def lapI : Nat → (Nat → Int → Int) → (Nat → Int → Int)
  | 0, σ => σ
  | k + 1, σ => lapI k (lap1 σ (k : Int))
def pasT (σ : Nat → Int → Int) (u : Int) : Nat → Int → Int := lapI (σ 0 1).toNat (sU σ 0 0 (σ 0 0 + u))
theorem finI_s (o s : Int) {k : Int} (h : 0 ≤ k) (σ : Nat → Int → Int) : finI o s (k + 1).toNat σ = finI o s k.toNat (fin1 σ o s k) := by
  obtain ⟨n, rfl⟩ := Int.eq_ofNat_of_zero_le h
  rfl
theorem lapI_s {k : Int} (h : 0 ≤ k) (σ : Nat → Int → Int) : lapI (k + 1).toNat σ = lapI k.toNat (lap1 σ k) := by
  obtain ⟨n, rfl⟩ := Int.eq_ofNat_of_zero_le h
  rfl
