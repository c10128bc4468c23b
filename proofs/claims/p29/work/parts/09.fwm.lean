/-! the reference's way to the same row: 3169 places, the value at 1584 -/
def mapM (g : Int → Int) (y lo hi : Int) : Int → Int := fun k => if lo ≤ k ∧ k ≤ hi then cmb (g k) (if 0 ≤ k - y ∧ k - y ≤ 3168 then g (k - y) else -1) else g k
theorem mapM_out {g : Int → Int} {y lo hi k : Int} (h : ¬ (lo ≤ k ∧ k ≤ hi)) : mapM g y lo hi k = g k := if_neg h
theorem mapM_in {g : Int → Int} {y lo hi k : Int} (h : lo ≤ k ∧ k ≤ hi) : mapM g y lo hi k = cmb (g k) (if 0 ≤ k - y ∧ k - y ≤ 3168 then g (k - y) else -1) := if_pos h
theorem mapM_0 {g : Int → Int} {y lo hi : Int} (h : hi < lo) : g = mapM g y lo hi := by
  funext k; rw [mapM_out (by omega)]
theorem cmb_r {x y M : Int} (hx : -1 ≤ x ∧ x ≤ M) (hy : -1 ≤ y ∧ y ≤ M) : -1 ≤ cmb x y ∧ cmb x y ≤ M + 1 := by
  unfold cmb; split <;> omega
theorem mapM_r {g : Int → Int} {y lo hi M : Int} (hM : 0 ≤ M) (hg : ∀ k : Int, 0 ≤ k → k ≤ 3168 → -1 ≤ g k ∧ g k ≤ M) : ∀ k : Int, 0 ≤ k → k ≤ 3168 → -1 ≤ mapM g y lo hi k ∧ mapM g y lo hi k ≤ M + 1 := by
  intro k h0 h1
  have hk := hg k h0 h1
  by_cases q : lo ≤ k ∧ k ≤ hi
  · rw [mapM_in q]
    by_cases z : 0 ≤ k - y ∧ k - y ≤ 3168
    · rw [if_pos z]; exact cmb_r hk (hg _ z.1 z.2)
    · rw [if_neg z]; exact cmb_r hk (by omega)
  · rw [mapM_out q]; omega
theorem mapM_up {g h : Int → Int} {y n v : Int} (hy : 0 < y) (hn : 0 ≤ n ∧ n < 3169) (hh : h = mapM g y (3169 - n) 3168) (hv : v = cmb (h (3168 - n)) (if 0 ≤ 3168 - n - y ∧ 3168 - n - y ≤ 3168 then h (3168 - n - y) else -1)) : uI h (3168 - n) v = mapM g y (3169 - (n + 1)) 3168 := by
  funext k
  by_cases e : k = 3168 - n
  · rw [e, uI_s, mapM_in (by omega), hv, hh, mapM_out (by omega), mapM_out (by omega)]
  · rw [uI_n e, hh]
    by_cases q : 3169 - n ≤ k ∧ k ≤ 3168
    · rw [mapM_in q, mapM_in (by omega)]
    · rw [mapM_out q, mapM_out (by omega)]
theorem mapM_dn {g h : Int → Int} {y n v : Int} (hy : y < 0) (hn : 0 ≤ n ∧ n < 3169) (hh : h = mapM g y 0 (n - 1)) (hv : v = cmb (h n) (if 0 ≤ n - y ∧ n - y ≤ 3168 then h (n - y) else -1)) : uI h n v = mapM g y 0 (n + 1 - 1) := by
  funext k
  by_cases e : k = n
  · rw [e, uI_s, mapM_in (by omega), hv, hh, mapM_out (by omega), mapM_out (by omega)]
  · rw [uI_n e, hh]
    by_cases q : 0 ≤ k ∧ k ≤ n - 1
    · rw [mapM_in q, mapM_in (by omega)]
    · rw [mapM_out q, mapM_out (by omega)]
theorem FW_mapM {σ : Nat → Int → Int} (hI : Inv σ) {c p : Int} {g : Int → Int} (hp : 0 ≤ p ∧ p < σ 0 1) (hg : ∀ k : Int, 0 ≤ k → k ≤ 3168 → g k = FW σ c p.toNat (k - 1584)) (hy : chg σ p c ≠ 0) : ∀ k : Int, 0 ≤ k → k ≤ 3168 → mapM g (chg σ p c) 0 3168 k = FW σ c (p + 1).toNat (k - 1584) := by
  have hn := hI.n
  have hr := mx_r hI c (k := p.toNat) (by omega)
  intro k h0 h1
  rw [mapM_in ⟨h0, h1⟩, FW_step σ c (k - 1584) hp.1, if_neg hy, hg k h0 h1]
  by_cases z : 0 ≤ k - chg σ p c ∧ k - chg σ p c ≤ 3168
  · rw [if_pos z, hg _ z.1 z.2, show k - chg σ p c - 1584 = k - 1584 - chg σ p c by omega]
  · rw [if_neg z]
    by_cases w : FW σ c p.toNat (k - 1584 - chg σ p c) = -1
    · rw [w]
    · have := FW_sup σ c p.toNat _ w
      omega
def ctrS (σ : Nat → Int → Int) (c w : Int) : Int := if w = 0 then σ 2 c else if w = 1 then σ 3 c else if w = 2 then σ 4 c else if w = 3 then lowS σ c (σ 0 0) else if w = 4 then highS σ c else if w = 5 then chN σ c else if w = 6 then chSum σ c else if w = 7 then lowS σ c (σ 0 0) - σ 3 c else if w = 8 then σ 4 c - highS σ c else cntW σ c
def prmS (σ : Nat → Int → Int) (p w : Int) : Int := if w = 0 then σ 5 p else if w = 1 then σ 6 p else if w = 2 then σ 7 p else if w = 3 then σ 8 p else if w = 4 then σ 9 p else σ 9 p - σ 0 0
def ownS (σ : Nat → Int → Int) (o w : Int) : Int := if w = 0 then ofN σ o else if w = 1 then σ 10 o else if w = 2 then σ 11 o else if w = 3 then σ 12 o else ofSz σ o
def cntS (σ : Nat → Int → Int) (κ w : Int) : Int := if w = 0 then σ 0 0 else if w = 1 then σ 0 1 else if w = 2 then trN σ else if w = 3 then σ 0 2 else if w = 4 then sm (σ 10) 6 else if w = 5 then sm (σ 11) 6 else if w = 6 then sm (σ 12) 6 else if w = 7 then sm (σ 2) 4 else if w = 8 then frS σ else κ
def pasS (σ : Nat → Int → Int) (u w : Int) : Int := if w = 0 then lapN σ (σ 0 0 + u) else lowS σ (w - 1) (σ 0 0 + u) - σ 3 (w - 1)
theorem reason_r (σ : Nat → Int → Int) (o c y to : Int) : 0 ≤ reasonS σ o c y to ∧ reasonS σ o c y to ≤ 4 := by
  have hrn : reasonN σ o = if 16 ≤ σ 0 1 then 1 else if σ 1 0 ≤ ofN σ o then 2 else 0 := rfl
  unfold reasonS
  split
  · omega
  · split
    · omega
    · split
      · omega
      · split <;> omega
theorem reason_pos {σ : Nat → Int → Int} {o c y : Int} (h : 0 < y) : (reasonS σ o c y (-1) ≤ 0) ↔ (reasonN σ o = 0 ∧ y ≤ σ 4 c - highS σ c) := by
  have hrn : reasonN σ o = if 16 ≤ σ 0 1 then 1 else if σ 1 0 ≤ ofN σ o then 2 else 0 := rfl
  unfold reasonS
  by_cases q : reasonN σ o ≠ 0
  · rw [if_pos q]; omega
  · rw [if_neg q, if_neg (by omega)]
    by_cases z : 0 < y ∧ σ 4 c - highS σ c < y
    · rw [if_pos z]; omega
    · rw [if_neg z, if_neg (by omega)]; omega
theorem reason_neg {σ : Nat → Int → Int} {o c y : Int} (h : 0 < y) : (reasonS σ o c (-y) (-1) ≤ 0) ↔ (reasonN σ o = 0 ∧ y ≤ lowS σ c (σ 0 0) - σ 3 c) := by
  have hrn : reasonN σ o = if 16 ≤ σ 0 1 then 1 else if σ 1 0 ≤ ofN σ o then 2 else 0 := rfl
  unfold reasonS
  by_cases q : reasonN σ o ≠ 0
  · rw [if_pos q]; omega
  · rw [if_neg q]
    by_cases z : -y < 0 ∧ lowS σ c (σ 0 0) - σ 3 c < - -y
    · rw [if_pos z]; omega
    · rw [if_neg z, if_neg (by omega), if_neg (by omega)]; omega
