/-! the fewest promises whose changes sum to d, among the first k -/
def cmb (x y : Int) : Int := if y ≠ -1 ∧ (x = -1 ∨ y + 1 < x) then y + 1 else x
theorem cmb_no (x : Int) : cmb x (-1) = x := by unfold cmb; rw [if_neg (by omega)]
def FW (σ : Nat → Int → Int) (c : Int) : Nat → Int → Int
  | 0 => fun d => if d = 0 then 0 else -1
  | k + 1 => fun d => if chg σ (k : Int) c = 0 then FW σ c k d else cmb (FW σ c k d) (FW σ c k (d - chg σ (k : Int) c))
theorem FW_step (σ : Nat → Int → Int) (c d : Int) {p : Int} (h : 0 ≤ p) : FW σ c (p + 1).toNat d = if chg σ p c = 0 then FW σ c p.toNat d else cmb (FW σ c p.toNat d) (FW σ c p.toNat (d - chg σ p c)) := by
  obtain ⟨n, rfl⟩ := Int.eq_ofNat_of_zero_le h
  rfl
theorem FW_r (σ : Nat → Int → Int) (c : Int) : ∀ (k : Nat) (d : Int), -1 ≤ FW σ c k d ∧ FW σ c k d ≤ (k : Int)
  | 0, d => by
    show -1 ≤ (if d = 0 then (0 : Int) else -1) ∧ (if d = 0 then (0 : Int) else -1) ≤ ((0 : Nat) : Int)
    split <;> omega
  | k + 1, d => by
    have h1 := FW_r σ c k d
    have h2 := FW_r σ c k (d - chg σ (k : Int) c)
    show -1 ≤ (if chg σ (k : Int) c = 0 then FW σ c k d else cmb (FW σ c k d) (FW σ c k (d - chg σ (k : Int) c))) ∧ (if chg σ (k : Int) c = 0 then FW σ c k d else cmb (FW σ c k d) (FW σ c k (d - chg σ (k : Int) c))) ≤ ((k + 1 : Nat) : Int)
    unfold cmb
    split
    · omega
    · split <;> omega
def mnS (σ : Nat → Int → Int) (c : Int) (k : Nat) : Int := sm (fun p => min (chg σ p c) 0) k
def mxS (σ : Nat → Int → Int) (c : Int) (k : Nat) : Int := sm (fun p => max (chg σ p c) 0) k
theorem FW_sup (σ : Nat → Int → Int) (c : Int) : ∀ (k : Nat) (d : Int), FW σ c k d ≠ -1 → mnS σ c k ≤ d ∧ d ≤ mxS σ c k
  | 0, d, h => by
    have h2 : (if d = 0 then (0 : Int) else -1) ≠ -1 := h
    have h3 : d = 0 := by
      by_cases q : d = 0
      · exact q
      · rw [if_neg q] at h2; exact absurd rfl h2
    show (0 : Int) ≤ d ∧ d ≤ 0
    omega
  | k + 1, d, h => by
    have h0 : (if chg σ (k : Int) c = 0 then FW σ c k d else cmb (FW σ c k d) (FW σ c k (d - chg σ (k : Int) c))) ≠ -1 := h
    have e1 : mnS σ c (k + 1) = mnS σ c k + min (chg σ (k : Int) c) 0 := rfl
    have e2 : mxS σ c (k + 1) = mxS σ c k + max (chg σ (k : Int) c) 0 := rfl
    by_cases q : FW σ c k d = -1
    · by_cases z : chg σ (k : Int) c = 0
      · rw [if_pos z] at h0; exact absurd q h0
      · rw [if_neg z] at h0
        by_cases w : FW σ c k (d - chg σ (k : Int) c) = -1
        · rw [w, cmb_no] at h0; exact absurd q h0
        · have := FW_sup σ c k (d - chg σ (k : Int) c) w
          omega
    · have := FW_sup σ c k d q
      omega
theorem sm_mono {g : Int → Int} {a b : Nat} (h : a ≤ b) (hg : ∀ j : Int, 0 ≤ j → j < (b : Int) → 0 ≤ g j) : sm g a ≤ sm g b := by
  induction b with
  | zero => rw [show a = 0 by omega]; exact Int.le_refl _
  | succ b ih =>
    by_cases q : a = b + 1
    · rw [q]; exact Int.le_refl _
    · have h1 := ih (by omega) (fun j h0 h1 => hg j h0 (by omega))
      have h2 := hg (b : Int) (by omega) (by omega)
      show sm g a ≤ sm g b + g (b : Int)
      omega
theorem sm_anti {g : Int → Int} {a b : Nat} (h : a ≤ b) (hg : ∀ j : Int, 0 ≤ j → j < (b : Int) → g j ≤ 0) : sm g b ≤ sm g a := by
  induction b with
  | zero => rw [show a = 0 by omega]; exact Int.le_refl _
  | succ b ih =>
    by_cases q : a = b + 1
    · rw [q]; exact Int.le_refl _
    · have h1 := ih (by omega) (fun j h0 h1 => hg j h0 (by omega))
      have h2 := hg (b : Int) (by omega) (by omega)
      show sm g b + g (b : Int) ≤ sm g a
      omega
theorem low_mn {σ : Nat → Int → Int} (hI : Inv σ) (c : Int) : lowS σ c (σ 0 0) = σ 2 c + mnS σ c (σ 0 1).toNat := by
  have hn := hI.n
  unfold lowS mnS
  rw [sm_congr (h := fun p => min (chg σ p c) 0) (fun j h0 h1 => by
    have hq := (hI.pr h0 (by omega)).2.2.2.2.1
    exact if_pos hq)]
theorem high_mx (σ : Nat → Int → Int) (c : Int) : highS σ c = σ 2 c + mxS σ c (σ 0 1).toNat := rfl
theorem sm_add (g h : Int → Int) : ∀ n : Nat, sm (fun j => g j + h j) n = sm g n + sm h n
  | 0 => rfl
  | n + 1 => by
    show sm (fun j => g j + h j) n + (g (n : Int) + h (n : Int)) = sm g n + g (n : Int) + (sm h n + h (n : Int))
    rw [sm_add g h n]; omega
theorem sm_neg (g : Int → Int) : ∀ n : Nat, sm (fun j => -g j) n = -sm g n
  | 0 => rfl
  | n + 1 => by
    show sm (fun j => -g j) n + -g (n : Int) = -(sm g n + g (n : Int))
    rw [sm_neg g n]; omega
theorem mx_r {σ : Nat → Int → Int} (hI : Inv σ) (c : Int) {k : Nat} (hk : (k : Int) ≤ σ 0 1) : mxS σ c k - mnS σ c k ≤ 99 * (k : Int) ∧ 0 ≤ mxS σ c k ∧ mnS σ c k ≤ 0 := by
  refine ⟨?_, sm_nn (fun j _ _ => by show 0 ≤ max _ _; omega), sm_np (fun j _ _ => by show min _ _ ≤ _; omega)⟩
  have h1 : sm (fun j => max (chg σ j c) 0 + -min (chg σ j c) 0) k ≤ sm (fun _ => 99) k := sm_le (fun j h0 h1 => by
    have hr := chg_r (hI.pr h0 (by omega)) c
    show max _ _ + -min _ _ ≤ (99 : Int)
    omega)
  rw [sm_const, sm_add (fun j => max (chg σ j c) 0) (fun j => -min (chg σ j c) 0), sm_neg (fun j => min (chg σ j c) 0)] at h1
  unfold mxS mnS
  omega
theorem mn_mono (σ : Nat → Int → Int) (c : Int) {a b : Nat} (h : a ≤ b) : mnS σ c b ≤ mnS σ c a := sm_anti h (fun j _ _ => by show min _ _ ≤ _; omega)
theorem mx_mono (σ : Nat → Int → Int) (c : Int) {a b : Nat} (h : a ≤ b) : mxS σ c a ≤ mxS σ c b := sm_mono h (fun j _ _ => by show 0 ≤ max _ _; omega)
/-- a row with cmb laid over a stretch -/
def mapT (g : Int → Int) (off lo hi : Int) : Int → Int := fun k => if lo ≤ k ∧ k ≤ hi then cmb (g k) (g (k - off)) else g k
def impR (g : Int → Int) (i j : Int) : Int → Int := if g j ≠ -1 ∧ (g i = -1 ∨ g j + 1 < g i) then uI g i (g j + 1) else g
theorem impR_def (g : Int → Int) (i j : Int) : impR g i j = if g j ≠ -1 ∧ (g i = -1 ∨ g j + 1 < g i) then uI g i (g j + 1) else g := rfl
theorem impR_cmb (g : Int → Int) (i j : Int) : impR g i j = uI g i (cmb (g i) (g j)) := by
  unfold impR cmb
  by_cases h : g j ≠ -1 ∧ (g i = -1 ∨ g j + 1 < g i)
  · rw [if_pos h, if_pos h]
  · rw [if_neg h, if_neg h]
    funext k
    by_cases e : k = i
    · rw [e, uI_s]
    · rw [uI_n e]
theorem mapT_out {g : Int → Int} {off lo hi k : Int} (h : ¬ (lo ≤ k ∧ k ≤ hi)) : mapT g off lo hi k = g k := if_neg h
theorem mapT_in {g : Int → Int} {off lo hi k : Int} (h : lo ≤ k ∧ k ≤ hi) : mapT g off lo hi k = cmb (g k) (g (k - off)) := if_pos h
theorem mapT_0 {g : Int → Int} {off lo hi : Int} (h : hi < lo) : g = mapT g off lo hi := by
  funext k; rw [mapT_out (by omega)]
theorem mapT_up {g : Int → Int} {off i hi : Int} (h0 : 0 < off) (h : i ≤ hi) : impR (mapT g off (i + 1) hi) i (i - off) = mapT g off i hi := by
  rw [impR_cmb, mapT_out (by omega), mapT_out (by omega)]
  funext k
  by_cases e : k = i
  · rw [e, uI_s, mapT_in (by omega)]
  · rw [uI_n e]
    by_cases q : i + 1 ≤ k ∧ k ≤ hi
    · rw [mapT_in q, mapT_in (by omega)]
    · rw [mapT_out q, mapT_out (by omega)]
theorem mapT_dn {g : Int → Int} {off lo i : Int} (h0 : off < 0) (h : lo ≤ i) : impR (mapT g off lo (i - 1)) i (i - off) = mapT g off lo i := by
  rw [impR_cmb, mapT_out (by omega), mapT_out (by omega)]
  funext k
  by_cases e : k = i
  · rw [e, uI_s, mapT_in (by omega)]
  · rw [uI_n e]
    by_cases q : lo ≤ k ∧ k ≤ i - 1
    · rw [mapT_in q, mapT_in (by omega)]
    · rw [mapT_out q, mapT_out (by omega)]
/-- the row of the first k promises becomes that of k + 1 -/
theorem FW_up {σ : Nat → Int → Int} {c : Int} {g : Int → Int} {p B span bot top : Int} (hp : 0 ≤ p) (hg : ∀ i : Int, 0 ≤ i → i ≤ span → g i = FW σ c p.toNat (i - B)) (hb : bot = B + mnS σ c p.toNat) (ht : top = B + mxS σ c p.toNat + chg σ p c) (h0 : 0 ≤ bot) (hts : top ≤ span) (hc : 0 < chg σ p c) :
    ∀ i : Int, 0 ≤ i → i ≤ span → mapT g (chg σ p c) (bot + chg σ p c) top i = FW σ c (p + 1).toNat (i - B) := by
  intro i h1 h2
  rw [FW_step σ c (i - B) hp, if_neg (by omega)]
  by_cases q : bot + chg σ p c ≤ i ∧ i ≤ top
  · rw [mapT_in q, hg i h1 h2, hg (i - chg σ p c) (by omega) (by omega), show i - chg σ p c - B = i - B - chg σ p c by omega]
  · rw [mapT_out q, hg i h1 h2]
    by_cases z : FW σ c p.toNat (i - B - chg σ p c) = -1
    · rw [z, cmb_no]
    · have := FW_sup σ c p.toNat _ z
      omega
theorem FW_dn {σ : Nat → Int → Int} {c : Int} {g : Int → Int} {p B span bot top : Int} (hp : 0 ≤ p) (hg : ∀ i : Int, 0 ≤ i → i ≤ span → g i = FW σ c p.toNat (i - B)) (hb : bot = B + mnS σ c p.toNat + chg σ p c) (ht : top = B + mxS σ c p.toNat) (h0 : 0 ≤ bot) (hts : top ≤ span) (hc : chg σ p c < 0) :
    ∀ i : Int, 0 ≤ i → i ≤ span → mapT g (chg σ p c) bot (top + chg σ p c) i = FW σ c (p + 1).toNat (i - B) := by
  intro i h1 h2
  rw [FW_step σ c (i - B) hp, if_neg (by omega)]
  by_cases q : bot ≤ i ∧ i ≤ top + chg σ p c
  · rw [mapT_in q, hg i h1 h2, hg (i - chg σ p c) (by omega) (by omega), show i - chg σ p c - B = i - B - chg σ p c by omega]
  · rw [mapT_out q, hg i h1 h2]
    by_cases z : FW σ c p.toNat (i - B - chg σ p c) = -1
    · rw [z, cmb_no]
    · have := FW_sup σ c p.toNat _ z
      omega
def cntW (σ : Nat → Int → Int) (c : Int) : Int := sm (fun k => if FW σ c (σ 0 1).toNat (k - 1584) = -1 then 0 else 1) 3169
def fewS (σ : Nat → Int → Int) (c x : Int) : Int := if x < lowS σ c (σ 0 0) ∨ highS σ c < x then -1 else FW σ c (σ 0 1).toNat (x - σ 2 c)
theorem sm_split (g : Int → Int) (a : Nat) : ∀ b : Nat, sm g (a + b) = sm g a + sm (fun j => g (j + (a : Int))) b
  | 0 => by show sm g a = sm g a + 0; omega
  | b + 1 => by
    show sm g (a + b) + g ((a + b : Nat) : Int) = sm g a + (sm (fun j => g (j + (a : Int))) b + g ((b : Int) + (a : Int)))
    rw [sm_split g a b, show ((a + b : Nat) : Int) = (b : Int) + (a : Int) by omega]; omega
theorem sm_zero {g : Int → Int} {n : Nat} (h : ∀ j : Int, 0 ≤ j → j < (n : Int) → g j = 0) : sm g n = 0 := by
  rw [sm_congr (h := fun _ => 0) h, sm_const]; omega
theorem cnt_eq {σ : Nat → Int → Int} (hI : Inv σ) (c : Int) {B span : Int} (hB : B = σ 2 c - lowS σ c (σ 0 0)) (hsp : span = highS σ c - lowS σ c (σ 0 0)) : sm (fun i => if FW σ c (σ 0 1).toNat (i - B) = -1 then 0 else 1) (span + 1).toNat = cntW σ c := by
  have hn := hI.n
  have hr := mx_r hI c (k := (σ 0 1).toNat) (by omega)
  have hl := low_mn hI c
  have hh := high_mx σ c
  have hsup := FW_sup σ c (σ 0 1).toNat
  unfold cntW
  have e : (3169 : Nat) = (1584 - B).toNat + ((span + 1).toNat + (1584 - (span - B)).toNat) := by omega
  rw [e, sm_split, sm_split]
  rw [sm_zero (n := (1584 - B).toNat) (fun j h0 h1 => by
    refine if_pos (Classical.byContradiction fun z => ?_)
    have := hsup _ z; omega)]
  rw [sm_zero (n := (1584 - (span - B)).toNat) (fun j h0 h1 => by
    refine if_pos (Classical.byContradiction fun z => ?_)
    have := hsup _ z; omega)]
  rw [sm_congr (g := fun j => if FW σ c (σ 0 1).toNat (j + ((1584 - B).toNat : Int) - 1584) = -1 then (0 : Int) else 1) (h := fun i => if FW σ c (σ 0 1).toNat (i - B) = -1 then 0 else 1) (fun j h0 h1 => by
    show (if FW σ c (σ 0 1).toNat (j + ((1584 - B).toNat : Int) - 1584) = -1 then (0 : Int) else 1) = if FW σ c (σ 0 1).toNat (j - B) = -1 then 0 else 1
    rw [show j + ((1584 - B).toNat : Int) - 1584 = j - B by omega])]
  omega
theorem ocW_eq {cI : ClassId} {b : Nat → Nat} {X Y : Nat → Int → Int} (h : X 1 = Y 1) : ocW cI b X = ocW cI b Y := by unfold ocW; rw [h]
