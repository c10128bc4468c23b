/-! what the law looks at, as a function of the state (no machine here) -/
theorem cmb_one {y : Int} (h : 0 ≤ y) : cmb (-1) y = y + 1 := by unfold cmb; rw [if_pos ⟨by omega, Or.inl rfl⟩]
theorem cmb_le {x y : Int} (hx : 0 ≤ x) (hy : -1 ≤ y) : 0 ≤ cmb x y ∧ cmb x y ≤ x := by unfold cmb; split <;> omega
def inC (σ : Nat → Int → Int) (c : Int) (k : Nat) : Int := sm (fun p => if chg σ p c = 0 then 0 else 1) k
def ngN (σ : Nat → Int → Int) (c : Int) (k : Nat) : Int := sm (fun p => if chg σ p c < 0 then 1 else 0) k
def psN (σ : Nat → Int → Int) (c : Int) (k : Nat) : Int := sm (fun p => if 0 < chg σ p c then 1 else 0) k
theorem ng_ps (σ : Nat → Int → Int) (c : Int) (k : Nat) : ngN σ c k + psN σ c k = inC σ c k := by
  unfold ngN psN inC
  rw [← sm_add]
  exact sm_congr (fun j _ _ => by
    show (if chg σ j c < 0 then (1 : Int) else 0) + (if 0 < chg σ j c then (1 : Int) else 0) = if chg σ j c = 0 then (0 : Int) else 1
    split <;> split <;> split <;> omega)
theorem FW_bot (σ : Nat → Int → Int) (c : Int) : ∀ k : Nat, 0 ≤ FW σ c k (mnS σ c k) ∧ FW σ c k (mnS σ c k) ≤ ngN σ c k
  | 0 => by
    show 0 ≤ (if (0 : Int) = 0 then (0 : Int) else -1) ∧ (if (0 : Int) = 0 then (0 : Int) else -1) ≤ (0 : Int)
    rw [if_pos rfl]; omega
  | k + 1 => by
    have ih := FW_bot σ c k
    have hs := FW_sup σ c k
    have hr := FW_r σ c k
    have e1 : mnS σ c (k + 1) = mnS σ c k + min (chg σ (k : Int) c) 0 := rfl
    have e2 : ngN σ c (k + 1) = ngN σ c k + (if chg σ (k : Int) c < 0 then (1 : Int) else 0) := rfl
    have e3 : FW σ c (k + 1) (mnS σ c (k + 1)) = if chg σ (k : Int) c = 0 then FW σ c k (mnS σ c (k + 1)) else cmb (FW σ c k (mnS σ c (k + 1))) (FW σ c k (mnS σ c (k + 1) - chg σ (k : Int) c)) := rfl
    rw [e3, e2]
    by_cases z : chg σ (k : Int) c = 0
    · have eM : mnS σ c (k + 1) = mnS σ c k := by omega
      rw [if_pos z, if_neg (by omega), eM]; omega
    · rw [if_neg z]
      by_cases y : chg σ (k : Int) c < 0
      · have eM : mnS σ c (k + 1) = mnS σ c k + chg σ (k : Int) c := by omega
        have hn : FW σ c k (mnS σ c k + chg σ (k : Int) c) = -1 := Classical.byContradiction fun q => by have := hs _ q; omega
        rw [if_pos y, eM, hn, show mnS σ c k + chg σ (k : Int) c - chg σ (k : Int) c = mnS σ c k by omega, cmb_one ih.1]; omega
      · have eM : mnS σ c (k + 1) = mnS σ c k := by omega
        have h9 := cmb_le ih.1 (hr (mnS σ c k - chg σ (k : Int) c)).1
        rw [if_neg y, eM]; omega
theorem FW_top (σ : Nat → Int → Int) (c : Int) : ∀ k : Nat, 0 ≤ FW σ c k (mxS σ c k) ∧ FW σ c k (mxS σ c k) ≤ psN σ c k
  | 0 => by
    show 0 ≤ (if (0 : Int) = 0 then (0 : Int) else -1) ∧ (if (0 : Int) = 0 then (0 : Int) else -1) ≤ (0 : Int)
    rw [if_pos rfl]; omega
  | k + 1 => by
    have ih := FW_top σ c k
    have hs := FW_sup σ c k
    have hr := FW_r σ c k
    have e1 : mxS σ c (k + 1) = mxS σ c k + max (chg σ (k : Int) c) 0 := rfl
    have e2 : psN σ c (k + 1) = psN σ c k + (if 0 < chg σ (k : Int) c then (1 : Int) else 0) := rfl
    have e3 : FW σ c (k + 1) (mxS σ c (k + 1)) = if chg σ (k : Int) c = 0 then FW σ c k (mxS σ c (k + 1)) else cmb (FW σ c k (mxS σ c (k + 1))) (FW σ c k (mxS σ c (k + 1) - chg σ (k : Int) c)) := rfl
    rw [e3, e2]
    by_cases z : chg σ (k : Int) c = 0
    · have eM : mxS σ c (k + 1) = mxS σ c k := by omega
      rw [if_pos z, if_neg (by omega), eM]; omega
    · rw [if_neg z]
      by_cases y : 0 < chg σ (k : Int) c
      · have eM : mxS σ c (k + 1) = mxS σ c k + chg σ (k : Int) c := by omega
        have hn : FW σ c k (mxS σ c k + chg σ (k : Int) c) = -1 := Classical.byContradiction fun q => by have := hs _ q; omega
        rw [if_pos y, eM, hn, show mxS σ c k + chg σ (k : Int) c - chg σ (k : Int) c = mxS σ c k by omega, cmb_one ih.1]; omega
      · have eM : mxS σ c (k + 1) = mxS σ c k := by omega
        have h9 := cmb_le ih.1 (hr (mxS σ c k - chg σ (k : Int) c)).1
        rw [if_neg y, eM]; omega
/-- the low and the high can be come to, by unlike promises -/
theorem few_lh {σ : Nat → Int → Int} (hI : Inv σ) {c : Int} (c0 : 0 ≤ c) (c1 : c < 4) : 0 ≤ fewS σ c (lowS σ c (σ 0 0)) ∧ 0 ≤ fewS σ c (highS σ c) ∧ fewS σ c (lowS σ c (σ 0 0)) + fewS σ c (highS σ c) ≤ chN σ c ∧ fewS σ c (lowS σ c (σ 0 0)) ≤ 16 ∧ fewS σ c (highS σ c) ≤ 16 := by
  have hc := hI.c c0 c1
  have hl := low_mn hI c
  have hh := high_mx σ c
  have hn := hI.n
  have h1 := FW_bot σ c (σ 0 1).toNat
  have h2 := FW_top σ c (σ 0 1).toNat
  have h3 := ng_ps σ c (σ 0 1).toNat
  have h4 := (FW_r σ c (σ 0 1).toNat (mnS σ c (σ 0 1).toNat)).2
  have h5 := (FW_r σ c (σ 0 1).toNat (mxS σ c (σ 0 1).toNat)).2
  have e3 : chN σ c = inC σ c (σ 0 1).toNat := rfl
  have e1 : fewS σ c (lowS σ c (σ 0 0)) = FW σ c (σ 0 1).toNat (mnS σ c (σ 0 1).toNat) := by
    unfold fewS
    rw [if_neg (by omega), show lowS σ c (σ 0 0) - σ 2 c = mnS σ c (σ 0 1).toNat by omega]
  have e2 : fewS σ c (highS σ c) = FW σ c (σ 0 1).toNat (mxS σ c (σ 0 1).toNat) := by
    unfold fewS
    rw [if_neg (by omega), show highS σ c - σ 2 c = mxS σ c (σ 0 1).toNat by omega]
  rw [e1, e2, e3]
  omega
/-! values that could be are no more than sets of promises -/
def inD (σ : Nat → Int → Int) (c : Int) (k : Nat) (i : Int) : Int := if FW σ c k (i - 1584) = -1 then 0 else 1
theorem inD_r (σ : Nat → Int → Int) (c : Int) (k : Nat) (i : Int) : 0 ≤ inD σ c k i ∧ inD σ c k i ≤ 1 := by unfold inD; split <;> omega
theorem sm_sh {f : Int → Int} {N : Nat} (h0 : ∀ j : Int, 0 ≤ f j) (hz : ∀ j : Int, (j < 0 ∨ (N : Int) ≤ j) → f j = 0) (t : Int) : sm (fun i => f (i - t)) N ≤ sm f N := by
  by_cases ht : 0 ≤ t
  · obtain ⟨u, rfl⟩ := Int.eq_ofNat_of_zero_le ht
    by_cases hu : u ≤ N
    · have h1 : sm (fun i => f (i - (u : Int))) (u + (N - u)) = sm (fun i => f (i - (u : Int))) u + sm (fun j => f (j + (u : Int) - (u : Int))) (N - u) := sm_split (fun i => f (i - (u : Int))) u (N - u)
      have h2 : sm (fun i => f (i - (u : Int))) u = 0 := sm_zero (fun j j0 j1 => hz _ (Or.inl (by omega)))
      have h3 : sm (fun j => f (j + (u : Int) - (u : Int))) (N - u) = sm f (N - u) := sm_congr (fun j _ _ => by
        show f (j + (u : Int) - (u : Int)) = f j
        rw [show j + (u : Int) - (u : Int) = j by omega])
      have h4 : sm f (N - u) ≤ sm f N := sm_mono (by omega) (fun j _ _ => h0 j)
      have e : u + (N - u) = N := by omega
      rw [e] at h1
      rw [h1, h2, h3]; omega
    · have h2 : sm (fun i => f (i - (u : Int))) N = 0 := sm_zero (fun j j0 j1 => hz _ (Or.inl (by omega)))
      have h5 := sm_nn (g := f) (n := N) (fun j _ _ => h0 j)
      rw [h2]; exact h5
  · obtain ⟨u, hu⟩ := Int.eq_ofNat_of_zero_le (show 0 ≤ -t by omega)
    have h1 : sm f (u + N) = sm f u + sm (fun j => f (j + (u : Int))) N := sm_split f u N
    have h2 : sm f (N + u) = sm f N + sm (fun j => f (j + (N : Int))) u := sm_split f N u
    have h3 : sm (fun j => f (j + (N : Int))) u = 0 := sm_zero (fun j j0 _ => hz _ (Or.inr (by omega)))
    have h4 : sm (fun i => f (i - t)) N = sm (fun j => f (j + (u : Int))) N := sm_congr (fun j _ _ => by
      show f (j - t) = f (j + (u : Int))
      rw [show j - t = j + (u : Int) by omega])
    have h5 := sm_nn (g := f) (n := u) (fun j _ _ => h0 j)
    have h6 : u + N = N + u := Nat.add_comm _ _
    rw [h6] at h1
    rw [h4]; omega
def pw2 (n : Int) : Int := ((2 ^ n.toNat : Nat) : Int)
theorem pw2_s {n : Int} (h : 0 ≤ n) : pw2 (n + 1) = 2 * pw2 n := by
  obtain ⟨k, rfl⟩ := Int.eq_ofNat_of_zero_le h
  show ((2 ^ (k + 1) : Nat) : Int) = 2 * ((2 ^ k : Nat) : Int)
  rw [Nat.pow_succ]; omega
theorem sm_at (a : Int) : ∀ n : Nat, sm (fun j => if j = a then 1 else 0) n = if 0 ≤ a ∧ a < (n : Int) then 1 else 0
  | 0 => by
    show (0 : Int) = _
    rw [if_neg (by omega)]
  | n + 1 => by
    show sm (fun j => if j = a then 1 else 0) n + (if (n : Int) = a then (1 : Int) else 0) = _
    rw [sm_at a n]
    split <;> split <;> split <;> omega
theorem cmb_ind {X Y : Int} (hX : -1 ≤ X) (hY : -1 ≤ Y) : (if cmb X Y = -1 then (0 : Int) else 1) ≤ (if X = -1 then (0 : Int) else 1) + (if Y = -1 then (0 : Int) else 1) := by
  have h1 : (if cmb X Y = -1 then (0 : Int) else 1) ≤ 1 := by split <;> omega
  have h2 : 0 ≤ (if X = -1 then (0 : Int) else 1) := by split <;> omega
  have h3 : 0 ≤ (if Y = -1 then (0 : Int) else 1) := by split <;> omega
  generalize ea : (if cmb X Y = -1 then (0 : Int) else 1) = a at h1 ⊢
  generalize eb : (if X = -1 then (0 : Int) else 1) = b at h2 ⊢
  generalize ec : (if Y = -1 then (0 : Int) else 1) = d at h3 ⊢
  by_cases x : X = -1
  · by_cases y : Y = -1
    · have h : cmb X Y = -1 := by rw [y, cmb_no, x]
      rw [if_pos h] at ea; omega
    · rw [if_neg y] at ec; omega
  · rw [if_neg x] at eb; omega
theorem cntK_le {σ : Nat → Int → Int} (hI : Inv σ) (c : Int) : ∀ k : Nat, (k : Int) ≤ σ 0 1 → sm (inD σ c k) 3169 ≤ pw2 (inC σ c k)
  | 0, _ => by
    have h1 : sm (inD σ c 0) 3169 ≤ sm (fun j => if j = 1584 then 1 else 0) 3169 := sm_le (fun j _ _ => by
      show (if (if j - 1584 = 0 then (0 : Int) else -1) = -1 then (0 : Int) else 1) ≤ if j = 1584 then (1 : Int) else 0
      by_cases q : j = 1584
      · have h1 : (if (if j - 1584 = 0 then (0 : Int) else -1) = -1 then (0 : Int) else 1) ≤ 1 := by split <;> omega
        rw [if_pos q]; exact h1
      · have h1 : (if j - 1584 = 0 then (0 : Int) else -1) = -1 := if_neg (by omega)
        exact Int.le_of_eq ((if_pos h1).trans (if_neg q).symm))
    have h2 := sm_at 1584 3169
    rw [if_pos (by omega)] at h2
    have h3 : pw2 (inC σ c 0) = 1 := rfl
    omega
  | k + 1, hk => by
    have ih := cntK_le hI c k (by omega)
    have hn := hI.n
    have hr := FW_r σ c k
    have hs := FW_sup σ c k
    have hm := mx_r hI c (k := k) (by omega)
    have e1 : inC σ c (k + 1) = inC σ c k + (if chg σ (k : Int) c = 0 then (0 : Int) else 1) := rfl
    have h0 : 0 ≤ inC σ c k := sm_nn (fun j _ _ => by show 0 ≤ (if chg σ j c = 0 then (0 : Int) else 1); split <;> omega)
    by_cases z : chg σ (k : Int) c = 0
    · rw [if_pos z] at e1
      rw [e1, Int.add_zero]
      rw [sm_congr (g := inD σ c (k + 1)) (h := inD σ c k) (fun j _ _ => by
        show (if (if chg σ (k : Int) c = 0 then FW σ c k (j - 1584) else cmb (FW σ c k (j - 1584)) (FW σ c k (j - 1584 - chg σ (k : Int) c))) = -1 then (0 : Int) else 1) = if FW σ c k (j - 1584) = -1 then (0 : Int) else 1
        rw [if_pos z])]
      exact ih
    · rw [if_neg z] at e1
      rw [e1, pw2_s h0]
      have h1 : sm (inD σ c (k + 1)) 3169 ≤ sm (fun j => inD σ c k j + inD σ c k (j - chg σ (k : Int) c)) 3169 := sm_le (fun j _ _ => by
        show (if (if chg σ (k : Int) c = 0 then FW σ c k (j - 1584) else cmb (FW σ c k (j - 1584)) (FW σ c k (j - 1584 - chg σ (k : Int) c))) = -1 then (0 : Int) else 1) ≤ (if FW σ c k (j - 1584) = -1 then (0 : Int) else 1) + (if FW σ c k (j - chg σ (k : Int) c - 1584) = -1 then (0 : Int) else 1)
        rw [if_neg z, show j - chg σ (k : Int) c - 1584 = j - 1584 - chg σ (k : Int) c by omega]
        have r1 := hr (j - 1584)
        have r2 := hr (j - 1584 - chg σ (k : Int) c)
        exact cmb_ind r1.1 r2.1)
      have h5 : sm (fun j => inD σ c k j + inD σ c k (j - chg σ (k : Int) c)) 3169 = sm (inD σ c k) 3169 + sm (fun j => inD σ c k (j - chg σ (k : Int) c)) 3169 := sm_add (inD σ c k) (fun j => inD σ c k (j - chg σ (k : Int) c)) 3169
      have h2 : sm (fun j => inD σ c k (j - chg σ (k : Int) c)) 3169 ≤ sm (inD σ c k) 3169 := sm_sh (fun j => (inD_r σ c k j).1) (fun j hj => by
        show (if FW σ c k (j - 1584) = -1 then (0 : Int) else 1) = 0
        refine if_pos (Classical.byContradiction fun q => ?_)
        have := hs _ q
        omega) _
      omega
theorem sm_fst {g : Int → Int} {n : Nat} (hn : 1 ≤ n) (hg : ∀ j : Int, 0 ≤ j → j < (n : Int) → 0 ≤ g j) : g 0 ≤ sm g n := by
  have h := sm_mono (g := g) (a := 1) (b := n) hn hg
  have e : sm g 1 = 0 + g 0 := rfl
  omega
theorem span_ge {σ : Nat → Int → Int} (hI : Inv σ) (c : Int) : chN σ c ≤ highS σ c - lowS σ c (σ 0 0) := by
  have hl := low_mn hI c
  have hh := high_mx σ c
  have h1 : sm (fun p => if chg σ p c = 0 then (0 : Int) else 1) (σ 0 1).toNat ≤ sm (fun j => max (chg σ j c) 0 + -min (chg σ j c) 0) (σ 0 1).toNat := sm_le (fun j _ _ => by
    show (if chg σ j c = 0 then (0 : Int) else 1) ≤ max (chg σ j c) 0 + -min (chg σ j c) 0
    split <;> omega)
  rw [sm_add (fun j => max (chg σ j c) 0) (fun j => -min (chg σ j c) 0), sm_neg (fun j => min (chg σ j c) 0)] at h1
  have e1 : chN σ c = sm (fun p => if chg σ p c = 0 then (0 : Int) else 1) (σ 0 1).toNat := rfl
  have e2 : mxS σ c (σ 0 1).toNat = sm (fun j => max (chg σ j c) 0) (σ 0 1).toNat := rfl
  have e3 : mnS σ c (σ 0 1).toNat = sm (fun j => min (chg σ j c) 0) (σ 0 1).toNat := rfl
  omega
theorem chN_r {σ : Nat → Int → Int} (hI : Inv σ) (c : Int) : 0 ≤ chN σ c ∧ chN σ c ≤ 16 := by
  have h1 := sm_01 (g := fun p => if chg σ p c = 0 then (0 : Int) else 1) (n := (σ 0 1).toNat) (fun j _ _ => by (try dsimp only); split <;> omega)
  have hn := hI.n
  have e1 : chN σ c = sm (fun p => if chg σ p c = 0 then (0 : Int) else 1) (σ 0 1).toNat := rfl
  omega
theorem cnt_r {σ : Nat → Int → Int} (hI : Inv σ) {c : Int} (c0 : 0 ≤ c) (c1 : c < 4) : 1 ≤ cntW σ c ∧ cntW σ c ≤ pw2 (chN σ c) ∧ cntW σ c ≤ highS σ c - lowS σ c (σ 0 0) + 1 ∧ (chN σ c = 0 ∨ 2 ≤ cntW σ c) := by
  have hc := hI.c c0 c1
  have hl := low_mn hI c
  have hh := high_mx σ c
  have hn := hI.n
  have h1 := FW_bot σ c (σ 0 1).toNat
  have h2 := FW_top σ c (σ 0 1).toNat
  have hsp := span_ge hI c
  have hup : cntW σ c ≤ pw2 (chN σ c) := cntK_le hI c (σ 0 1).toNat (by omega)
  have he := cnt_eq hI c (B := σ 2 c - lowS σ c (σ 0 0)) (span := highS σ c - lowS σ c (σ 0 0)) rfl rfl
  generalize hg : (fun i : Int => if FW σ c (σ 0 1).toNat (i - (σ 2 c - lowS σ c (σ 0 0))) = -1 then (0 : Int) else 1) = g at he
  have hgj : ∀ j : Int, g j = if FW σ c (σ 0 1).toNat (j - (σ 2 c - lowS σ c (σ 0 0))) = -1 then (0 : Int) else 1 := fun j => by rw [← hg]
  have hg1 : ∀ j : Int, 0 ≤ g j ∧ g j ≤ 1 := fun j => by rw [hgj]; split <;> omega
  have g0 : g 0 = 1 := by
    rw [hgj, if_neg]
    rw [show (0 : Int) - (σ 2 c - lowS σ c (σ 0 0)) = mnS σ c (σ 0 1).toNat by omega]; omega
  have gs : g (highS σ c - lowS σ c (σ 0 0)) = 1 := by
    rw [hgj, if_neg]
    rw [show highS σ c - lowS σ c (σ 0 0) - (σ 2 c - lowS σ c (σ 0 0)) = mxS σ c (σ 0 1).toNat by omega]; omega
  have hle := (sm_01 (g := g) (n := (highS σ c - lowS σ c (σ 0 0) + 1).toNat) (fun j _ _ => hg1 j)).2
  have hst := sm_step (g := g) (p := highS σ c - lowS σ c (σ 0 0)) (by omega)
  have hnn := sm_nn (g := g) (n := (highS σ c - lowS σ c (σ 0 0)).toNat) (fun j _ _ => (hg1 j).1)
  refine ⟨by omega, hup, by omega, ?_⟩
  by_cases z : chN σ c = 0
  · exact Or.inl z
  · have hr := chN_r hI c
    have hf := sm_fst (g := g) (n := (highS σ c - lowS σ c (σ 0 0)).toNat) (by omega) (fun j _ _ => (hg1 j).1)
    exact Or.inr (by omega)
theorem pw2_r {n : Int} (h0 : 0 ≤ n) (h1 : n ≤ 16) : 1 ≤ pw2 n ∧ pw2 n ≤ 65536 := by
  rcases (show n = 0 ∨ n = 1 ∨ n = 2 ∨ n = 3 ∨ n = 4 ∨ n = 5 ∨ n = 6 ∨ n = 7 ∨ n = 8 ∨ n = 9 ∨ n = 10 ∨ n = 11 ∨ n = 12 ∨ n = 13 ∨ n = 14 ∨ n = 15 ∨ n = 16 by omega) with rfl | rfl | rfl | rfl | rfl | rfl | rfl | rfl | rfl | rfl | rfl | rfl | rfl | rfl | rfl | rfl | rfl <;> exact ⟨by decide, by decide⟩
theorem chSum_lh {σ : Nat → Int → Int} (hI : Inv σ) (c : Int) : chSum σ c = lowS σ c (σ 0 0) + highS σ c - 2 * σ 2 c := by
  have hl := low_mn hI c
  have hh := high_mx σ c
  have h1 : sm (fun j => min (chg σ j c) 0 + max (chg σ j c) 0) (σ 0 1).toNat = sm (fun j => min (chg σ j c) 0) (σ 0 1).toNat + sm (fun j => max (chg σ j c) 0) (σ 0 1).toNat := sm_add (fun p => min (chg σ p c) 0) (fun p => max (chg σ p c) 0) (σ 0 1).toNat
  have h2 : sm (fun p => chg σ p c) (σ 0 1).toNat = sm (fun j => min (chg σ j c) 0 + max (chg σ j c) 0) (σ 0 1).toNat := sm_congr (fun j _ _ => by
    show chg σ j c = min (chg σ j c) 0 + max (chg σ j c) 0
    omega)
  have e1 : chSum σ c = sm (fun p => chg σ p c) (σ 0 1).toNat := rfl
  have e2 : mxS σ c (σ 0 1).toNat = sm (fun j => max (chg σ j c) 0) (σ 0 1).toNat := rfl
  have e3 : mnS σ c (σ 0 1).toNat = sm (fun j => min (chg σ j c) 0) (σ 0 1).toNat := rfl
  omega
/-! by owners -/
theorem own_1 {x : Int} (h : 0 ≤ x ∧ x < 6) : sm (fun o => if x = o then 1 else 0) 6 = 1 := by
  rcases (show x = 0 ∨ x = 1 ∨ x = 2 ∨ x = 3 ∨ x = 4 ∨ x = 5 by omega) with rfl | rfl | rfl | rfl | rfl | rfl <;> rfl
theorem own_n (f : Int → Int) : ∀ n : Nat, (∀ j : Int, 0 ≤ j → j < (n : Int) → 0 ≤ f j ∧ f j < 6) → sm (fun o => sm (fun p => if f p = o then 1 else 0) n) 6 = (n : Int)
  | 0, _ => rfl
  | n + 1, h => by
    have h1 := own_n f n (fun j j0 j1 => h j j0 (by omega))
    have h2 := own_1 (h (n : Int) (by omega) (by omega))
    have h3 : sm (fun o => sm (fun p => if f p = o then 1 else 0) n + (if f (n : Int) = o then 1 else 0)) 6 = sm (fun o => sm (fun p => if f p = o then 1 else 0) n) 6 + sm (fun o => if f (n : Int) = o then 1 else 0) 6 := sm_add (fun o => sm (fun p => if f p = o then 1 else 0) n) (fun o => if f (n : Int) = o then 1 else 0) 6
    show sm (fun o => sm (fun p => if f p = o then 1 else 0) n + (if f (n : Int) = o then 1 else 0)) 6 = ((n + 1 : Nat) : Int)
    rw [h3, h1, h2]; omega
theorem of_all {σ : Nat → Int → Int} (hI : Inv σ) : sm (fun o => ofN σ o) 6 = σ 0 1 := by
  have hn := hI.n
  have h := own_n (σ 5) (σ 0 1).toNat (fun j j0 j1 => (hI.pr j0 (by omega)).1)
  have e : sm (fun o => ofN σ o) 6 = sm (fun o => sm (fun p => if σ 5 p = o then 1 else 0) (σ 0 1).toNat) 6 := rfl
  omega
theorem ofSz_ge {σ : Nat → Int → Int} (hI : Inv σ) (o : Int) : ofN σ o ≤ ofSz σ o ∧ ofSz σ o ≤ 1584 := by
  have hn := hI.n
  have h1 : sm (fun p => if σ 5 p = o then (1 : Int) else 0) (σ 0 1).toNat ≤ sm (fun p => if σ 5 p = o then aI (σ 7 p) else 0) (σ 0 1).toNat := sm_le (fun j j0 j1 => by
    have hp := (hI.pr (p := j) j0 (by omega)).2.2.1
    show (if σ 5 j = o then (1 : Int) else 0) ≤ if σ 5 j = o then aI (σ 7 j) else 0
    unfold aI
    split
    · split <;> omega
    · omega)
  have h2 : sm (fun p => if σ 5 p = o then aI (σ 7 p) else 0) (σ 0 1).toNat ≤ sm (fun _ => 99) (σ 0 1).toNat := sm_le (fun j j0 j1 => by
    have hp := (hI.pr (p := j) j0 (by omega)).2.2.1
    show (if σ 5 j = o then aI (σ 7 j) else 0) ≤ (99 : Int)
    unfold aI
    split
    · split <;> omega
    · omega)
  rw [sm_const] at h2
  have e1 : ofN σ o = sm (fun p => if σ 5 p = o then (1 : Int) else 0) (σ 0 1).toNat := rfl
  have e2 : ofSz σ o = sm (fun p => if σ 5 p = o then aI (σ 7 p) else 0) (σ 0 1).toNat := rfl
  omega
/-! promises made are those that there are, that were settled, cancelled and lapsed -/
def ME (σ : Nat → Int → Int) : Prop := σ 0 2 = σ 0 1 + sm (σ 10) 6 + sm (σ 11) 6 + sm (σ 12) 6
theorem ME.as {σ τ : Nat → Int → Int} (h : ME σ) (h2 : τ 0 2 = σ 0 2) (h1 : τ 0 1 = σ 0 1) (e10 : τ 10 = σ 10) (e11 : τ 11 = σ 11) (e12 : τ 12 = σ 12) : ME τ := by
  unfold ME at h ⊢
  rw [h2, h1, e10, e11, e12]; exact h
theorem ME.add {σ : Nat → Int → Int} (h : ME σ) (o c y to : Int) : ME (addS σ o c y to) := by
  have h2 : addS σ o c y to 0 2 = σ 0 2 + 1 := rfl
  have h1 : addS σ o c y to 0 1 = σ 0 1 + 1 := rfl
  have e10 : addS σ o c y to 10 = σ 10 := rfl
  have e11 : addS σ o c y to 11 = σ 11 := rfl
  have e12 : addS σ o c y to 12 = σ 12 := rfl
  unfold ME at h ⊢
  rw [h2, h1, e10, e11, e12]; omega
theorem sm_bump {f : Int → Int} {o : Int} (h : 0 ≤ o ∧ o < 6) : sm (uI f o (f o + 1)) 6 = sm f 6 + 1 := by
  have h1 := sm_one (g := f) (g' := uI f o (f o + 1)) h.1 6 (by omega) (fun j hj => uI_n hj)
  rw [uI_s] at h1
  omega
theorem ME.can {σ : Nat → Int → Int} {p : Int} (h : ME σ) (ho : 0 ≤ σ 5 p ∧ σ 5 p < 6) : ME (canS σ p) := by
  have h2 : canS σ p 0 2 = σ 0 2 := by unfold canS; rw [remS_0, uI_n (by omega)]; rfl
  have h1 : canS σ p 0 1 = σ 0 1 - 1 := can_n σ p
  have e10 : canS σ p 10 = σ 10 := by unfold canS; rw [remS_o _ _ (by omega) (by omega)]; rfl
  have e11 : canS σ p 11 = uI (σ 11) (σ 5 p) (σ 11 (σ 5 p) + 1) := by unfold canS; rw [remS_o _ _ (by omega) (by omega)]; rfl
  have e12 : canS σ p 12 = σ 12 := by unfold canS; rw [remS_o _ _ (by omega) (by omega)]; rfl
  unfold ME at h ⊢
  rw [h2, h1, e10, e11, e12, sm_bump ho]; omega
theorem ME.set {σ : Nat → Int → Int} {p : Int} (h : ME σ) (ho : 0 ≤ σ 5 p ∧ σ 5 p < 6) : ME (setS σ p) := by
  have h2 : setS σ p 0 2 = σ 0 2 := by unfold setS; rw [remS_0, uI_n (by omega)]; rfl
  have h1 : setS σ p 0 1 = σ 0 1 - 1 := set_n σ p
  have e10 : setS σ p 10 = uI (σ 10) (σ 5 p) (σ 10 (σ 5 p) + 1) := by unfold setS; rw [remS_o _ _ (by omega) (by omega)]; rfl
  have e11 : setS σ p 11 = σ 11 := by unfold setS; rw [remS_o _ _ (by omega) (by omega)]; rfl
  have e12 : setS σ p 12 = σ 12 := by unfold setS; rw [remS_o _ _ (by omega) (by omega)]; rfl
  unfold ME at h ⊢
  rw [h2, h1, e10, e11, e12, sm_bump ho]; omega
theorem ME.lap {σ : Nat → Int → Int} {p : Int} (h : ME σ) (ho : 0 ≤ σ 5 p ∧ σ 5 p < 6) : ME (lapS σ p) := by
  have h2 : lapS σ p 0 2 = σ 0 2 := by unfold lapS; rw [remS_0, uI_n (by omega)]; rfl
  have h1 : lapS σ p 0 1 = σ 0 1 - 1 := lap_n σ p
  have e10 : lapS σ p 10 = σ 10 := by unfold lapS; rw [remS_o _ _ (by omega) (by omega)]; rfl
  have e11 : lapS σ p 11 = σ 11 := by unfold lapS; rw [remS_o _ _ (by omega) (by omega)]; rfl
  have e12 : lapS σ p 12 = uI (σ 12) (σ 5 p) (σ 12 (σ 5 p) + 1) := by unfold lapS; rw [remS_o _ _ (by omega) (by omega)]; rfl
  unfold ME at h ⊢
  rw [h2, h1, e10, e11, e12, sm_bump ho]; omega
theorem fin_me (o s : Int) : ∀ (k : Nat) {σ : Nat → Int → Int}, Inv σ → ME σ → (k : Int) ≤ σ 0 1 → ME (finI o s k σ) ∧ finI o s k σ 0 0 = σ 0 0 ∧ finI o s k σ 0 1 ≤ σ 0 1
  | 0, σ, _, hM, _ => ⟨hM, rfl, Int.le_refl _⟩
  | k + 1, σ, h, hM, hk => by
    show ME (finI o s k (fin1 σ o s (k : Int))) ∧ finI o s k (fin1 σ o s (k : Int)) 0 0 = σ 0 0 ∧ finI o s k (fin1 σ o s (k : Int)) 0 1 ≤ σ 0 1
    have hp : 0 ≤ (k : Int) ∧ (k : Int) < σ 0 1 := ⟨by omega, by omega⟩
    have ho := (h.pr hp.1 hp.2).1
    unfold fin1
    by_cases z : σ 5 (k : Int) = o
    · rw [if_pos z]
      by_cases y : s = 0
      · rw [if_pos y]
        have ih := fin_me o s k (h.can hp) (hM.can ho) (by rw [can_n]; omega)
        rw [can_t, can_n] at ih
        exact ⟨ih.1, ih.2.1, by have := ih.2.2; omega⟩
      · rw [if_neg y]
        have ih := fin_me o s k (h.set hp) (hM.set ho) (by rw [set_n]; omega)
        rw [set_t, set_n] at ih
        exact ⟨ih.1, ih.2.1, by have := ih.2.2; omega⟩
    · rw [if_neg z]; exact fin_me o s k h hM (by omega)
theorem lap_me : ∀ (k : Nat) {τ : Nat → Int → Int}, JV τ → ME τ → (k : Int) ≤ τ 0 1 → ME (lapI k τ) ∧ lapI k τ 0 0 = τ 0 0 ∧ lapI k τ 0 1 ≤ τ 0 1
  | 0, τ, _, hM, _ => ⟨hM, rfl, Int.le_refl _⟩
  | k + 1, τ, h, hM, hk => by
    show ME (lapI k (lap1 τ (k : Int))) ∧ lapI k (lap1 τ (k : Int)) 0 0 = τ 0 0 ∧ lapI k (lap1 τ (k : Int)) 0 1 ≤ τ 0 1
    have hp : 0 ≤ (k : Int) ∧ (k : Int) < τ 0 1 := ⟨by omega, by omega⟩
    have ho := (h.2.2.2.2.2 (k : Int) hp.1 hp.2).1.1
    unfold lap1
    by_cases z : τ 9 (k : Int) ≤ τ 0 0
    · rw [if_pos z]
      have ih := lap_me k (h.lap hp) (hM.lap ho) (by rw [lap_n]; omega)
      rw [lap_t, lap_n] at ih
      exact ⟨ih.1, ih.2.1, by have := ih.2.2; omega⟩
    · rw [if_neg z]; exact lap_me k h hM (by omega)
/-! what the law keeps, turn by turn: T bounds the time -/
def GS (T : Int) (σ : Nat → Int → Int) : Prop := Inv σ ∧ ME σ ∧ σ 0 0 ≤ T
def G2 (T : Int) (σ : Nat → Int → Int) (κ : Int) (ss : Nat → Nat → Int → Int) : Prop := GS T σ ∧ (0 ≤ κ ∧ κ ≤ 6) ∧ ∀ k : Nat, (k : Int) < κ → GS T (ss k)
theorem GS.mono {T T' : Int} {σ : Nat → Int → Int} (h : GS T σ) (ht : T ≤ T') : GS T' σ := ⟨h.1, h.2.1, by have := h.2.2; omega⟩
theorem G2.mono {T T' κ : Int} {σ : Nat → Int → Int} {ss : Nat → Nat → Int → Int} (h : G2 T σ κ ss) (ht : T ≤ T') : G2 T' σ κ ss := ⟨h.1.mono ht, h.2.1, fun k q => (h.2.2 k q).mono ht⟩
theorem G2.push {T T' κ : Int} {σ σ' : Nat → Int → Int} {ss : Nat → Nat → Int → Int} (h : G2 T σ κ ss) (ht : T ≤ T') (h' : GS T' σ') : G2 T' σ' (pushK κ) (pushS κ ss σ) := by
  refine ⟨h', push_k h.2.1, fun k hk2 => ?_⟩
  have hk := h.2.1
  by_cases z : κ = 6
  · rw [pushK_6 z] at hk2
    rw [pushS_6 z]
    by_cases y : k = 5
    · rw [if_pos y]; exact h.1.mono ht
    · rw [if_neg y]; exact (h.2.2 (k + 1) (by omega)).mono ht
  · rw [pushK_lt z] at hk2
    rw [pushS_lt z]
    by_cases y : (k : Int) = κ
    · rw [if_pos y]; exact h.1.mono ht
    · rw [if_neg y]; exact (h.2.2 k (by omega)).mono ht
theorem G2.undo {T κ : Int} {σ : Nat → Int → Int} {ss : Nat → Nat → Int → Int} (h : G2 T σ κ ss) (hk : κ ≠ 0) : G2 T (ss (κ - 1).toNat) (κ - 1) ss := by
  have hk2 := h.2.1
  exact ⟨h.2.2 _ (by omega), by omega, fun k q => h.2.2 k (by omega)⟩
theorem GS.add {T : Int} {σ : Nat → Int → Int} (h : GS T σ) {o c y to : Int} (ho : 0 ≤ o ∧ o ≤ 5) (hc : 0 ≤ c ∧ c ≤ 3) (hy : -99 ≤ y ∧ y ≤ 99 ∧ y ≠ 0) (hto : to = -1 ∨ (0 ≤ to ∧ to ≤ 3 ∧ to ≠ c ∧ y < 0)) (hr : reasonS σ o c y to ≤ 0) : GS T (addS σ o c y to) :=
  ⟨h.1.add ho hc hy hto hr, h.2.1.add o c y to, by rw [addS_t]; exact h.2.2⟩
theorem GS.bnd {T : Int} {σ : Nat → Int → Int} (h : GS T σ) {c lo hi : Int} (h1 : -999 ≤ lo) (h2 : hi ≤ 999) (h3 : lo ≤ lowS σ c (σ 0 0)) (h4 : highS σ c ≤ hi) : GS T (bndS σ c lo hi) :=
  ⟨h.1.bnd h1 h2 h3 h4, h.2.1.as rfl rfl rfl rfl rfl, h.2.2⟩
theorem GS.sett {T : Int} {σ : Nat → Int → Int} (h : GS T σ) {k v : Int} (hk : 0 ≤ k ∧ k ≤ 1) (hv : 1 ≤ v ∧ v ≤ (if k = 0 then 16 else 99)) : GS T (sU σ 1 k v) :=
  ⟨h.1.sett hk hv, h.2.1.as rfl rfl rfl rfl rfl, h.2.2⟩
theorem GS.ren {T : Int} {σ : Nat → Int → Int} (h : GS T σ) {p : Int} (hp : 0 ≤ p ∧ p < σ 0 1) : GS T (renS σ p) :=
  ⟨h.1.ren hp, h.2.1.as rfl rfl rfl rfl rfl, h.2.2⟩
theorem GS.prt {T : Int} {σ : Nat → Int → Int} (h : GS T σ) {p q : Int} (hp : 0 ≤ p ∧ p < σ 0 1) (hq : 1 ≤ q ∧ q ≤ aI (σ 7 p) - 1) : GS T (prtS σ p q) :=
  ⟨h.1.prt hp hq, h.2.1.as rfl rfl rfl rfl rfl, h.2.2⟩
theorem GS.can {T : Int} {σ : Nat → Int → Int} (h : GS T σ) {p : Int} (hp : 0 ≤ p ∧ p < σ 0 1) : GS T (canS σ p) :=
  ⟨h.1.can hp, h.2.1.can (h.1.pr hp.1 hp.2).1, by rw [can_t]; exact h.2.2⟩
theorem GS.set {T : Int} {σ : Nat → Int → Int} (h : GS T σ) {p : Int} (hp : 0 ≤ p ∧ p < σ 0 1) : GS T (setS σ p) :=
  ⟨h.1.set hp, h.2.1.set (h.1.pr hp.1 hp.2).1, by rw [set_t]; exact h.2.2⟩
theorem GS.fin {T : Int} {σ : Nat → Int → Int} (h : GS T σ) (o s : Int) : GS T (finS σ o s) ∧ finS σ o s 0 1 ≤ σ 0 1 := by
  have hn := h.1.n
  have h9 := fin_me o s (σ 0 1).toNat h.1 h.2.1 (by omega)
  exact ⟨⟨h.1.fin o s, h9.1, by show finI o s (σ 0 1).toNat σ 0 0 ≤ T; rw [h9.2.1]; exact h.2.2⟩, h9.2.2⟩
theorem GS.pas {T : Int} {σ : Nat → Int → Int} (h : GS T σ) {u : Int} (hu : 1 ≤ u ∧ u ≤ 8) (hT : T ≤ 9000) : GS (T + 8) (pasT σ u) ∧ pasT σ u 0 1 ≤ σ 0 1 := by
  have hn := h.1.n
  have ht := h.1.t
  have hq := h.2.2
  have e0 : sU σ 0 0 (σ 0 0 + u) 0 0 = σ 0 0 + u := by rw [sU_same, uI_s]
  have e1 : sU σ 0 0 (σ 0 0 + u) 0 1 = σ 0 1 := by rw [sU_same, uI_n (by omega)]
  have e2 : sU σ 0 0 (σ 0 0 + u) 0 2 = σ 0 2 := by rw [sU_same, uI_n (by omega)]
  obtain ⟨h0, h1, h2, h3, h4, h5⟩ := h.1.jv
  have hJ : JV (sU σ 0 0 (σ 0 0 + u)) := ⟨by rw [e0]; omega, by rw [e1]; exact h1, h2, h3, fun c c0 c1 => by
    have el : lowA (sU σ 0 0 (σ 0 0 + u)) c = lowA σ c := by
      unfold lowA
      rw [e1]; rfl
    have eh : highS (sU σ 0 0 (σ 0 0 + u)) c = highS σ c := by
      unfold highS
      rw [e1]; rfl
    rw [el, eh]
    exact h4 c c0 c1, fun p p0 p1 => by
    rw [e1] at p1
    obtain ⟨a1, a2⟩ := h5 p p0 p1
    refine ⟨a1, ?_⟩
    rw [e0]
    show σ 9 p ≤ _
    omega⟩
  have h9 := lap_me (σ 0 1).toNat hJ (h.2.1.as e2 e1 rfl rfl rfl) (by rw [e1]; omega)
  rw [e0, e1] at h9
  refine ⟨⟨h.1.pas hu.1 (by omega), h9.1, ?_⟩, h9.2.2⟩
  show lapI (σ 0 1).toNat (sU σ 0 0 (σ 0 0 + u)) 0 0 ≤ T + 8
  rw [h9.2.1]; omega
theorem GS_0 : GS 0 s0S := ⟨Inv_0, rfl, Int.le_refl _⟩
theorem G2_0 (ss : Nat → Nat → Int → Int) : G2 0 s0S 0 ss := ⟨GS_0, by omega, fun k h => by omega⟩
/-! the share -/
theorem share_le {h r : Nat} (h0 : 0 < h) (hr : h ≤ r) (r1 : r ≤ 7992) {E t : Nat} (hE : E ≤ 1023) (ht : t < 4503599627370496) (hd9 : FP.ddiv (FP.i2d (iI (h : Int))) (FP.i2d (iI (r : Int))) = nd E t) : E < 1023 ∨ t = 0 := by
  have hv := ddiv_val h0 (by omega) (show 0 < r by omega) (by omega)
  rw [hd9] at hv
  have hq : FP.Core.b64.qmin = -1074 := by decide +kernel
  have htl : FP.Core.b64.tails = 4503599627370496 := by decide +kernel
  have hd : FP.Core.decode FP.Core.b64 (nd E t).toNat = FP.Core.roundRatio FP.Core.b64 false h r 0 := hv
  have hu : FP.Core.unitsOf FP.Core.b64 (1023 * 4503599627370496) = 4503599627370496 * 2 ^ (1023 - 1) := by
    have h9 := FP.Core.unitsOf_start (f := FP.Core.b64) (show 1 ≤ 1023 by omega)
    rw [htl] at h9
    exact h9
  have hin : FP.Core.inUnits h 0 (-1074) = h * 2 ^ 1074 := rfl
  have e1 : (4503599627370496 : Nat) * 2 ^ (1023 - 1) = 2 ^ 1074 := by decide +kernel
  have hn := nd_nat (E := E) (t := t) (by omega) ht
  have hle : FP.Core.mag FP.Core.b64 (nd E t).toNat ≤ 1023 * 4503599627370496 := by
    refine FP.Core.mag_le FP.Core.good_b64 (e0 := -1074) hd (by omega) (by omega) (by omega) ?_
    rw [hin, hu, e1, hq]
    rw [show ((-1074 : Int) - -1074).toNat = 0 from rfl, Nat.pow_zero, Nat.mul_one, Nat.mul_comm]
    exact Nat.mul_le_mul_left _ hr
  have hm : FP.Core.mag FP.Core.b64 (nd E t).toNat = (nd E t).toNat := FP.Core.mag_of_lt (by rw [FP.Core.half_b64]; omega)
  rw [hm, hn] at hle
  omega
theorem nd_eq1 : FP.dcmp (nd 1023 0) FP.dconst1 = some .eq := by
  have hz : FP.Core.val64 FP.dconst1 ≠ .nan := by decide +kernel
  have hn := nd_nat (E := 1023) (t := 0) (by omega) (by omega)
  have h0 : FP.dconst1.toNat = 1023 * 4503599627370496 := by decide +kernel
  exact ((FP.Core.mono_bits (nd_ne (E := 1023) (t := 0) (by omega) (by omega) (by omega)) hz (by omega) (by omega)).2.1).mpr (by omega)
theorem shD_01 {h r : Int} (h0 : 0 ≤ h) (hr : h ≤ r) (r1 : r ≤ 7992) : (FP.dcmp (shD h r) FP.dconst0 = some .eq ∨ FP.dcmp (shD h r) FP.dconst0 = some .gt) ∧ (FP.dcmp (shD h r) FP.dconst1 = some .eq ∨ FP.dcmp (shD h r) FP.dconst1 = some .lt) := by
  have z0 : FP.dcmp 0 FP.dconst0 = some .eq := by decide +kernel
  have z1 : FP.dcmp 0 FP.dconst1 = some .lt := by decide +kernel
  unfold shD
  by_cases z : r = 0
  · rw [if_pos z]; exact ⟨Or.inl z0, Or.inr z1⟩
  · rw [if_neg z]
    obtain ⟨n, rfl⟩ := Int.eq_ofNat_of_zero_le (show 0 ≤ r by omega)
    obtain ⟨k, rfl⟩ := Int.eq_ofNat_of_zero_le h0
    by_cases y : k = 0
    · subst y
      have e : FP.ddiv (FP.i2d (iI ((0 : Nat) : Int))) (FP.i2d (iI (n : Int))) = 0 := share_z (by omega) (by omega)
      rw [e]; exact ⟨Or.inl z0, Or.inr z1⟩
    · obtain ⟨E, t, hE1, hE2, ht, e⟩ := share_nd (h := k) (r := n) (by omega) (by omega) (by omega)
      have hl := share_le (h := k) (r := n) (by omega) (by omega) (by omega) hE2 ht e
      rw [e]
      refine ⟨Or.inr (nd_gt0 (by omega) (by omega) ht), ?_⟩
      by_cases w : E < 1023
      · exact Or.inr (nd_lt1 (by omega) w ht)
      · have w1 : E = 1023 := by omega
        have w2 : t = 0 := by omega
        subst w1; subst w2
        exact Or.inl nd_eq1
theorem shr_0 {σ : Nat → Int → Int} (hI : Inv σ) : ∃ z : Int, (0 ≤ z ∧ z ≤ 1) ∧ Op.cmpValue (FP.dcmp (shrS σ) FP.dconst0) .l = iI z := by
  obtain ⟨h1, h2, h3⟩ := hld_r hI
  rcases (shD_01 h1 h2 h3).1 with h | h
  · exact ⟨0, by omega, by show Op.cmpValue (FP.dcmp (shD (hldS σ) (romS σ)) FP.dconst0) .l = _; rw [h]; rfl⟩
  · exact ⟨1, by omega, by show Op.cmpValue (FP.dcmp (shD (hldS σ) (romS σ)) FP.dconst0) .l = _; rw [h]; rfl⟩
theorem shr_1 {σ : Nat → Int → Int} (hI : Inv σ) : ∃ z : Int, (-1 ≤ z ∧ z ≤ 0) ∧ Op.cmpValue (FP.dcmp (shrS σ) FP.dconst1) .g = iI z := by
  obtain ⟨h1, h2, h3⟩ := hld_r hI
  rcases (shD_01 h1 h2 h3).2 with h | h
  · exact ⟨0, by omega, by show Op.cmpValue (FP.dcmp (shD (hldS σ) (romS σ)) FP.dconst1) .g = _; rw [h]; rfl⟩
  · exact ⟨-1, by omega, by show Op.cmpValue (FP.dcmp (shD (hldS σ) (romS σ)) FP.dconst1) .g = _; rw [h]; rfl⟩
