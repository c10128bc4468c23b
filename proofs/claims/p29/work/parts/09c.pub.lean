/-! what both sides hold, and what each call answers -/
def RelM (σ : Nat → Int → Int) (κ : Int) (ss : Nat → Nat → Int → Int) (ln : Int) (β : Int → Int) (μ : Nat → Int → Int) : Prop :=
  RelN σ (μ 1) ∧ μ 0 0 = κ ∧ (∀ k : Nat, (k : Int) < κ → RelN (ss k) (fun j => μ 2 (115 * (k : Int) + j))) ∧ μ 0 1 = ln ∧ (∀ j : Int, 0 ≤ j → j < ln → μ 3 j = β j)
def GI (σ : Nat → Int → Int) (κ : Int) (ss : Nat → Nat → Int → Int) (ln : Int) (β : Int → Int) : Prop :=
  Inv σ ∧ (0 ≤ κ ∧ κ ≤ 6) ∧ (∀ k : Nat, (k : Int) < κ → Inv (ss k)) ∧ (0 ≤ ln ∧ ln ≤ 60) ∧ (∀ j : Int, 0 ≤ j → j < ln → 33 ≤ β j ∧ β j ≤ 126)
def OPQ (cd r ans th : Int) (R0 R1 : Prop) : Prop := th = cd ∧ (cd ≠ 0 → R0) ∧ (cd = 0 → r = ans ∧ R1)
theorem OPQ.bad {cd r ans th k : Int} {R0 R1 : Prop} (h : cd = k) (hk : k ≠ 0) (ht : th = k) (h0 : R0) : OPQ cd r ans th R0 R1 := ⟨by omega, fun _ => h0, fun h9 => absurd (h.symm.trans h9) hk⟩
theorem OPQ.good {cd r ans th : Int} {R0 R1 : Prop} (h : cd = 0) (ht : th = 0) (hr : r = ans) (h1 : R1) : OPQ cd r ans th R0 R1 := ⟨by omega, fun h9 => absurd h h9, fun _ => ⟨hr, h1⟩⟩
/-- rows of the saved states moved by one -/
def shN (f : Int → Int) (k : Int) : Int → Int := fun j => if 0 ≤ j ∧ j < k then f (j + 115) else f j
theorem shN_0 (f : Int → Int) : f = shN f 0 := by funext j; exact (if_neg (by omega)).symm
theorem shN_s {f : Int → Int} {k : Int} (h : 0 ≤ k) : uI (shN f k) k (shN f k (k + 115)) = shN f (k + 1) := by
  funext j
  have e1 : shN f k (k + 115) = f (k + 115) := if_neg (by omega)
  by_cases e : j = k
  · rw [uI_e e, e1, e]; exact (if_pos (by omega)).symm
  · rw [uI_n e]
    by_cases q : 0 ≤ j ∧ j < k
    · exact (if_pos q).trans (if_pos (by omega)).symm
    · exact (if_neg q).trans (if_neg (by omega)).symm
def cpN (f g : Int → Int) (B k : Int) : Int → Int := fun j => if B ≤ j ∧ j < B + k then g (j - B) else f j
theorem cpN_0 (f g : Int → Int) (B : Int) : f = cpN f g B 0 := by funext j; exact (if_neg (by omega)).symm
theorem cpN_s {f g : Int → Int} {B k : Int} (h : 0 ≤ k) : uI (cpN f g B k) (B + k) (g k) = cpN f g B (k + 1) := by
  funext j
  by_cases e : j = B + k
  · rw [uI_e e, e]; exact (congrArg g (by omega)).trans (if_pos (by omega)).symm
  · rw [uI_n e]
    by_cases q : B ≤ j ∧ j < B + k
    · exact (if_pos q).trans (if_pos (by omega)).symm
    · exact (if_neg q).trans (if_neg (by omega)).symm
theorem saves_lt {σ : Nat → Int → Int} {ν π : Int → Int} {ss : Nat → Nat → Int → Int} {κ : Int} (hR : RelN σ ν) (hn : σ 0 1 ≤ 16) (hk : 0 ≤ κ ∧ κ < 6) (hs : ∀ k : Nat, (k : Int) < κ → RelN (ss k) (fun j => π (115 * (k : Int) + j))) (hi : ∀ k : Nat, (k : Int) < κ → Inv (ss k)) :
    ∀ k : Nat, (k : Int) < pushK κ → RelN (pushS κ ss σ k) (fun j => cpN π ν (115 * κ) 115 (115 * (k : Int) + j)) := by
  intro k h
  rw [pushK_lt (by omega)] at h
  rw [pushS_lt (by omega)]
  by_cases e : (k : Int) = κ
  · rw [if_pos e]
    refine hR.congr hn (fun j j0 j1 => ?_)
    exact (if_pos (by omega)).trans (congrArg ν (by omega))
  · rw [if_neg e]
    have hi2 := (hi k (by omega)).n
    exact (hs k (by omega)).congr (by omega) (fun j j0 j1 => if_neg (by omega))
theorem saves_6 {σ : Nat → Int → Int} {ν π : Int → Int} {ss : Nat → Nat → Int → Int} {κ : Int} (hR : RelN σ ν) (hn : σ 0 1 ≤ 16) (hk : κ = 6) (hs : ∀ k : Nat, (k : Int) < κ → RelN (ss k) (fun j => π (115 * (k : Int) + j))) (hi : ∀ k : Nat, (k : Int) < κ → Inv (ss k)) :
    ∀ k : Nat, (k : Int) < pushK κ → RelN (pushS κ ss σ k) (fun j => cpN (shN π 575) ν (115 * (κ - 1)) 115 (115 * (k : Int) + j)) := by
  intro k h
  rw [pushK_6 hk] at h
  rw [pushS_6 hk]
  by_cases e : k = 5
  · rw [if_pos e]
    refine hR.congr hn (fun j j0 j1 => ?_)
    exact (if_pos (by omega)).trans (congrArg ν (by omega))
  · rw [if_neg e]
    have hi2 := (hi (k + 1) (by omega)).n
    refine (hs (k + 1) (by omega)).congr (by omega) (fun j j0 j1 => ?_)
    show cpN (shN π 575) ν (115 * (κ - 1)) 115 (115 * (k : Int) + j) = π (115 * ((k + 1 : Nat) : Int) + j)
    exact (if_neg (by omega)).trans ((if_pos (by omega)).trans (congrArg π (by omega)))
theorem mdW_0 {cI : ClassId} {b : Nat → Nat} {X Y : Nat → Int → Int} (h1 : X 1 = Y 1) (h2 : X 2 = Y 2) (h3 : X 3 = Y 3) (h4 : X 4 = Y 4) (h5 : X 5 = Y 5) (g0 : X 0 0 = Y 0 0) (g1 : X 0 1 = Y 0 1) (g2 : X 0 2 = Y 0 2) (g3 : X 0 3 = Y 0 3) (g4 : X 0 4 = Y 0 4) (g5 : X 0 5 = Y 0 5) (g6 : X 0 6 = Y 0 6) : mdW cI b X = mdW cI b Y := by
  unfold mdW; rw [h1, h2, h3, h4, h5, g0, g1, g2, g3, g4, g5, g6]
theorem reason_16 {σ : Nat → Int → Int} {o c y to : Int} (h : reasonS σ o c y to ≤ 0) : σ 0 1 < 16 := by
  have hrn : reasonN σ o = if 16 ≤ σ 0 1 then 1 else if σ 1 0 ≤ ofN σ o then 2 else 0 := rfl
  by_cases q : reasonN σ o ≠ 0
  · have e : reasonS σ o c y to = reasonN σ o := by unfold reasonS; rw [if_pos q]
    omega
  · omega
