/-! the state stays in order behind each call (no machine here) -/
def lowA (σ : Nat → Int → Int) (c : Int) : Int := σ 2 c + sm (fun p => min (chg σ p c) 0) (σ 0 1).toNat
theorem low_all {σ : Nat → Int → Int} {t : Int} (h : ∀ p : Int, 0 ≤ p → p < σ 0 1 → t < σ 9 p) (c : Int) : lowS σ c t = lowA σ c := by
  unfold lowS lowA
  rw [sm_congr (h := fun p => min (chg σ p c) 0) (fun j j0 j1 => by
    show (if t < σ 9 j then min (chg σ j c) 0 else 0) = min (chg σ j c) 0
    rw [if_pos (h j j0 (by omega))])]
def JV (σ : Nat → Int → Int) : Prop :=
  (0 ≤ σ 0 0 ∧ σ 0 0 ≤ 9999) ∧ (0 ≤ σ 0 1 ∧ σ 0 1 ≤ 16) ∧ (1 ≤ σ 1 0 ∧ σ 1 0 ≤ 16) ∧ (1 ≤ σ 1 1 ∧ σ 1 1 ≤ 99) ∧
  (∀ c : Int, 0 ≤ c → c < 4 → (-999 ≤ σ 3 c ∧ σ 4 c ≤ 999) ∧ σ 3 c ≤ lowA σ c ∧ highS σ c ≤ σ 4 c) ∧
  (∀ p : Int, 0 ≤ p → p < σ 0 1 → PR0 σ p ∧ σ 9 p ≤ σ 0 0 + 99)
theorem Inv.jv {σ : Nat → Int → Int} (h : Inv σ) : JV σ :=
  ⟨h.1, h.2.1, h.2.2.1, h.2.2.2.1, fun c c0 c1 => by
    have h9 := h.2.2.2.2.1 c c0 c1
    rw [low_all (fun p p0 p1 => (h.pr p0 p1).2.2.2.2.1) c] at h9
    exact h9, fun p p0 p1 => ⟨(h.pr p0 p1).p0, (h.pr p0 p1).2.2.2.2.2⟩⟩
theorem JV.inv {σ : Nat → Int → Int} (h : JV σ) (ht : ∀ p : Int, 0 ≤ p → p < σ 0 1 → σ 0 0 < σ 9 p) : Inv σ :=
  ⟨h.1, h.2.1, h.2.2.1, h.2.2.2.1, fun c c0 c1 => by rw [low_all ht c]; exact h.2.2.2.2.1 c c0 c1, fun p p0 p1 => by
    obtain ⟨⟨a1, a2, a3, a4⟩, a5⟩ := h.2.2.2.2.2 p p0 p1
    exact ⟨a1, a2, a3, a4, ht p p0 p1, a5⟩⟩
theorem sm_rem (f : Int → Int) (p : Int) (hp : 0 ≤ p) : ∀ n : Nat, p ≤ (n : Int) → sm (fun q => if p ≤ q then f (q + 1) else f q) n = sm f (n + 1) - f p
  | 0, h => by
    have e : p = 0 := by omega
    subst e
    show (0 : Int) = 0 + f ((0 : Nat) : Int) - f 0
    show (0 : Int) = 0 + f 0 - f 0
    omega
  | n + 1, h => by
    by_cases z : p ≤ (n : Int)
    · have ih := sm_rem f p hp n z
      show sm (fun q => if p ≤ q then f (q + 1) else f q) n + (if p ≤ (n : Int) then f ((n : Int) + 1) else f (n : Int)) = sm f (n + 1) + f ((n + 1 : Nat) : Int) - f p
      rw [ih, if_pos z, show (n : Int) + 1 = ((n + 1 : Nat) : Int) by omega]
      omega
    · have e : p = ((n + 1 : Nat) : Int) := by omega
      rw [sm_congr (h := f) (fun j j0 j1 => if_neg (by omega))]
      show sm f (n + 1) = sm f (n + 1) + f ((n + 1 : Nat) : Int) - f p
      rw [e]; omega
theorem sm_one {g g' : Int → Int} {p : Int} (hp : 0 ≤ p) : ∀ n : Nat, p < (n : Int) → (∀ j : Int, j ≠ p → g' j = g j) → sm g' n = sm g n - g p + g' p
  | 0, h, _ => by omega
  | n + 1, h, q => by
    by_cases z : p < (n : Int)
    · have ih := sm_one hp n z q
      show sm g' n + g' (n : Int) = sm g n + g (n : Int) - g p + g' p
      rw [ih, q (n : Int) (by omega)]; omega
    · have e : p = (n : Int) := by omega
      subst e
      show sm g' n + g' (n : Int) = sm g n + g (n : Int) - g (n : Int) + g' (n : Int)
      rw [sm_congr (g := g') (h := g) (fun j j0 j1 => q j (by omega))]; omega
theorem chg_rem {τ : Nat → Int → Int} {p q : Int} (h1 : q < τ 0 1 - 1) (c : Int) : chg (remS τ p) q c = if p ≤ q then chg τ (q + 1) c else chg τ q c := by
  unfold chg
  rw [remS_row τ p (by omega), remS_row τ p (by omega), remS_row τ p (by omega)]
  by_cases z : p ≤ q
  · simp only [if_pos z, if_pos (show p ≤ q ∧ q < τ 0 1 - 1 from ⟨z, h1⟩)]
  · simp only [if_neg z, if_neg (show ¬ (p ≤ q ∧ q < τ 0 1 - 1) from fun e => z e.1)]
theorem lowA_rem {τ : Nat → Int → Int} {p : Int} (hp : 0 ≤ p ∧ p < τ 0 1) (c : Int) : lowA (remS τ p) c = lowA τ c - min (chg τ p c) 0 := by
  obtain ⟨n, hn⟩ : ∃ n : Nat, τ 0 1 = ((n + 1 : Nat) : Int) := ⟨(τ 0 1 - 1).toNat, by omega⟩
  have h9 := sm_rem (fun q => min (chg τ q c) 0) p hp.1 n (by omega)
  unfold lowA
  rw [remS_n, remS_o τ p (show (2 : Nat) ≠ 0 by decide) (by decide), show (τ 0 1 - 1).toNat = n by omega, show (τ 0 1).toNat = n + 1 by omega]
  rw [sm_congr (g := fun q => min (chg (remS τ p) q c) 0) (h := fun q => if p ≤ q then min (chg τ (q + 1) c) 0 else min (chg τ q c) 0) (fun j j0 j1 => by
    show min (chg (remS τ p) j c) 0 = _
    rw [chg_rem (by omega)]
    by_cases z : p ≤ j
    · simp only [if_pos z]
    · simp only [if_neg z]), h9]
  omega
theorem highS_rem {τ : Nat → Int → Int} {p : Int} (hp : 0 ≤ p ∧ p < τ 0 1) (c : Int) : highS (remS τ p) c = highS τ c - max (chg τ p c) 0 := by
  obtain ⟨n, hn⟩ : ∃ n : Nat, τ 0 1 = ((n + 1 : Nat) : Int) := ⟨(τ 0 1 - 1).toNat, by omega⟩
  have h9 := sm_rem (fun q => max (chg τ q c) 0) p hp.1 n (by omega)
  unfold highS
  rw [remS_n, remS_o τ p (show (2 : Nat) ≠ 0 by decide) (by decide), show (τ 0 1 - 1).toNat = n by omega, show (τ 0 1).toNat = n + 1 by omega]
  rw [sm_congr (g := fun q => max (chg (remS τ p) q c) 0) (h := fun q => if p ≤ q then max (chg τ (q + 1) c) 0 else max (chg τ q c) 0) (fun j j0 j1 => by
    show max (chg (remS τ p) j c) 0 = _
    rw [chg_rem (by omega)]
    by_cases z : p ≤ j
    · simp only [if_pos z]
    · simp only [if_neg z]), h9]
  omega
/-- the same but for values and what has ended -/
def SameP (σ τ : Nat → Int → Int) : Prop := τ 0 = σ 0 ∧ τ 1 = σ 1 ∧ τ 3 = σ 3 ∧ τ 4 = σ 4 ∧ τ 5 = σ 5 ∧ τ 6 = σ 6 ∧ τ 7 = σ 7 ∧ τ 8 = σ 8 ∧ τ 9 = σ 9
theorem SameP.cg {σ τ : Nat → Int → Int} (h : SameP σ τ) (p c : Int) : chg τ p c = chg σ p c := by
  obtain ⟨-, -, -, -, -, h6, h7, h8, -⟩ := h
  unfold chg
  rw [h6, h7, h8]
theorem JV.rem {σ τ : Nat → Int → Int} {p : Int} (h : JV σ) (hs : SameP σ τ) (hp : 0 ≤ p ∧ p < σ 0 1) (hv : ∀ c : Int, 0 ≤ c → c < 4 → τ 2 c = σ 2 c ∨ τ 2 c = σ 2 c + chg σ p c) : JV (remS τ p) := by
  obtain ⟨h0, h1, h2, h3, h4, h5⟩ := h
  have hc := hs.cg
  obtain ⟨e0, e1, e3, e4, e5, e6, e7, e8, e9⟩ := hs
  have hp' : 0 ≤ p ∧ p < τ 0 1 := by rw [e0]; exact hp
  have r0 : remS τ p 0 0 = σ 0 0 := by rw [remS_0, uI_n (by omega), e0]
  have r1 : remS τ p 0 1 = σ 0 1 - 1 := by rw [remS_n, e0]
  have ro : ∀ i : Nat, (i = 1 ∨ i = 3 ∨ i = 4) → remS τ p i = τ i := fun i hi => remS_o τ p (by omega) (by omega)
  refine ⟨by rw [r0]; exact h0, by rw [r1]; omega, by rw [ro 1 (by omega), e1]; exact h2, by rw [ro 1 (by omega), e1]; exact h3, fun c c0 c1 => ?_, fun q q0 q1 => ?_⟩
  · rw [ro 3 (by omega), ro 4 (by omega), e3, e4, lowA_rem hp', highS_rem hp']
    obtain ⟨a1, a2, a3⟩ := h4 c c0 c1
    have el : lowA τ c = lowA σ c - σ 2 c + τ 2 c := by
      unfold lowA
      rw [e0, sm_congr (g := fun q => min (chg τ q c) 0) (h := fun q => min (chg σ q c) 0) (fun j _ _ => by
        show min (chg τ j c) 0 = _
        rw [hc])]
      omega
    have eh : highS τ c = highS σ c - σ 2 c + τ 2 c := by
      unfold highS
      rw [e0, sm_congr (g := fun q => max (chg τ q c) 0) (h := fun q => max (chg σ q c) 0) (fun j _ _ => by
        show max (chg τ j c) 0 = _
        rw [hc])]
      omega
    rw [el, eh, hc]
    refine ⟨a1, ?_, ?_⟩ <;> rcases hv c c0 c1 with q | q <;> rw [q] <;> omega
  · rw [r1] at q1
    have hr : ∀ i : Nat, 5 ≤ i ∧ i ≤ 9 → remS τ p i q = τ i (if p ≤ q then q + 1 else q) := by
      intro i hi
      rw [remS_row τ p hi]
      by_cases z : p ≤ q
      · rw [if_pos ⟨z, by rw [e0]; exact q1⟩, if_pos z]
      · rw [if_neg (fun w => z w.1), if_neg z]
    have h6 := h5 (if p ≤ q then q + 1 else q) (by split <;> omega) (by split <;> omega)
    unfold PR0 at h6 ⊢
    rw [hr 5 (by omega), hr 6 (by omega), hr 7 (by omega), hr 8 (by omega), hr 9 (by omega), r0, e5, e6, e7, e8, e9]
    exact h6
theorem rem_until {σ τ : Nat → Int → Int} {p q : Int} (hs : SameP σ τ) (hq : q < σ 0 1 - 1) : remS τ p 9 q = σ 9 (if p ≤ q then q + 1 else q) := by
  obtain ⟨e0, e1, e3, e4, e5, e6, e7, e8, e9⟩ := hs
  rw [remS_row τ p (by omega), e9, e0]
  by_cases z : p ≤ q
  · rw [if_pos ⟨z, hq⟩, if_pos z]
  · rw [if_neg (fun w => z w.1), if_neg z]
theorem addR_chg {σ : Nat → Int → Int} {p x c : Int} (h4 : σ 8 p = -1 ∨ (0 ≤ σ 8 p ∧ σ 8 p < 4 ∧ σ 8 p ≠ σ 6 p ∧ σ 7 p < 0)) (c0 : 0 ≤ c) : addR σ p x c = σ 2 c + (if σ 6 p = c then x else if σ 8 p = c then -x else 0) := by
  rw [addR_def]
  by_cases z : σ 8 p = -1
  · rw [if_pos z]
    by_cases y : σ 6 p = c
    · rw [if_pos y, y, uI_s]
    · rw [if_neg y, uI_n (fun e => y e.symm), if_neg (by omega)]; omega
  · rw [if_neg z]
    by_cases y : σ 6 p = c
    · rw [if_pos y, uI_n (by omega), y, uI_s]
    · rw [if_neg y]
      by_cases w : σ 8 p = c
      · rw [if_pos w, w, uI_s, uI_n (by omega)]; omega
      · rw [if_neg w, uI_n (fun e => w e.symm), uI_n (fun e => y e.symm)]; omega
theorem same_can (σ : Nat → Int → Int) (i x : Int) : SameP σ (sU σ 11 i x) := ⟨rfl, rfl, rfl, rfl, rfl, rfl, rfl, rfl, rfl⟩
theorem same_lap (σ : Nat → Int → Int) (i x : Int) : SameP σ (sU σ 12 i x) := ⟨rfl, rfl, rfl, rfl, rfl, rfl, rfl, rfl, rfl⟩
theorem same_set (σ : Nat → Int → Int) (f : Int → Int) (i x : Int) : SameP σ (sU (sR σ 2 f) 10 i x) := ⟨rfl, rfl, rfl, rfl, rfl, rfl, rfl, rfl, rfl⟩
theorem JV.can {σ : Nat → Int → Int} {p : Int} (h : JV σ) (hp : 0 ≤ p ∧ p < σ 0 1) : JV (canS σ p) := h.rem (same_can σ _ _) hp (fun c _ _ => Or.inl rfl)
theorem JV.lap {σ : Nat → Int → Int} {p : Int} (h : JV σ) (hp : 0 ≤ p ∧ p < σ 0 1) : JV (lapS σ p) := h.rem (same_lap σ _ _) hp (fun c _ _ => Or.inl rfl)
theorem JV.set {σ : Nat → Int → Int} {p : Int} (h : JV σ) (hp : 0 ≤ p ∧ p < σ 0 1) : JV (setS σ p) :=
  h.rem (same_set σ _ _ _) hp (fun c c0 _ => Or.inr (addR_chg (h.2.2.2.2.2 p hp.1 hp.2).1.2.2.2 c0))
theorem can_n (σ : Nat → Int → Int) (p : Int) : canS σ p 0 1 = σ 0 1 - 1 := remS_n _ _
theorem set_n (σ : Nat → Int → Int) (p : Int) : setS σ p 0 1 = σ 0 1 - 1 := remS_n _ _
theorem lap_n (σ : Nat → Int → Int) (p : Int) : lapS σ p 0 1 = σ 0 1 - 1 := remS_n _ _
theorem can_t (σ : Nat → Int → Int) (p : Int) : canS σ p 0 0 = σ 0 0 := by unfold canS; rw [remS_0, uI_n (by omega)]; rfl
theorem set_t (σ : Nat → Int → Int) (p : Int) : setS σ p 0 0 = σ 0 0 := by unfold setS; rw [remS_0, uI_n (by omega)]; rfl
theorem lap_t (σ : Nat → Int → Int) (p : Int) : lapS σ p 0 0 = σ 0 0 := by unfold lapS; rw [remS_0, uI_n (by omega)]; rfl
theorem Inv.can {σ : Nat → Int → Int} {p : Int} (h : Inv σ) (hp : 0 ≤ p ∧ p < σ 0 1) : Inv (canS σ p) := (h.jv.can hp).inv (fun q q0 q1 => by
  rw [can_n] at q1
  rw [can_t, show canS σ p 9 q = _ from rem_until (same_can σ _ _) q1]
  exact (h.pr (by split <;> omega) (by split <;> omega)).2.2.2.2.1)
theorem Inv.set {σ : Nat → Int → Int} {p : Int} (h : Inv σ) (hp : 0 ≤ p ∧ p < σ 0 1) : Inv (setS σ p) := (h.jv.set hp).inv (fun q q0 q1 => by
  rw [set_n] at q1
  rw [set_t, show setS σ p 9 q = _ from rem_until (same_set σ _ _ _) q1]
  exact (h.pr (by split <;> omega) (by split <;> omega)).2.2.2.2.1)
theorem Inv.fnI (o s : Int) : ∀ (k : Nat) {σ : Nat → Int → Int}, Inv σ → (k : Int) ≤ σ 0 1 → Inv (finI o s k σ)
  | 0, σ, h, _ => h
  | k + 1, σ, h, hk => by
    show Inv (finI o s k (fin1 σ o s (k : Int)))
    have hp : 0 ≤ (k : Int) ∧ (k : Int) < σ 0 1 := ⟨by omega, by omega⟩
    unfold fin1
    by_cases z : σ 5 (k : Int) = o
    · rw [if_pos z]
      by_cases y : s = 0
      · rw [if_pos y]; exact Inv.fnI o s k (h.can hp) (by rw [can_n]; omega)
      · rw [if_neg y]; exact Inv.fnI o s k (h.set hp) (by rw [set_n]; omega)
    · rw [if_neg z]; exact Inv.fnI o s k h (by omega)
theorem Inv.fin {σ : Nat → Int → Int} (h : Inv σ) (o s : Int) : Inv (finS σ o s) := by
  have hn := h.n
  exact Inv.fnI o s _ h (by omega)
theorem lapI_inv : ∀ (k : Nat) {τ : Nat → Int → Int}, JV τ → (k : Int) ≤ τ 0 1 → (∀ q : Int, (k : Int) ≤ q → q < τ 0 1 → τ 0 0 < τ 9 q) → Inv (lapI k τ)
  | 0, τ, h, _, ht => h.inv (fun p p0 p1 => ht p (by omega) p1)
  | k + 1, τ, h, hk, ht => by
    show Inv (lapI k (lap1 τ (k : Int)))
    have hp : 0 ≤ (k : Int) ∧ (k : Int) < τ 0 1 := ⟨by omega, by omega⟩
    unfold lap1
    by_cases z : τ 9 (k : Int) ≤ τ 0 0
    · rw [if_pos z]
      refine lapI_inv k (h.lap hp) (by rw [lap_n]; omega) (fun q q0 q1 => ?_)
      rw [lap_n] at q1
      rw [lap_t, show lapS τ (k : Int) 9 q = _ from rem_until (same_lap τ _ _) q1, if_pos q0]
      exact ht (q + 1) (by omega) (by omega)
    · rw [if_neg z]
      refine lapI_inv k h (by omega) (fun q q0 q1 => ?_)
      by_cases y : q = (k : Int)
      · rw [y]; omega
      · exact ht q (by omega) q1
theorem Inv.pas {σ : Nat → Int → Int} (h : Inv σ) {u : Int} (hu : 1 ≤ u) (hu2 : σ 0 0 + u ≤ 9999) : Inv (pasT σ u) := by
  have hj := h.jv
  have hn := h.n
  have ht := h.t
  obtain ⟨h0, h1, h2, h3, h4, h5⟩ := hj
  have e0 : sU σ 0 0 (σ 0 0 + u) 0 0 = σ 0 0 + u := by rw [sU_same, uI_s]
  have e1 : sU σ 0 0 (σ 0 0 + u) 0 1 = σ 0 1 := by rw [sU_same, uI_n (by omega)]
  unfold pasT
  refine lapI_inv _ (τ := sU σ 0 0 (σ 0 0 + u)) ⟨by rw [e0]; omega, by rw [e1]; exact h1, h2, h3, fun c c0 c1 => ?_, fun p p0 p1 => ?_⟩ (by rw [e1]; omega) (fun q q0 q1 => by rw [e1] at q1; omega)
  · have el : lowA (sU σ 0 0 (σ 0 0 + u)) c = lowA σ c := by
      unfold lowA
      rw [e1]; rfl
    have eh : highS (sU σ 0 0 (σ 0 0 + u)) c = highS σ c := by
      unfold highS
      rw [e1]; rfl
    rw [el, eh]
    exact h4 c c0 c1
  · rw [e1] at p1
    obtain ⟨a1, a2⟩ := h5 p p0 p1
    refine ⟨a1, ?_⟩
    rw [e0]
    show σ 9 p ≤ _
    omega
theorem Inv.ren {σ : Nat → Int → Int} (h : Inv σ) {p : Int} (hp : 0 ≤ p ∧ p < σ 0 1) : Inv (renS σ p) := by
  have hj := h.jv
  have ht := h.t
  have hs := h.2.2.2.1
  obtain ⟨h0, h1, h2, h3, h4, h5⟩ := hj
  refine JV.inv (σ := renS σ p) ⟨h0, h1, h2, h3, fun c c0 c1 => h4 c c0 c1, fun q q0 q1 => ?_⟩ (fun q q0 q1 => ?_)
  · obtain ⟨a1, a2⟩ := h5 q q0 q1
    refine ⟨a1, ?_⟩
    show uI (σ 9) p (σ 0 0 + σ 1 1) q ≤ σ 0 0 + 99
    by_cases z : q = p
    · rw [z, uI_s]; omega
    · rw [uI_n z]; exact a2
  · show σ 0 0 < uI (σ 9) p (σ 0 0 + σ 1 1) q
    by_cases z : q = p
    · rw [z, uI_s]; omega
    · rw [uI_n z]; exact (h.pr q0 q1).2.2.2.2.1
theorem Inv.bnd {σ : Nat → Int → Int} (h : Inv σ) {c lo hi : Int} (h1 : -999 ≤ lo) (h2 : hi ≤ 999) (h3 : lo ≤ lowS σ c (σ 0 0)) (h4 : highS σ c ≤ hi) : Inv (bndS σ c lo hi) := by
  refine ⟨h.1, h.2.1, h.2.2.1, h.2.2.2.1, fun d d0 d1 => ?_, h.2.2.2.2.2⟩
  have hd := h.2.2.2.2.1 d d0 d1
  show (-999 ≤ uI (σ 3) c lo d ∧ uI (σ 4) c hi d ≤ 999) ∧ uI (σ 3) c lo d ≤ lowS σ d (σ 0 0) ∧ highS σ d ≤ uI (σ 4) c hi d
  by_cases z : d = c
  · subst z
    rw [uI_s, uI_s]
    exact ⟨⟨h1, h2⟩, h3, h4⟩
  · rw [uI_n z, uI_n z]; exact hd
theorem Inv.sett {σ : Nat → Int → Int} (h : Inv σ) {k v : Int} (hk : 0 ≤ k ∧ k ≤ 1) (hv : 1 ≤ v ∧ v ≤ (if k = 0 then 16 else 99)) : Inv (sU σ 1 k v) := by
  have a := h.2.2.1
  have b := h.2.2.2.1
  refine ⟨h.1, h.2.1, ?_, ?_, h.2.2.2.2.1, h.2.2.2.2.2⟩
  · show 1 ≤ uI (σ 1) k v 0 ∧ uI (σ 1) k v 0 ≤ 16
    by_cases z : k = 0
    · rw [z, uI_s]; rw [if_pos z] at hv; exact hv
    · rw [uI_n (by omega)]; exact a
  · show 1 ≤ uI (σ 1) k v 1 ∧ uI (σ 1) k v 1 ≤ 99
    by_cases z : k = 0
    · rw [uI_n (by omega)]; exact b
    · rw [show k = 1 by omega, uI_s]; rw [if_neg z] at hv; exact hv
theorem Inv.prt {σ : Nat → Int → Int} (h : Inv σ) {p q : Int} (hp : 0 ≤ p ∧ p < σ 0 1) (hq : 1 ≤ q ∧ q ≤ aI (σ 7 p) - 1) : Inv (prtS σ p q) := by
  have hj := h.jv
  have hpr := h.pr hp.1 hp.2
  have ha : aI (σ 7 p) = if σ 7 p < 0 then -σ 7 p else σ 7 p := rfl
  have hx : prtX σ p q = if σ 7 p < 0 then -q else q := rfl
  obtain ⟨p1, p2, p3, p4, p5⟩ := hpr
  have hX : (σ 7 p < 0 ∧ σ 7 p < prtX σ p q ∧ prtX σ p q < 0) ∨ (0 < σ 7 p ∧ prtX σ p q < σ 7 p ∧ 0 < prtX σ p q) := by
    by_cases z : σ 7 p < 0
    · rw [if_pos z] at ha hx; omega
    · rw [if_neg z] at ha hx; omega
  unfold prtS
  generalize prtX σ p q = X at hX
  obtain ⟨h0, h1, h2, h3, h4, h5⟩ := hj
  have ec : ∀ j c : Int, j ≠ p → chg (sU (addC σ p X) 7 p (σ 7 p - X)) j c = chg σ j c := fun j c hjp => by
    show (if σ 6 j = c then uI (σ 7) p (σ 7 p - X) j else if σ 8 j = c then -uI (σ 7) p (σ 7 p - X) j else 0) = _
    rw [uI_n hjp]; rfl
  have ep : ∀ c : Int, chg (sU (addC σ p X) 7 p (σ 7 p - X)) p c = if σ 6 p = c then σ 7 p - X else if σ 8 p = c then -(σ 7 p - X) else 0 := fun c => by
    show (if σ 6 p = c then uI (σ 7) p (σ 7 p - X) p else if σ 8 p = c then -uI (σ 7) p (σ 7 p - X) p else 0) = _
    rw [uI_s]
  have eo : ∀ c : Int, chg σ p c = if σ 6 p = c then σ 7 p else if σ 8 p = c then -σ 7 p else 0 := fun c => rfl
  refine JV.inv (σ := sU (addC σ p X) 7 p (σ 7 p - X)) ⟨h0, h1, h2, h3, fun c c0 c1 => ?_, fun j j0 j1 => ?_⟩ (fun j j0 j1 => (h.pr j0 j1).2.2.2.2.1)
  · obtain ⟨a1, a2, a3⟩ := h4 c c0 c1
    have hv : addR σ p X c = _ := addR_chg (x := X) p4 c0
    have hlo := sm_one (g := fun j => min (chg σ j c) 0) (g' := fun j => min (chg (sU (addC σ p X) 7 p (σ 7 p - X)) j c) 0) hp.1 (σ 0 1).toNat (by omega) (fun j hjp => by
      show min (chg (sU (addC σ p X) 7 p (σ 7 p - X)) j c) 0 = _
      rw [ec j c hjp])
    have hhi := sm_one (g := fun j => max (chg σ j c) 0) (g' := fun j => max (chg (sU (addC σ p X) 7 p (σ 7 p - X)) j c) 0) hp.1 (σ 0 1).toNat (by omega) (fun j hjp => by
      show max (chg (sU (addC σ p X) 7 p (σ 7 p - X)) j c) 0 = _
      rw [ec j c hjp])
    have el : lowA (sU (addC σ p X) 7 p (σ 7 p - X)) c = addR σ p X c + sm (fun j => min (chg (sU (addC σ p X) 7 p (σ 7 p - X)) j c) 0) (σ 0 1).toNat := rfl
    have eh : highS (sU (addC σ p X) 7 p (σ 7 p - X)) c = addR σ p X c + sm (fun j => max (chg (sU (addC σ p X) 7 p (σ 7 p - X)) j c) 0) (σ 0 1).toNat := rfl
    have ol : lowA σ c = σ 2 c + sm (fun j => min (chg σ j c) 0) (σ 0 1).toNat := rfl
    have oh : highS σ c = σ 2 c + sm (fun j => max (chg σ j c) 0) (σ 0 1).toNat := rfl
    have ep' := ep c
    have eo' := eo c
    try dsimp only at hlo hhi
    rw [el, eh, hv, hlo, hhi]
    refine ⟨a1, ?_, ?_⟩
    · show σ 3 c ≤ _
      by_cases z : σ 6 p = c
      · rw [if_pos z] at ep' eo' ⊢; omega
      · rw [if_neg z] at ep' eo' ⊢
        by_cases y : σ 8 p = c
        · rw [if_pos y] at ep' eo' ⊢; omega
        · rw [if_neg y] at ep' eo' ⊢; omega
    · show _ ≤ σ 4 c
      by_cases z : σ 6 p = c
      · rw [if_pos z] at ep' eo' ⊢; omega
      · rw [if_neg z] at ep' eo' ⊢
        by_cases y : σ 8 p = c
        · rw [if_pos y] at ep' eo' ⊢; omega
        · rw [if_neg y] at ep' eo' ⊢; omega
  · obtain ⟨⟨b1, b2, b3, b4⟩, b5⟩ := h5 j j0 j1
    have e7 : sU (addC σ p X) 7 p (σ 7 p - X) 7 j = uI (σ 7) p (σ 7 p - X) j := rfl
    refine ⟨⟨b1, b2, ?_, ?_⟩, b5⟩
    · rw [e7]
      by_cases z : j = p
      · rw [z, uI_s]; omega
      · rw [uI_n z]; exact b3
    · rw [e7]
      show σ 8 j = -1 ∨ (0 ≤ σ 8 j ∧ σ 8 j < 4 ∧ σ 8 j ≠ σ 6 j ∧ uI (σ 7) p (σ 7 p - X) j < 0)
      by_cases z : j = p
      · rw [z, uI_s]; omega
      · rw [uI_n z]; exact b4
theorem Inv.prs : ∀ (L : List (Int × Int × Int × Int)) {σ : Nat → Int → Int}, Inv σ → (∀ q ∈ L, PO q) → Inv (prS L σ)
  | [], σ, h, _ => h
  | q :: L, σ, h, hq => by
    by_cases z : 0 < reasonS σ q.1 q.2.1 q.2.2.1 q.2.2.2
    · rw [(pr_stop z).1]; exact h
    · rw [(pr_on (by omega)).1]
      obtain ⟨q1, q2, q3, q4⟩ := hq q List.mem_cons_self
      exact Inv.prs L (h.add q1 q2 q3 (by omega) (by omega)) (fun q' h' => hq q' (List.mem_cons_of_mem _ h'))
theorem push_inv {κ : Int} {ss : Nat → Nat → Int → Int} {σ : Nat → Int → Int} (hk : 0 ≤ κ ∧ κ ≤ 6) (h : Inv σ) (hs : ∀ k : Nat, (k : Int) < κ → Inv (ss k)) : ∀ k : Nat, (k : Int) < pushK κ → Inv (pushS κ ss σ k) := by
  intro k hk2
  by_cases z : κ = 6
  · rw [pushK_6 z] at hk2
    rw [pushS_6 z]
    by_cases y : k = 5
    · rw [if_pos y]; exact h
    · rw [if_neg y]; exact hs (k + 1) (by omega)
  · rw [pushK_lt z] at hk2
    rw [pushS_lt z]
    by_cases y : (k : Int) = κ
    · rw [if_pos y]; exact h
    · rw [if_neg y]; exact hs k (by omega)
theorem push_k {κ : Int} (hk : 0 ≤ κ ∧ κ ≤ 6) : 0 ≤ pushK κ ∧ pushK κ ≤ 6 := by
  by_cases z : κ = 6
  · rw [pushK_6 z]; omega
  · rw [pushK_lt z]; omega
theorem GI.push {σ σ' : Nat → Int → Int} {κ ln : Int} {ss : Nat → Nat → Int → Int} {β : Int → Int} (h : GI σ κ ss ln β) (h' : Inv σ') : GI σ' (pushK κ) (pushS κ ss σ) ln β :=
  ⟨h', push_k h.2.1, push_inv h.2.1 h.1 h.2.2.1, h.2.2.2.1, h.2.2.2.2⟩
theorem GI.undo {σ : Nat → Int → Int} {κ ln : Int} {ss : Nat → Nat → Int → Int} {β : Int → Int} (h : GI σ κ ss ln β) (hk : κ ≠ 0) : GI (ss (κ - 1).toNat) (κ - 1) ss ln β := by
  have hk2 := h.2.1
  exact ⟨h.2.2.1 _ (by omega), by omega, fun k q => h.2.2.1 k (by omega), h.2.2.2.1, h.2.2.2.2⟩
theorem GI.clear {σ : Nat → Int → Int} {κ ln : Int} {ss : Nat → Nat → Int → Int} {β : Int → Int} (h : GI σ κ ss ln β) : GI σ κ ss 0 β := ⟨h.1, h.2.1, h.2.2.1, by omega, fun j j0 j1 => by omega⟩
theorem GI.app {σ : Nat → Int → Int} {κ ln x : Int} {ss : Nat → Nat → Int → Int} {β : Int → Int} (h : GI σ κ ss ln β) (hx : 33 ≤ x ∧ x ≤ 126) (hl : ln < 60) : GI σ κ ss (ln + 1) (uI β ln x) := by
  have h4 := h.2.2.2.1
  refine ⟨h.1, h.2.1, h.2.2.1, by omega, fun j j0 j1 => ?_⟩
  by_cases z : j = ln
  · rw [z, uI_s]; exact hx
  · rw [uI_n z]; exact h.2.2.2.2 j j0 (by omega)
