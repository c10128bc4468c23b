/-! texts that agree, readers that agree; parts of a complete text -/
theorem feR_c {β β' : Int → Int} : ∀ (n : Nat) (δ : Int → Int) (i : Int), (∀ j : Int, i ≤ j → j < i + n → β' j = β j) → feR β' n δ i = feR β n δ i
  | 0, _, _, _ => rfl
  | n + 1, δ, i, h => by
    show (if dOk δ (β' i) then feR β' n (dNx δ (β' i)) (i + 1) else i) = if dOk δ (β i) then feR β n (dNx δ (β i)) (i + 1) else i
    rw [h i (by omega) (by omega), feR_c n _ (i + 1) (fun j j0 j1 => h j (by omega) (by omega))]
theorem endR_c {β β' : Int → Int} : ∀ (n : Nat) (δ : Int → Int) (i : Int), (∀ j : Int, i ≤ j → j < i + n → β' j = β j) → endR β' n δ i = endR β n δ i
  | 0, _, _, _ => rfl
  | n + 1, δ, i, h => by
    show (if dOk δ (β' i) then endR β' n (dNx δ (β' i)) (i + 1) else δ) = if dOk δ (β i) then endR β n (dNx δ (β i)) (i + 1) else δ
    rw [h i (by omega) (by omega), endR_c n _ (i + 1) (fun j j0 j1 => h j (by omega) (by omega))]
theorem plR_c {β β' : Int → Int} : ∀ (n : Nat) (δ : Int → Int) (i : Int), (∀ j : Int, i ≤ j → j < i + n → β' j = β j) → plR β' n δ i = plR β n δ i
  | 0, _, _, _ => rfl
  | n + 1, δ, i, h => by
    have e := plR_c n (dNx δ (β i)) (i + 1) (fun j j0 j1 => h j (by omega) (by omega))
    have hi := h i (by omega) (by omega)
    unfold plR
    rw [hi, e]
    by_cases z : n = 0
    · rw [if_pos (Or.inl z), if_pos (Or.inl z)]
    · rw [h (i + 1) (by omega) (by omega)]
theorem VAL_c {β β' : Int → Int} {n : Int} {δ : Int → Int} (hn : 0 ≤ n) (h : ∀ j : Int, 0 ≤ j → j < n → β' j = β j) : VAL β' n δ ↔ VAL β n δ := by
  unfold VAL
  rw [feR_c _ δ 0 (fun j j0 j1 => h j j0 (by omega)), endR_c _ δ 0 (fun j j0 j1 => h j j0 (by omega))]
theorem ok_59 {δ : Int → Int} (h : dOk δ 59) : dFin δ := by unfold dOk at h; unfold dFin; omega
theorem pl_PO {β : Int → Int} : ∀ (n : Nat) (δ : Int → Int) (i : Int), dWf δ → feR β n δ i = i + n → dFin (endR β n δ i) → ∀ q ∈ plR β n δ i, PO q
  | 0, _, _, _, _, _ => fun q h => absurd h (by simp [plR])
  | n + 1, δ, i, hw, hf, he => by
    have ok : dOk δ (β i) := by
      refine Classical.byContradiction (fun q => ?_)
      have : feR β (n + 1) δ i = i := if_neg q
      omega
    have f1 : feR β (n + 1) δ i = feR β n (dNx δ (β i)) (i + 1) := if_pos ok
    have e1 : endR β (n + 1) δ i = endR β n (dNx δ (β i)) (i + 1) := if_pos ok
    have hw2 := dWf_nx hw ok
    have f2 : feR β n (dNx δ (β i)) (i + 1) = i + 1 + n := by omega
    rw [e1] at he
    have hr := pl_PO n (dNx δ (β i)) (i + 1) hw2 f2 he
    intro q hq
    unfold plR at hq
    by_cases z : n = 0 ∨ β (i + 1) = 59
    · rw [if_pos z] at hq
      have hfin : dFin (dNx δ (β i)) := by
        by_cases z0 : n = 0
        · subst z0; exact he
        · have zb := z.resolve_left z0
          obtain ⟨k, rfl⟩ : ∃ k, n = k + 1 := ⟨n - 1, by omega⟩
          refine ok_59 (Classical.byContradiction (fun w => ?_))
          have : feR β (k + 1) (dNx δ (β i)) (i + 1) = i + 1 := if_neg (by rw [zb]; exact w)
          omega
      rcases List.mem_cons.mp hq with e | e
      · rw [e]; exact PO_of hw2 hfin
      · exact hr q e
    · rw [if_neg z] at hq
      exact hr q hq
theorem VAL.po {β : Int → Int} {n : Int} {δ : Int → Int} (h : VAL β n δ) (hn : 0 ≤ n) (hd : δ 0 = 0) : ∀ q ∈ plR β (n - 0).toNat δ 0, PO q :=
  pl_PO _ δ 0 (dWf_0 hd) (by rw [h.1]; omega) h.2
theorem tl_s {τ : Int → Int} {k T : Int} (h : k < T) : tlR τ (T - k).toNat k = (τ (4 * k + 3), τ (4 * k), τ (4 * k + 1), τ (4 * k + 2)) :: tlR τ (T - (k + 1)).toNat (k + 1) := by rw [toNat_s h]; rfl
theorem tl_e {τ : Int → Int} {k T : Int} (h : k = T) : tlR τ (T - k).toNat k = [] := by rw [show (T - k).toNat = 0 by omega]; rfl
theorem pr_stop {q : Int × Int × Int × Int} {L : List (Int × Int × Int × Int)} {σ : Nat → Int → Int} (h : 0 < reasonS σ q.1 q.2.1 q.2.2.1 q.2.2.2) : prS (q :: L) σ = σ ∧ prC (q :: L) σ = 0 := ⟨if_pos h, if_pos h⟩
theorem pr_on {q : Int × Int × Int × Int} {L : List (Int × Int × Int × Int)} {σ : Nat → Int → Int} (h : reasonS σ q.1 q.2.1 q.2.2.1 q.2.2.2 ≤ 0) : prS (q :: L) σ = prS L (addS σ q.1 q.2.1 q.2.2.1 q.2.2.2) ∧ prC (q :: L) σ = prC L (addS σ q.1 q.2.1 q.2.2.1 q.2.2.2) + 1 := ⟨if_neg (by omega), if_neg (by omega)⟩
/-- what the reader held before does not matter to what is a fault -/
def dAg (δ δ' : Int → Int) : Prop := δ' 0 = δ 0 ∧ (1 ≤ δ 0 → δ' 3 = δ 3)
theorem dOk_ag {δ δ' : Int → Int} {c : Int} (h : dAg δ δ') : dOk δ' c ↔ dOk δ c := by
  obtain ⟨h0, h3⟩ := h
  unfold dOk
  rw [h0]
  by_cases q : 1 ≤ δ 0
  · rw [h3 q]
  · constructor
    · intro w
      rcases w with w | w
      · exact Or.inl w
      · exfalso; omega
    · intro w
      rcases w with w | w
      · exact Or.inl w
      · exfalso; omega
theorem dAg_nx {δ δ' : Int → Int} {c : Int} (h : dAg δ δ') (ok : dOk δ c) : dAg (dNx δ c) (dNx δ' c) := by
  obtain ⟨h0, h3⟩ := h
  have hp : δ 0 = 0 ∨ δ 0 = 1 ∨ δ 0 = 2 ∨ δ 0 = 3 ∨ δ 0 = 4 ∨ δ 0 = 5 ∨ δ 0 = 6 ∨ δ 0 = 7 ∨ δ 0 = 8 := by unfold dOk at ok; omega
  clear ok
  unfold dAg
  rcases hp with q | q | q | q | q | q | q | q | q
  · rw [dNx_0 q, dNx_0 (h0.trans q)]; simp (disch := omega) only [uI_e, uI_n]; exact ⟨trivial, fun _ => trivial⟩
  · rw [dNx_1 q, dNx_1 (h0.trans q)]; simp (disch := omega) only [uI_e, uI_n]; exact ⟨trivial, fun _ => h3 (by omega)⟩
  · rw [dNx_2 q, dNx_2 (h0.trans q)]; simp (disch := omega) only [uI_e, uI_n]; exact ⟨trivial, fun _ => h3 (by omega)⟩
  · rw [dNx_3 q, dNx_3 (h0.trans q)]; simp (disch := omega) only [uI_e, uI_n]; exact ⟨trivial, fun _ => h3 (by omega)⟩
  · rw [dNx_4 q, dNx_4 (h0.trans q)]; simp (disch := omega) only [uI_e, uI_n]; exact ⟨trivial, fun _ => h3 (by omega)⟩
  · rw [dNx_5 q, dNx_5 (h0.trans q)]
    by_cases a : 48 ≤ c ∧ c ≤ 57
    · rw [if_pos a, if_pos a]; simp (disch := omega) only [uI_e, uI_n]; exact ⟨trivial, fun _ => h3 (by omega)⟩
    · rw [if_neg a, if_neg a]
      by_cases b : c = 111
      · rw [if_pos b, if_pos b]; simp (disch := omega) only [uI_e, uI_n]; exact ⟨trivial, fun _ => h3 (by omega)⟩
      · rw [if_neg b, if_neg b]; simp (disch := omega) only [uI_e, uI_n]; exact ⟨trivial, fun _ => h3 (by omega)⟩
  · rw [dNx_6 q, dNx_6 (h0.trans q)]
    by_cases b : c = 111
    · rw [if_pos b, if_pos b]; simp (disch := omega) only [uI_e, uI_n]; exact ⟨trivial, fun _ => h3 (by omega)⟩
    · rw [if_neg b, if_neg b]; simp (disch := omega) only [uI_e, uI_n]; exact ⟨trivial, fun _ => h3 (by omega)⟩
  · rw [dNx_7 q, dNx_7 (h0.trans q)]; simp (disch := omega) only [uI_e, uI_n]; exact ⟨trivial, fun _ => h3 (by omega)⟩
  · rw [dNx_8 q, dNx_8 (h0.trans q)]; simp (disch := omega) only [uI_e, uI_n]; exact ⟨trivial, fun _ => h3 (by omega)⟩
theorem feR_ag {β : Int → Int} : ∀ (n : Nat) (δ δ' : Int → Int) (i : Int), dAg δ δ' → feR β n δ' i = feR β n δ i ∧ (endR β n δ' i) 0 = (endR β n δ i) 0
  | 0, _, _, _, h => ⟨rfl, h.1⟩
  | n + 1, δ, δ', i, h => by
    by_cases ok : dOk δ (β i)
    · have ok' := (dOk_ag (c := β i) h).mpr ok
      obtain ⟨a, b⟩ := feR_ag n _ _ (i + 1) (dAg_nx h ok)
      exact ⟨((if_pos ok').trans a).trans (if_pos ok).symm, by
        show (if dOk δ' (β i) then endR β n (dNx δ' (β i)) (i + 1) else δ') 0 = (if dOk δ (β i) then endR β n (dNx δ (β i)) (i + 1) else δ) 0
        rw [if_pos ok, if_pos ok']; exact b⟩
    · have ok' := fun w => ok ((dOk_ag (c := β i) h).mp w)
      exact ⟨(if_neg ok').trans (if_neg ok).symm, by
        show (if dOk δ' (β i) then endR β n (dNx δ' (β i)) (i + 1) else δ') 0 = (if dOk δ (β i) then endR β n (dNx δ (β i)) (i + 1) else δ) 0
        rw [if_neg ok, if_neg ok']; exact h.1⟩
theorem VAL_ag {β : Int → Int} {n : Int} {δ δ' : Int → Int} (h : δ 0 = 0) (h' : δ' 0 = 0) : VAL β n δ' ↔ VAL β n δ := by
  obtain ⟨a, b⟩ := feR_ag (β := β) (n - 0).toNat δ δ' 0 ⟨h'.trans h.symm, fun q => by omega⟩
  unfold VAL dFin
  rw [a, b]
theorem pr_on4 {a b c d : Int} {L : List (Int × Int × Int × Int)} {σ : Nat → Int → Int} (h : reasonS σ a b c d ≤ 0) : prS ((a, b, c, d) :: L) σ = prS L (addS σ a b c d) ∧ prC ((a, b, c, d) :: L) σ = prC L (addS σ a b c d) + 1 := pr_on (q := (a, b, c, d)) h
theorem pr_stop4 {a b c d : Int} {L : List (Int × Int × Int × Int)} {σ : Nat → Int → Int} (h : 0 < reasonS σ a b c d) : prS ((a, b, c, d) :: L) σ = σ ∧ prC ((a, b, c, d) :: L) σ = 0 := ⟨if_pos h, if_pos h⟩
