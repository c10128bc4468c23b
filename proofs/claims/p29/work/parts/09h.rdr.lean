/-! the reader's third number stays in range -/
theorem R3_nx {δ : Int → Int} {c : Int} (h : R32 (δ 3)) (hc : 0 ≤ c ∧ c ≤ 65535) (ok : dOk δ c) : R32 (dNx δ c 3) := by
  have hp : δ 0 = 0 ∨ δ 0 = 1 ∨ δ 0 = 2 ∨ δ 0 = 3 ∨ δ 0 = 4 ∨ δ 0 = 5 ∨ δ 0 = 6 ∨ δ 0 = 7 ∨ δ 0 = 8 := by unfold dOk at ok; omega
  have h5 : δ 0 = 5 → dNx δ c 3 = δ 3 := fun q => by
    rw [dNx_5 q]
    by_cases a : 48 ≤ c ∧ c ≤ 57
    · rw [if_pos a]; simp (disch := omega) only [uI_e, uI_n]
    · rw [if_neg a]
      by_cases b : c = 111
      · rw [if_pos b]; simp (disch := omega) only [uI_e, uI_n]
      · rw [if_neg b]; simp (disch := omega) only [uI_e, uI_n]
  have h6 : δ 0 = 6 → dNx δ c 3 = δ 3 := fun q => by
    rw [dNx_6 q]
    by_cases b : c = 111
    · rw [if_pos b]; simp (disch := omega) only [uI_e, uI_n]
    · rw [if_neg b]; simp (disch := omega) only [uI_e, uI_n]
  clear ok
  rcases hp with q | q | q | q | q | q | q | q | q
  · rw [(nx_0 q).2.1]; omega
  · rw [(nx_1 q).2.2.1]; exact h
  · rw [(nx_2 q).2.2.1]; exact h
  · rw [(nx_3 q).2.2.1]; exact h
  · rw [(nx_4 q).2.2.2.1]; exact h
  · rw [h5 q]; exact h
  · rw [h6 q]; exact h
  · rw [(nx_7 q).2.2.2.1]; exact h
  · rw [dNx_8 q]; simp (disch := omega) only [uI_e, uI_n]; exact h
def RDQ (δ : Int → Int) (c r : Int) (η : Int → Int) : Prop := (dOk δ c → r = 1 ∧ η = dNx δ c) ∧ (¬ dOk δ c → r = 0)
theorem RDQ.z {δ η : Int → Int} {c r : Int} (h : RDQ δ c r η) : r = 0 ∨ r = 1 := (Decidable.em (dOk δ c)).elim (fun q => Or.inr (h.1 q).1) (fun q => Or.inl (h.2 q))
theorem RDQ.go {β δ η : Int → Int} {i n r : Int} (h : RDQ δ (β i) r η) (hr : r ≠ 0) (hi : i < n) (hw : dWf δ) (h3 : R32 (δ 3)) (hc : 0 ≤ β i ∧ β i ≤ 65535) :
    dWf η ∧ R32 (η 3) ∧ feR β (n - i).toNat δ i = feR β (n - (i + 1)).toNat η (i + 1) ∧ endR β (n - i).toNat δ i = endR β (n - (i + 1)).toNat η (i + 1) ∧
    (i + 1 = n ∨ β (i + 1) = 59 → plR β (n - i).toNat δ i = (η 5, η 3, byD η, η 4) :: plR β (n - (i + 1)).toNat η (i + 1)) ∧ (i + 1 < n → β (i + 1) ≠ 59 → plR β (n - i).toNat δ i = plR β (n - (i + 1)).toNat η (i + 1)) := by
  have ok : dOk δ (β i) := Classical.byContradiction (fun q => hr (h.2 q))
  rw [(h.1 ok).2]
  exact ⟨dWf_nx hw ok, R3_nx h3 hc ok, fe_step hi ok, en_step hi ok, fun q => pl_cut hi q, fun q w => pl_on q w⟩
theorem RDQ.st {β δ η : Int → Int} {i n r : Int} (h : RDQ δ (β i) r η) (hr : r = 0) (hi : i < n) : feR β (n - i).toNat δ i = i :=
  fe_stop hi (fun ok => by have := (h.1 ok).1; omega)
