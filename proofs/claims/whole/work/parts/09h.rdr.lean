/-! the reader's third number stays in range -/
theorem R3_nx {δ : Int → Int} {c : Int} (h : R32 (δ 3)) (hc : 0 ≤ c ∧ c ≤ 65535) (ok : dOk δ c) : R32 (dNx δ c 3) := by
  have hp : δ 0 = 0 ∨ δ 0 = 1 ∨ δ 0 = 2 ∨ δ 0 = 3 ∨ δ 0 = 4 ∨ δ 0 = 5 ∨ δ 0 = 6 ∨ δ 0 = 7 ∨ δ 0 = 8 := by unfold dOk at ok; omega
  have h5 : δ 0 = 5 → dNx δ c 3 = δ 3 := fun q => by
    rw [dNx_5 q]
    by_cases a : 48 ≤ c ∧ c ≤ 57
    · rw [if_pos a]; simp (disch := omega) only [uI_e, uI_n]
    · rw [if_neg a]
      by_cases b : c = 111
      · rw [if_pos b]; simp (disch := omega) only [uI_e, uI_n]
      · rw [if_neg b]; simp (disch := omega) only [uI_e, uI_n]
  have h6 : δ 0 = 6 → dNx δ c 3 = δ 3 := fun q => by
    rw [dNx_6 q]
    by_cases b : c = 111
    · rw [if_pos b]; simp (disch := omega) only [uI_e, uI_n]
    · rw [if_neg b]; simp (disch := omega) only [uI_e, uI_n]
  clear ok
  rcases hp with q | q | q | q | q | q | q | q | q
  · rw [(nx_0 q).2.1]; omega
  · rw [(nx_1 q).2.2.1]; exact h
  · rw [(nx_2 q).2.2.1]; exact h
  · rw [(nx_3 q).2.2.1]; exact h
  · rw [(nx_4 q).2.2.2.1]; exact h
  · rw [h5 q]; exact h
  · rw [h6 q]; exact h
  · rw [(nx_7 q).2.2.2.1]; exact h
  · rw [dNx_8 q]; simp (disch := omega) only [uI_e, uI_n]; exact h
