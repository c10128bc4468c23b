/-! where a part of a text ends -/
def FINd (δ : Int → Int) : Prop := dFin δ
theorem by1 {η : Int → Int} (hw : dWf η) (hf : FINd η) : R32 (η 1) := by
  unfold FINd at hf
  unfold dWf at hw
  omega
theorem fin_cut {β η : Int → Int} {i n : Int} (hw : dWf η) (hfe : feR β (n - (i + 1)).toNat η (i + 1) = n) (hen : FINd (endR β (n - (i + 1)).toNat η (i + 1))) (hi : i < n) (hc : i + 1 = n ∨ β (i + 1) = 59) : FINd η := by
  by_cases z : i + 1 = n
  · rw [en_end z] at hen; exact hen
  · have ok : dOk η (β (i + 1)) := Classical.byContradiction (fun q => by rw [fe_stop (by omega) q] at hfe; exact z hfe)
    rw [show β (i + 1) = 59 by omega] at ok
    unfold FINd
    clear hen hfe hw hc
    unfold dOk at ok
    unfold dFin
    omega
