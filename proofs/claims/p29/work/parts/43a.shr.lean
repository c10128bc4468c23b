/-! the share as a function of the state -/
def hldS (σ : Nat → Int → Int) : Int := sm (fun c => highS σ c - lowS σ c (σ 0 0)) 4
def romS (σ : Nat → Int → Int) : Int := sm (fun c => σ 4 c - σ 3 c) 4
def shrS (σ : Nat → Int → Int) : UInt64 := shD (hldS σ) (romS σ)
theorem hld_r {σ : Nat → Int → Int} (hI : Inv σ) : 0 ≤ hldS σ ∧ hldS σ ≤ romS σ ∧ romS σ ≤ 7992 := by
  have h0 := hI.c (c := 0) (by omega) (by omega)
  have h1 := hI.c (c := 1) (by omega) (by omega)
  have h2 := hI.c (c := 2) (by omega) (by omega)
  have h3 := hI.c (c := 3) (by omega) (by omega)
  have e1 : hldS σ = 0 + (highS σ 0 - lowS σ 0 (σ 0 0)) + (highS σ 1 - lowS σ 1 (σ 0 0)) + (highS σ 2 - lowS σ 2 (σ 0 0)) + (highS σ 3 - lowS σ 3 (σ 0 0)) := rfl
  have e2 : romS σ = 0 + (σ 4 0 - σ 3 0) + (σ 4 1 - σ 3 1) + (σ 4 2 - σ 3 2) + (σ 4 3 - σ 3 3) := rfl
  omega
theorem shr_SH {σ : Nat → Int → Int} (hI : Inv σ) : SH (shrS σ) := by
  obtain ⟨h1, h2, h3⟩ := hld_r hI
  exact SH_of h1 h2 h3
theorem shr_n64 {σ : Nat → Int → Int} (hI : Inv σ) {h r : Int} (e1 : h = hldS σ) (e2 : r = romS σ) (z : r ≠ 0) : vf_n64 (FP.ddiv (FP.i2d (iI h)) (FP.i2d (iI r))) := by
  obtain ⟨h1, h2, h3⟩ := hld_r hI
  exact sh_div (by omega) (by omega) (by omega) z
