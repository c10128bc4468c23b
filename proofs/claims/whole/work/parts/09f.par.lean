/-! a run of the reader over a part of a text -/
def RUN (β : Int → Int) (n : Int) (δ : Int → Int) (i : Int) (δ' : Int → Int) (j : Int) : Prop :=
  i ≤ j ∧ j ≤ n ∧ feR β (n - i).toNat δ i = feR β (n - j).toNat δ' j ∧ endR β (n - i).toNat δ i = endR β (n - j).toNat δ' j ∧
  (i = j → δ' = δ) ∧ (i < j → j = n ∨ β j = 59 → plR β (n - i).toNat δ i = (δ' 5, δ' 3, byD δ', δ' 4) :: plR β (n - j).toNat δ' j) ∧
  (i < j → j < n → β j ≠ 59 → plR β (n - i).toNat δ i = plR β (n - j).toNat δ' j)
theorem RUN.rf {β : Int → Int} {n : Int} {δ : Int → Int} {i : Int} (h : i ≤ n) : RUN β n δ i δ i :=
  ⟨Int.le_refl _, h, rfl, rfl, fun _ => rfl, fun h => by omega, fun h => by omega⟩
theorem RUN.step {β : Int → Int} {n : Int} {δ δ' : Int → Int} {i j : Int} (h : RUN β n δ i δ' j) (hj : j < n) (ok : dOk δ' (β j)) (hs : i < j → β j ≠ 59) : RUN β n δ i (dNx δ' (β j)) (j + 1) := by
  obtain ⟨h1, h2, h3, h4, h5, h6, h7⟩ := h
  have hp : plR β (n - i).toNat δ i = plR β (n - j).toNat δ' j := by
    by_cases e : i = j
    · rw [h5 e, e]
    · exact h7 (by omega) hj (hs (by omega))
  refine ⟨by omega, by omega, by rw [h3, fe_step hj ok], by rw [h4, en_step hj ok], fun e => by omega, fun _ hc => ?_, fun _ h8 h9 => ?_⟩
  · rw [hp, pl_cut hj (by omega)]
  · rw [hp, pl_on (by omega) h9]
theorem RUN.no {β : Int → Int} {n : Int} {δ δ' : Int → Int} {i j : Int} (h : RUN β n δ i δ' j) (no : j < n → ¬ dOk δ' (β j)) : feR β (n - i).toNat δ i = j := by
  obtain ⟨h1, h2, h3, h4, h5, h6, h7⟩ := h
  rw [h3]
  by_cases e : j < n
  · exact fe_stop e (no e)
  · exact fe_end (by omega)
theorem RUN.en {β : Int → Int} {n : Int} {δ δ' : Int → Int} {i j : Int} (h : RUN β n δ i δ' j) (e : j = n) : endR β (n - i).toNat δ i = δ' := by
  rw [h.2.2.2.1]; exact en_end e
theorem nx_0 {δ : Int → Int} {c : Int} (h : δ 0 = 0) : dNx δ c 0 = 1 ∧ dNx δ c 3 = c - 48 ∧ dNx δ c 4 = -1 ∧ dNx δ c 5 = 0 := by
  rw [dNx_0 h]; refine ⟨?_, ?_, ?_, ?_⟩ <;> simp (disch := omega) only [uI_e, uI_n]
theorem nx_1 {δ : Int → Int} {c : Int} (h : δ 0 = 1) : dNx δ c 0 = (if c = 62 then 2 else 4) ∧ dNx δ c 1 = (if c = 43 then 0 else 1) ∧ dNx δ c 3 = δ 3 ∧ dNx δ c 4 = δ 4 ∧ dNx δ c 5 = δ 5 := by
  rw [dNx_1 h]; refine ⟨?_, ?_, ?_, ?_, ?_⟩ <;> simp (disch := omega) only [uI_e, uI_n]
theorem nx_2 {δ : Int → Int} {c : Int} (h : δ 0 = 2) : dNx δ c 0 = 3 ∧ dNx δ c 1 = δ 1 ∧ dNx δ c 3 = δ 3 ∧ dNx δ c 4 = c - 48 ∧ dNx δ c 5 = δ 5 := by
  rw [dNx_2 h]; refine ⟨?_, ?_, ?_, ?_, ?_⟩ <;> simp (disch := omega) only [uI_e, uI_n]
theorem nx_3 {δ : Int → Int} {c : Int} (h : δ 0 = 3) : dNx δ c 0 = 4 ∧ dNx δ c 1 = δ 1 ∧ dNx δ c 3 = δ 3 ∧ dNx δ c 4 = δ 4 ∧ dNx δ c 5 = δ 5 := by
  rw [dNx_3 h]; refine ⟨?_, ?_, ?_, ?_, ?_⟩ <;> simp (disch := omega) only [uI_e, uI_n]
theorem nx_4 {δ : Int → Int} {c : Int} (h : δ 0 = 4) : dNx δ c 0 = 5 ∧ dNx δ c 1 = δ 1 ∧ dNx δ c 2 = c - 48 ∧ dNx δ c 3 = δ 3 ∧ dNx δ c 4 = δ 4 ∧ dNx δ c 5 = δ 5 := by
  rw [dNx_4 h]; refine ⟨?_, ?_, ?_, ?_, ?_, ?_⟩ <;> simp (disch := omega) only [uI_e, uI_n]
theorem nx_5 {δ : Int → Int} {c : Int} (h : δ 0 = 5) (hc : 48 ≤ c ∧ c ≤ 57) : dNx δ c 0 = 6 ∧ dNx δ c 1 = δ 1 ∧ dNx δ c 2 = 10 * δ 2 + (c - 48) ∧ dNx δ c 3 = δ 3 ∧ dNx δ c 4 = δ 4 ∧ dNx δ c 5 = δ 5 := by
  rw [dNx_5 h, if_pos hc]; refine ⟨?_, ?_, ?_, ?_, ?_, ?_⟩ <;> simp (disch := omega) only [uI_e, uI_n]
theorem nx_o {δ : Int → Int} {c : Int} (h : δ 0 = 5 ∨ δ 0 = 6) (hc : c = 111) : dNx δ c 0 = 7 ∧ dNx δ c 1 = δ 1 ∧ dNx δ c 2 = δ 2 ∧ dNx δ c 3 = δ 3 ∧ dNx δ c 4 = δ 4 ∧ dNx δ c 5 = δ 5 := by
  rcases h with h | h
  · rw [dNx_5 h, if_neg (by omega), if_pos hc]; refine ⟨?_, ?_, ?_, ?_, ?_, ?_⟩ <;> simp (disch := omega) only [uI_e, uI_n]
  · rw [dNx_6 h, if_pos hc]; refine ⟨?_, ?_, ?_, ?_, ?_, ?_⟩ <;> simp (disch := omega) only [uI_e, uI_n]
theorem nx_7 {δ : Int → Int} {c : Int} (h : δ 0 = 7) : dNx δ c 0 = 8 ∧ dNx δ c 1 = δ 1 ∧ dNx δ c 2 = δ 2 ∧ dNx δ c 3 = δ 3 ∧ dNx δ c 4 = δ 4 ∧ dNx δ c 5 = c - 48 := by
  rw [dNx_7 h]; refine ⟨?_, ?_, ?_, ?_, ?_, ?_⟩ <;> simp (disch := omega) only [uI_e, uI_n]
theorem nx_f {δ : Int → Int} (h : dFin δ) : dOk δ 59 ∧ dNx δ 59 0 = 0 := by
  refine ⟨by omega, ?_⟩
  rcases h with h | h | h
  · rw [dNx_5 h, if_neg (by omega), if_neg (by omega), uI_s]
  · rw [dNx_6 h, if_neg (by omega), uI_s]
  · rw [dNx_8 h, uI_s]
theorem byD_def (δ : Int → Int) : byD δ = if δ 1 = 0 then δ 2 else -δ 2 := rfl
/-- what isFigure, isNumber leave of the reference's numbers -/
def FRW (g η : Int → Int) : Prop := η 0 = g 0 ∧ η 1 = g 1 ∧ η 2 = g 2 ∧ η 6 = g 6
theorem FRW.rf (g : Int → Int) : FRW g g := ⟨rfl, rfl, rfl, rfl⟩
theorem FRW.u {g η : Int → Int} (h : FRW g η) (j x : Int) (hj : j = 3 ∨ j = 4 ∨ j = 5) : FRW g (uI η j x) := by
  obtain ⟨h0, h1, h2, h6⟩ := h
  refine ⟨?_, ?_, ?_, ?_⟩
  · rw [uI_n (by omega)]; exact h0
  · rw [uI_n (by omega)]; exact h1
  · rw [uI_n (by omega)]; exact h2
  · rw [uI_n (by omega)]; exact h6
theorem FRW.tr {g η θ : Int → Int} (h : FRW g η) (k : FRW η θ) : FRW g θ := ⟨k.1.trans h.1, k.2.1.trans h.2.1, k.2.2.1.trans h.2.2.1, k.2.2.2.trans h.2.2.2⟩
/-- the rows that are told -/
def tlR (τ : Int → Int) : Nat → Int → List (Int × Int × Int × Int)
  | 0, _ => []
  | m + 1, k => (τ (4 * k + 3), τ (4 * k), τ (4 * k + 1), τ (4 * k + 2)) :: tlR τ m (k + 1)
theorem tlR_c {τ τ' : Int → Int} : ∀ (m : Nat) (k : Int), (∀ j : Int, 4 * k ≤ j → j < 4 * (k + m) → τ' j = τ j) → tlR τ' m k = tlR τ m k
  | 0, k, _ => rfl
  | m + 1, k, h => by
    show _ :: _ = _ :: _
    rw [h _ (by omega) (by omega), h _ (by omega) (by omega), h _ (by omega) (by omega), h _ (by omega) (by omega), tlR_c m (k + 1) (fun j j0 j1 => h j (by omega) (by omega))]
theorem tlR_a {τ : Int → Int} : ∀ (m : Nat) (k : Int), tlR τ (m + 1) k = tlR τ m k ++ [(τ (4 * (k + m) + 3), τ (4 * (k + m)), τ (4 * (k + m) + 1), τ (4 * (k + m) + 2))]
  | 0, k => by
    show [_] = [_]
    rw [show k + ((0 : Nat) : Int) = k by omega]
  | m + 1, k => by
    rw [show tlR τ (m + 1 + 1) k = (τ (4 * k + 3), τ (4 * k), τ (4 * k + 1), τ (4 * k + 2)) :: tlR τ (m + 1) (k + 1) from rfl, tlR_a m (k + 1)]
    rw [show k + 1 + (m : Int) = k + ((m + 1 : Nat) : Int) by omega]
    rfl
/-- what isPart answers: it is a part, or where it stops -/
def PTQ (β : Int → Int) (n : Int) (δ : Int → Int) (i T : Int) (τ0 : Int → Int) (r : Int) (η τ : Int → Int) : Prop :=
  (r = 1 → i + 3 ≤ η 3 ∧ ∃ δ' : Int → Int, RUN β n δ i δ' (η 3) ∧ dFin δ' ∧ (η 3 < n → β (η 3) ≠ 59 → ¬ dOk δ' (β (η 3))) ∧ τ (4 * T) = δ' 3 ∧ τ (4 * T + 1) = byD δ' ∧ τ (4 * T + 2) = δ' 4 ∧ τ (4 * T + 3) = δ' 5) ∧
  (r = 0 → i ≤ η 3 ∧ η 3 ≤ n ∧ feR β (n - i).toNat δ i = η 3 ∧ η 4 = (if η 3 < n then 1 else 0) ∧ (η 3 = n → ¬ dFin (endR β (n - i).toNat δ i))) ∧ (r = 0 ∨ r = 1) ∧
  ∀ j : Int, j < 4 * T → τ j = τ0 j
theorem PTQ.no {β : Int → Int} {n : Int} {δ : Int → Int} {i T : Int} {τ0 η τ δ' : Int → Int} {r : Int} (hr : r = 0) (h : RUN β n δ i δ' (η 3)) (hok : η 3 < n → ¬ dOk δ' (β (η 3))) (hf : ¬ dFin δ') (h4 : η 4 = if η 3 < n then 1 else 0) (ht : ∀ j : Int, j < 4 * T → τ j = τ0 j) : PTQ β n δ i T τ0 r η τ :=
  ⟨fun h9 => by omega, fun _ => ⟨h.1, h.2.1, h.no hok, h4, fun e => by rw [h.en e]; exact hf⟩, Or.inl hr, ht⟩
theorem PTQ.ok {β : Int → Int} {n : Int} {δ : Int → Int} {i T : Int} {τ0 η τ δ' : Int → Int} {r : Int} (hr : r = 1) (hi : i + 3 ≤ η 3) (h : RUN β n δ i δ' (η 3)) (hf : dFin δ') (hok : η 3 < n → β (η 3) ≠ 59 → ¬ dOk δ' (β (η 3))) (t0 : τ (4 * T) = δ' 3) (t1 : τ (4 * T + 1) = byD δ') (t2 : τ (4 * T + 2) = δ' 4) (t3 : τ (4 * T + 3) = δ' 5) (ht : ∀ j : Int, j < 4 * T → τ j = τ0 j) : PTQ β n δ i T τ0 r η τ :=
  ⟨fun _ => ⟨hi, δ', h, hf, hok, t0, t1, t2, t3⟩, fun h9 => by omega, Or.inr hr, ht⟩
