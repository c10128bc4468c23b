/-! a run of the reader over a part of a text -/
def RUN (β : Int → Int) (n : Int) (δ : Int → Int) (i : Int) (δ' : Int → Int) (j : Int) : Prop :=
  i ≤ j ∧ j ≤ n ∧ feR β (n - i).toNat δ i = feR β (n - j).toNat δ' j ∧ endR β (n - i).toNat δ i = endR β (n - j).toNat δ' j ∧
  (i = j → δ' = δ) ∧ (i < j → j = n ∨ β j = 59 → plR β (n - i).toNat δ i = (δ' 5, δ' 3, byD δ', δ' 4) :: plR β (n - j).toNat δ' j) ∧
  (i < j → j < n → β j ≠ 59 → plR β (n - i).toNat δ i = plR β (n - j).toNat δ' j)
theorem RUN.rf {β : Int → Int} {n : Int} {δ : Int → Int} {i : Int} (h : i ≤ n) : RUN β n δ i δ i :=
  ⟨Int.le_refl _, h, rfl, rfl, fun _ => rfl, fun h => by omega, fun h => by omega⟩
theorem RUN.step {β : Int → Int} {n : Int} {δ δ' : Int → Int} {i j : Int} (h : RUN β n δ i δ' j) (hj : j < n) (ok : dOk δ' (β j)) (hs : i < j → β j ≠ 59) : RUN β n δ i (dNx δ' (β j)) (j + 1) := by
  obtain ⟨h1, h2, h3, h4, h5, h6, h7⟩ := h
  have hp : plR β (n - i).toNat δ i = plR β (n - j).toNat δ' j := by
    by_cases e : i = j
    · rw [h5 e, e]
    · exact h7 (by omega) hj (hs (by omega))
  refine ⟨by omega, by omega, by rw [h3, fe_step hj ok], by rw [h4, en_step hj ok], fun e => by omega, fun _ hc => ?_, fun _ h8 h9 => ?_⟩
  · rw [hp, pl_cut hj (by omega)]
  · rw [hp, pl_on (by omega) h9]
theorem RUN.no {β : Int → Int} {n : Int} {δ δ' : Int → Int} {i j : Int} (h : RUN β n δ i δ' j) (no : j < n → ¬ dOk δ' (β j)) : feR β (n - i).toNat δ i = j := by
  obtain ⟨h1, h2, h3, h4, h5, h6, h7⟩ := h
  rw [h3]
  by_cases e : j < n
  · exact fe_stop e (no e)
  · exact fe_end (by omega)
theorem RUN.en {β : Int → Int} {n : Int} {δ δ' : Int → Int} {i j : Int} (h : RUN β n δ i δ' j) (e : j = n) : endR β (n - i).toNat δ i = δ' := by
  rw [h.2.2.2.1]; exact en_end e
theorem nx_0 {δ : Int → Int} {c : Int} (h : δ 0 = 0) : dNx δ c 0 = 1 ∧ dNx δ c 3 = c - 48 ∧ dNx δ c 4 = -1 ∧ dNx δ c 5 = 0 := by
  rw [dNx_0 h]; refine ⟨?_, ?_, ?_, ?_⟩ <;> simp (disch := omega) only [uI_e, uI_n]
theorem nx_1 {δ : Int → Int} {c : Int} (h : δ 0 = 1) : dNx δ c 0 = (if c = 62 then 2 else 4) ∧ dNx δ c 1 = (if c = 43 then 0 else 1) ∧ dNx δ c 3 = δ 3 ∧ dNx δ c 4 = δ 4 ∧ dNx δ c 5 = δ 5 := by
  rw [dNx_1 h]; refine ⟨?_, ?_, ?_, ?_, ?_⟩ <;> simp (disch := omega) only [uI_e, uI_n]
theorem nx_2 {δ : Int → Int} {c : Int} (h : δ 0 = 2) : dNx δ c 0 = 3 ∧ dNx δ c 1 = δ 1 ∧ dNx δ c 3 = δ 3 ∧ dNx δ c 4 = c - 48 ∧ dNx δ c 5 = δ 5 := by
  rw [dNx_2 h]; refine ⟨?_, ?_, ?_, ?_, ?_⟩ <;> simp (disch := omega) only [uI_e, uI_n]
theorem nx_3 {δ : Int → Int} {c : Int} (h : δ 0 = 3) : dNx δ c 0 = 4 ∧ dNx δ c 1 = δ 1 ∧ dNx δ c 3 = δ 3 ∧ dNx δ c 4 = δ 4 ∧ dNx δ c 5 = δ 5 := by
  rw [dNx_3 h]; refine ⟨?_, ?_, ?_, ?_, ?_⟩ <;> simp (disch := omega) only [uI_e, uI_n]
theorem nx_4 {δ : Int → Int} {c : Int} (h : δ 0 = 4) : dNx δ c 0 = 5 ∧ dNx δ c 1 = δ 1 ∧ dNx δ c 2 = c - 48 ∧ dNx δ c 3 = δ 3 ∧ dNx δ c 4 = δ 4 ∧ dNx δ c 5 = δ 5 := by
  rw [dNx_4 h]; refine ⟨?_, ?_, ?_, ?_, ?_, ?_⟩ <;> simp (disch := omega) only [uI_e, uI_n]
theorem nx_5 {δ : Int → Int} {c : Int} (h : δ 0 = 5) (hc : 48 ≤ c ∧ c ≤ 57) : dNx δ c 0 = 6 ∧ dNx δ c 1 = δ 1 ∧ dNx δ c 2 = 10 * δ 2 + (c - 48) ∧ dNx δ c 3 = δ 3 ∧ dNx δ c 4 = δ 4 ∧ dNx δ c 5 = δ 5 := by
  rw [dNx_5 h, if_pos hc]; refine ⟨?_, ?_, ?_, ?_, ?_, ?_⟩ <;> simp (disch := omega) only [uI_e, uI_n]
theorem nx_o {δ : Int → Int} {c : Int} (h : δ 0 = 5 ∨ δ 0 = 6) (hc : c = 111) : dNx δ c 0 = 7 ∧ dNx δ c 1 = δ 1 ∧ dNx δ c 2 = δ 2 ∧ dNx δ c 3 = δ 3 ∧ dNx δ c 4 = δ 4 ∧ dNx δ c 5 = δ 5 := by
  rcases h with h | h
  · rw [dNx_5 h, if_neg (by omega), if_pos hc]; refine ⟨?_, ?_, ?_, ?_, ?_, ?_⟩ <;> simp (disch := omega) only [uI_e, uI_n]
  · rw [dNx_6 h, if_pos hc]; refine ⟨?_, ?_, ?_, ?_, ?_, ?_⟩ <;> simp (disch := omega) only [uI_e, uI_n]
theorem nx_7 {δ : Int → Int} {c : Int} (h : δ 0 = 7) : dNx δ c 0 = 8 ∧ dNx δ c 1 = δ 1 ∧ dNx δ c 2 = δ 2 ∧ dNx δ c 3 = δ 3 ∧ dNx δ c 4 = δ 4 ∧ dNx δ c 5 = c - 48 := by
  rw [dNx_7 h]; refine ⟨?_, ?_, ?_, ?_, ?_, ?_⟩ <;> simp (disch := omega) only [uI_e, uI_n]
theorem nx_f {δ : Int → Int} (h : dFin δ) : dOk δ 59 ∧ dNx δ 59 0 = 0 := by
  refine ⟨by omega, ?_⟩
  rcases h with h | h | h
  · rw [dNx_5 h, if_neg (by omega), if_neg (by omega), uI_s]
  · rw [dNx_6 h, if_neg (by omega), uI_s]
  · rw [dNx_8 h, uI_s]
theorem byD_def (δ : Int → Int) : byD δ = if δ 1 = 0 then δ 2 else -δ 2 := rfl
/-- what isFigure, isNumber leave of the reference's numbers -/
def FRW (g η : Int → Int) : Prop := η 0 = g 0 ∧ η 1 = g 1 ∧ η 2 = g 2 ∧ η 6 = g 6
theorem FRW.rf (g : Int → Int) : FRW g g := ⟨rfl, rfl, rfl, rfl⟩
theorem FRW.u {g η : Int → Int} (h : FRW g η) (j x : Int) (hj : j = 3 ∨ j = 4 ∨ j = 5) : FRW g (uI η j x) := by
  obtain ⟨h0, h1, h2, h6⟩ := h
  refine ⟨?_, ?_, ?_, ?_⟩
  · rw [uI_n (by omega)]; exact h0
  · rw [uI_n (by omega)]; exact h1
  · rw [uI_n (by omega)]; exact h2
  · rw [uI_n (by omega)]; exact h6
theorem FRW.tr {g η θ : Int → Int} (h : FRW g η) (k : FRW η θ) : FRW g θ := ⟨k.1.trans h.1, k.2.1.trans h.2.1, k.2.2.1.trans h.2.2.1, k.2.2.2.trans h.2.2.2⟩
/-- the rows that are told -/
def tlR (τ : Int → Int) : Nat → Int → List (Int × Int × Int × Int)
  | 0, _ => []
  | m + 1, k => (τ (4 * k + 3), τ (4 * k), τ (4 * k + 1), τ (4 * k + 2)) :: tlR τ m (k + 1)
theorem tlR_c {τ τ' : Int → Int} : ∀ (m : Nat) (k : Int), (∀ j : Int, 4 * k ≤ j → j < 4 * (k + m) → τ' j = τ j) → tlR τ' m k = tlR τ m k
  | 0, k, _ => rfl
  | m + 1, k, h => by
    show _ :: _ = _ :: _
    rw [h _ (by omega) (by omega), h _ (by omega) (by omega), h _ (by omega) (by omega), h _ (by omega) (by omega), tlR_c m (k + 1) (fun j j0 j1 => h j (by omega) (by omega))]
theorem tlR_a {τ : Int → Int} : ∀ (m : Nat) (k : Int), tlR τ (m + 1) k = tlR τ m k ++ [(τ (4 * (k + m) + 3), τ (4 * (k + m)), τ (4 * (k + m) + 1), τ (4 * (k + m) + 2))]
  | 0, k => by
    show [_] = [_]
    rw [show k + ((0 : Nat) : Int) = k by omega]
  | m + 1, k => by
    rw [show tlR τ (m + 1 + 1) k = (τ (4 * k + 3), τ (4 * k), τ (4 * k + 1), τ (4 * k + 2)) :: tlR τ (m + 1) (k + 1) from rfl, tlR_a m (k + 1)]
    rw [show k + 1 + (m : Int) = k + ((m + 1 : Nat) : Int) by omega]
    rfl
/-- what isPart answers: it is a part, or where it stops -/
def PTQ (β : Int → Int) (n : Int) (δ : Int → Int) (i T : Int) (τ0 : Int → Int) (r : Int) (η τ : Int → Int) : Prop :=
  (r = 1 → i + 3 ≤ η 3 ∧ ∃ δ' : Int → Int, RUN β n δ i δ' (η 3) ∧ dFin δ' ∧ (η 3 < n → β (η 3) ≠ 59 → ¬ dOk δ' (β (η 3))) ∧ τ (4 * T) = δ' 3 ∧ τ (4 * T + 1) = byD δ' ∧ τ (4 * T + 2) = δ' 4 ∧ τ (4 * T + 3) = δ' 5) ∧
  (r = 0 → i ≤ η 3 ∧ η 3 ≤ n ∧ feR β (n - i).toNat δ i = η 3 ∧ η 4 = (if η 3 < n then 1 else 0) ∧ (η 3 = n → ¬ dFin (endR β (n - i).toNat δ i))) ∧ (r = 0 ∨ r = 1) ∧
  ∀ j : Int, j < 4 * T → τ j = τ0 j
theorem PTQ.no {β : Int → Int} {n : Int} {δ : Int → Int} {i T : Int} {τ0 η τ δ' : Int → Int} {r : Int} (hr : r = 0) (h : RUN β n δ i δ' (η 3)) (hok : η 3 < n → ¬ dOk δ' (β (η 3))) (hf : ¬ dFin δ') (h4 : η 4 = if η 3 < n then 1 else 0) (ht : ∀ j : Int, j < 4 * T → τ j = τ0 j) : PTQ β n δ i T τ0 r η τ :=
  ⟨fun h9 => by omega, fun _ => ⟨h.1, h.2.1, h.no hok, h4, fun e => by rw [h.en e]; exact hf⟩, Or.inl hr, ht⟩
theorem PTQ.ok {β : Int → Int} {n : Int} {δ : Int → Int} {i T : Int} {τ0 η τ δ' : Int → Int} {r : Int} (hr : r = 1) (hi : i + 3 ≤ η 3) (h : RUN β n δ i δ' (η 3)) (hf : dFin δ') (hok : η 3 < n → β (η 3) ≠ 59 → ¬ dOk δ' (β (η 3))) (t0 : τ (4 * T) = δ' 3) (t1 : τ (4 * T + 1) = byD δ') (t2 : τ (4 * T + 2) = δ' 4) (t3 : τ (4 * T + 3) = δ' 5) (ht : ∀ j : Int, j < 4 * T → τ j = τ0 j) : PTQ β n δ i T τ0 r η τ :=
  ⟨fun _ => ⟨hi, δ', h, hf, hok, t0, t1, t2, t3⟩, fun h9 => by omega, Or.inr hr, ht⟩
def TXT (n : Int) (β : Int → Int) : Prop := ∀ j : Int, 0 ≤ j → j < n → 0 ≤ β j ∧ β j ≤ 65535
theorem TXT.mv {n m : Int} {β : Int → Int} (h : TXT n β) (e : m = n) : TXT m β := e ▸ h
def FGQ (g β : Int → Int) (hi but r : Int) (η : Int → Int) : Prop :=
  FRW g η ∧ ((g 3 < g 1 ∧ 48 ≤ β (g 3) ∧ β (g 3) ≤ hi ∧ β (g 3) - 48 ≠ but) → r = 1 ∧ η 3 = g 3 + 1 ∧ η 5 = β (g 3) - 48) ∧ (¬ (g 3 < g 1 ∧ 48 ≤ β (g 3) ∧ β (g 3) ≤ hi ∧ β (g 3) - 48 ≠ but) → r = 0 ∧ η 3 = g 3 ∧ η 4 = if g 3 < g 1 then 1 else 0)
def NMQ (g β : Int → Int) (r : Int) (η : Int → Int) : Prop :=
  FRW g η ∧ (¬ (g 3 < g 1 ∧ 49 ≤ β (g 3) ∧ β (g 3) ≤ 57) → r = 0 ∧ η 3 = g 3 ∧ η 4 = if g 3 < g 1 then 1 else 0) ∧ ((g 3 < g 1 ∧ 49 ≤ β (g 3) ∧ β (g 3) ≤ 57) → ¬ (g 3 + 1 < g 1 ∧ 48 ≤ β (g 3 + 1) ∧ β (g 3 + 1) ≤ 57) → r = 1 ∧ η 3 = g 3 + 1 ∧ η 5 = β (g 3) - 48) ∧
  ((g 3 < g 1 ∧ 49 ≤ β (g 3) ∧ β (g 3) ≤ 57) → (g 3 + 1 < g 1 ∧ 48 ≤ β (g 3 + 1) ∧ β (g 3 + 1) ≤ 57) → r = 1 ∧ η 3 = g 3 + 2 ∧ η 5 = 10 * (β (g 3) - 48) + β (g 3 + 1) - 48)
def STQ (g : Int → Int) (r : Int) (η : Int → Int) : Prop := r = 0 ∧ FRW g η ∧ η 3 = g 3 ∧ η 4 = if g 3 < g 1 then 1 else 0
theorem ok0 {δ : Int → Int} {c : Int} (h : δ 0 = 0) (hc : 48 ≤ c ∧ c ≤ 51) : dOk δ c := Or.inl ⟨h, hc⟩
theorem ok1 {δ : Int → Int} {c : Int} (h : δ 0 = 1) (hc : c = 43 ∨ c = 45 ∨ c = 62) : dOk δ c := Or.inr (Or.inl ⟨h, hc⟩)
theorem ok2 {δ : Int → Int} {c : Int} (h : δ 0 = 2) (hc : 48 ≤ c ∧ c ≤ 51 ∧ c - 48 ≠ δ 3) : dOk δ c := Or.inr (Or.inr (Or.inl ⟨h, hc⟩))
theorem ok3 {δ : Int → Int} {c : Int} (h : δ 0 = 3) (hc : c = 58) : dOk δ c := by unfold dOk; omega
theorem ok4 {δ : Int → Int} {c : Int} (h : δ 0 = 4) (hc : 49 ≤ c ∧ c ≤ 57) : dOk δ c := by unfold dOk; omega
theorem ok5 {δ : Int → Int} {c : Int} (h : δ 0 = 5) (hc : 48 ≤ c ∧ c ≤ 57) : dOk δ c := by unfold dOk; omega
theorem okO {δ : Int → Int} {c : Int} (h : δ 0 = 5 ∨ δ 0 = 6) (hc : c = 111) : dOk δ c := by unfold dOk; omega
theorem ok7 {δ : Int → Int} {c : Int} (h : δ 0 = 7) (hc : 48 ≤ c ∧ c ≤ 53) : dOk δ c := by unfold dOk; omega
theorem no0 {δ : Int → Int} {c : Int} (h : δ 0 = 0) (hc : ¬ (48 ≤ c ∧ c ≤ 51)) : ¬ dOk δ c := by unfold dOk; omega
theorem no1 {δ : Int → Int} {c : Int} (h : δ 0 = 1) (hc : ¬ (c = 43 ∨ c = 45 ∨ c = 62)) : ¬ dOk δ c := by unfold dOk; omega
theorem no2 {δ : Int → Int} {c : Int} (h : δ 0 = 2) (hc : ¬ (48 ≤ c ∧ c ≤ 51 ∧ c - 48 ≠ δ 3)) : ¬ dOk δ c := by unfold dOk; omega
theorem no3 {δ : Int → Int} {c : Int} (h : δ 0 = 3) (hc : c ≠ 58) : ¬ dOk δ c := by unfold dOk; omega
theorem no4 {δ : Int → Int} {c : Int} (h : δ 0 = 4) (hc : ¬ (49 ≤ c ∧ c ≤ 57)) : ¬ dOk δ c := by unfold dOk; omega
theorem noF {δ : Int → Int} {c : Int} (h : δ 0 = 5 ∨ δ 0 = 6) (hd : δ 0 = 5 → ¬ (48 ≤ c ∧ c ≤ 57)) (h1 : c ≠ 111) (h2 : c ≠ 59) : ¬ dOk δ c := by unfold dOk; omega
theorem no7 {δ : Int → Int} {c : Int} (h : δ 0 = 7) (hc : ¬ (48 ≤ c ∧ c ≤ 53)) : ¬ dOk δ c := by unfold dOk; omega
theorem no8 {δ : Int → Int} {c : Int} (h : δ 0 = 8) (hc : c ≠ 59) : ¬ dOk δ c := by unfold dOk; omega
theorem nf {δ : Int → Int} {k : Int} (h : δ 0 = k) (hk : k ≠ 5 ∧ k ≠ 6 ∧ k ≠ 8) : ¬ dFin δ := by unfold dFin; omega
theorem FGQ.yes {g β η : Int → Int} {hi but r : Int} (h : FGQ g β hi but r η) (hr : r ≠ 0) : r = 1 ∧ (g 3 < g 1 ∧ 48 ≤ β (g 3) ∧ β (g 3) ≤ hi ∧ β (g 3) - 48 ≠ but) ∧ η 3 = g 3 + 1 ∧ η 5 = β (g 3) - 48 := by
  obtain ⟨-, h1, h2⟩ := h
  by_cases q : g 3 < g 1 ∧ 48 ≤ β (g 3) ∧ β (g 3) ≤ hi ∧ β (g 3) - 48 ≠ but
  · obtain ⟨a, b, c⟩ := h1 q; exact ⟨a, q, b, c⟩
  · exact absurd (h2 q).1 hr
theorem FGQ.no {g β η : Int → Int} {hi but r : Int} (h : FGQ g β hi but r η) (hr : r ≠ 1) : r = 0 ∧ (g 3 < g 1 → ¬ (48 ≤ β (g 3) ∧ β (g 3) ≤ hi ∧ β (g 3) - 48 ≠ but)) ∧ η 3 = g 3 ∧ η 4 = (if g 3 < g 1 then 1 else 0) := by
  obtain ⟨-, h1, h2⟩ := h
  by_cases q : g 3 < g 1 ∧ 48 ≤ β (g 3) ∧ β (g 3) ≤ hi ∧ β (g 3) - 48 ≠ but
  · exact absurd (h1 q).1 hr
  · obtain ⟨a, b, c⟩ := h2 q; exact ⟨a, fun z w => q ⟨z, w⟩, b, c⟩
theorem FGQ.z {g β η : Int → Int} {hi but r : Int} (h : FGQ g β hi but r η) : r = 0 ∨ r = 1 := by
  by_cases q : r = 0
  · exact Or.inl q
  · exact Or.inr (h.yes q).1
theorem NMQ.no {g β η : Int → Int} {r : Int} (h : NMQ g β r η) (hr : r ≠ 1) : r = 0 ∧ (g 3 < g 1 → ¬ (49 ≤ β (g 3) ∧ β (g 3) ≤ 57)) ∧ η 3 = g 3 ∧ η 4 = (if g 3 < g 1 then 1 else 0) := by
  obtain ⟨-, h1, h2, h3⟩ := h
  by_cases q : g 3 < g 1 ∧ 49 ≤ β (g 3) ∧ β (g 3) ≤ 57
  · by_cases p : g 3 + 1 < g 1 ∧ 48 ≤ β (g 3 + 1) ∧ β (g 3 + 1) ≤ 57
    · exact absurd (h3 q p).1 hr
    · exact absurd (h2 q p).1 hr
  · obtain ⟨a, b, c⟩ := h1 q; exact ⟨a, fun z w => q ⟨z, w⟩, b, c⟩
theorem NMQ.yes {g β u : Int → Int} {n i r : Int} {δ δ1 : Int → Int} (h : NMQ g β r u) (hr : r ≠ 0) (hn : g 1 = n) (hrun : RUN β n δ i δ1 (g 3)) (hi : i < g 3) (hd : δ1 0 = 4) : r = 1 ∧ ∃ DD : Int → Int, RUN β n δ i DD (u 3) ∧ ((DD 0 = 5 ∨ DD 0 = 6) ∧ DD 1 = δ1 1 ∧ DD 2 = u 5 ∧ DD 3 = δ1 3 ∧ DD 4 = δ1 4 ∧ DD 5 = δ1 5) ∧ (g 3 + 1 ≤ u 3 ∧ u 3 ≤ n) ∧ (1 ≤ u 5 ∧ u 5 ≤ 99) ∧ (DD 0 = 5 → u 3 < n → ¬ (48 ≤ β (u 3) ∧ β (u 3) ≤ 57)) := by
  obtain ⟨-, h1, h2, h3⟩ := h
  subst hn
  have hx4 := nx_4 (δ := δ1) (c := β (g 3)) hd
  by_cases q : g 3 < g 1 ∧ 49 ≤ β (g 3) ∧ β (g 3) ≤ 57
  · have hs := hrun.step q.1 (ok4 hd q.2) (fun _ => by omega)
    by_cases p : g 3 + 1 < g 1 ∧ 48 ≤ β (g 3 + 1) ∧ β (g 3 + 1) ≤ 57
    · obtain ⟨a, b, c⟩ := h3 q p
      have hx5 := nx_5 (δ := dNx δ1 (β (g 3))) (c := β (g 3 + 1)) hx4.1 p.2
      have hs2 := hs.step p.1 (ok5 hx4.1 p.2) (fun _ => by omega)
      refine ⟨a, _, (by rw [b, show g 3 + 2 = g 3 + 1 + 1 by omega]; exact hs2), by omega, by omega, by omega, fun w => by omega⟩
    · obtain ⟨a, b, c⟩ := h2 q p
      refine ⟨a, _, (by rw [b]; exact hs), by omega, by omega, by omega, fun _ w z => ?_⟩
      rw [b] at w z
      exact p ⟨w, z⟩
  · exact absurd (h1 q).1 hr
/-! a whole text -/
def VAL (β : Int → Int) (n : Int) (δ : Int → Int) : Prop := feR β (n - 0).toNat δ 0 = n ∧ dFin (endR β (n - 0).toNat δ 0)
def ONQ (β : Int → Int) (n : Int) (δ : Int → Int) (i : Int) (δ1 : Int → Int) (T : Int) (τ : Int → Int) : Prop :=
  feR β (n - 0).toNat δ 0 = feR β (n - i).toNat δ1 i ∧ endR β (n - 0).toNat δ 0 = endR β (n - i).toNat δ1 i ∧ (VAL β n δ → plR β (n - 0).toNat δ 0 = tlR τ T.toNat 0 ++ plR β (n - i).toNat δ1 i)
def ENQ (β : Int → Int) (n : Int) (δ : Int → Int) (j T : Int) (τ : Int → Int) : Prop :=
  feR β (n - 0).toNat δ 0 = j ∧ (j = n → dFin (endR β (n - 0).toNat δ 0) ∧ plR β (n - 0).toNat δ 0 = tlR τ T.toNat 0)
theorem ONQ.rf (β : Int → Int) (n : Int) (δ : Int → Int) (τ : Int → Int) : ONQ β n δ 0 δ 0 τ := ⟨rfl, rfl, fun _ => rfl⟩
theorem tl_next {τ τ' : Int → Int} {T : Int} {q : Int × Int × Int × Int} (hT : 0 ≤ T) (hq : q = (τ' (4 * T + 3), τ' (4 * T), τ' (4 * T + 1), τ' (4 * T + 2))) (ht : ∀ j : Int, j < 4 * T → τ' j = τ j) : tlR τ' (T + 1).toNat 0 = tlR τ T.toNat 0 ++ [q] := by
  obtain ⟨m, rfl⟩ := Int.eq_ofNat_of_zero_le hT
  show tlR τ' (m + 1) 0 = tlR τ m 0 ++ [q]
  rw [tlR_a m 0, tlR_c m 0 (fun j j0 j1 => ht j (by omega)), hq]
  rw [show (0 : Int) + (m : Int) = (m : Int) by omega]
theorem ONQ.next {β : Int → Int} {n : Int} {δ : Int → Int} {i j T : Int} {δ1 δ' τ τ' : Int → Int} (h : ONQ β n δ i δ1 T τ) (hT : 0 ≤ T) (hp : RUN β n δ1 i δ' j) (hij : i < j) (hf : dFin δ') (hj : j < n) (hc : β j = 59)
    (t0 : τ' (4 * T) = δ' 3) (t1 : τ' (4 * T + 1) = byD δ') (t2 : τ' (4 * T + 2) = δ' 4) (t3 : τ' (4 * T + 3) = δ' 5) (ht : ∀ q : Int, q < 4 * T → τ' q = τ q) : ONQ β n δ (j + 1) (dNx δ' 59) (T + 1) τ' := by
  obtain ⟨h1, h2, h3⟩ := h
  obtain ⟨p1, p2, p3, p4, p5, p6, p7⟩ := hp
  obtain ⟨ok, z0⟩ := nx_f hf
  have ok' : dOk δ' (β j) := by rw [hc]; exact ok
  have f1 : feR β (n - 0).toNat δ 0 = feR β (n - (j + 1)).toNat (dNx δ' 59) (j + 1) := by rw [h1, p3, fe_step hj ok', hc]
  have e1 : endR β (n - 0).toNat δ 0 = endR β (n - (j + 1)).toNat (dNx δ' 59) (j + 1) := by rw [h2, p4, en_step hj ok', hc]
  refine ⟨f1, e1, fun hv => ?_⟩
  have hv1 := hv.1
  have hv2 := hv.2
  rw [f1] at hv1
  rw [e1] at hv2
  have hj1 : j + 1 ≠ n := fun e => by rw [en_end e] at hv2; exact nf z0 (by omega) hv2
  have hb : β (j + 1) ≠ 59 := fun e => by rw [fe_stop (by omega) (no0 z0 (by omega))] at hv1; omega
  rw [h3 hv, p6 hij (Or.inr hc), pl_on (by omega) hb, tl_next hT (q := (δ' 5, δ' 3, byD δ', δ' 4)) (by rw [t0, t1, t2, t3]) ht, List.append_assoc, hc]
  rfl
theorem ONQ.fin {β : Int → Int} {n : Int} {δ : Int → Int} {i j T : Int} {δ1 δ' τ τ' : Int → Int} (h : ONQ β n δ i δ1 T τ) (hT : 0 ≤ T) (hp : RUN β n δ1 i δ' j) (hij : i < j) (hf : dFin δ') (hok : j < n → β j ≠ 59 → ¬ dOk δ' (β j)) (hc : ¬ (j < n ∧ β j = 59))
    (t0 : τ' (4 * T) = δ' 3) (t1 : τ' (4 * T + 1) = byD δ') (t2 : τ' (4 * T + 2) = δ' 4) (t3 : τ' (4 * T + 3) = δ' 5) (ht : ∀ q : Int, q < 4 * T → τ' q = τ q) : ENQ β n δ j (T + 1) τ' := by
  have f1 := hp.no (fun q => hok q (fun w => hc ⟨q, w⟩))
  have e1 := fun e => hp.en (j := j) e
  obtain ⟨h1, h2, h3⟩ := h
  obtain ⟨p1, p2, p3, p4, p5, p6, p7⟩ := hp
  have f2 : feR β (n - 0).toNat δ 0 = j := by rw [h1, f1]
  refine ⟨f2, fun e => ?_⟩
  have e2 : endR β (n - 0).toNat δ 0 = δ' := by rw [h2, e1 e]
  have hfe : dFin (endR β (n - 0).toNat δ 0) := by rw [e2]; exact hf
  refine ⟨hfe, ?_⟩
  rw [h3 ⟨f2.trans e, hfe⟩, p6 hij (Or.inl e), pl_end e, tl_next hT (q := (δ' 5, δ' 3, byD δ', δ' 4)) (by rw [t0, t1, t2, t3]) ht]
def TTQ (β : Int → Int) (n : Int) (δ : Int → Int) (r : Int) (η τ : Int → Int) : Prop :=
  (r = 0 ∨ r = 1) ∧ (r = 1 → VAL β n δ ∧ plR β (n - 0).toNat δ 0 = tlR τ (η 6).toNat 0 ∧ 0 ≤ η 6 ∧ η 6 ≤ 16) ∧ (r = 0 → ¬ VAL β n δ) ∧ (0 ≤ η 3 ∧ η 3 ≤ n) ∧ (η 4 = 0 ∨ η 4 = 1) ∧ (if r = 0 ∧ η 4 ≠ 0 then η 3 else n) = feR β (n - 0).toNat δ 0
theorem TTQ.fail {β : Int → Int} {n : Int} {δ : Int → Int} {i T T2 : Int} {δ1 τ τ0 τ1 η : Int → Int} {r : Int} (h : ONQ β n δ i δ1 T τ) (hi : 0 ≤ i) (hp : PTQ β n δ1 i T2 τ0 r η τ1) (hr : r = 0) : TTQ β n δ 0 η τ1 := by
  obtain ⟨q1, q2, q3, q4, q5⟩ := hp.2.1 hr
  obtain ⟨h1, h2, h3⟩ := h
  refine ⟨Or.inl rfl, fun h9 => by omega, fun _ hv => ?_, ⟨by omega, q2⟩, by rw [q4]; omega, ?_⟩
  · have hv1 := hv.1
    have hv2 := hv.2
    rw [h1, q3] at hv1
    rw [h2] at hv2
    exact q5 hv1 hv2
  · rw [h1, q3, q4]
    by_cases e : η 3 < n
    · rw [if_pos e, if_pos (by omega)]
    · rw [if_neg e, if_neg (by omega)]; omega
theorem TTQ.done {β : Int → Int} {n : Int} {δ : Int → Int} {j T : Int} {τ θ : Int → Int} {r : Int} (h : ENQ β n δ j T τ) (hj : 0 ≤ j ∧ j ≤ n) (h3 : θ 3 = j) (h6 : θ 6 = T) (hT : 0 ≤ T ∧ T ≤ 16) (hr : (j < n ∧ r = 0 ∧ θ 4 = 1) ∨ (j = n ∧ r = 1 ∧ θ 4 = 0)) : TTQ β n δ r θ τ := by
  obtain ⟨h1, h2⟩ := h
  rcases hr with ⟨a, b, c⟩ | ⟨a, b, c⟩
  · refine ⟨Or.inl b, fun h9 => by omega, fun _ hv => ?_, by omega, Or.inr c, ?_⟩
    · have hv1 := hv.1; rw [h1] at hv1; omega
    · rw [if_pos ⟨b, by omega⟩, h1, h3]
  · obtain ⟨f, l⟩ := h2 a
    refine ⟨Or.inr b, fun _ => ⟨⟨h1.trans a, f⟩, by rw [h6]; exact l, by omega, by omega⟩, fun h9 => by omega, by omega, Or.inl c, ?_⟩
    rw [if_neg (by omega), h1, a]
def MX (β : Int → Int) (n : Int) (δ : Int → Int) (j : Int) : Prop := j < n → β j ≠ 59 → ¬ dOk δ (β j)
theorem PTQ.part {β : Int → Int} {n : Int} {δ : Int → Int} {i T : Int} {τ0 η τ : Int → Int} {r : Int} (h : PTQ β n δ i T τ0 r η τ) (hr : r = 1) : i + 3 ≤ η 3 ∧ ∃ δ' : Int → Int, RUN β n δ i δ' (η 3) ∧ dFin δ' ∧ MX β n δ' (η 3) ∧ τ (4 * T) = δ' 3 ∧ τ (4 * T + 1) = byD δ' ∧ τ (4 * T + 2) = δ' 4 ∧ τ (4 * T + 3) = δ' 5 := h.1 hr
