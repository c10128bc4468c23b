/-! worlds by their parts -/
def fl (S : List va_W) : va_W := S.flatten
theorem va_P_mem {D : va_G} {cl : List vw_C} {ws : va_W} {H : Heap} : va_P D cl ws H ↔ ∀ q ∈ ws, va_at D cl q H :=
  ⟨fun h q hq => by obtain ⟨k, hk⟩ := List.mem_iff_getElem?.mp hq; exact h k q hk, fun h k q hk => h q (List.mem_of_getElem? hk)⟩
theorem fl_P {D : va_G} {cl : List vw_C} {S S' : List va_W} {H : Heap} (h : va_P D cl (fl S) H) (is : List Nat) (hs : is.filterMap (fun i => S[i]?) = S') : va_P D cl (fl S') H := by
  rw [va_P_mem] at h ⊢
  intro q hq
  obtain ⟨s, hs1, hs2⟩ := List.mem_flatten.mp hq
  rw [← hs] at hs1
  obtain ⟨i, -, hi⟩ := List.mem_filterMap.mp hs1
  exact h q (List.mem_flatten.mpr ⟨s, List.mem_of_getElem? hi, hs2⟩)
theorem va_D_cons {A : Nat → Prop} {p : Nat × va_E} {ws : va_W} : va_D A (p :: ws) ↔ A p.1 ∧ va_D A ws ∧ ∀ q ∈ ws, p.1 ≠ q.1 := by
  constructor
  · intro h
    refine ⟨h.2 0 p rfl, ⟨fun i j a b hi hj e => ?_, fun k q hk => h.2 (k + 1) q hk⟩, fun q hq e => ?_⟩
    · have := h.1 (i + 1) (j + 1) a b hi hj e; omega
    · obtain ⟨k, hk⟩ := List.mem_iff_getElem?.mp hq
      have := h.1 0 (k + 1) p q rfl hk e; omega
  · intro h
    refine ⟨fun i j a b hi hj e => ?_, fun k q hk => ?_⟩
    · match i, j, hi, hj with
      | 0, 0, _, _ => rfl
      | 0, j + 1, hi, hj => cases hi; exact absurd e (h.2.2 b (List.mem_of_getElem? (i := j) hj))
      | i + 1, 0, hi, hj => cases hj; exact absurd e.symm (h.2.2 a (List.mem_of_getElem? (i := i) hi))
      | i + 1, j + 1, hi, hj => rw [h.2.1.1 i j a b hi hj e]
    · match k, hk with
      | 0, hk => cases hk; exact h.1
      | k + 1, hk => exact h.2.1.2 k q hk
theorem va_D_nil {A : Nat → Prop} : va_D A [] := ⟨fun i j p q h => by simp at h, fun k q h => by simp at h⟩
theorem va_D_append {A : Nat → Prop} {X Y : va_W} : va_D A (X ++ Y) ↔ va_D A X ∧ va_D A Y ∧ ∀ p ∈ X, ∀ q ∈ Y, p.1 ≠ q.1 := by
  induction X with
  | nil => exact ⟨fun h => ⟨va_D_nil, h, fun p hp => absurd hp List.not_mem_nil⟩, fun h => h.2.1⟩
  | cons x X ih =>
    show va_D A (x :: (X ++ Y)) ↔ _
    rw [va_D_cons, ih, va_D_cons]
    constructor
    · rintro ⟨h1, ⟨h2, h3, h4⟩, h5⟩
      exact ⟨⟨h1, h2, fun q hq => h5 q (List.mem_append_left _ hq)⟩, h3, fun p hp q hq => by
        rcases List.mem_cons.mp hp with e | hp
        · rw [e]; exact h5 q (List.mem_append_right _ hq)
        · exact h4 p hp q hq⟩
    · rintro ⟨⟨h1, h2, h5⟩, h3, h4⟩
      exact ⟨h1, ⟨h2, h3, fun p hp q hq => h4 p (List.mem_cons_of_mem _ hp) q hq⟩, fun q hq => by
        rcases List.mem_append.mp hq with hq | hq
        · exact h5 q hq
        · exact h4 x List.mem_cons_self q hq⟩
theorem fl_cons (s : va_W) (S : List va_W) : fl (s :: S) = s ++ fl S := rfl
theorem fl_one {A : Nat → Prop} : ∀ {S : List va_W}, va_D A (fl S) → ∀ s ∈ S, va_D A s
  | [], _, s, hs => absurd hs List.not_mem_nil
  | t :: S, h, s, hs => by
    rw [fl_cons, va_D_append] at h
    rcases List.mem_cons.mp hs with e | hs
    · rw [e]; exact h.1
    · exact fl_one h.2.1 s hs
theorem fl_mem {S : List va_W} {i : Nat} {s : va_W} {q : Nat × va_E} (h : S[i]? = some s) (hq : q ∈ s) : q ∈ fl S := List.mem_flatten.mpr ⟨s, List.mem_of_getElem? h, hq⟩
theorem fl_two {A : Nat → Prop} : ∀ {S : List va_W}, va_D A (fl S) → ∀ (i j : Nat) (s t : va_W), S[i]? = some s → S[j]? = some t → i ≠ j → ∀ p ∈ s, ∀ q ∈ t, p.1 ≠ q.1
  | [], _, i, j, s, t, hi, _, _ => by simp at hi
  | u :: S, h, i, j, s, t, hi, hj, hij => by
    rw [fl_cons, va_D_append] at h
    intro p hp q hq
    match i, j, hi, hj with
    | 0, 0, _, _ => exact absurd rfl hij
    | 0, j + 1, hi, hj => cases hi; exact h.2.2 p hp q (fl_mem (i := j) hj hq)
    | i + 1, 0, hi, hj => cases hj; exact fun e => h.2.2 q hq p (fl_mem (i := i) hi hp) e.symm
    | i + 1, j + 1, hi, hj => exact fl_two h.2.1 i j s t hi hj (fun e => hij (by rw [e])) p hp q hq
theorem fl_mk {A : Nat → Prop} : ∀ {S : List va_W}, (∀ s ∈ S, va_D A s) → (∀ (i j : Nat) (s t : va_W), S[i]? = some s → S[j]? = some t → i ≠ j → ∀ p ∈ s, ∀ q ∈ t, p.1 ≠ q.1) → va_D A (fl S)
  | [], _, _ => va_D_nil
  | u :: S, h1, h2 => by
    rw [fl_cons, va_D_append]
    refine ⟨h1 u List.mem_cons_self, fl_mk (fun s hs => h1 s (List.mem_cons_of_mem _ hs)) (fun i j s t hi hj hij => h2 (i + 1) (j + 1) s t hi hj (fun e => hij (by omega))), fun p hp q hq => ?_⟩
    obtain ⟨t, ht, hq⟩ := List.mem_flatten.mp hq
    obtain ⟨k, hk⟩ := List.mem_iff_getElem?.mp ht
    exact h2 0 (k + 1) u t rfl hk (by omega) p hp q hq
theorem fl_pick {S S' : List va_W} {is : List Nat} (hs : is.map (fun i => S[i]?) = S'.map some) {k : Nat} {s : va_W} (h : S'[k]? = some s) : ∃ i, is[k]? = some i ∧ S[i]? = some s := by
  have e : (is.map (fun i => S[i]?))[k]? = (S'.map some)[k]? := by rw [hs]
  rw [List.getElem?_map, List.getElem?_map, h] at e
  cases hi : is[k]? with
  | none => rw [hi] at e; cases e
  | some i => rw [hi] at e; exact ⟨i, rfl, Option.some.inj e⟩
theorem fl_D {A : Nat → Prop} {S S' : List va_W} (hD : va_D A (fl S)) (is : List Nat) (hn : va_nd is = true) (hs : is.map (fun i => S[i]?) = S'.map some) : va_D A (fl S') := by
  refine fl_mk (fun s hs' => ?_) (fun i j s t hi hj hij => ?_)
  · obtain ⟨k, hk⟩ := List.mem_iff_getElem?.mp hs'
    obtain ⟨i, -, h⟩ := fl_pick hs hk
    exact fl_one hD s (List.mem_of_getElem? h)
  · obtain ⟨i', h1, h2⟩ := fl_pick hs hi
    obtain ⟨j', h3, h4⟩ := fl_pick hs hj
    exact fl_two hD i' j' s t h2 h4 (fun e => hij (va_nd_inj is hn i j j' (by rw [h1, e]) h3))
theorem va_A_mem {ws : va_W} {sz q : Nat} : va_A ws sz q ↔ (∃ e : va_E, (q, e) ∈ ws) ∨ sz ≤ q :=
  ⟨fun h => h.elim (fun ⟨k, e, hk⟩ => Or.inl ⟨e, List.mem_of_getElem? hk⟩) Or.inr, fun h => h.elim (fun ⟨e, he⟩ => by obtain ⟨k, hk⟩ := List.mem_iff_getElem?.mp he; exact Or.inl ⟨k, e, hk⟩) Or.inr⟩
theorem fl_free {A0 : Nat → Prop} {S SC : List va_W} {H0 H : Heap} {locs : List Loc} (hD : va_D A0 (fl S)) (hS : va_S A0 H0 H locs) (hA : ∀ q, H0.size ≤ q → A0 q) (isC : List Nat) (hC : isC.map (fun i => S[i]?) = SC.map some) : ∀ q, va_A (fl SC) H.size q → A0 q := by
  intro q hq
  rcases va_A_mem.mp hq with ⟨e, he⟩ | h
  · obtain ⟨t, ht, hq⟩ := List.mem_flatten.mp he
    obtain ⟨k, hk⟩ := List.mem_iff_getElem?.mp ht
    obtain ⟨i, -, h⟩ := fl_pick hC hk
    obtain ⟨k2, hk2⟩ := List.mem_iff_getElem?.mp (fl_mem h hq)
    exact hD.2 k2 (q, e) hk2
  · exact hA q (Nat.le_trans hS.1 h)
theorem fl_join {A0 : Nat → Prop} {D : va_G} {cl : List vw_C} {S SC SR S1 : List va_W} {H H1 : Heap} (hP : va_P D cl (fl S) H) (hD : va_D A0 (fl S)) (isC isR : List Nat) (hC : isC.map (fun i => S[i]?) = SC.map some) (hR : isR.map (fun i => S[i]?) = SR.map some) (hn : va_nd isR = true) (hdis : ∀ i ∈ isR, i ∉ isC)
    (hk : ∀ q : Nat, q < H.size → ¬ va_A (fl SC) H.size q → H1[q]? = H[q]?) (hF : ∀ q, va_A (fl SC) H.size q → A0 q) (hP1 : va_P D cl (fl S1) H1) (hD1 : va_D (va_A (fl SC) H.size) (fl S1)) : va_P D cl (fl (SR ++ S1)) H1 ∧ va_D A0 (fl (SR ++ S1)) := by
  have ea : fl (SR ++ S1) = fl SR ++ fl S1 := List.flatten_append
  have hPR : va_P D cl (fl SR) H := by
    rw [va_P_mem] at hP ⊢
    intro q hq
    obtain ⟨t, ht, hq⟩ := List.mem_flatten.mp hq
    obtain ⟨k, hk⟩ := List.mem_iff_getElem?.mp ht
    obtain ⟨i, -, h⟩ := fl_pick hR hk
    exact hP q (fl_mem h hq)
  have hnot : ∀ q ∈ fl SR, ¬ va_A (fl SC) H.size q.1 := by
    intro q hq hz
    rcases va_A_mem.mp hz with ⟨e, he⟩ | h
    · obtain ⟨t, ht, hq⟩ := List.mem_flatten.mp hq
      obtain ⟨k, hk⟩ := List.mem_iff_getElem?.mp ht
      obtain ⟨i, hi, h⟩ := fl_pick hR hk
      obtain ⟨t2, ht2, hq2⟩ := List.mem_flatten.mp he
      obtain ⟨k2, hk2⟩ := List.mem_iff_getElem?.mp ht2
      obtain ⟨j, hj, h2⟩ := fl_pick hC hk2
      exact fl_two hD i j t t2 h h2 (fun e9 => hdis i (List.mem_of_getElem? hi) (by rw [e9]; exact List.mem_of_getElem? hj)) q hq _ hq2 rfl
    · have := ((va_P_mem.mp hPR) q hq).lt
      omega
  rw [ea]
  refine ⟨?_, va_D_append.mpr ⟨fl_D hD isR hn hR, hD1.weaken (fun k q hk h => hF q.1 h), fun p hp q hq e => ?_⟩⟩
  · rw [va_P_mem]
    intro q hq
    rcases List.mem_append.mp hq with hq | hq
    · exact ((va_P_mem.mp hPR) q hq).kept (hk q.1 ((va_P_mem.mp hPR) q hq).lt (hnot q hq))
    · exact (va_P_mem.mp hP1) q hq
  · obtain ⟨k, hk2⟩ := List.mem_iff_getElem?.mp hq
    exact hnot p hp (by rw [e]; exact hD1.2 k q hk2)
