/-! contracts' starts and ends over one world -/
def pcR (D : va_G) (tys : List (ClassId × FieldType)) (av : List Value) (w : va_W) : Array Value → State → Prop := va_Pc av (fun U => va_P D vwCl w U.heap ∧ va_K D vwCl tys U)
theorem pcR_blind {D : va_G} {tys : List (ClassId × FieldType)} {av : List Value} {w : va_W} : FrameBlind (pcR D tys av w) := fun a U g mk q => ⟨q.1, q.2.1, va_K.moved (u := U) (U := U.calling g mk a) (Vm.Alike.refl U.vm) q.2.2⟩
theorem pcR_of {D : va_G} {tys : List (ClassId × FieldType)} {av : List Value} {w : va_W} {s : State} {H : Heap} (hP : va_P D vwCl w H) (hK : va_K D vwCl tys s) : ∀ U : State, U.heap = H → s.WarmedH U.vm → pcR D tys av w av.toArray U := fun U hU hW => ⟨rfl, by rw [hU]; exact hP, va_K.moved hW.alike hK⟩
def pcW (D : va_G) (tys : List (ClassId × FieldType)) (av : List Value) (w : va_W) (sz : Nat) : Array Value → State → Prop := va_Pc av (fun U => U.heap.size = sz ∧ va_P D vwCl w U.heap ∧ va_K D vwCl tys U ∧ va_D (fun _ => True) w)
theorem pcW_blind {D : va_G} {tys : List (ClassId × FieldType)} {av : List Value} {w : va_W} {sz : Nat} : FrameBlind (pcW D tys av w sz) := fun a U g mk q => ⟨q.1, q.2.1, q.2.2.1, va_K.moved (u := U) (U := U.calling g mk a) (Vm.Alike.refl U.vm) q.2.2.2.1, q.2.2.2.2⟩
theorem pcW_of {D : va_G} {tys : List (ClassId × FieldType)} {av : List Value} {w : va_W} {s : State} {H : Heap} {A : Nat → Prop} (hP : va_P D vwCl w H) (hK : va_K D vwCl tys s) (hD : va_D A w) : ∀ U : State, U.heap = H → s.WarmedH U.vm → pcW D tys av w H.size av.toArray U := fun U hU hW => ⟨rfl, by rw [hU], by rw [hU]; exact hP, va_K.moved hW.alike hK, hD.weaken (fun _ _ _ _ => trivial)⟩
def bW (D : va_G) (tys : List (ClassId × FieldType)) (w : va_W) (A : Nat → Prop) : State → Prop := fun t => va_P D vwCl w t.heap ∧ va_K D vwCl tys t ∧ va_D A w
def wq_i {S : Type} (post : Int → S → Prop) (B : S → State → Prop) (A : Nat → Prop) : Array Value → State → Outcome → State → Prop := fun _ st oc t => (∃ (r : Int) (u : S), oc = .returned (some (.int (iI r))) ∧ post r u ∧ B u t) ∧ va_F A st t
abbrev TYI (cI : ClassId) : List (ClassId × FieldType) := [(cI, .int)]
theorem nar_z {r : Int} (h : r = 0 ∨ r = 1) : narrow .boolean (.int (iI r)) = .int (iI r) := by rcases h with rfl | rfl <;> rfl
def iL (z : Int) : Int64 := (iI z).toInt64
section WJ
variable {p : Program} {l : Launch} {e : Env} {R : Room} {s : State} {m : MethodId} {args : Array Value} {below : List Frame} {meth : Method} {c : Code} {H : Heap} {locs : List Loc} {cells slots : Nat} {Q : State → Prop}
variable {pc : Nat} {ls : Array Slot} {rest st0 : List Value} {a : Array Value} {A0 A1 : Nat → Prop} {H0 : Heap} {mc ms : Nat} {free : Addr → Prop} {cc : ByteArray}
theorem wq_calli {S : Type} {post : Int → S → Prop} {B : S → State → Prop} (hr : va_Run p l e R s m args below meth c H locs cells slots mc ms (F0 m pc ls st0) rest (wq_i post B A1 a) free) (hS : va_S A0 H0 H locs) (hA : ∀ q, q < H.size → A1 q → A0 q) (hf : ∀ q, free q → A0 q)
    (kk : ∀ (r : Int) (u : S) (t : State) (H1 : Heap) (locs1 : List Loc), t.heap = H1 → s.vm.Alike t.vm → post r u → B u t → H.size ≤ H1.size → (∀ q : Nat, q < H.size → ¬ A1 q → H1[q]? = H[q]?) → va_S A0 H0 H1 locs1 → W p l e R s m args below meth c H1 locs1 (cells + mc) (slots + ms) Q (F0 m (pc + 3) ls (.int (iI r) :: rest))) : W p l e R s m args below meth c H locs cells slots Q (F0 m pc ls st0) := by
  intro T hT X
  obtain ⟨v, st₀, t, T', L, h0, X', hL, e1, e2, ⟨⟨r, u, hv, hp, hb⟩, hz, hk⟩, st⟩ := hr T hT X
  cases hv
  rw [h0] at hz hk
  obtain ⟨t2, a1, b1⟩ := kk r u t T'.heap (locs ++ L) e1.symm (by rw [← e2]; exact X'.warmed.alike) hp hb (by rw [e1]; exact hz) (fun q h1 h2 => by rw [e1]; exact hk q h1 h2)
    ⟨Nat.le_trans hS.1 (by rw [e1]; exact hz), fun q h1 h2 => by rw [e1, hk q (Nat.lt_of_lt_of_le h1 hS.1) (fun z => h2 (hA q (Nat.lt_of_lt_of_le h1 hS.1) z))]; exact hS.2.1 q h1 h2, fun q hq => by
      rcases List.mem_append.mp hq with h | h
      · exact hS.2.2 q h
      · exact hf _ (hL q h)⟩ T' rfl X'
  exact ⟨t2, st t2 a1, b1⟩
theorem wi_ldc (hexec : p.tables.exec = Jvm.exec) (hb : c.code = cc) {own : String} {index : Nat} {v : Int32} {z : Int} (hown : s.vm.findClass own = some m.cls) (hconst : (Jvm.Cond.constant own index v).before args s = true) (hv : v = iI z) (hdg : decode cc pc = .ok (.ldc index, 2)) (k : W p l e R s m args below meth c H locs cells slots Q (F0 m (pc + 2) ls (.int (iI z) :: rest))) : W p l e R s m args below meth c H locs cells slots Q (F0 m pc ls rest) := lv_ldc hexec hb hown hconst hdg (by rw [hv]; exact k)
end WJ
/-! what the state says -/
def chg (σ : Nat → Int → Int) (p c : Int) : Int := if σ 6 p = c then σ 7 p else if σ 8 p = c then -σ 7 p else 0
def nS (σ : Nat → Int → Int) : Nat := (σ 0 1).toNat
def lowS (σ : Nat → Int → Int) (c t : Int) : Int := σ 2 c + sm (fun p => if t < σ 9 p then min (chg σ p c) 0 else 0) (σ 0 1).toNat
def highS (σ : Nat → Int → Int) (c : Int) : Int := σ 2 c + sm (fun p => max (chg σ p c) 0) (σ 0 1).toNat
def chN (σ : Nat → Int → Int) (c : Int) : Int := sm (fun p => if chg σ p c = 0 then 0 else 1) (σ 0 1).toNat
def chSum (σ : Nat → Int → Int) (c : Int) : Int := sm (fun p => chg σ p c) (σ 0 1).toNat
def ofN (σ : Nat → Int → Int) (o : Int) : Int := sm (fun p => if σ 5 p = o then 1 else 0) (σ 0 1).toNat
def ofSz (σ : Nat → Int → Int) (o : Int) : Int := sm (fun p => if σ 5 p = o then aI (σ 7 p) else 0) (σ 0 1).toNat
def trN (σ : Nat → Int → Int) : Int := sm (fun p => if σ 8 p = -1 then 0 else 1) (σ 0 1).toNat
def lapN (σ : Nat → Int → Int) (t : Int) : Int := sm (fun p => if σ 9 p ≤ t then 1 else 0) (σ 0 1).toNat
def fL (g : Int → Int) : Nat → Int
  | 0 => -1
  | n + 1 => if fL g n = -1 ∨ g (n : Int) < fL g n then g (n : Int) else fL g n
theorem fL_step {g : Int → Int} {p : Int} (h : 0 ≤ p) : fL g (p + 1).toNat = if fL g p.toNat = -1 ∨ g p < fL g p.toNat then g p else fL g p.toNat := by
  obtain ⟨n, rfl⟩ := Int.eq_ofNat_of_zero_le h
  rfl
theorem fL_congr {g h : Int → Int} : ∀ {n : Nat}, (∀ j : Int, 0 ≤ j → j < (n : Int) → g j = h j) → fL g n = fL h n
  | 0, _ => rfl
  | n + 1, q => by
    show (if fL g n = -1 ∨ g (n : Int) < fL g n then g (n : Int) else fL g n) = (if fL h n = -1 ∨ h (n : Int) < fL h n then h (n : Int) else fL h n)
    rw [fL_congr (n := n) (fun j h0 h1 => q j h0 (by omega)), q (n : Int) (by omega) (by omega)]
def frS (σ : Nat → Int → Int) : Int := fL (σ 9) (σ 0 1).toNat
def reasonN (σ : Nat → Int → Int) (o : Int) : Int := if 16 ≤ σ 0 1 then 1 else if σ 1 0 ≤ ofN σ o then 2 else 0
def reasonS (σ : Nat → Int → Int) (o c by' to : Int) : Int :=
  if reasonN σ o ≠ 0 then reasonN σ o
  else if by' < 0 ∧ lowS σ c (σ 0 0) - σ 3 c < -by' then 3
  else if 0 < by' ∧ σ 4 c - highS σ c < by' then 4
  else if to ≠ -1 ∧ σ 4 to - highS σ to < -by' then 4 else 0
def PR (σ : Nat → Int → Int) (p : Int) : Prop := (0 ≤ σ 5 p ∧ σ 5 p < 6) ∧ (0 ≤ σ 6 p ∧ σ 6 p < 4) ∧ (-99 ≤ σ 7 p ∧ σ 7 p ≤ 99 ∧ σ 7 p ≠ 0) ∧ (σ 8 p = -1 ∨ (0 ≤ σ 8 p ∧ σ 8 p < 4 ∧ σ 8 p ≠ σ 6 p ∧ σ 7 p < 0)) ∧ (σ 0 0 < σ 9 p ∧ σ 9 p ≤ σ 0 0 + 99)
def Inv (σ : Nat → Int → Int) : Prop :=
  (0 ≤ σ 0 0 ∧ σ 0 0 ≤ 9999) ∧ (0 ≤ σ 0 1 ∧ σ 0 1 ≤ 16) ∧ (1 ≤ σ 1 0 ∧ σ 1 0 ≤ 16) ∧ (1 ≤ σ 1 1 ∧ σ 1 1 ≤ 99) ∧
  (∀ c : Int, 0 ≤ c → c < 4 → (-999 ≤ σ 3 c ∧ σ 4 c ≤ 999) ∧ σ 3 c ≤ lowS σ c (σ 0 0) ∧ highS σ c ≤ σ 4 c) ∧
  (∀ p : Int, 0 ≤ p → p < σ 0 1 → PR σ p)
theorem Inv.pr {σ : Nat → Int → Int} (h : Inv σ) {p : Int} (h0 : 0 ≤ p) (h1 : p < σ 0 1) : PR σ p := h.2.2.2.2.2 p h0 h1
theorem Inv.n {σ : Nat → Int → Int} (h : Inv σ) : 0 ≤ σ 0 1 ∧ σ 0 1 ≤ 16 := h.2.1
theorem Inv.t {σ : Nat → Int → Int} (h : Inv σ) : 0 ≤ σ 0 0 ∧ σ 0 0 ≤ 9999 := h.1
theorem chg_r {σ : Nat → Int → Int} {p : Int} (h : PR σ p) (c : Int) : -99 ≤ chg σ p c ∧ chg σ p c ≤ 99 := by
  obtain ⟨-, -, h3, -, -⟩ := h
  unfold chg
  split
  · omega
  · split <;> omega
theorem sm_le {g h : Int → Int} : ∀ {n : Nat}, (∀ j : Int, 0 ≤ j → j < (n : Int) → g j ≤ h j) → sm g n ≤ sm h n
  | 0, _ => Int.le_refl _
  | n + 1, q => by
    have h1 := sm_le (n := n) (fun j h0 h1 => q j h0 (by omega))
    have h2 := q (n : Int) (by omega) (by omega)
    show sm g n + g (n : Int) ≤ sm h n + h (n : Int)
    omega
theorem sm_const (k : Int) : ∀ n : Nat, sm (fun _ => k) n = k * (n : Int)
  | 0 => by show (0 : Int) = k * ((0 : Nat) : Int); simp
  | n + 1 => by
    show sm (fun _ => k) n + k = k * ((n + 1 : Nat) : Int)
    rw [sm_const k n, Int.natCast_add, Int.mul_add]; simp
theorem sm_np {g : Int → Int} {n : Nat} (h : ∀ j : Int, 0 ≤ j → j < (n : Int) → g j ≤ 0) : sm g n ≤ 0 := by
  have h1 := sm_le (g := g) (h := fun _ => 0) (n := n) h
  rw [sm_const] at h1; omega
theorem sm_nn {g : Int → Int} {n : Nat} (h : ∀ j : Int, 0 ≤ j → j < (n : Int) → 0 ≤ g j) : 0 ≤ sm g n := by
  have h1 := sm_le (g := fun _ => 0) (h := g) (n := n) h
  rw [sm_const] at h1; omega
theorem sm_01 {g : Int → Int} {n : Nat} (h : ∀ j : Int, 0 ≤ j → j < (n : Int) → 0 ≤ g j ∧ g j ≤ 1) : 0 ≤ sm g n ∧ sm g n ≤ (n : Int) := by
  refine ⟨sm_nn (fun j h0 h1 => (h j h0 h1).1), ?_⟩
  have h1 := sm_le (g := g) (h := fun _ => 1) (n := n) (fun j h0 h1 => (h j h0 h1).2)
  rw [sm_const] at h1; omega
theorem low_le (σ : Nat → Int → Int) (c t : Int) : lowS σ c t ≤ σ 2 c := by
  have h := sm_np (g := fun p => if t < σ 9 p then min (chg σ p c) 0 else 0) (n := (σ 0 1).toNat) (fun j _ _ => by (try dsimp only); split <;> omega)
  unfold lowS; omega
theorem high_ge (σ : Nat → Int → Int) (c : Int) : σ 2 c ≤ highS σ c := by
  have h := sm_nn (g := fun p => max (chg σ p c) 0) (n := (σ 0 1).toNat) (fun j _ _ => by (try dsimp only); omega)
  unfold highS; omega
theorem Inv.c {σ : Nat → Int → Int} (h : Inv σ) {c : Int} (h0 : 0 ≤ c) (h1 : c < 4) : -999 ≤ σ 3 c ∧ σ 3 c ≤ lowS σ c (σ 0 0) ∧ lowS σ c (σ 0 0) ≤ σ 2 c ∧ σ 2 c ≤ highS σ c ∧ highS σ c ≤ σ 4 c ∧ σ 4 c ≤ 999 := by
  obtain ⟨h2, h3, h4⟩ := h.2.2.2.2.1 c h0 h1
  have h5 := low_le σ c (σ 0 0)
  have h6 := high_ge σ c
  omega
theorem ofN_r {σ : Nat → Int → Int} (h : Inv σ) (o : Int) : 0 ≤ ofN σ o ∧ ofN σ o ≤ 16 := by
  have h1 := sm_01 (g := fun p => if σ 5 p = o then 1 else 0) (n := (σ 0 1).toNat) (fun j _ _ => by (try dsimp only); split <;> omega)
  have h2 := h.n
  unfold ofN; omega
/-! the reference's row 'now' tells the same state -/
def RelN (σ : Nat → Int → Int) (ν : Int → Int) : Prop :=
  (ν 0 = σ 0 0 ∧ ν 1 = σ 1 0 ∧ ν 2 = σ 1 1 ∧ ν 3 = σ 0 1 ∧ ν 4 = σ 0 2) ∧
  (∀ c : Int, 0 ≤ c → c < 4 → ν (5 + c) = σ 2 c ∧ ν (9 + c) = σ 3 c ∧ ν (13 + c) = σ 4 c) ∧
  (∀ o : Int, 0 ≤ o → o < 6 → ν (17 + o) = σ 10 o ∧ ν (23 + o) = σ 11 o ∧ ν (29 + o) = σ 12 o) ∧
  (∀ p : Int, 0 ≤ p → p < σ 0 1 → ν (35 + 5 * p + 0) = σ 5 p ∧ ν (35 + 5 * p + 1) = σ 6 p ∧ ν (35 + 5 * p + 2) = σ 7 p ∧ ν (35 + 5 * p + 3) = σ 8 p ∧ ν (35 + 5 * p + 4) = σ 9 p)
def sumM (σ : Nat → Int → Int) (c sg t : Int) : Int := sm (fun p => if t < σ 9 p ∧ 0 ≤ chg σ p c * sg then chg σ p c else 0) (σ 0 1).toNat
theorem sumM_low {σ : Nat → Int → Int} (c t : Int) : σ 2 c + sumM σ c (-1) t = lowS σ c t := by
  unfold sumM lowS
  rw [sm_congr (h := fun p => if t < σ 9 p then min (chg σ p c) 0 else 0) (fun j h0 h1 => by
    try dsimp only
    by_cases q : t < σ 9 j
    · rw [if_pos q]
      by_cases q2 : 0 ≤ chg σ j c * -1
      · rw [if_pos ⟨q, q2⟩]; omega
      · rw [if_neg (fun z => q2 z.2)]; omega
    · rw [if_neg q, if_neg (fun z => q z.1)])]
theorem sumM_high {σ : Nat → Int → Int} (hI : Inv σ) (c : Int) : σ 2 c + sumM σ c 1 (σ 0 0) = highS σ c := by
  have hn := hI.n
  unfold sumM highS
  rw [sm_congr (h := fun p => max (chg σ p c) 0) (fun j h0 h1 => by
    try dsimp only
    have hq := (hI.pr h0 (by omega)).2.2.2.2.1
    by_cases q2 : 0 ≤ chg σ j c * 1
    · rw [if_pos ⟨hq, q2⟩]; omega
    · rw [if_neg (fun z => q2 z.2)]; omega)]
theorem sumM_all {σ : Nat → Int → Int} (hI : Inv σ) (c : Int) : sumM σ c 0 (σ 0 0) = chSum σ c := by
  have hn := hI.n
  unfold sumM chSum
  rw [sm_congr (h := fun p => chg σ p c) (fun j h0 h1 => by
    try dsimp only
    have hq := (hI.pr h0 (by omega)).2.2.2.2.1
    rw [if_pos ⟨hq, by omega⟩])]
def mostS (σ : Nat → Int → Int) (o c im : Int) : Int := if reasonN σ o ≠ 0 then 0 else min (if im = 0 then lowS σ c (σ 0 0) - σ 3 c else σ 4 c - highS σ c) 99
def sum6 (f : Int → Int) : Int := sm f 6
