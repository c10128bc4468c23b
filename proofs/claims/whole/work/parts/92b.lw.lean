section LAWC
variable {p : Program} {l : Launch} {e : Env} {s : State} {m : MethodId} {args : Array Value} {below : List Frame} {meth : Method} {c : Code} {H : Heap} {locs : List Loc} {cells slots : Nat} {Q : State → Prop}
variable {D : va_G} {cI cO cC cL : ClassId} {x a sv o rd bu ob b : Nat → Nat} {ln σ κ φ ρ β μ : Nat → Int → Int} {sa : Nat → Nat → Nat} {ss : Nat → Nat → Int → Int} {f : Nat → Int64} {sc n9 : Nat} {g : Int → Int} {A : Nat → Prop} {H0 : Heap} {ls : Array Slot} {i : Int}
set_option maxHeartbeats 4000000 in
set_option maxRecDepth 100000 in
theorem lc_bounds (hl9 : l.stackTraces = false) (hx : p.tables.exec = Jvm.exec) (hb : c.code = cL_law) (hlocks : meth.locks = false) (hown : s.vm.findClass RL = some m.cls) (hml : c.maxLocals = 9) (hts : ∀ w ∈ wsL_law, w.before args s = true) (hK : va_K D vwCl [(cI, FieldType.int), (cO, FieldType.object "PromisedCounters$State"), (cC, FieldType.char), (cL, FieldType.long)] s) (hA : ∀ q : Nat, H0.size ≤ q → A q)
    (hgR : ∀ j : Int, R32 (g j)) (hi : 0 ≤ i ∧ i + 5 ≤ (n9 : Int)) (hn9 : n9 ≤ 2560) (hcells : cells + 1 ≤ 1139) (hslots : slots + 6 ≤ 14922) (hκ : κ 0 0 = μ 0 0) (hln : ln 0 0 = μ 0 1) (hM : RelM σ (μ 0 0) ss (μ 0 1) (β 1) μ) (hG : GI σ (μ 0 0) ss (μ 0 1) (β 1)) (hZ : ZP A s H0) (hX : va_X sc n9 (rI g) s H0) (hbl : sc < H0.size) (hsc : ¬ A sc) (hP : va_P D vwCl (fl [mnW x a sv o rd bu ln, stW cI a σ, svO cO sv (saF sa) κ, stW cI (sa 0) (ss 0), stW cI (sa 1) (ss 1), stW cI (sa 2) (ss 2), stW cI (sa 3) (ss 3), stW cI (sa 4) (ss 4), stW cI (sa 5) (ss 5), ocW cI o φ, rdW rd ρ, bfW cC bu β, ouW cL ob f, mdW cI b μ]) H) (hD : va_D A (fl [mnW x a sv o rd bu ln, stW cI a σ, svO cO sv (saF sa) κ, stW cI (sa 0) (ss 0), stW cI (sa 1) (ss 1), stW cI (sa 2) (ss 2), stW cI (sa 3) (ss 3), stW cI (sa 4) (ss 4), stW cI (sa 5) (ss 5), ocW cI o φ, rdW rd ρ, bfW cC bu β, ouW cL ob f, mdW cI b μ])) (hS : va_S A H0 H locs) (hl : lv_has ls 9 [(0, .ref (sc)), (1, .ref (x 0)), (2, .ref (b 0)), (3, .ref (ob 0)), (4, .int (iI (i)))])
    (kk : ∀ (u : LwS) (μ : Nat → Int → Int) (H : Heap) (locs : List Loc), LI u μ → va_P D vwCl (lawW cI cO cC cL x a sv o rd bu ob b u μ) H → va_D A (lawW cI cO cC cL x a sv o rd bu ob b u μ) → va_S A H0 H locs → ∀ ls : Array Slot, lv_has ls 9 [(0, .ref (sc)), (1, .ref (x 0)), (2, .ref (b 0)), (3, .ref (ob 0)), (4, .int (iI (i)))] → W p l e ({ frames := 13, cells := 1139, slots := 14922, locals := 478 } : Room) s m args below meth c H locs (cells + 1) (slots + 6) Q (F0 m 1705 ls [])) : W p l e ({ frames := 13, cells := 1139, slots := 14922, locals := 478 } : Room) s m args below meth c H locs cells slots Q (F0 m 156 ls []) := by
  refine lv_aload_n hx hb dL_law_156 rfl (lv_at hl 1 rfl) ?_
  refine lv_aload_n hx hb dL_law_157 rfl (lv_at hl 0 rfl) ?_
  refine lv_iload hx hb dL_law_158 (lv_at hl 4 rfl) ?_
  refine wi_iconst hx hb dL_law_160 ?_
  refine wi_iadd hx hb dL_law_161 ?_
  refine wi_sld hx hb hX hbl hsc hS (i := (i + 1)) (by omega) (by omega) dL_law_162 ?_
  refine lv_aload_n hx hb dL_law_163 rfl (lv_at hl 0 rfl) ?_
  refine lv_iload hx hb dL_law_164 (lv_at hl 4 rfl) ?_
  refine wi_iconst hx hb dL_law_166 ?_
  refine wi_iadd hx hb dL_law_167 ?_
  refine wi_sld hx hb hX hbl hsc hS (i := (i + 2)) (by omega) (by omega) dL_law_168 ?_
  refine lv_aload_n hx hb dL_law_169 rfl (lv_at hl 0 rfl) ?_
  refine lv_iload hx hb dL_law_170 (lv_at hl 4 rfl) ?_
  refine wi_iconst hx hb dL_law_172 ?_
  refine wi_iadd hx hb dL_law_173 ?_
  refine wi_sld hx hb hX hbl hsc hS (i := (i + 3)) (by omega) (by omega) dL_law_174 ?_
  refine lv_aload_n hx hb dL_law_175 rfl (lv_at hl 3 rfl) ?_
  have hPc := fl_P (S' := [mnW x a sv o rd bu ln, stW cI a σ, svO cO sv (saF sa) κ, stW cI (sa 0) (ss 0), stW cI (sa 1) (ss 1), stW cI (sa 2) (ss 2), stW cI (sa 3) (ss 3), stW cI (sa 4) (ss 4), stW cI (sa 5) (ss 5), ocW cI o φ, rdW rd ρ, bfW cC bu β, ouW cL ob f]) hP [0, 1, 2, 3, 4, 5, 6, 7, 8, 9, 10, 11, 12] rfl
  have hDc := fl_D (S' := [mnW x a sv o rd bu ln, stW cI a σ, svO cO sv (saF sa) κ, stW cI (sa 0) (ss 0), stW cI (sa 1) (ss 1), stW cI (sa 2) (ss 2), stW cI (sa 3) (ss 3), stW cI (sa 4) (ss 4), stW cI (sa 5) (ss 5), ocW cI o φ, rdW rd ρ, bfW cC bu β, ouW cL ob f]) hD [0, 1, 2, 3, 4, 5, 6, 7, 8, 9, 10, 11, 12] (by decide) rfl
  have hFc := fl_free (SC := [mnW x a sv o rd bu ln, stW cI a σ, svO cO sv (saF sa) κ, stW cI (sa 0) (ss 0), stW cI (sa 1) (ss 1), stW cI (sa 2) (ss 2), stW cI (sa 3) (ss 3), stW cI (sa 4) (ss 4), stW cI (sa 5) (ss 5), ocW cI o φ, rdW rd ρ, bfW cC bu β, ouW cL ob f]) hD hS hA [0, 1, 2, 3, 4, 5, 6, 7, 8, 9, 10, 11, 12] rfl
  refine wq_calli (vx_runSW (As := [.ref (x 0), .int (iI ((g (i + 1)))), .int (iI ((g (i + 2)))), .int (iI ((g (i + 3)))), .ref (ob 0)]) (rest := []) ⟨hx, hb, hml, hown, hts⟩ (lk_bounds l hl9 D cI cO cC cL H.size x a sv o rd bu ob ln σ κ φ ρ β sa ss f ((g (i + 1))) ((g (i + 2))) ((g (i + 3))) (hgR _) (hgR _) (hgR _) (by rw [hκ, hln]; exact hG)) (vx_cwSW 5 hts gL_law_L_bounds rfl rfl rfl (by decide +kernel) ⟨Nat.le_of_ble_eq_true rfl, Nat.le_of_ble_eq_true rfl⟩) ⟨pcWX_blind, pcWX_of hPc hK hDc (hZ.kept hS.2.1) hFc⟩ rfl rfl hl.1 rfl (lv_room (Nat.le_of_ble_eq_true rfl)) dL_law_176 ⟨(by show cells + 0 + 1 ≤ 1139; omega), (by show slots + 0 + 6 ≤ 14922; omega)⟩) hS (fun q _ h => hFc q h) hFc (fun r1 u3 t9 H1 locs ht9 hvm hcl2 hB hz1 hk1 hS => ?_)
  obtain ⟨hP1, hK1, hD1⟩ := hB
  rw [ht9] at hP1
  obtain ⟨hP, hD⟩ := fl_join (SR := [mdW cI b μ]) (S1 := [mnW x a sv o rd bu (LwS.ln u3), stW cI a (LwS.σ u3), svO cO sv (saF (LwS.sa u3)) (LwS.κ u3), stW cI (LwS.sa u3 0) (LwS.ss u3 0), stW cI (LwS.sa u3 1) (LwS.ss u3 1), stW cI (LwS.sa u3 2) (LwS.ss u3 2), stW cI (LwS.sa u3 3) (LwS.ss u3 3), stW cI (LwS.sa u3 4) (LwS.ss u3 4), stW cI (LwS.sa u3 5) (LwS.ss u3 5), ocW cI o (LwS.φ u3), rdW rd (LwS.ρ u3), bfW cC bu (LwS.β u3), ouW cL ob (LwS.f u3)]) hP hD [0, 1, 2, 3, 4, 5, 6, 7, 8, 9, 10, 11, 12] [13] rfl rfl (by decide) (by decide) hk1 hFc hP1 hD1
  generalize H1 = H at hP hS ⊢
  have hP := fl_P (S' := [mnW x a sv o rd bu (LwS.ln u3), stW cI a (LwS.σ u3), svO cO sv (saF (LwS.sa u3)) (LwS.κ u3), stW cI (LwS.sa u3 0) (LwS.ss u3 0), stW cI (LwS.sa u3 1) (LwS.ss u3 1), stW cI (LwS.sa u3 2) (LwS.ss u3 2), stW cI (LwS.sa u3 3) (LwS.ss u3 3), stW cI (LwS.sa u3 4) (LwS.ss u3 4), stW cI (LwS.sa u3 5) (LwS.ss u3 5), ocW cI o (LwS.φ u3), rdW rd (LwS.ρ u3), bfW cC bu (LwS.β u3), ouW cL ob (LwS.f u3), mdW cI b μ]) hP [1, 2, 3, 4, 5, 6, 7, 8, 9, 10, 11, 12, 13, 0] rfl
  have hD := fl_D (S' := [mnW x a sv o rd bu (LwS.ln u3), stW cI a (LwS.σ u3), svO cO sv (saF (LwS.sa u3)) (LwS.κ u3), stW cI (LwS.sa u3 0) (LwS.ss u3 0), stW cI (LwS.sa u3 1) (LwS.ss u3 1), stW cI (LwS.sa u3 2) (LwS.ss u3 2), stW cI (LwS.sa u3 3) (LwS.ss u3 3), stW cI (LwS.sa u3 4) (LwS.ss u3 4), stW cI (LwS.sa u3 5) (LwS.ss u3 5), ocW cI o (LwS.φ u3), rdW rd (LwS.ρ u3), bfW cC bu (LwS.β u3), ouW cL ob (LwS.f u3), mdW cI b μ]) hD [1, 2, 3, 4, 5, 6, 7, 8, 9, 10, 11, 12, 13, 0] (by decide) rfl
  rw [hκ, hln] at hcl2
  refine lv_istore (lv' := [(5, .int (iI (r1))), (0, .ref (sc)), (1, .ref (x 0)), (2, .ref (b 0)), (3, .ref (ob 0)), (4, .int (iI (i)))]) hx hb dL_law_179 hl (by decide) rfl (fun ls hl => ?_)
  refine lv_aload_n hx hb dL_law_181 rfl (lv_at hl 3 rfl) ?_
  refine lv_aload_n hx hb dL_law_182 rfl (lv_at hl 1 rfl) ?_
  refine lv_iload hx hb dL_law_183 (lv_at hl 5 rfl) ?_
  refine wi_iconst hx hb dL_law_185 ?_
  refine wi_iadd hx hb dL_law_186 ?_
  refine wi_sld hx hb hX hbl hsc hS (i := (i + 1)) (by omega) (by omega) dL_law_187 ?_
  refine lv_aload_n hx hb dL_law_188 rfl (lv_at hl 1 rfl) ?_
  refine lv_iload hx hb dL_law_189 (lv_at hl 5 rfl) ?_
  refine wi_iconst hx hb dL_law_191 ?_
  refine wi_iadd hx hb dL_law_192 ?_
  refine wi_sld hx hb hX hbl hsc hS (i := (i + 2)) (by omega) (by omega) dL_law_193 ?_
  refine lv_aload_n hx hb dL_law_194 rfl (lv_at hl 1 rfl) ?_
  refine lv_iload hx hb dL_law_195 (lv_at hl 5 rfl) ?_
  refine wi_iconst hx hb dL_law_197 ?_
  refine wi_iadd hx hb dL_law_198 ?_
  refine wi_sld hx hb hX hbl hsc hS (i := (i + 3)) (by omega) (by omega) dL_law_199 ?_
  have hPc := fl_P (S' := [mdW cI b μ]) hP [13] rfl
  have hKc := hK.sub (tys' := [(cI, FieldType.int)]) [0] rfl
  have hDc := fl_D (S' := [mdW cI b μ]) hD [13] (by decide) rfl
  have hFc := fl_free (SC := [mdW cI b μ]) hD hS hA [13] rfl
  refine wq_calli (va_runV (As := [.int (iI ((g (i + 1)))), .int (iI ((g (i + 2)))), .int (iI ((g (i + 3))))]) (rest := []) ⟨hx, hb, hml, hown, hts⟩ (c_X5_bounds l D cI cO cC cL H.size b μ σ ss (β 1) ((g (i + 1))) ((g (i + 2))) ((g (i + 3))) (hgR _) (hgR _) (hgR _) (hM) (hG)) (cwV 3 hts gL_law_X5_bounds rfl rfl rfl (by decide +kernel) ⟨Nat.le_of_ble_eq_true rfl, Nat.le_of_ble_eq_true rfl⟩) ⟨pcW_blind, va_recv hKc hPc (ci := 5) (q0 := 0) rfl rfl, pcW_of hPc hKc hDc⟩ rfl rfl hl.1 rfl (lv_room (Nat.le_of_ble_eq_true rfl)) dL_law_200 ⟨(by show cells + 1 + 0 ≤ 1139; omega), (by show slots + 6 + 0 ≤ 14922; omega)⟩) hS (fun q _ h => hFc q h) hFc (fun r4 u6 t9 H1 locs ht9 hvm hcl5 hB hz1 hk1 hS => ?_)
  obtain ⟨hP1, hK1, hD1⟩ := hB
  rw [ht9] at hP1
  obtain ⟨hP, hD⟩ := fl_join (SR := [mnW x a sv o rd bu (LwS.ln u3), stW cI a (LwS.σ u3), svO cO sv (saF (LwS.sa u3)) (LwS.κ u3), stW cI (LwS.sa u3 0) (LwS.ss u3 0), stW cI (LwS.sa u3 1) (LwS.ss u3 1), stW cI (LwS.sa u3 2) (LwS.ss u3 2), stW cI (LwS.sa u3 3) (LwS.ss u3 3), stW cI (LwS.sa u3 4) (LwS.ss u3 4), stW cI (LwS.sa u3 5) (LwS.ss u3 5), ocW cI o (LwS.φ u3), rdW rd (LwS.ρ u3), bfW cC bu (LwS.β u3), ouW cL ob (LwS.f u3)]) (S1 := [mdW cI b u6]) hP hD [13] [0, 1, 2, 3, 4, 5, 6, 7, 8, 9, 10, 11, 12] rfl rfl (by decide) (by decide) hk1 hFc hP1 hD1
  generalize H1 = H at hP hS ⊢
  have hP := fl_P (S' := [mnW x a sv o rd bu (LwS.ln u3), stW cI a (LwS.σ u3), svO cO sv (saF (LwS.sa u3)) (LwS.κ u3), stW cI (LwS.sa u3 0) (LwS.ss u3 0), stW cI (LwS.sa u3 1) (LwS.ss u3 1), stW cI (LwS.sa u3 2) (LwS.ss u3 2), stW cI (LwS.sa u3 3) (LwS.ss u3 3), stW cI (LwS.sa u3 4) (LwS.ss u3 4), stW cI (LwS.sa u3 5) (LwS.ss u3 5), ocW cI o (LwS.φ u3), rdW rd (LwS.ρ u3), bfW cC bu (LwS.β u3), ouW cL ob (LwS.f u3), mdW cI b u6]) hP [0, 1, 2, 3, 4, 5, 6, 7, 8, 9, 10, 11, 12, 13] rfl
  have hD := fl_D (S' := [mnW x a sv o rd bu (LwS.ln u3), stW cI a (LwS.σ u3), svO cO sv (saF (LwS.sa u3)) (LwS.κ u3), stW cI (LwS.sa u3 0) (LwS.ss u3 0), stW cI (LwS.sa u3 1) (LwS.ss u3 1), stW cI (LwS.sa u3 2) (LwS.ss u3 2), stW cI (LwS.sa u3 3) (LwS.ss u3 3), stW cI (LwS.sa u3 4) (LwS.ss u3 4), stW cI (LwS.sa u3 5) (LwS.ss u3 5), ocW cI o (LwS.φ u3), rdW rd (LwS.ρ u3), bfW cC bu (LwS.β u3), ouW cL ob (LwS.f u3), mdW cI b u6]) hD [0, 1, 2, 3, 4, 5, 6, 7, 8, 9, 10, 11, 12, 13] (by decide) rfl
  obtain ⟨he9, hf9, hLI⟩ := LI.step hcl2 hcl5 hG (fun h0 => by obtain ⟨a1, a2, a3⟩ := cd3_0 h0; exact hG.push (hG.1.bnd a2.1.1 a2.2.2 a3.1 a3.2))
  have hrg : 0 ≤ r1 ∧ r1 ≤ 3 := by rw [hcl2.1]; exact cd3_b
  refine lv_istore (lv' := [(6, .int (iI (r4))), (5, .int (iI (r1))), (0, .ref (sc)), (1, .ref (x 0)), (2, .ref (b 0)), (3, .ref (ob 0)), (4, .int (iI (i)))]) hx hb dL_law_203 hl (by decide) rfl (fun ls hl => ?_)
  refine lv_aload_n hx hb dL_law_205 rfl (lv_at hl 4 rfl) ?_
  have hPc := fl_P (S' := [mdW cI b u6]) hP [13] rfl
  have hKc := hK.sub (tys' := [(cI, FieldType.int)]) [0] rfl
  refine wr_calli (va_runV (As := []) (rest := []) ⟨hx, hb, hml, hown, hts⟩ (c_X5_thrown l D cI cO cC cL b u6 ) (cwV 0 hts gL_law_X5_thrown rfl rfl rfl (by decide +kernel) ⟨Nat.le_of_ble_eq_true rfl, Nat.le_of_ble_eq_true rfl⟩) ⟨pcR_blind, va_recv hKc hPc (ci := 5) (q0 := 0) rfl rfl, pcR_of hPc hKc⟩ rfl rfl hl.1 rfl (lv_room (Nat.le_of_ble_eq_true rfl)) dL_law_206 ⟨(by show cells + 1 + 0 ≤ 1139; omega), (by show slots + 6 + 0 ≤ 14922; omega)⟩) (fun r7 hr7 => ?_)
  subst hr7
  refine lv_iload hx hb dL_law_209 (lv_at hl 1 rfl) ?_
  refine wi_icmp_eq (tgt := 216) hx hb dL_law_211 (by decide) (by omega) (fun c_211 => ?_) (fun c_211 => ?_)
  · skip
    refine lv_iload hx hb dL_law_216 (lv_at hl 1 rfl) ?_
    refine wi_if_ne (tgt := 233) hx hb dL_law_218 (by decide) (by omega) (fun c_218 => ?_) (fun c_218 => ?_)
    · skip
      refine lv_goto (tgt := 1705) hx hb dL_law_233 (by decide) ?_
      exact kk u3 u6 _ _ (hLI) hP hD hS ls (lv_sub hl [2, 3, 4, 5, 6] rfl)
    · skip
      refine lv_aload_n hx hb dL_law_221 rfl (lv_at hl 5 rfl) ?_
      refine wi_iconst hx hb dL_law_222 ?_
      refine wi_lald hx hb hK hP 98 3 rfl rfl dL_law_223 ?_
      refine lv_iload hx hb dL_law_224 (lv_at hl 0 rfl) ?_
      refine lv_i2l (v := iL (r4)) hx hb dL_law_226 rfl ?_
      refine wi_lcmp0 hx hb (congrFun (hf9 (by omega)) 0) dL_law_227 ?_
      refine wi_if_eq (tgt := 233) hx hb dL_law_228 (by decide) (by omega) (fun c_228 => ?_) (fun c_228 => ?_)
      · skip
        refine lv_goto (tgt := 1705) hx hb dL_law_233 (by decide) ?_
        exact kk u3 u6 _ _ (hLI) hP hD hS ls (lv_sub hl [2, 3, 4, 5, 6] rfl)
      · skip
        exfalso; omega
  · skip
    exfalso; omega
set_option maxHeartbeats 4000000 in
set_option maxRecDepth 100000 in
theorem lc_set (hl9 : l.stackTraces = false) (hx : p.tables.exec = Jvm.exec) (hb : c.code = cL_law) (hlocks : meth.locks = false) (hown : s.vm.findClass RL = some m.cls) (hml : c.maxLocals = 9) (hts : ∀ w ∈ wsL_law, w.before args s = true) (hK : va_K D vwCl [(cI, FieldType.int), (cO, FieldType.object "PromisedCounters$State"), (cC, FieldType.char), (cL, FieldType.long)] s) (hA : ∀ q : Nat, H0.size ≤ q → A q)
    (hgR : ∀ j : Int, R32 (g j)) (hi : 0 ≤ i ∧ i + 5 ≤ (n9 : Int)) (hn9 : n9 ≤ 2560) (hcells : cells + 1 ≤ 1139) (hslots : slots + 6 ≤ 14922) (hκ : κ 0 0 = μ 0 0) (hln : ln 0 0 = μ 0 1) (hM : RelM σ (μ 0 0) ss (μ 0 1) (β 1) μ) (hG : GI σ (μ 0 0) ss (μ 0 1) (β 1)) (hZ : ZP A s H0) (hX : va_X sc n9 (rI g) s H0) (hbl : sc < H0.size) (hsc : ¬ A sc) (hP : va_P D vwCl (fl [mnW x a sv o rd bu ln, stW cI a σ, svO cO sv (saF sa) κ, stW cI (sa 0) (ss 0), stW cI (sa 1) (ss 1), stW cI (sa 2) (ss 2), stW cI (sa 3) (ss 3), stW cI (sa 4) (ss 4), stW cI (sa 5) (ss 5), ocW cI o φ, rdW rd ρ, bfW cC bu β, ouW cL ob f, mdW cI b μ]) H) (hD : va_D A (fl [mnW x a sv o rd bu ln, stW cI a σ, svO cO sv (saF sa) κ, stW cI (sa 0) (ss 0), stW cI (sa 1) (ss 1), stW cI (sa 2) (ss 2), stW cI (sa 3) (ss 3), stW cI (sa 4) (ss 4), stW cI (sa 5) (ss 5), ocW cI o φ, rdW rd ρ, bfW cC bu β, ouW cL ob f, mdW cI b μ])) (hS : va_S A H0 H locs) (hl : lv_has ls 9 [(0, .ref (sc)), (1, .ref (x 0)), (2, .ref (b 0)), (3, .ref (ob 0)), (4, .int (iI (i)))])
    (kk : ∀ (u : LwS) (μ : Nat → Int → Int) (H : Heap) (locs : List Loc), LI u μ → va_P D vwCl (lawW cI cO cC cL x a sv o rd bu ob b u μ) H → va_D A (lawW cI cO cC cL x a sv o rd bu ob b u μ) → va_S A H0 H locs → ∀ ls : Array Slot, lv_has ls 9 [(0, .ref (sc)), (1, .ref (x 0)), (2, .ref (b 0)), (3, .ref (ob 0)), (4, .int (iI (i)))] → W p l e ({ frames := 13, cells := 1139, slots := 14922, locals := 478 } : Room) s m args below meth c H locs (cells + 1) (slots + 6) Q (F0 m 1705 ls [])) : W p l e ({ frames := 13, cells := 1139, slots := 14922, locals := 478 } : Room) s m args below meth c H locs cells slots Q (F0 m 236 ls []) := by
  refine lv_aload_n hx hb dL_law_236 rfl (lv_at hl 1 rfl) ?_
  refine lv_aload_n hx hb dL_law_237 rfl (lv_at hl 0 rfl) ?_
  refine lv_iload hx hb dL_law_238 (lv_at hl 4 rfl) ?_
  refine wi_iconst hx hb dL_law_240 ?_
  refine wi_iadd hx hb dL_law_241 ?_
  refine wi_sld hx hb hX hbl hsc hS (i := (i + 1)) (by omega) (by omega) dL_law_242 ?_
  refine lv_aload_n hx hb dL_law_243 rfl (lv_at hl 0 rfl) ?_
  refine lv_iload hx hb dL_law_244 (lv_at hl 4 rfl) ?_
  refine wi_iconst hx hb dL_law_246 ?_
  refine wi_iadd hx hb dL_law_247 ?_
  refine wi_sld hx hb hX hbl hsc hS (i := (i + 2)) (by omega) (by omega) dL_law_248 ?_
  refine lv_aload_n hx hb dL_law_249 rfl (lv_at hl 3 rfl) ?_
  have hPc := fl_P (S' := [mnW x a sv o rd bu ln, stW cI a σ, svO cO sv (saF sa) κ, stW cI (sa 0) (ss 0), stW cI (sa 1) (ss 1), stW cI (sa 2) (ss 2), stW cI (sa 3) (ss 3), stW cI (sa 4) (ss 4), stW cI (sa 5) (ss 5), ocW cI o φ, rdW rd ρ, bfW cC bu β, ouW cL ob f]) hP [0, 1, 2, 3, 4, 5, 6, 7, 8, 9, 10, 11, 12] rfl
  have hDc := fl_D (S' := [mnW x a sv o rd bu ln, stW cI a σ, svO cO sv (saF sa) κ, stW cI (sa 0) (ss 0), stW cI (sa 1) (ss 1), stW cI (sa 2) (ss 2), stW cI (sa 3) (ss 3), stW cI (sa 4) (ss 4), stW cI (sa 5) (ss 5), ocW cI o φ, rdW rd ρ, bfW cC bu β, ouW cL ob f]) hD [0, 1, 2, 3, 4, 5, 6, 7, 8, 9, 10, 11, 12] (by decide) rfl
  have hFc := fl_free (SC := [mnW x a sv o rd bu ln, stW cI a σ, svO cO sv (saF sa) κ, stW cI (sa 0) (ss 0), stW cI (sa 1) (ss 1), stW cI (sa 2) (ss 2), stW cI (sa 3) (ss 3), stW cI (sa 4) (ss 4), stW cI (sa 5) (ss 5), ocW cI o φ, rdW rd ρ, bfW cC bu β, ouW cL ob f]) hD hS hA [0, 1, 2, 3, 4, 5, 6, 7, 8, 9, 10, 11, 12] rfl
  refine wq_calli (vx_runSW (As := [.ref (x 0), .int (iI ((g (i + 1)))), .int (iI ((g (i + 2)))), .ref (ob 0)]) (rest := []) ⟨hx, hb, hml, hown, hts⟩ (lk_set l hl9 D cI cO cC cL H.size x a sv o rd bu ob ln σ κ φ ρ β sa ss f ((g (i + 1))) ((g (i + 2))) (hgR _) (hgR _) (by rw [hκ, hln]; exact hG)) (vx_cwSW 4 hts gL_law_L_set rfl rfl rfl (by decide +kernel) ⟨Nat.le_of_ble_eq_true rfl, Nat.le_of_ble_eq_true rfl⟩) ⟨pcWX_blind, pcWX_of hPc hK hDc (hZ.kept hS.2.1) hFc⟩ rfl rfl hl.1 rfl (lv_room (Nat.le_of_ble_eq_true rfl)) dL_law_250 ⟨(by show cells + 0 + 1 ≤ 1139; omega), (by show slots + 0 + 6 ≤ 14922; omega)⟩) hS (fun q _ h => hFc q h) hFc (fun r1 u3 t9 H1 locs ht9 hvm hcl2 hB hz1 hk1 hS => ?_)
  obtain ⟨hP1, hK1, hD1⟩ := hB
  rw [ht9] at hP1
  obtain ⟨hP, hD⟩ := fl_join (SR := [mdW cI b μ]) (S1 := [mnW x a sv o rd bu (LwS.ln u3), stW cI a (LwS.σ u3), svO cO sv (saF (LwS.sa u3)) (LwS.κ u3), stW cI (LwS.sa u3 0) (LwS.ss u3 0), stW cI (LwS.sa u3 1) (LwS.ss u3 1), stW cI (LwS.sa u3 2) (LwS.ss u3 2), stW cI (LwS.sa u3 3) (LwS.ss u3 3), stW cI (LwS.sa u3 4) (LwS.ss u3 4), stW cI (LwS.sa u3 5) (LwS.ss u3 5), ocW cI o (LwS.φ u3), rdW rd (LwS.ρ u3), bfW cC bu (LwS.β u3), ouW cL ob (LwS.f u3)]) hP hD [0, 1, 2, 3, 4, 5, 6, 7, 8, 9, 10, 11, 12] [13] rfl rfl (by decide) (by decide) hk1 hFc hP1 hD1
  generalize H1 = H at hP hS ⊢
  have hP := fl_P (S' := [mnW x a sv o rd bu (LwS.ln u3), stW cI a (LwS.σ u3), svO cO sv (saF (LwS.sa u3)) (LwS.κ u3), stW cI (LwS.sa u3 0) (LwS.ss u3 0), stW cI (LwS.sa u3 1) (LwS.ss u3 1), stW cI (LwS.sa u3 2) (LwS.ss u3 2), stW cI (LwS.sa u3 3) (LwS.ss u3 3), stW cI (LwS.sa u3 4) (LwS.ss u3 4), stW cI (LwS.sa u3 5) (LwS.ss u3 5), ocW cI o (LwS.φ u3), rdW rd (LwS.ρ u3), bfW cC bu (LwS.β u3), ouW cL ob (LwS.f u3), mdW cI b μ]) hP [1, 2, 3, 4, 5, 6, 7, 8, 9, 10, 11, 12, 13, 0] rfl
  have hD := fl_D (S' := [mnW x a sv o rd bu (LwS.ln u3), stW cI a (LwS.σ u3), svO cO sv (saF (LwS.sa u3)) (LwS.κ u3), stW cI (LwS.sa u3 0) (LwS.ss u3 0), stW cI (LwS.sa u3 1) (LwS.ss u3 1), stW cI (LwS.sa u3 2) (LwS.ss u3 2), stW cI (LwS.sa u3 3) (LwS.ss u3 3), stW cI (LwS.sa u3 4) (LwS.ss u3 4), stW cI (LwS.sa u3 5) (LwS.ss u3 5), ocW cI o (LwS.φ u3), rdW rd (LwS.ρ u3), bfW cC bu (LwS.β u3), ouW cL ob (LwS.f u3), mdW cI b μ]) hD [1, 2, 3, 4, 5, 6, 7, 8, 9, 10, 11, 12, 13, 0] (by decide) rfl
  rw [hκ, hln] at hcl2
  refine lv_istore (lv' := [(5, .int (iI (r1))), (0, .ref (sc)), (1, .ref (x 0)), (2, .ref (b 0)), (3, .ref (ob 0)), (4, .int (iI (i)))]) hx hb dL_law_253 hl (by decide) rfl (fun ls hl => ?_)
  refine lv_aload_n hx hb dL_law_255 rfl (lv_at hl 3 rfl) ?_
  refine lv_aload_n hx hb dL_law_256 rfl (lv_at hl 1 rfl) ?_
  refine lv_iload hx hb dL_law_257 (lv_at hl 5 rfl) ?_
  refine wi_iconst hx hb dL_law_259 ?_
  refine wi_iadd hx hb dL_law_260 ?_
  refine wi_sld hx hb hX hbl hsc hS (i := (i + 1)) (by omega) (by omega) dL_law_261 ?_
  refine lv_aload_n hx hb dL_law_262 rfl (lv_at hl 1 rfl) ?_
  refine lv_iload hx hb dL_law_263 (lv_at hl 5 rfl) ?_
  refine wi_iconst hx hb dL_law_265 ?_
  refine wi_iadd hx hb dL_law_266 ?_
  refine wi_sld hx hb hX hbl hsc hS (i := (i + 2)) (by omega) (by omega) dL_law_267 ?_
  have hPc := fl_P (S' := [mdW cI b μ]) hP [13] rfl
  have hKc := hK.sub (tys' := [(cI, FieldType.int)]) [0] rfl
  have hDc := fl_D (S' := [mdW cI b μ]) hD [13] (by decide) rfl
  have hFc := fl_free (SC := [mdW cI b μ]) hD hS hA [13] rfl
  refine wq_calli (va_runV (As := [.int (iI ((g (i + 1)))), .int (iI ((g (i + 2))))]) (rest := []) ⟨hx, hb, hml, hown, hts⟩ (c_X5_set l D cI cO cC cL H.size b μ σ ss (β 1) ((g (i + 1))) ((g (i + 2))) (hgR _) (hgR _) (hM) (hG)) (cwV 2 hts gL_law_X5_set rfl rfl rfl (by decide +kernel) ⟨Nat.le_of_ble_eq_true rfl, Nat.le_of_ble_eq_true rfl⟩) ⟨pcW_blind, va_recv hKc hPc (ci := 5) (q0 := 0) rfl rfl, pcW_of hPc hKc hDc⟩ rfl rfl hl.1 rfl (lv_room (Nat.le_of_ble_eq_true rfl)) dL_law_268 ⟨(by show cells + 1 + 0 ≤ 1139; omega), (by show slots + 6 + 0 ≤ 14922; omega)⟩) hS (fun q _ h => hFc q h) hFc (fun r4 u6 t9 H1 locs ht9 hvm hcl5 hB hz1 hk1 hS => ?_)
  obtain ⟨hP1, hK1, hD1⟩ := hB
  rw [ht9] at hP1
  obtain ⟨hP, hD⟩ := fl_join (SR := [mnW x a sv o rd bu (LwS.ln u3), stW cI a (LwS.σ u3), svO cO sv (saF (LwS.sa u3)) (LwS.κ u3), stW cI (LwS.sa u3 0) (LwS.ss u3 0), stW cI (LwS.sa u3 1) (LwS.ss u3 1), stW cI (LwS.sa u3 2) (LwS.ss u3 2), stW cI (LwS.sa u3 3) (LwS.ss u3 3), stW cI (LwS.sa u3 4) (LwS.ss u3 4), stW cI (LwS.sa u3 5) (LwS.ss u3 5), ocW cI o (LwS.φ u3), rdW rd (LwS.ρ u3), bfW cC bu (LwS.β u3), ouW cL ob (LwS.f u3)]) (S1 := [mdW cI b u6]) hP hD [13] [0, 1, 2, 3, 4, 5, 6, 7, 8, 9, 10, 11, 12] rfl rfl (by decide) (by decide) hk1 hFc hP1 hD1
  generalize H1 = H at hP hS ⊢
  have hP := fl_P (S' := [mnW x a sv o rd bu (LwS.ln u3), stW cI a (LwS.σ u3), svO cO sv (saF (LwS.sa u3)) (LwS.κ u3), stW cI (LwS.sa u3 0) (LwS.ss u3 0), stW cI (LwS.sa u3 1) (LwS.ss u3 1), stW cI (LwS.sa u3 2) (LwS.ss u3 2), stW cI (LwS.sa u3 3) (LwS.ss u3 3), stW cI (LwS.sa u3 4) (LwS.ss u3 4), stW cI (LwS.sa u3 5) (LwS.ss u3 5), ocW cI o (LwS.φ u3), rdW rd (LwS.ρ u3), bfW cC bu (LwS.β u3), ouW cL ob (LwS.f u3), mdW cI b u6]) hP [0, 1, 2, 3, 4, 5, 6, 7, 8, 9, 10, 11, 12, 13] rfl
  have hD := fl_D (S' := [mnW x a sv o rd bu (LwS.ln u3), stW cI a (LwS.σ u3), svO cO sv (saF (LwS.sa u3)) (LwS.κ u3), stW cI (LwS.sa u3 0) (LwS.ss u3 0), stW cI (LwS.sa u3 1) (LwS.ss u3 1), stW cI (LwS.sa u3 2) (LwS.ss u3 2), stW cI (LwS.sa u3 3) (LwS.ss u3 3), stW cI (LwS.sa u3 4) (LwS.ss u3 4), stW cI (LwS.sa u3 5) (LwS.ss u3 5), ocW cI o (LwS.φ u3), rdW rd (LwS.ρ u3), bfW cC bu (LwS.β u3), ouW cL ob (LwS.f u3), mdW cI b u6]) hD [0, 1, 2, 3, 4, 5, 6, 7, 8, 9, 10, 11, 12, 13] (by decide) rfl
  obtain ⟨he9, hf9, hLI⟩ := LI.step hcl2 hcl5 hG (fun h0 => by obtain ⟨a1, a2⟩ := cd2_0 h0; exact hG.push (hG.1.sett a1 a2))
  have hrg : 0 ≤ r1 ∧ r1 ≤ 3 := by rw [hcl2.1]; exact cd2_b
  refine lv_istore (lv' := [(6, .int (iI (r4))), (5, .int (iI (r1))), (0, .ref (sc)), (1, .ref (x 0)), (2, .ref (b 0)), (3, .ref (ob 0)), (4, .int (iI (i)))]) hx hb dL_law_271 hl (by decide) rfl (fun ls hl => ?_)
  refine lv_aload_n hx hb dL_law_273 rfl (lv_at hl 4 rfl) ?_
  have hPc := fl_P (S' := [mdW cI b u6]) hP [13] rfl
  have hKc := hK.sub (tys' := [(cI, FieldType.int)]) [0] rfl
  refine wr_calli (va_runV (As := []) (rest := []) ⟨hx, hb, hml, hown, hts⟩ (c_X5_thrown l D cI cO cC cL b u6 ) (cwV 0 hts gL_law_X5_thrown rfl rfl rfl (by decide +kernel) ⟨Nat.le_of_ble_eq_true rfl, Nat.le_of_ble_eq_true rfl⟩) ⟨pcR_blind, va_recv hKc hPc (ci := 5) (q0 := 0) rfl rfl, pcR_of hPc hKc⟩ rfl rfl hl.1 rfl (lv_room (Nat.le_of_ble_eq_true rfl)) dL_law_274 ⟨(by show cells + 1 + 0 ≤ 1139; omega), (by show slots + 6 + 0 ≤ 14922; omega)⟩) (fun r7 hr7 => ?_)
  subst hr7
  refine lv_iload hx hb dL_law_277 (lv_at hl 1 rfl) ?_
  refine wi_icmp_eq (tgt := 284) hx hb dL_law_279 (by decide) (by omega) (fun c_279 => ?_) (fun c_279 => ?_)
  · skip
    refine lv_iload hx hb dL_law_284 (lv_at hl 1 rfl) ?_
    refine wi_if_ne (tgt := 301) hx hb dL_law_286 (by decide) (by omega) (fun c_286 => ?_) (fun c_286 => ?_)
    · skip
      refine lv_goto (tgt := 1705) hx hb dL_law_301 (by decide) ?_
      exact kk u3 u6 _ _ (hLI) hP hD hS ls (lv_sub hl [2, 3, 4, 5, 6] rfl)
    · skip
      refine lv_aload_n hx hb dL_law_289 rfl (lv_at hl 5 rfl) ?_
      refine wi_iconst hx hb dL_law_290 ?_
      refine wi_lald hx hb hK hP 98 3 rfl rfl dL_law_291 ?_
      refine lv_iload hx hb dL_law_292 (lv_at hl 0 rfl) ?_
      refine lv_i2l (v := iL (r4)) hx hb dL_law_294 rfl ?_
      refine wi_lcmp0 hx hb (congrFun (hf9 (by omega)) 0) dL_law_295 ?_
      refine wi_if_eq (tgt := 301) hx hb dL_law_296 (by decide) (by omega) (fun c_296 => ?_) (fun c_296 => ?_)
      · skip
        refine lv_goto (tgt := 1705) hx hb dL_law_301 (by decide) ?_
        exact kk u3 u6 _ _ (hLI) hP hD hS ls (lv_sub hl [2, 3, 4, 5, 6] rfl)
      · skip
        exfalso; omega
  · skip
    exfalso; omega
set_option maxHeartbeats 4000000 in
set_option maxRecDepth 100000 in
theorem lc_promise (hl9 : l.stackTraces = false) (hx : p.tables.exec = Jvm.exec) (hb : c.code = cL_law) (hlocks : meth.locks = false) (hown : s.vm.findClass RL = some m.cls) (hml : c.maxLocals = 9) (hts : ∀ w ∈ wsL_law, w.before args s = true) (hK : va_K D vwCl [(cI, FieldType.int), (cO, FieldType.object "PromisedCounters$State"), (cC, FieldType.char), (cL, FieldType.long)] s) (hA : ∀ q : Nat, H0.size ≤ q → A q)
    (hgR : ∀ j : Int, R32 (g j)) (hi : 0 ≤ i ∧ i + 5 ≤ (n9 : Int)) (hn9 : n9 ≤ 2560) (hcells : cells + 1 ≤ 1139) (hslots : slots + 6 ≤ 14922) (hκ : κ 0 0 = μ 0 0) (hln : ln 0 0 = μ 0 1) (hM : RelM σ (μ 0 0) ss (μ 0 1) (β 1) μ) (hG : GI σ (μ 0 0) ss (μ 0 1) (β 1)) (hZ : ZP A s H0) (hX : va_X sc n9 (rI g) s H0) (hbl : sc < H0.size) (hsc : ¬ A sc) (hP : va_P D vwCl (fl [mnW x a sv o rd bu ln, stW cI a σ, svO cO sv (saF sa) κ, stW cI (sa 0) (ss 0), stW cI (sa 1) (ss 1), stW cI (sa 2) (ss 2), stW cI (sa 3) (ss 3), stW cI (sa 4) (ss 4), stW cI (sa 5) (ss 5), ocW cI o φ, rdW rd ρ, bfW cC bu β, ouW cL ob f, mdW cI b μ]) H) (hD : va_D A (fl [mnW x a sv o rd bu ln, stW cI a σ, svO cO sv (saF sa) κ, stW cI (sa 0) (ss 0), stW cI (sa 1) (ss 1), stW cI (sa 2) (ss 2), stW cI (sa 3) (ss 3), stW cI (sa 4) (ss 4), stW cI (sa 5) (ss 5), ocW cI o φ, rdW rd ρ, bfW cC bu β, ouW cL ob f, mdW cI b μ])) (hS : va_S A H0 H locs) (hl : lv_has ls 9 [(0, .ref (sc)), (1, .ref (x 0)), (2, .ref (b 0)), (3, .ref (ob 0)), (4, .int (iI (i)))])
    (kk : ∀ (u : LwS) (μ : Nat → Int → Int) (H : Heap) (locs : List Loc), LI u μ → va_P D vwCl (lawW cI cO cC cL x a sv o rd bu ob b u μ) H → va_D A (lawW cI cO cC cL x a sv o rd bu ob b u μ) → va_S A H0 H locs → ∀ ls : Array Slot, lv_has ls 9 [(0, .ref (sc)), (1, .ref (x 0)), (2, .ref (b 0)), (3, .ref (ob 0)), (4, .int (iI (i)))] → W p l e ({ frames := 13, cells := 1139, slots := 14922, locals := 478 } : Room) s m args below meth c H locs (cells + 1) (slots + 6) Q (F0 m 1705 ls [])) : W p l e ({ frames := 13, cells := 1139, slots := 14922, locals := 478 } : Room) s m args below meth c H locs cells slots Q (F0 m 304 ls []) := by
  refine lv_aload_n hx hb dL_law_304 rfl (lv_at hl 1 rfl) ?_
  refine lv_aload_n hx hb dL_law_305 rfl (lv_at hl 0 rfl) ?_
  refine lv_iload hx hb dL_law_306 (lv_at hl 4 rfl) ?_
  refine wi_iconst hx hb dL_law_308 ?_
  refine wi_iadd hx hb dL_law_309 ?_
  refine wi_sld hx hb hX hbl hsc hS (i := (i + 1)) (by omega) (by omega) dL_law_310 ?_
  refine lv_aload_n hx hb dL_law_311 rfl (lv_at hl 0 rfl) ?_
  refine lv_iload hx hb dL_law_312 (lv_at hl 4 rfl) ?_
  refine wi_iconst hx hb dL_law_314 ?_
  refine wi_iadd hx hb dL_law_315 ?_
  refine wi_sld hx hb hX hbl hsc hS (i := (i + 2)) (by omega) (by omega) dL_law_316 ?_
  refine lv_aload_n hx hb dL_law_317 rfl (lv_at hl 0 rfl) ?_
  refine lv_iload hx hb dL_law_318 (lv_at hl 4 rfl) ?_
  refine wi_iconst hx hb dL_law_320 ?_
  refine wi_iadd hx hb dL_law_321 ?_
  refine wi_sld hx hb hX hbl hsc hS (i := (i + 3)) (by omega) (by omega) dL_law_322 ?_
  refine lv_aload_n hx hb dL_law_323 rfl (lv_at hl 3 rfl) ?_
  have hPc := fl_P (S' := [mnW x a sv o rd bu ln, stW cI a σ, svO cO sv (saF sa) κ, stW cI (sa 0) (ss 0), stW cI (sa 1) (ss 1), stW cI (sa 2) (ss 2), stW cI (sa 3) (ss 3), stW cI (sa 4) (ss 4), stW cI (sa 5) (ss 5), ocW cI o φ, rdW rd ρ, bfW cC bu β, ouW cL ob f]) hP [0, 1, 2, 3, 4, 5, 6, 7, 8, 9, 10, 11, 12] rfl
  have hDc := fl_D (S' := [mnW x a sv o rd bu ln, stW cI a σ, svO cO sv (saF sa) κ, stW cI (sa 0) (ss 0), stW cI (sa 1) (ss 1), stW cI (sa 2) (ss 2), stW cI (sa 3) (ss 3), stW cI (sa 4) (ss 4), stW cI (sa 5) (ss 5), ocW cI o φ, rdW rd ρ, bfW cC bu β, ouW cL ob f]) hD [0, 1, 2, 3, 4, 5, 6, 7, 8, 9, 10, 11, 12] (by decide) rfl
  have hFc := fl_free (SC := [mnW x a sv o rd bu ln, stW cI a σ, svO cO sv (saF sa) κ, stW cI (sa 0) (ss 0), stW cI (sa 1) (ss 1), stW cI (sa 2) (ss 2), stW cI (sa 3) (ss 3), stW cI (sa 4) (ss 4), stW cI (sa 5) (ss 5), ocW cI o φ, rdW rd ρ, bfW cC bu β, ouW cL ob f]) hD hS hA [0, 1, 2, 3, 4, 5, 6, 7, 8, 9, 10, 11, 12] rfl
  refine wq_calli (vx_runSW (As := [.ref (x 0), .int (iI ((g (i + 1)))), .int (iI ((g (i + 2)))), .int (iI ((g (i + 3)))), .ref (ob 0)]) (rest := []) ⟨hx, hb, hml, hown, hts⟩ (lk_promise l hl9 D cI cO cC cL H.size x a sv o rd bu ob ln σ κ φ ρ β sa ss f ((g (i + 1))) ((g (i + 2))) ((g (i + 3))) (hgR _) (hgR _) (hgR _) (by rw [hκ, hln]; exact hG)) (vx_cwSW 5 hts gL_law_L_promise rfl rfl rfl (by decide +kernel) ⟨Nat.le_of_ble_eq_true rfl, Nat.le_of_ble_eq_true rfl⟩) ⟨pcWX_blind, pcWX_of hPc hK hDc (hZ.kept hS.2.1) hFc⟩ rfl rfl hl.1 rfl (lv_room (Nat.le_of_ble_eq_true rfl)) dL_law_324 ⟨(by show cells + 0 + 1 ≤ 1139; omega), (by show slots + 0 + 6 ≤ 14922; omega)⟩) hS (fun q _ h => hFc q h) hFc (fun r1 u3 t9 H1 locs ht9 hvm hcl2 hB hz1 hk1 hS => ?_)
  obtain ⟨hP1, hK1, hD1⟩ := hB
  rw [ht9] at hP1
  obtain ⟨hP, hD⟩ := fl_join (SR := [mdW cI b μ]) (S1 := [mnW x a sv o rd bu (LwS.ln u3), stW cI a (LwS.σ u3), svO cO sv (saF (LwS.sa u3)) (LwS.κ u3), stW cI (LwS.sa u3 0) (LwS.ss u3 0), stW cI (LwS.sa u3 1) (LwS.ss u3 1), stW cI (LwS.sa u3 2) (LwS.ss u3 2), stW cI (LwS.sa u3 3) (LwS.ss u3 3), stW cI (LwS.sa u3 4) (LwS.ss u3 4), stW cI (LwS.sa u3 5) (LwS.ss u3 5), ocW cI o (LwS.φ u3), rdW rd (LwS.ρ u3), bfW cC bu (LwS.β u3), ouW cL ob (LwS.f u3)]) hP hD [0, 1, 2, 3, 4, 5, 6, 7, 8, 9, 10, 11, 12] [13] rfl rfl (by decide) (by decide) hk1 hFc hP1 hD1
  generalize H1 = H at hP hS ⊢
  have hP := fl_P (S' := [mnW x a sv o rd bu (LwS.ln u3), stW cI a (LwS.σ u3), svO cO sv (saF (LwS.sa u3)) (LwS.κ u3), stW cI (LwS.sa u3 0) (LwS.ss u3 0), stW cI (LwS.sa u3 1) (LwS.ss u3 1), stW cI (LwS.sa u3 2) (LwS.ss u3 2), stW cI (LwS.sa u3 3) (LwS.ss u3 3), stW cI (LwS.sa u3 4) (LwS.ss u3 4), stW cI (LwS.sa u3 5) (LwS.ss u3 5), ocW cI o (LwS.φ u3), rdW rd (LwS.ρ u3), bfW cC bu (LwS.β u3), ouW cL ob (LwS.f u3), mdW cI b μ]) hP [1, 2, 3, 4, 5, 6, 7, 8, 9, 10, 11, 12, 13, 0] rfl
  have hD := fl_D (S' := [mnW x a sv o rd bu (LwS.ln u3), stW cI a (LwS.σ u3), svO cO sv (saF (LwS.sa u3)) (LwS.κ u3), stW cI (LwS.sa u3 0) (LwS.ss u3 0), stW cI (LwS.sa u3 1) (LwS.ss u3 1), stW cI (LwS.sa u3 2) (LwS.ss u3 2), stW cI (LwS.sa u3 3) (LwS.ss u3 3), stW cI (LwS.sa u3 4) (LwS.ss u3 4), stW cI (LwS.sa u3 5) (LwS.ss u3 5), ocW cI o (LwS.φ u3), rdW rd (LwS.ρ u3), bfW cC bu (LwS.β u3), ouW cL ob (LwS.f u3), mdW cI b μ]) hD [1, 2, 3, 4, 5, 6, 7, 8, 9, 10, 11, 12, 13, 0] (by decide) rfl
  rw [hκ, hln] at hcl2
  refine lv_istore (lv' := [(5, .int (iI (r1))), (0, .ref (sc)), (1, .ref (x 0)), (2, .ref (b 0)), (3, .ref (ob 0)), (4, .int (iI (i)))]) hx hb dL_law_327 hl (by decide) rfl (fun ls hl => ?_)
  refine lv_aload_n hx hb dL_law_329 rfl (lv_at hl 3 rfl) ?_
  refine lv_aload_n hx hb dL_law_330 rfl (lv_at hl 1 rfl) ?_
  refine lv_iload hx hb dL_law_331 (lv_at hl 5 rfl) ?_
  refine wi_iconst hx hb dL_law_333 ?_
  refine wi_iadd hx hb dL_law_334 ?_
  refine wi_sld hx hb hX hbl hsc hS (i := (i + 1)) (by omega) (by omega) dL_law_335 ?_
  refine lv_aload_n hx hb dL_law_336 rfl (lv_at hl 1 rfl) ?_
  refine lv_iload hx hb dL_law_337 (lv_at hl 5 rfl) ?_
  refine wi_iconst hx hb dL_law_339 ?_
  refine wi_iadd hx hb dL_law_340 ?_
  refine wi_sld hx hb hX hbl hsc hS (i := (i + 2)) (by omega) (by omega) dL_law_341 ?_
  refine lv_aload_n hx hb dL_law_342 rfl (lv_at hl 1 rfl) ?_
  refine lv_iload hx hb dL_law_343 (lv_at hl 5 rfl) ?_
  refine wi_iconst hx hb dL_law_345 ?_
  refine wi_iadd hx hb dL_law_346 ?_
  refine wi_sld hx hb hX hbl hsc hS (i := (i + 3)) (by omega) (by omega) dL_law_347 ?_
  have hPc := fl_P (S' := [mdW cI b μ]) hP [13] rfl
  have hKc := hK.sub (tys' := [(cI, FieldType.int)]) [0] rfl
  have hDc := fl_D (S' := [mdW cI b μ]) hD [13] (by decide) rfl
  have hFc := fl_free (SC := [mdW cI b μ]) hD hS hA [13] rfl
  refine wq_calli (va_runV (As := [.int (iI ((g (i + 1)))), .int (iI ((g (i + 2)))), .int (iI ((g (i + 3))))]) (rest := []) ⟨hx, hb, hml, hown, hts⟩ (c_X5_promise l D cI cO cC cL H.size b μ σ ss (β 1) ((g (i + 1))) ((g (i + 2))) ((g (i + 3))) (hgR _) (hgR _) (hgR _) (hM) (hG)) (cwV 3 hts gL_law_X5_promise rfl rfl rfl (by decide +kernel) ⟨Nat.le_of_ble_eq_true rfl, Nat.le_of_ble_eq_true rfl⟩) ⟨pcW_blind, va_recv hKc hPc (ci := 5) (q0 := 0) rfl rfl, pcW_of hPc hKc hDc⟩ rfl rfl hl.1 rfl (lv_room (Nat.le_of_ble_eq_true rfl)) dL_law_348 ⟨(by show cells + 1 + 0 ≤ 1139; omega), (by show slots + 6 + 0 ≤ 14922; omega)⟩) hS (fun q _ h => hFc q h) hFc (fun r4 u6 t9 H1 locs ht9 hvm hcl5 hB hz1 hk1 hS => ?_)
  obtain ⟨hP1, hK1, hD1⟩ := hB
  rw [ht9] at hP1
  obtain ⟨hP, hD⟩ := fl_join (SR := [mnW x a sv o rd bu (LwS.ln u3), stW cI a (LwS.σ u3), svO cO sv (saF (LwS.sa u3)) (LwS.κ u3), stW cI (LwS.sa u3 0) (LwS.ss u3 0), stW cI (LwS.sa u3 1) (LwS.ss u3 1), stW cI (LwS.sa u3 2) (LwS.ss u3 2), stW cI (LwS.sa u3 3) (LwS.ss u3 3), stW cI (LwS.sa u3 4) (LwS.ss u3 4), stW cI (LwS.sa u3 5) (LwS.ss u3 5), ocW cI o (LwS.φ u3), rdW rd (LwS.ρ u3), bfW cC bu (LwS.β u3), ouW cL ob (LwS.f u3)]) (S1 := [mdW cI b u6]) hP hD [13] [0, 1, 2, 3, 4, 5, 6, 7, 8, 9, 10, 11, 12] rfl rfl (by decide) (by decide) hk1 hFc hP1 hD1
  generalize H1 = H at hP hS ⊢
  have hP := fl_P (S' := [mnW x a sv o rd bu (LwS.ln u3), stW cI a (LwS.σ u3), svO cO sv (saF (LwS.sa u3)) (LwS.κ u3), stW cI (LwS.sa u3 0) (LwS.ss u3 0), stW cI (LwS.sa u3 1) (LwS.ss u3 1), stW cI (LwS.sa u3 2) (LwS.ss u3 2), stW cI (LwS.sa u3 3) (LwS.ss u3 3), stW cI (LwS.sa u3 4) (LwS.ss u3 4), stW cI (LwS.sa u3 5) (LwS.ss u3 5), ocW cI o (LwS.φ u3), rdW rd (LwS.ρ u3), bfW cC bu (LwS.β u3), ouW cL ob (LwS.f u3), mdW cI b u6]) hP [0, 1, 2, 3, 4, 5, 6, 7, 8, 9, 10, 11, 12, 13] rfl
  have hD := fl_D (S' := [mnW x a sv o rd bu (LwS.ln u3), stW cI a (LwS.σ u3), svO cO sv (saF (LwS.sa u3)) (LwS.κ u3), stW cI (LwS.sa u3 0) (LwS.ss u3 0), stW cI (LwS.sa u3 1) (LwS.ss u3 1), stW cI (LwS.sa u3 2) (LwS.ss u3 2), stW cI (LwS.sa u3 3) (LwS.ss u3 3), stW cI (LwS.sa u3 4) (LwS.ss u3 4), stW cI (LwS.sa u3 5) (LwS.ss u3 5), ocW cI o (LwS.φ u3), rdW rd (LwS.ρ u3), bfW cC bu (LwS.β u3), ouW cL ob (LwS.f u3), mdW cI b u6]) hD [0, 1, 2, 3, 4, 5, 6, 7, 8, 9, 10, 11, 12, 13] (by decide) rfl
  obtain ⟨he9, hf9, hLI⟩ := LI.step hcl2 hcl5 hG (fun h0 => by obtain ⟨a1, a2, a3⟩ := cd3_0 h0; exact hG.push (hG.1.add a1.1 a1.2 ⟨a2.2.1, a2.2.2, a2.1⟩ (Or.inl rfl) a3))
  have hrg : 0 ≤ r1 ∧ r1 ≤ 3 := by rw [hcl2.1]; exact cd3_b
  refine lv_istore (lv' := [(6, .int (iI (r4))), (5, .int (iI (r1))), (0, .ref (sc)), (1, .ref (x 0)), (2, .ref (b 0)), (3, .ref (ob 0)), (4, .int (iI (i)))]) hx hb dL_law_351 hl (by decide) rfl (fun ls hl => ?_)
  refine lv_aload_n hx hb dL_law_353 rfl (lv_at hl 4 rfl) ?_
  have hPc := fl_P (S' := [mdW cI b u6]) hP [13] rfl
  have hKc := hK.sub (tys' := [(cI, FieldType.int)]) [0] rfl
  refine wr_calli (va_runV (As := []) (rest := []) ⟨hx, hb, hml, hown, hts⟩ (c_X5_thrown l D cI cO cC cL b u6 ) (cwV 0 hts gL_law_X5_thrown rfl rfl rfl (by decide +kernel) ⟨Nat.le_of_ble_eq_true rfl, Nat.le_of_ble_eq_true rfl⟩) ⟨pcR_blind, va_recv hKc hPc (ci := 5) (q0 := 0) rfl rfl, pcR_of hPc hKc⟩ rfl rfl hl.1 rfl (lv_room (Nat.le_of_ble_eq_true rfl)) dL_law_354 ⟨(by show cells + 1 + 0 ≤ 1139; omega), (by show slots + 6 + 0 ≤ 14922; omega)⟩) (fun r7 hr7 => ?_)
  subst hr7
  refine lv_iload hx hb dL_law_357 (lv_at hl 1 rfl) ?_
  refine wi_icmp_eq (tgt := 364) hx hb dL_law_359 (by decide) (by omega) (fun c_359 => ?_) (fun c_359 => ?_)
  · skip
    refine lv_iload hx hb dL_law_364 (lv_at hl 1 rfl) ?_
    refine wi_if_ne (tgt := 381) hx hb dL_law_366 (by decide) (by omega) (fun c_366 => ?_) (fun c_366 => ?_)
    · skip
      refine lv_goto (tgt := 1705) hx hb dL_law_381 (by decide) ?_
      exact kk u3 u6 _ _ (hLI) hP hD hS ls (lv_sub hl [2, 3, 4, 5, 6] rfl)
    · skip
      refine lv_aload_n hx hb dL_law_369 rfl (lv_at hl 5 rfl) ?_
      refine wi_iconst hx hb dL_law_370 ?_
      refine wi_lald hx hb hK hP 98 3 rfl rfl dL_law_371 ?_
      refine lv_iload hx hb dL_law_372 (lv_at hl 0 rfl) ?_
      refine lv_i2l (v := iL (r4)) hx hb dL_law_374 rfl ?_
      refine wi_lcmp0 hx hb (congrFun (hf9 (by omega)) 0) dL_law_375 ?_
      refine wi_if_eq (tgt := 381) hx hb dL_law_376 (by decide) (by omega) (fun c_376 => ?_) (fun c_376 => ?_)
      · skip
        refine lv_goto (tgt := 1705) hx hb dL_law_381 (by decide) ?_
        exact kk u3 u6 _ _ (hLI) hP hD hS ls (lv_sub hl [2, 3, 4, 5, 6] rfl)
      · skip
        exfalso; omega
  · skip
    exfalso; omega
set_option maxHeartbeats 4000000 in
set_option maxRecDepth 100000 in
theorem lc_transfer (hl9 : l.stackTraces = false) (hx : p.tables.exec = Jvm.exec) (hb : c.code = cL_law) (hlocks : meth.locks = false) (hown : s.vm.findClass RL = some m.cls) (hml : c.maxLocals = 9) (hts : ∀ w ∈ wsL_law, w.before args s = true) (hK : va_K D vwCl [(cI, FieldType.int), (cO, FieldType.object "PromisedCounters$State"), (cC, FieldType.char), (cL, FieldType.long)] s) (hA : ∀ q : Nat, H0.size ≤ q → A q)
    (hgR : ∀ j : Int, R32 (g j)) (hi : 0 ≤ i ∧ i + 5 ≤ (n9 : Int)) (hn9 : n9 ≤ 2560) (hcells : cells + 1 ≤ 1139) (hslots : slots + 6 ≤ 14922) (hκ : κ 0 0 = μ 0 0) (hln : ln 0 0 = μ 0 1) (hM : RelM σ (μ 0 0) ss (μ 0 1) (β 1) μ) (hG : GI σ (μ 0 0) ss (μ 0 1) (β 1)) (hZ : ZP A s H0) (hX : va_X sc n9 (rI g) s H0) (hbl : sc < H0.size) (hsc : ¬ A sc) (hP : va_P D vwCl (fl [mnW x a sv o rd bu ln, stW cI a σ, svO cO sv (saF sa) κ, stW cI (sa 0) (ss 0), stW cI (sa 1) (ss 1), stW cI (sa 2) (ss 2), stW cI (sa 3) (ss 3), stW cI (sa 4) (ss 4), stW cI (sa 5) (ss 5), ocW cI o φ, rdW rd ρ, bfW cC bu β, ouW cL ob f, mdW cI b μ]) H) (hD : va_D A (fl [mnW x a sv o rd bu ln, stW cI a σ, svO cO sv (saF sa) κ, stW cI (sa 0) (ss 0), stW cI (sa 1) (ss 1), stW cI (sa 2) (ss 2), stW cI (sa 3) (ss 3), stW cI (sa 4) (ss 4), stW cI (sa 5) (ss 5), ocW cI o φ, rdW rd ρ, bfW cC bu β, ouW cL ob f, mdW cI b μ])) (hS : va_S A H0 H locs) (hl : lv_has ls 9 [(0, .ref (sc)), (1, .ref (x 0)), (2, .ref (b 0)), (3, .ref (ob 0)), (4, .int (iI (i)))])
    (kk : ∀ (u : LwS) (μ : Nat → Int → Int) (H : Heap) (locs : List Loc), LI u μ → va_P D vwCl (lawW cI cO cC cL x a sv o rd bu ob b u μ) H → va_D A (lawW cI cO cC cL x a sv o rd bu ob b u μ) → va_S A H0 H locs → ∀ ls : Array Slot, lv_has ls 9 [(0, .ref (sc)), (1, .ref (x 0)), (2, .ref (b 0)), (3, .ref (ob 0)), (4, .int (iI (i)))] → W p l e ({ frames := 13, cells := 1139, slots := 14922, locals := 478 } : Room) s m args below meth c H locs (cells + 1) (slots + 6) Q (F0 m 1705 ls [])) : W p l e ({ frames := 13, cells := 1139, slots := 14922, locals := 478 } : Room) s m args below meth c H locs cells slots Q (F0 m 384 ls []) := by
  refine lv_aload_n hx hb dL_law_384 rfl (lv_at hl 1 rfl) ?_
  refine lv_aload_n hx hb dL_law_385 rfl (lv_at hl 0 rfl) ?_
  refine lv_iload hx hb dL_law_386 (lv_at hl 4 rfl) ?_
  refine wi_iconst hx hb dL_law_388 ?_
  refine wi_iadd hx hb dL_law_389 ?_
  refine wi_sld hx hb hX hbl hsc hS (i := (i + 1)) (by omega) (by omega) dL_law_390 ?_
  refine lv_aload_n hx hb dL_law_391 rfl (lv_at hl 0 rfl) ?_
  refine lv_iload hx hb dL_law_392 (lv_at hl 4 rfl) ?_
  refine wi_iconst hx hb dL_law_394 ?_
  refine wi_iadd hx hb dL_law_395 ?_
  refine wi_sld hx hb hX hbl hsc hS (i := (i + 2)) (by omega) (by omega) dL_law_396 ?_
  refine lv_aload_n hx hb dL_law_397 rfl (lv_at hl 0 rfl) ?_
  refine lv_iload hx hb dL_law_398 (lv_at hl 4 rfl) ?_
  refine wi_iconst hx hb dL_law_400 ?_
  refine wi_iadd hx hb dL_law_401 ?_
  refine wi_sld hx hb hX hbl hsc hS (i := (i + 3)) (by omega) (by omega) dL_law_402 ?_
  refine lv_aload_n hx hb dL_law_403 rfl (lv_at hl 0 rfl) ?_
  refine lv_iload hx hb dL_law_404 (lv_at hl 4 rfl) ?_
  refine wi_iconst hx hb dL_law_406 ?_
  refine wi_iadd hx hb dL_law_407 ?_
  refine wi_sld hx hb hX hbl hsc hS (i := (i + 4)) (by omega) (by omega) dL_law_408 ?_
  refine lv_aload_n hx hb dL_law_409 rfl (lv_at hl 3 rfl) ?_
  have hPc := fl_P (S' := [mnW x a sv o rd bu ln, stW cI a σ, svO cO sv (saF sa) κ, stW cI (sa 0) (ss 0), stW cI (sa 1) (ss 1), stW cI (sa 2) (ss 2), stW cI (sa 3) (ss 3), stW cI (sa 4) (ss 4), stW cI (sa 5) (ss 5), ocW cI o φ, rdW rd ρ, bfW cC bu β, ouW cL ob f]) hP [0, 1, 2, 3, 4, 5, 6, 7, 8, 9, 10, 11, 12] rfl
  have hDc := fl_D (S' := [mnW x a sv o rd bu ln, stW cI a σ, svO cO sv (saF sa) κ, stW cI (sa 0) (ss 0), stW cI (sa 1) (ss 1), stW cI (sa 2) (ss 2), stW cI (sa 3) (ss 3), stW cI (sa 4) (ss 4), stW cI (sa 5) (ss 5), ocW cI o φ, rdW rd ρ, bfW cC bu β, ouW cL ob f]) hD [0, 1, 2, 3, 4, 5, 6, 7, 8, 9, 10, 11, 12] (by decide) rfl
  have hFc := fl_free (SC := [mnW x a sv o rd bu ln, stW cI a σ, svO cO sv (saF sa) κ, stW cI (sa 0) (ss 0), stW cI (sa 1) (ss 1), stW cI (sa 2) (ss 2), stW cI (sa 3) (ss 3), stW cI (sa 4) (ss 4), stW cI (sa 5) (ss 5), ocW cI o φ, rdW rd ρ, bfW cC bu β, ouW cL ob f]) hD hS hA [0, 1, 2, 3, 4, 5, 6, 7, 8, 9, 10, 11, 12] rfl
  refine wq_calli (vx_runSW (As := [.ref (x 0), .int (iI ((g (i + 1)))), .int (iI ((g (i + 2)))), .int (iI ((g (i + 3)))), .int (iI ((g (i + 4)))), .ref (ob 0)]) (rest := []) ⟨hx, hb, hml, hown, hts⟩ (lk_transfer l hl9 D cI cO cC cL H.size x a sv o rd bu ob ln σ κ φ ρ β sa ss f ((g (i + 1))) ((g (i + 2))) ((g (i + 3))) ((g (i + 4))) (hgR _) (hgR _) (hgR _) (hgR _) (by rw [hκ, hln]; exact hG)) (vx_cwSW 6 hts gL_law_L_transfer rfl rfl rfl (by decide +kernel) ⟨Nat.le_of_ble_eq_true rfl, Nat.le_of_ble_eq_true rfl⟩) ⟨pcWX_blind, pcWX_of hPc hK hDc (hZ.kept hS.2.1) hFc⟩ rfl rfl hl.1 rfl (lv_room (Nat.le_of_ble_eq_true rfl)) dL_law_410 ⟨(by show cells + 0 + 1 ≤ 1139; omega), (by show slots + 0 + 6 ≤ 14922; omega)⟩) hS (fun q _ h => hFc q h) hFc (fun r1 u3 t9 H1 locs ht9 hvm hcl2 hB hz1 hk1 hS => ?_)
  obtain ⟨hP1, hK1, hD1⟩ := hB
  rw [ht9] at hP1
  obtain ⟨hP, hD⟩ := fl_join (SR := [mdW cI b μ]) (S1 := [mnW x a sv o rd bu (LwS.ln u3), stW cI a (LwS.σ u3), svO cO sv (saF (LwS.sa u3)) (LwS.κ u3), stW cI (LwS.sa u3 0) (LwS.ss u3 0), stW cI (LwS.sa u3 1) (LwS.ss u3 1), stW cI (LwS.sa u3 2) (LwS.ss u3 2), stW cI (LwS.sa u3 3) (LwS.ss u3 3), stW cI (LwS.sa u3 4) (LwS.ss u3 4), stW cI (LwS.sa u3 5) (LwS.ss u3 5), ocW cI o (LwS.φ u3), rdW rd (LwS.ρ u3), bfW cC bu (LwS.β u3), ouW cL ob (LwS.f u3)]) hP hD [0, 1, 2, 3, 4, 5, 6, 7, 8, 9, 10, 11, 12] [13] rfl rfl (by decide) (by decide) hk1 hFc hP1 hD1
  generalize H1 = H at hP hS ⊢
  have hP := fl_P (S' := [mnW x a sv o rd bu (LwS.ln u3), stW cI a (LwS.σ u3), svO cO sv (saF (LwS.sa u3)) (LwS.κ u3), stW cI (LwS.sa u3 0) (LwS.ss u3 0), stW cI (LwS.sa u3 1) (LwS.ss u3 1), stW cI (LwS.sa u3 2) (LwS.ss u3 2), stW cI (LwS.sa u3 3) (LwS.ss u3 3), stW cI (LwS.sa u3 4) (LwS.ss u3 4), stW cI (LwS.sa u3 5) (LwS.ss u3 5), ocW cI o (LwS.φ u3), rdW rd (LwS.ρ u3), bfW cC bu (LwS.β u3), ouW cL ob (LwS.f u3), mdW cI b μ]) hP [1, 2, 3, 4, 5, 6, 7, 8, 9, 10, 11, 12, 13, 0] rfl
  have hD := fl_D (S' := [mnW x a sv o rd bu (LwS.ln u3), stW cI a (LwS.σ u3), svO cO sv (saF (LwS.sa u3)) (LwS.κ u3), stW cI (LwS.sa u3 0) (LwS.ss u3 0), stW cI (LwS.sa u3 1) (LwS.ss u3 1), stW cI (LwS.sa u3 2) (LwS.ss u3 2), stW cI (LwS.sa u3 3) (LwS.ss u3 3), stW cI (LwS.sa u3 4) (LwS.ss u3 4), stW cI (LwS.sa u3 5) (LwS.ss u3 5), ocW cI o (LwS.φ u3), rdW rd (LwS.ρ u3), bfW cC bu (LwS.β u3), ouW cL ob (LwS.f u3), mdW cI b μ]) hD [1, 2, 3, 4, 5, 6, 7, 8, 9, 10, 11, 12, 13, 0] (by decide) rfl
  rw [hκ, hln] at hcl2
  refine lv_istore (lv' := [(5, .int (iI (r1))), (0, .ref (sc)), (1, .ref (x 0)), (2, .ref (b 0)), (3, .ref (ob 0)), (4, .int (iI (i)))]) hx hb dL_law_413 hl (by decide) rfl (fun ls hl => ?_)
  refine lv_aload_n hx hb dL_law_415 rfl (lv_at hl 3 rfl) ?_
  refine lv_aload_n hx hb dL_law_416 rfl (lv_at hl 1 rfl) ?_
  refine lv_iload hx hb dL_law_417 (lv_at hl 5 rfl) ?_
  refine wi_iconst hx hb dL_law_419 ?_
  refine wi_iadd hx hb dL_law_420 ?_
  refine wi_sld hx hb hX hbl hsc hS (i := (i + 1)) (by omega) (by omega) dL_law_421 ?_
  refine lv_aload_n hx hb dL_law_422 rfl (lv_at hl 1 rfl) ?_
  refine lv_iload hx hb dL_law_423 (lv_at hl 5 rfl) ?_
  refine wi_iconst hx hb dL_law_425 ?_
  refine wi_iadd hx hb dL_law_426 ?_
  refine wi_sld hx hb hX hbl hsc hS (i := (i + 2)) (by omega) (by omega) dL_law_427 ?_
  refine lv_aload_n hx hb dL_law_428 rfl (lv_at hl 1 rfl) ?_
  refine lv_iload hx hb dL_law_429 (lv_at hl 5 rfl) ?_
  refine wi_iconst hx hb dL_law_431 ?_
  refine wi_iadd hx hb dL_law_432 ?_
  refine wi_sld hx hb hX hbl hsc hS (i := (i + 3)) (by omega) (by omega) dL_law_433 ?_
  refine lv_aload_n hx hb dL_law_434 rfl (lv_at hl 1 rfl) ?_
  refine lv_iload hx hb dL_law_435 (lv_at hl 5 rfl) ?_
  refine wi_iconst hx hb dL_law_437 ?_
  refine wi_iadd hx hb dL_law_438 ?_
  refine wi_sld hx hb hX hbl hsc hS (i := (i + 4)) (by omega) (by omega) dL_law_439 ?_
  have hPc := fl_P (S' := [mdW cI b μ]) hP [13] rfl
  have hKc := hK.sub (tys' := [(cI, FieldType.int)]) [0] rfl
  have hDc := fl_D (S' := [mdW cI b μ]) hD [13] (by decide) rfl
  have hFc := fl_free (SC := [mdW cI b μ]) hD hS hA [13] rfl
  refine wq_calli (va_runV (As := [.int (iI ((g (i + 1)))), .int (iI ((g (i + 2)))), .int (iI ((g (i + 3)))), .int (iI ((g (i + 4))))]) (rest := []) ⟨hx, hb, hml, hown, hts⟩ (c_X5_transfer l D cI cO cC cL H.size b μ σ ss (β 1) ((g (i + 1))) ((g (i + 2))) ((g (i + 3))) ((g (i + 4))) (hgR _) (hgR _) (hgR _) (hgR _) (hM) (hG)) (cwV 4 hts gL_law_X5_transfer rfl rfl rfl (by decide +kernel) ⟨Nat.le_of_ble_eq_true rfl, Nat.le_of_ble_eq_true rfl⟩) ⟨pcW_blind, va_recv hKc hPc (ci := 5) (q0 := 0) rfl rfl, pcW_of hPc hKc hDc⟩ rfl rfl hl.1 rfl (lv_room (Nat.le_of_ble_eq_true rfl)) dL_law_440 ⟨(by show cells + 1 + 0 ≤ 1139; omega), (by show slots + 6 + 0 ≤ 14922; omega)⟩) hS (fun q _ h => hFc q h) hFc (fun r4 u6 t9 H1 locs ht9 hvm hcl5 hB hz1 hk1 hS => ?_)
  obtain ⟨hP1, hK1, hD1⟩ := hB
  rw [ht9] at hP1
  obtain ⟨hP, hD⟩ := fl_join (SR := [mnW x a sv o rd bu (LwS.ln u3), stW cI a (LwS.σ u3), svO cO sv (saF (LwS.sa u3)) (LwS.κ u3), stW cI (LwS.sa u3 0) (LwS.ss u3 0), stW cI (LwS.sa u3 1) (LwS.ss u3 1), stW cI (LwS.sa u3 2) (LwS.ss u3 2), stW cI (LwS.sa u3 3) (LwS.ss u3 3), stW cI (LwS.sa u3 4) (LwS.ss u3 4), stW cI (LwS.sa u3 5) (LwS.ss u3 5), ocW cI o (LwS.φ u3), rdW rd (LwS.ρ u3), bfW cC bu (LwS.β u3), ouW cL ob (LwS.f u3)]) (S1 := [mdW cI b u6]) hP hD [13] [0, 1, 2, 3, 4, 5, 6, 7, 8, 9, 10, 11, 12] rfl rfl (by decide) (by decide) hk1 hFc hP1 hD1
  generalize H1 = H at hP hS ⊢
  have hP := fl_P (S' := [mnW x a sv o rd bu (LwS.ln u3), stW cI a (LwS.σ u3), svO cO sv (saF (LwS.sa u3)) (LwS.κ u3), stW cI (LwS.sa u3 0) (LwS.ss u3 0), stW cI (LwS.sa u3 1) (LwS.ss u3 1), stW cI (LwS.sa u3 2) (LwS.ss u3 2), stW cI (LwS.sa u3 3) (LwS.ss u3 3), stW cI (LwS.sa u3 4) (LwS.ss u3 4), stW cI (LwS.sa u3 5) (LwS.ss u3 5), ocW cI o (LwS.φ u3), rdW rd (LwS.ρ u3), bfW cC bu (LwS.β u3), ouW cL ob (LwS.f u3), mdW cI b u6]) hP [0, 1, 2, 3, 4, 5, 6, 7, 8, 9, 10, 11, 12, 13] rfl
  have hD := fl_D (S' := [mnW x a sv o rd bu (LwS.ln u3), stW cI a (LwS.σ u3), svO cO sv (saF (LwS.sa u3)) (LwS.κ u3), stW cI (LwS.sa u3 0) (LwS.ss u3 0), stW cI (LwS.sa u3 1) (LwS.ss u3 1), stW cI (LwS.sa u3 2) (LwS.ss u3 2), stW cI (LwS.sa u3 3) (LwS.ss u3 3), stW cI (LwS.sa u3 4) (LwS.ss u3 4), stW cI (LwS.sa u3 5) (LwS.ss u3 5), ocW cI o (LwS.φ u3), rdW rd (LwS.ρ u3), bfW cC bu (LwS.β u3), ouW cL ob (LwS.f u3), mdW cI b u6]) hD [0, 1, 2, 3, 4, 5, 6, 7, 8, 9, 10, 11, 12, 13] (by decide) rfl
  obtain ⟨he9, hf9, hLI⟩ := LI.step hcl2 hcl5 hG (fun h0 => by obtain ⟨a1, a2, a3⟩ := cd3_0 h0; exact hG.push (hG.1.add a1.1 a1.2.1 ⟨by omega, by omega, by omega⟩ (Or.inr ⟨a1.2.2.1, a1.2.2.2, fun q9 => a2.1 q9.symm, by omega⟩) a3))
  have hrg : 0 ≤ r1 ∧ r1 ≤ 3 := by rw [hcl2.1]; exact cd3_b
  refine lv_istore (lv' := [(6, .int (iI (r4))), (5, .int (iI (r1))), (0, .ref (sc)), (1, .ref (x 0)), (2, .ref (b 0)), (3, .ref (ob 0)), (4, .int (iI (i)))]) hx hb dL_law_443 hl (by decide) rfl (fun ls hl => ?_)
  refine lv_aload_n hx hb dL_law_445 rfl (lv_at hl 4 rfl) ?_
  have hPc := fl_P (S' := [mdW cI b u6]) hP [13] rfl
  have hKc := hK.sub (tys' := [(cI, FieldType.int)]) [0] rfl
  refine wr_calli (va_runV (As := []) (rest := []) ⟨hx, hb, hml, hown, hts⟩ (c_X5_thrown l D cI cO cC cL b u6 ) (cwV 0 hts gL_law_X5_thrown rfl rfl rfl (by decide +kernel) ⟨Nat.le_of_ble_eq_true rfl, Nat.le_of_ble_eq_true rfl⟩) ⟨pcR_blind, va_recv hKc hPc (ci := 5) (q0 := 0) rfl rfl, pcR_of hPc hKc⟩ rfl rfl hl.1 rfl (lv_room (Nat.le_of_ble_eq_true rfl)) dL_law_446 ⟨(by show cells + 1 + 0 ≤ 1139; omega), (by show slots + 6 + 0 ≤ 14922; omega)⟩) (fun r7 hr7 => ?_)
  subst hr7
  refine lv_iload hx hb dL_law_449 (lv_at hl 1 rfl) ?_
  refine wi_icmp_eq (tgt := 456) hx hb dL_law_451 (by decide) (by omega) (fun c_451 => ?_) (fun c_451 => ?_)
  · skip
    refine lv_iload hx hb dL_law_456 (lv_at hl 1 rfl) ?_
    refine wi_if_ne (tgt := 473) hx hb dL_law_458 (by decide) (by omega) (fun c_458 => ?_) (fun c_458 => ?_)
    · skip
      refine lv_goto (tgt := 1705) hx hb dL_law_473 (by decide) ?_
      exact kk u3 u6 _ _ (hLI) hP hD hS ls (lv_sub hl [2, 3, 4, 5, 6] rfl)
    · skip
      refine lv_aload_n hx hb dL_law_461 rfl (lv_at hl 5 rfl) ?_
      refine wi_iconst hx hb dL_law_462 ?_
      refine wi_lald hx hb hK hP 98 3 rfl rfl dL_law_463 ?_
      refine lv_iload hx hb dL_law_464 (lv_at hl 0 rfl) ?_
      refine lv_i2l (v := iL (r4)) hx hb dL_law_466 rfl ?_
      refine wi_lcmp0 hx hb (congrFun (hf9 (by omega)) 0) dL_law_467 ?_
      refine wi_if_eq (tgt := 473) hx hb dL_law_468 (by decide) (by omega) (fun c_468 => ?_) (fun c_468 => ?_)
      · skip
        refine lv_goto (tgt := 1705) hx hb dL_law_473 (by decide) ?_
        exact kk u3 u6 _ _ (hLI) hP hD hS ls (lv_sub hl [2, 3, 4, 5, 6] rfl)
      · skip
        exfalso; omega
  · skip
    exfalso; omega
set_option maxHeartbeats 4000000 in
set_option maxRecDepth 100000 in
theorem lc_settle (hl9 : l.stackTraces = false) (hx : p.tables.exec = Jvm.exec) (hb : c.code = cL_law) (hlocks : meth.locks = false) (hown : s.vm.findClass RL = some m.cls) (hml : c.maxLocals = 9) (hts : ∀ w ∈ wsL_law, w.before args s = true) (hK : va_K D vwCl [(cI, FieldType.int), (cO, FieldType.object "PromisedCounters$State"), (cC, FieldType.char), (cL, FieldType.long)] s) (hA : ∀ q : Nat, H0.size ≤ q → A q)
    (hgR : ∀ j : Int, R32 (g j)) (hi : 0 ≤ i ∧ i + 5 ≤ (n9 : Int)) (hn9 : n9 ≤ 2560) (hcells : cells + 1 ≤ 1139) (hslots : slots + 6 ≤ 14922) (hκ : κ 0 0 = μ 0 0) (hln : ln 0 0 = μ 0 1) (hM : RelM σ (μ 0 0) ss (μ 0 1) (β 1) μ) (hG : GI σ (μ 0 0) ss (μ 0 1) (β 1)) (hZ : ZP A s H0) (hX : va_X sc n9 (rI g) s H0) (hbl : sc < H0.size) (hsc : ¬ A sc) (hP : va_P D vwCl (fl [mnW x a sv o rd bu ln, stW cI a σ, svO cO sv (saF sa) κ, stW cI (sa 0) (ss 0), stW cI (sa 1) (ss 1), stW cI (sa 2) (ss 2), stW cI (sa 3) (ss 3), stW cI (sa 4) (ss 4), stW cI (sa 5) (ss 5), ocW cI o φ, rdW rd ρ, bfW cC bu β, ouW cL ob f, mdW cI b μ]) H) (hD : va_D A (fl [mnW x a sv o rd bu ln, stW cI a σ, svO cO sv (saF sa) κ, stW cI (sa 0) (ss 0), stW cI (sa 1) (ss 1), stW cI (sa 2) (ss 2), stW cI (sa 3) (ss 3), stW cI (sa 4) (ss 4), stW cI (sa 5) (ss 5), ocW cI o φ, rdW rd ρ, bfW cC bu β, ouW cL ob f, mdW cI b μ])) (hS : va_S A H0 H locs) (hl : lv_has ls 9 [(0, .ref (sc)), (1, .ref (x 0)), (2, .ref (b 0)), (3, .ref (ob 0)), (4, .int (iI (i)))])
    (kk : ∀ (u : LwS) (μ : Nat → Int → Int) (H : Heap) (locs : List Loc), LI u μ → va_P D vwCl (lawW cI cO cC cL x a sv o rd bu ob b u μ) H → va_D A (lawW cI cO cC cL x a sv o rd bu ob b u μ) → va_S A H0 H locs → ∀ ls : Array Slot, lv_has ls 9 [(0, .ref (sc)), (1, .ref (x 0)), (2, .ref (b 0)), (3, .ref (ob 0)), (4, .int (iI (i)))] → W p l e ({ frames := 13, cells := 1139, slots := 14922, locals := 478 } : Room) s m args below meth c H locs (cells + 1) (slots + 6) Q (F0 m 1705 ls [])) : W p l e ({ frames := 13, cells := 1139, slots := 14922, locals := 478 } : Room) s m args below meth c H locs cells slots Q (F0 m 476 ls []) := by
  refine lv_aload_n hx hb dL_law_476 rfl (lv_at hl 1 rfl) ?_
  refine lv_aload_n hx hb dL_law_477 rfl (lv_at hl 0 rfl) ?_
  refine lv_iload hx hb dL_law_478 (lv_at hl 4 rfl) ?_
  refine wi_iconst hx hb dL_law_480 ?_
  refine wi_iadd hx hb dL_law_481 ?_
  refine wi_sld hx hb hX hbl hsc hS (i := (i + 1)) (by omega) (by omega) dL_law_482 ?_
  refine lv_aload_n hx hb dL_law_483 rfl (lv_at hl 3 rfl) ?_
  have hPc := fl_P (S' := [mnW x a sv o rd bu ln, stW cI a σ, svO cO sv (saF sa) κ, stW cI (sa 0) (ss 0), stW cI (sa 1) (ss 1), stW cI (sa 2) (ss 2), stW cI (sa 3) (ss 3), stW cI (sa 4) (ss 4), stW cI (sa 5) (ss 5), ocW cI o φ, rdW rd ρ, bfW cC bu β, ouW cL ob f]) hP [0, 1, 2, 3, 4, 5, 6, 7, 8, 9, 10, 11, 12] rfl
  have hDc := fl_D (S' := [mnW x a sv o rd bu ln, stW cI a σ, svO cO sv (saF sa) κ, stW cI (sa 0) (ss 0), stW cI (sa 1) (ss 1), stW cI (sa 2) (ss 2), stW cI (sa 3) (ss 3), stW cI (sa 4) (ss 4), stW cI (sa 5) (ss 5), ocW cI o φ, rdW rd ρ, bfW cC bu β, ouW cL ob f]) hD [0, 1, 2, 3, 4, 5, 6, 7, 8, 9, 10, 11, 12] (by decide) rfl
  have hFc := fl_free (SC := [mnW x a sv o rd bu ln, stW cI a σ, svO cO sv (saF sa) κ, stW cI (sa 0) (ss 0), stW cI (sa 1) (ss 1), stW cI (sa 2) (ss 2), stW cI (sa 3) (ss 3), stW cI (sa 4) (ss 4), stW cI (sa 5) (ss 5), ocW cI o φ, rdW rd ρ, bfW cC bu β, ouW cL ob f]) hD hS hA [0, 1, 2, 3, 4, 5, 6, 7, 8, 9, 10, 11, 12] rfl
  refine wq_calli (vx_runSW (As := [.ref (x 0), .int (iI ((g (i + 1)))), .ref (ob 0)]) (rest := []) ⟨hx, hb, hml, hown, hts⟩ (lk_settle l hl9 D cI cO cC cL H.size x a sv o rd bu ob ln σ κ φ ρ β sa ss f ((g (i + 1))) (hgR _) (by rw [hκ, hln]; exact hG)) (vx_cwSW 3 hts gL_law_L_settle rfl rfl rfl (by decide +kernel) ⟨Nat.le_of_ble_eq_true rfl, Nat.le_of_ble_eq_true rfl⟩) ⟨pcWX_blind, pcWX_of hPc hK hDc (hZ.kept hS.2.1) hFc⟩ rfl rfl hl.1 rfl (lv_room (Nat.le_of_ble_eq_true rfl)) dL_law_484 ⟨(by show cells + 0 + 1 ≤ 1139; omega), (by show slots + 0 + 6 ≤ 14922; omega)⟩) hS (fun q _ h => hFc q h) hFc (fun r1 u3 t9 H1 locs ht9 hvm hcl2 hB hz1 hk1 hS => ?_)
  obtain ⟨hP1, hK1, hD1⟩ := hB
  rw [ht9] at hP1
  obtain ⟨hP, hD⟩ := fl_join (SR := [mdW cI b μ]) (S1 := [mnW x a sv o rd bu (LwS.ln u3), stW cI a (LwS.σ u3), svO cO sv (saF (LwS.sa u3)) (LwS.κ u3), stW cI (LwS.sa u3 0) (LwS.ss u3 0), stW cI (LwS.sa u3 1) (LwS.ss u3 1), stW cI (LwS.sa u3 2) (LwS.ss u3 2), stW cI (LwS.sa u3 3) (LwS.ss u3 3), stW cI (LwS.sa u3 4) (LwS.ss u3 4), stW cI (LwS.sa u3 5) (LwS.ss u3 5), ocW cI o (LwS.φ u3), rdW rd (LwS.ρ u3), bfW cC bu (LwS.β u3), ouW cL ob (LwS.f u3)]) hP hD [0, 1, 2, 3, 4, 5, 6, 7, 8, 9, 10, 11, 12] [13] rfl rfl (by decide) (by decide) hk1 hFc hP1 hD1
  generalize H1 = H at hP hS ⊢
  have hP := fl_P (S' := [mnW x a sv o rd bu (LwS.ln u3), stW cI a (LwS.σ u3), svO cO sv (saF (LwS.sa u3)) (LwS.κ u3), stW cI (LwS.sa u3 0) (LwS.ss u3 0), stW cI (LwS.sa u3 1) (LwS.ss u3 1), stW cI (LwS.sa u3 2) (LwS.ss u3 2), stW cI (LwS.sa u3 3) (LwS.ss u3 3), stW cI (LwS.sa u3 4) (LwS.ss u3 4), stW cI (LwS.sa u3 5) (LwS.ss u3 5), ocW cI o (LwS.φ u3), rdW rd (LwS.ρ u3), bfW cC bu (LwS.β u3), ouW cL ob (LwS.f u3), mdW cI b μ]) hP [1, 2, 3, 4, 5, 6, 7, 8, 9, 10, 11, 12, 13, 0] rfl
  have hD := fl_D (S' := [mnW x a sv o rd bu (LwS.ln u3), stW cI a (LwS.σ u3), svO cO sv (saF (LwS.sa u3)) (LwS.κ u3), stW cI (LwS.sa u3 0) (LwS.ss u3 0), stW cI (LwS.sa u3 1) (LwS.ss u3 1), stW cI (LwS.sa u3 2) (LwS.ss u3 2), stW cI (LwS.sa u3 3) (LwS.ss u3 3), stW cI (LwS.sa u3 4) (LwS.ss u3 4), stW cI (LwS.sa u3 5) (LwS.ss u3 5), ocW cI o (LwS.φ u3), rdW rd (LwS.ρ u3), bfW cC bu (LwS.β u3), ouW cL ob (LwS.f u3), mdW cI b μ]) hD [1, 2, 3, 4, 5, 6, 7, 8, 9, 10, 11, 12, 13, 0] (by decide) rfl
  rw [hκ, hln] at hcl2
  refine lv_istore (lv' := [(5, .int (iI (r1))), (0, .ref (sc)), (1, .ref (x 0)), (2, .ref (b 0)), (3, .ref (ob 0)), (4, .int (iI (i)))]) hx hb dL_law_487 hl (by decide) rfl (fun ls hl => ?_)
  refine lv_aload_n hx hb dL_law_489 rfl (lv_at hl 3 rfl) ?_
  refine lv_aload_n hx hb dL_law_490 rfl (lv_at hl 1 rfl) ?_
  refine lv_iload hx hb dL_law_491 (lv_at hl 5 rfl) ?_
  refine wi_iconst hx hb dL_law_493 ?_
  refine wi_iadd hx hb dL_law_494 ?_
  refine wi_sld hx hb hX hbl hsc hS (i := (i + 1)) (by omega) (by omega) dL_law_495 ?_
  have hPc := fl_P (S' := [mdW cI b μ]) hP [13] rfl
  have hKc := hK.sub (tys' := [(cI, FieldType.int)]) [0] rfl
  have hDc := fl_D (S' := [mdW cI b μ]) hD [13] (by decide) rfl
  have hFc := fl_free (SC := [mdW cI b μ]) hD hS hA [13] rfl
  refine wq_calli (va_runV (As := [.int (iI ((g (i + 1))))]) (rest := []) ⟨hx, hb, hml, hown, hts⟩ (c_X5_settle l D cI cO cC cL H.size b μ σ ss (β 1) ((g (i + 1))) (hgR _) (hM) (hG)) (cwV 1 hts gL_law_X5_settle rfl rfl rfl (by decide +kernel) ⟨Nat.le_of_ble_eq_true rfl, Nat.le_of_ble_eq_true rfl⟩) ⟨pcW_blind, va_recv hKc hPc (ci := 5) (q0 := 0) rfl rfl, pcW_of hPc hKc hDc⟩ rfl rfl hl.1 rfl (lv_room (Nat.le_of_ble_eq_true rfl)) dL_law_496 ⟨(by show cells + 1 + 0 ≤ 1139; omega), (by show slots + 6 + 0 ≤ 14922; omega)⟩) hS (fun q _ h => hFc q h) hFc (fun r4 u6 t9 H1 locs ht9 hvm hcl5 hB hz1 hk1 hS => ?_)
  obtain ⟨hP1, hK1, hD1⟩ := hB
  rw [ht9] at hP1
  obtain ⟨hP, hD⟩ := fl_join (SR := [mnW x a sv o rd bu (LwS.ln u3), stW cI a (LwS.σ u3), svO cO sv (saF (LwS.sa u3)) (LwS.κ u3), stW cI (LwS.sa u3 0) (LwS.ss u3 0), stW cI (LwS.sa u3 1) (LwS.ss u3 1), stW cI (LwS.sa u3 2) (LwS.ss u3 2), stW cI (LwS.sa u3 3) (LwS.ss u3 3), stW cI (LwS.sa u3 4) (LwS.ss u3 4), stW cI (LwS.sa u3 5) (LwS.ss u3 5), ocW cI o (LwS.φ u3), rdW rd (LwS.ρ u3), bfW cC bu (LwS.β u3), ouW cL ob (LwS.f u3)]) (S1 := [mdW cI b u6]) hP hD [13] [0, 1, 2, 3, 4, 5, 6, 7, 8, 9, 10, 11, 12] rfl rfl (by decide) (by decide) hk1 hFc hP1 hD1
  generalize H1 = H at hP hS ⊢
  have hP := fl_P (S' := [mnW x a sv o rd bu (LwS.ln u3), stW cI a (LwS.σ u3), svO cO sv (saF (LwS.sa u3)) (LwS.κ u3), stW cI (LwS.sa u3 0) (LwS.ss u3 0), stW cI (LwS.sa u3 1) (LwS.ss u3 1), stW cI (LwS.sa u3 2) (LwS.ss u3 2), stW cI (LwS.sa u3 3) (LwS.ss u3 3), stW cI (LwS.sa u3 4) (LwS.ss u3 4), stW cI (LwS.sa u3 5) (LwS.ss u3 5), ocW cI o (LwS.φ u3), rdW rd (LwS.ρ u3), bfW cC bu (LwS.β u3), ouW cL ob (LwS.f u3), mdW cI b u6]) hP [0, 1, 2, 3, 4, 5, 6, 7, 8, 9, 10, 11, 12, 13] rfl
  have hD := fl_D (S' := [mnW x a sv o rd bu (LwS.ln u3), stW cI a (LwS.σ u3), svO cO sv (saF (LwS.sa u3)) (LwS.κ u3), stW cI (LwS.sa u3 0) (LwS.ss u3 0), stW cI (LwS.sa u3 1) (LwS.ss u3 1), stW cI (LwS.sa u3 2) (LwS.ss u3 2), stW cI (LwS.sa u3 3) (LwS.ss u3 3), stW cI (LwS.sa u3 4) (LwS.ss u3 4), stW cI (LwS.sa u3 5) (LwS.ss u3 5), ocW cI o (LwS.φ u3), rdW rd (LwS.ρ u3), bfW cC bu (LwS.β u3), ouW cL ob (LwS.f u3), mdW cI b u6]) hD [0, 1, 2, 3, 4, 5, 6, 7, 8, 9, 10, 11, 12, 13] (by decide) rfl
  obtain ⟨he9, hf9, hLI⟩ := LI.step hcl2 hcl5 hG (fun h0 => by obtain a1 := cd1_0 h0; exact hG.push (hG.1.set a1))
  have hrg : 0 ≤ r1 ∧ r1 ≤ 3 := by rw [hcl2.1]; exact cd1_b
  refine lv_istore (lv' := [(6, .int (iI (r4))), (5, .int (iI (r1))), (0, .ref (sc)), (1, .ref (x 0)), (2, .ref (b 0)), (3, .ref (ob 0)), (4, .int (iI (i)))]) hx hb dL_law_499 hl (by decide) rfl (fun ls hl => ?_)
  refine lv_aload_n hx hb dL_law_501 rfl (lv_at hl 4 rfl) ?_
  have hPc := fl_P (S' := [mdW cI b u6]) hP [13] rfl
  have hKc := hK.sub (tys' := [(cI, FieldType.int)]) [0] rfl
  refine wr_calli (va_runV (As := []) (rest := []) ⟨hx, hb, hml, hown, hts⟩ (c_X5_thrown l D cI cO cC cL b u6 ) (cwV 0 hts gL_law_X5_thrown rfl rfl rfl (by decide +kernel) ⟨Nat.le_of_ble_eq_true rfl, Nat.le_of_ble_eq_true rfl⟩) ⟨pcR_blind, va_recv hKc hPc (ci := 5) (q0 := 0) rfl rfl, pcR_of hPc hKc⟩ rfl rfl hl.1 rfl (lv_room (Nat.le_of_ble_eq_true rfl)) dL_law_502 ⟨(by show cells + 1 + 0 ≤ 1139; omega), (by show slots + 6 + 0 ≤ 14922; omega)⟩) (fun r7 hr7 => ?_)
  subst hr7
  refine lv_iload hx hb dL_law_505 (lv_at hl 1 rfl) ?_
  refine wi_icmp_eq (tgt := 512) hx hb dL_law_507 (by decide) (by omega) (fun c_507 => ?_) (fun c_507 => ?_)
  · skip
    refine lv_iload hx hb dL_law_512 (lv_at hl 1 rfl) ?_
    refine wi_if_ne (tgt := 529) hx hb dL_law_514 (by decide) (by omega) (fun c_514 => ?_) (fun c_514 => ?_)
    · skip
      refine lv_goto (tgt := 1705) hx hb dL_law_529 (by decide) ?_
      exact kk u3 u6 _ _ (hLI) hP hD hS ls (lv_sub hl [2, 3, 4, 5, 6] rfl)
    · skip
      refine lv_aload_n hx hb dL_law_517 rfl (lv_at hl 5 rfl) ?_
      refine wi_iconst hx hb dL_law_518 ?_
      refine wi_lald hx hb hK hP 98 3 rfl rfl dL_law_519 ?_
      refine lv_iload hx hb dL_law_520 (lv_at hl 0 rfl) ?_
      refine lv_i2l (v := iL (r4)) hx hb dL_law_522 rfl ?_
      refine wi_lcmp0 hx hb (congrFun (hf9 (by omega)) 0) dL_law_523 ?_
      refine wi_if_eq (tgt := 529) hx hb dL_law_524 (by decide) (by omega) (fun c_524 => ?_) (fun c_524 => ?_)
      · skip
        refine lv_goto (tgt := 1705) hx hb dL_law_529 (by decide) ?_
        exact kk u3 u6 _ _ (hLI) hP hD hS ls (lv_sub hl [2, 3, 4, 5, 6] rfl)
      · skip
        exfalso; omega
  · skip
    exfalso; omega
set_option maxHeartbeats 4000000 in
set_option maxRecDepth 100000 in
theorem lc_settlePart (hl9 : l.stackTraces = false) (hx : p.tables.exec = Jvm.exec) (hb : c.code = cL_law) (hlocks : meth.locks = false) (hown : s.vm.findClass RL = some m.cls) (hml : c.maxLocals = 9) (hts : ∀ w ∈ wsL_law, w.before args s = true) (hK : va_K D vwCl [(cI, FieldType.int), (cO, FieldType.object "PromisedCounters$State"), (cC, FieldType.char), (cL, FieldType.long)] s) (hA : ∀ q : Nat, H0.size ≤ q → A q)
    (hgR : ∀ j : Int, R32 (g j)) (hi : 0 ≤ i ∧ i + 5 ≤ (n9 : Int)) (hn9 : n9 ≤ 2560) (hcells : cells + 1 ≤ 1139) (hslots : slots + 6 ≤ 14922) (hκ : κ 0 0 = μ 0 0) (hln : ln 0 0 = μ 0 1) (hM : RelM σ (μ 0 0) ss (μ 0 1) (β 1) μ) (hG : GI σ (μ 0 0) ss (μ 0 1) (β 1)) (hZ : ZP A s H0) (hX : va_X sc n9 (rI g) s H0) (hbl : sc < H0.size) (hsc : ¬ A sc) (hP : va_P D vwCl (fl [mnW x a sv o rd bu ln, stW cI a σ, svO cO sv (saF sa) κ, stW cI (sa 0) (ss 0), stW cI (sa 1) (ss 1), stW cI (sa 2) (ss 2), stW cI (sa 3) (ss 3), stW cI (sa 4) (ss 4), stW cI (sa 5) (ss 5), ocW cI o φ, rdW rd ρ, bfW cC bu β, ouW cL ob f, mdW cI b μ]) H) (hD : va_D A (fl [mnW x a sv o rd bu ln, stW cI a σ, svO cO sv (saF sa) κ, stW cI (sa 0) (ss 0), stW cI (sa 1) (ss 1), stW cI (sa 2) (ss 2), stW cI (sa 3) (ss 3), stW cI (sa 4) (ss 4), stW cI (sa 5) (ss 5), ocW cI o φ, rdW rd ρ, bfW cC bu β, ouW cL ob f, mdW cI b μ])) (hS : va_S A H0 H locs) (hl : lv_has ls 9 [(0, .ref (sc)), (1, .ref (x 0)), (2, .ref (b 0)), (3, .ref (ob 0)), (4, .int (iI (i)))])
    (kk : ∀ (u : LwS) (μ : Nat → Int → Int) (H : Heap) (locs : List Loc), LI u μ → va_P D vwCl (lawW cI cO cC cL x a sv o rd bu ob b u μ) H → va_D A (lawW cI cO cC cL x a sv o rd bu ob b u μ) → va_S A H0 H locs → ∀ ls : Array Slot, lv_has ls 9 [(0, .ref (sc)), (1, .ref (x 0)), (2, .ref (b 0)), (3, .ref (ob 0)), (4, .int (iI (i)))] → W p l e ({ frames := 13, cells := 1139, slots := 14922, locals := 478 } : Room) s m args below meth c H locs (cells + 1) (slots + 6) Q (F0 m 1705 ls [])) : W p l e ({ frames := 13, cells := 1139, slots := 14922, locals := 478 } : Room) s m args below meth c H locs cells slots Q (F0 m 532 ls []) := by
  refine lv_aload_n hx hb dL_law_532 rfl (lv_at hl 1 rfl) ?_
  refine lv_aload_n hx hb dL_law_533 rfl (lv_at hl 0 rfl) ?_
  refine lv_iload hx hb dL_law_534 (lv_at hl 4 rfl) ?_
  refine wi_iconst hx hb dL_law_536 ?_
  refine wi_iadd hx hb dL_law_537 ?_
  refine wi_sld hx hb hX hbl hsc hS (i := (i + 1)) (by omega) (by omega) dL_law_538 ?_
  refine lv_aload_n hx hb dL_law_539 rfl (lv_at hl 0 rfl) ?_
  refine lv_iload hx hb dL_law_540 (lv_at hl 4 rfl) ?_
  refine wi_iconst hx hb dL_law_542 ?_
  refine wi_iadd hx hb dL_law_543 ?_
  refine wi_sld hx hb hX hbl hsc hS (i := (i + 2)) (by omega) (by omega) dL_law_544 ?_
  refine lv_aload_n hx hb dL_law_545 rfl (lv_at hl 3 rfl) ?_
  have hPc := fl_P (S' := [mnW x a sv o rd bu ln, stW cI a σ, svO cO sv (saF sa) κ, stW cI (sa 0) (ss 0), stW cI (sa 1) (ss 1), stW cI (sa 2) (ss 2), stW cI (sa 3) (ss 3), stW cI (sa 4) (ss 4), stW cI (sa 5) (ss 5), ocW cI o φ, rdW rd ρ, bfW cC bu β, ouW cL ob f]) hP [0, 1, 2, 3, 4, 5, 6, 7, 8, 9, 10, 11, 12] rfl
  have hDc := fl_D (S' := [mnW x a sv o rd bu ln, stW cI a σ, svO cO sv (saF sa) κ, stW cI (sa 0) (ss 0), stW cI (sa 1) (ss 1), stW cI (sa 2) (ss 2), stW cI (sa 3) (ss 3), stW cI (sa 4) (ss 4), stW cI (sa 5) (ss 5), ocW cI o φ, rdW rd ρ, bfW cC bu β, ouW cL ob f]) hD [0, 1, 2, 3, 4, 5, 6, 7, 8, 9, 10, 11, 12] (by decide) rfl
  have hFc := fl_free (SC := [mnW x a sv o rd bu ln, stW cI a σ, svO cO sv (saF sa) κ, stW cI (sa 0) (ss 0), stW cI (sa 1) (ss 1), stW cI (sa 2) (ss 2), stW cI (sa 3) (ss 3), stW cI (sa 4) (ss 4), stW cI (sa 5) (ss 5), ocW cI o φ, rdW rd ρ, bfW cC bu β, ouW cL ob f]) hD hS hA [0, 1, 2, 3, 4, 5, 6, 7, 8, 9, 10, 11, 12] rfl
  refine wq_calli (vx_runSW (As := [.ref (x 0), .int (iI ((g (i + 1)))), .int (iI ((g (i + 2)))), .ref (ob 0)]) (rest := []) ⟨hx, hb, hml, hown, hts⟩ (lk_settlePart l hl9 D cI cO cC cL H.size x a sv o rd bu ob ln σ κ φ ρ β sa ss f ((g (i + 1))) ((g (i + 2))) (hgR _) (hgR _) (by rw [hκ, hln]; exact hG)) (vx_cwSW 4 hts gL_law_L_settlePart rfl rfl rfl (by decide +kernel) ⟨Nat.le_of_ble_eq_true rfl, Nat.le_of_ble_eq_true rfl⟩) ⟨pcWX_blind, pcWX_of hPc hK hDc (hZ.kept hS.2.1) hFc⟩ rfl rfl hl.1 rfl (lv_room (Nat.le_of_ble_eq_true rfl)) dL_law_546 ⟨(by show cells + 0 + 1 ≤ 1139; omega), (by show slots + 0 + 6 ≤ 14922; omega)⟩) hS (fun q _ h => hFc q h) hFc (fun r1 u3 t9 H1 locs ht9 hvm hcl2 hB hz1 hk1 hS => ?_)
  obtain ⟨hP1, hK1, hD1⟩ := hB
  rw [ht9] at hP1
  obtain ⟨hP, hD⟩ := fl_join (SR := [mdW cI b μ]) (S1 := [mnW x a sv o rd bu (LwS.ln u3), stW cI a (LwS.σ u3), svO cO sv (saF (LwS.sa u3)) (LwS.κ u3), stW cI (LwS.sa u3 0) (LwS.ss u3 0), stW cI (LwS.sa u3 1) (LwS.ss u3 1), stW cI (LwS.sa u3 2) (LwS.ss u3 2), stW cI (LwS.sa u3 3) (LwS.ss u3 3), stW cI (LwS.sa u3 4) (LwS.ss u3 4), stW cI (LwS.sa u3 5) (LwS.ss u3 5), ocW cI o (LwS.φ u3), rdW rd (LwS.ρ u3), bfW cC bu (LwS.β u3), ouW cL ob (LwS.f u3)]) hP hD [0, 1, 2, 3, 4, 5, 6, 7, 8, 9, 10, 11, 12] [13] rfl rfl (by decide) (by decide) hk1 hFc hP1 hD1
  generalize H1 = H at hP hS ⊢
  have hP := fl_P (S' := [mnW x a sv o rd bu (LwS.ln u3), stW cI a (LwS.σ u3), svO cO sv (saF (LwS.sa u3)) (LwS.κ u3), stW cI (LwS.sa u3 0) (LwS.ss u3 0), stW cI (LwS.sa u3 1) (LwS.ss u3 1), stW cI (LwS.sa u3 2) (LwS.ss u3 2), stW cI (LwS.sa u3 3) (LwS.ss u3 3), stW cI (LwS.sa u3 4) (LwS.ss u3 4), stW cI (LwS.sa u3 5) (LwS.ss u3 5), ocW cI o (LwS.φ u3), rdW rd (LwS.ρ u3), bfW cC bu (LwS.β u3), ouW cL ob (LwS.f u3), mdW cI b μ]) hP [1, 2, 3, 4, 5, 6, 7, 8, 9, 10, 11, 12, 13, 0] rfl
  have hD := fl_D (S' := [mnW x a sv o rd bu (LwS.ln u3), stW cI a (LwS.σ u3), svO cO sv (saF (LwS.sa u3)) (LwS.κ u3), stW cI (LwS.sa u3 0) (LwS.ss u3 0), stW cI (LwS.sa u3 1) (LwS.ss u3 1), stW cI (LwS.sa u3 2) (LwS.ss u3 2), stW cI (LwS.sa u3 3) (LwS.ss u3 3), stW cI (LwS.sa u3 4) (LwS.ss u3 4), stW cI (LwS.sa u3 5) (LwS.ss u3 5), ocW cI o (LwS.φ u3), rdW rd (LwS.ρ u3), bfW cC bu (LwS.β u3), ouW cL ob (LwS.f u3), mdW cI b μ]) hD [1, 2, 3, 4, 5, 6, 7, 8, 9, 10, 11, 12, 13, 0] (by decide) rfl
  rw [hκ, hln] at hcl2
  refine lv_istore (lv' := [(5, .int (iI (r1))), (0, .ref (sc)), (1, .ref (x 0)), (2, .ref (b 0)), (3, .ref (ob 0)), (4, .int (iI (i)))]) hx hb dL_law_549 hl (by decide) rfl (fun ls hl => ?_)
  refine lv_aload_n hx hb dL_law_551 rfl (lv_at hl 3 rfl) ?_
  refine lv_aload_n hx hb dL_law_552 rfl (lv_at hl 1 rfl) ?_
  refine lv_iload hx hb dL_law_553 (lv_at hl 5 rfl) ?_
  refine wi_iconst hx hb dL_law_555 ?_
  refine wi_iadd hx hb dL_law_556 ?_
  refine wi_sld hx hb hX hbl hsc hS (i := (i + 1)) (by omega) (by omega) dL_law_557 ?_
  refine lv_aload_n hx hb dL_law_558 rfl (lv_at hl 1 rfl) ?_
  refine lv_iload hx hb dL_law_559 (lv_at hl 5 rfl) ?_
  refine wi_iconst hx hb dL_law_561 ?_
  refine wi_iadd hx hb dL_law_562 ?_
  refine wi_sld hx hb hX hbl hsc hS (i := (i + 2)) (by omega) (by omega) dL_law_563 ?_
  have hPc := fl_P (S' := [mdW cI b μ]) hP [13] rfl
  have hKc := hK.sub (tys' := [(cI, FieldType.int)]) [0] rfl
  have hDc := fl_D (S' := [mdW cI b μ]) hD [13] (by decide) rfl
  have hFc := fl_free (SC := [mdW cI b μ]) hD hS hA [13] rfl
  refine wq_calli (va_runV (As := [.int (iI ((g (i + 1)))), .int (iI ((g (i + 2))))]) (rest := []) ⟨hx, hb, hml, hown, hts⟩ (c_X5_settlePart l D cI cO cC cL H.size b μ σ ss (β 1) ((g (i + 1))) ((g (i + 2))) (hgR _) (hgR _) (hM) (hG)) (cwV 2 hts gL_law_X5_settlePart rfl rfl rfl (by decide +kernel) ⟨Nat.le_of_ble_eq_true rfl, Nat.le_of_ble_eq_true rfl⟩) ⟨pcW_blind, va_recv hKc hPc (ci := 5) (q0 := 0) rfl rfl, pcW_of hPc hKc hDc⟩ rfl rfl hl.1 rfl (lv_room (Nat.le_of_ble_eq_true rfl)) dL_law_564 ⟨(by show cells + 1 + 0 ≤ 1139; omega), (by show slots + 6 + 0 ≤ 14922; omega)⟩) hS (fun q _ h => hFc q h) hFc (fun r4 u6 t9 H1 locs ht9 hvm hcl5 hB hz1 hk1 hS => ?_)
  obtain ⟨hP1, hK1, hD1⟩ := hB
  rw [ht9] at hP1
  obtain ⟨hP, hD⟩ := fl_join (SR := [mnW x a sv o rd bu (LwS.ln u3), stW cI a (LwS.σ u3), svO cO sv (saF (LwS.sa u3)) (LwS.κ u3), stW cI (LwS.sa u3 0) (LwS.ss u3 0), stW cI (LwS.sa u3 1) (LwS.ss u3 1), stW cI (LwS.sa u3 2) (LwS.ss u3 2), stW cI (LwS.sa u3 3) (LwS.ss u3 3), stW cI (LwS.sa u3 4) (LwS.ss u3 4), stW cI (LwS.sa u3 5) (LwS.ss u3 5), ocW cI o (LwS.φ u3), rdW rd (LwS.ρ u3), bfW cC bu (LwS.β u3), ouW cL ob (LwS.f u3)]) (S1 := [mdW cI b u6]) hP hD [13] [0, 1, 2, 3, 4, 5, 6, 7, 8, 9, 10, 11, 12] rfl rfl (by decide) (by decide) hk1 hFc hP1 hD1
  generalize H1 = H at hP hS ⊢
  have hP := fl_P (S' := [mnW x a sv o rd bu (LwS.ln u3), stW cI a (LwS.σ u3), svO cO sv (saF (LwS.sa u3)) (LwS.κ u3), stW cI (LwS.sa u3 0) (LwS.ss u3 0), stW cI (LwS.sa u3 1) (LwS.ss u3 1), stW cI (LwS.sa u3 2) (LwS.ss u3 2), stW cI (LwS.sa u3 3) (LwS.ss u3 3), stW cI (LwS.sa u3 4) (LwS.ss u3 4), stW cI (LwS.sa u3 5) (LwS.ss u3 5), ocW cI o (LwS.φ u3), rdW rd (LwS.ρ u3), bfW cC bu (LwS.β u3), ouW cL ob (LwS.f u3), mdW cI b u6]) hP [0, 1, 2, 3, 4, 5, 6, 7, 8, 9, 10, 11, 12, 13] rfl
  have hD := fl_D (S' := [mnW x a sv o rd bu (LwS.ln u3), stW cI a (LwS.σ u3), svO cO sv (saF (LwS.sa u3)) (LwS.κ u3), stW cI (LwS.sa u3 0) (LwS.ss u3 0), stW cI (LwS.sa u3 1) (LwS.ss u3 1), stW cI (LwS.sa u3 2) (LwS.ss u3 2), stW cI (LwS.sa u3 3) (LwS.ss u3 3), stW cI (LwS.sa u3 4) (LwS.ss u3 4), stW cI (LwS.sa u3 5) (LwS.ss u3 5), ocW cI o (LwS.φ u3), rdW rd (LwS.ρ u3), bfW cC bu (LwS.β u3), ouW cL ob (LwS.f u3), mdW cI b u6]) hD [0, 1, 2, 3, 4, 5, 6, 7, 8, 9, 10, 11, 12, 13] (by decide) rfl
  obtain ⟨he9, hf9, hLI⟩ := LI.step hcl2 hcl5 hG (fun h0 => by obtain ⟨a1, a2⟩ := cd2_0 h0; exact hG.push (hG.1.prt a1 a2))
  have hrg : 0 ≤ r1 ∧ r1 ≤ 3 := by rw [hcl2.1]; exact cd2_b
  refine lv_istore (lv' := [(6, .int (iI (r4))), (5, .int (iI (r1))), (0, .ref (sc)), (1, .ref (x 0)), (2, .ref (b 0)), (3, .ref (ob 0)), (4, .int (iI (i)))]) hx hb dL_law_567 hl (by decide) rfl (fun ls hl => ?_)
  refine lv_aload_n hx hb dL_law_569 rfl (lv_at hl 4 rfl) ?_
  have hPc := fl_P (S' := [mdW cI b u6]) hP [13] rfl
  have hKc := hK.sub (tys' := [(cI, FieldType.int)]) [0] rfl
  refine wr_calli (va_runV (As := []) (rest := []) ⟨hx, hb, hml, hown, hts⟩ (c_X5_thrown l D cI cO cC cL b u6 ) (cwV 0 hts gL_law_X5_thrown rfl rfl rfl (by decide +kernel) ⟨Nat.le_of_ble_eq_true rfl, Nat.le_of_ble_eq_true rfl⟩) ⟨pcR_blind, va_recv hKc hPc (ci := 5) (q0 := 0) rfl rfl, pcR_of hPc hKc⟩ rfl rfl hl.1 rfl (lv_room (Nat.le_of_ble_eq_true rfl)) dL_law_570 ⟨(by show cells + 1 + 0 ≤ 1139; omega), (by show slots + 6 + 0 ≤ 14922; omega)⟩) (fun r7 hr7 => ?_)
  subst hr7
  refine lv_iload hx hb dL_law_573 (lv_at hl 1 rfl) ?_
  refine wi_icmp_eq (tgt := 580) hx hb dL_law_575 (by decide) (by omega) (fun c_575 => ?_) (fun c_575 => ?_)
  · skip
    refine lv_iload hx hb dL_law_580 (lv_at hl 1 rfl) ?_
    refine wi_if_ne (tgt := 597) hx hb dL_law_582 (by decide) (by omega) (fun c_582 => ?_) (fun c_582 => ?_)
    · skip
      refine lv_goto (tgt := 1705) hx hb dL_law_597 (by decide) ?_
      exact kk u3 u6 _ _ (hLI) hP hD hS ls (lv_sub hl [2, 3, 4, 5, 6] rfl)
    · skip
      refine lv_aload_n hx hb dL_law_585 rfl (lv_at hl 5 rfl) ?_
      refine wi_iconst hx hb dL_law_586 ?_
      refine wi_lald hx hb hK hP 98 3 rfl rfl dL_law_587 ?_
      refine lv_iload hx hb dL_law_588 (lv_at hl 0 rfl) ?_
      refine lv_i2l (v := iL (r4)) hx hb dL_law_590 rfl ?_
      refine wi_lcmp0 hx hb (congrFun (hf9 (by omega)) 0) dL_law_591 ?_
      refine wi_if_eq (tgt := 597) hx hb dL_law_592 (by decide) (by omega) (fun c_592 => ?_) (fun c_592 => ?_)
      · skip
        refine lv_goto (tgt := 1705) hx hb dL_law_597 (by decide) ?_
        exact kk u3 u6 _ _ (hLI) hP hD hS ls (lv_sub hl [2, 3, 4, 5, 6] rfl)
      · skip
        exfalso; omega
  · skip
    exfalso; omega
end LAWC
