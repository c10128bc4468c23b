abbrev lawW (cI cO cC cL : ClassId) (x a sv o rd bu ob b : Nat → Nat) (u : LwS) (μ : Nat → Int → Int) : va_W := fl [mnW x a sv o rd bu (LwS.ln u), stW cI a (LwS.σ u), svO cO sv (saF (LwS.sa u)) (LwS.κ u), stW cI (LwS.sa u 0) (LwS.ss u 0), stW cI (LwS.sa u 1) (LwS.ss u 1), stW cI (LwS.sa u 2) (LwS.ss u 2), stW cI (LwS.sa u 3) (LwS.ss u 3), stW cI (LwS.sa u 4) (LwS.ss u 4), stW cI (LwS.sa u 5) (LwS.ss u 5), ocW cI o (LwS.φ u), rdW rd (LwS.ρ u), bfW cC bu (LwS.β u), ouW cL ob (LwS.f u), mdW cI b μ]
section WL
variable {p : Program} {l : Launch} {e : Env} {R : Room} {s : State} {m : MethodId} {args : Array Value} {below : List Frame} {meth : Method} {c : Code} {H : Heap} {locs : List Loc} {cells slots : Nat} {Q : State → Prop}
variable {cc : ByteArray} {pc : Nat} {ls : Array Slot} {rest : List Value}
variable {D : va_G} {cl : List vw_C} {ws : va_W} {tys : List (ClassId × FieldType)} {a : Nat} {A : Nat → Prop} {H0 : Heap}
theorem wi_sld (hexec : p.tables.exec = Jvm.exec) (hb : c.code = cc) {sc n9 : Nat} {g : Int → Int} (hX : va_X sc n9 (rI g) s H0) (hbl : sc < H0.size) (hsc : ¬ A sc) (hS : va_S A H0 H locs) {i : Int} (hin : 0 ≤ i ∧ i < (n9 : Int)) (hn : n9 ≤ 2147483647) (hdg : decode cc pc = .ok (.iaload, 1))
    (kk : W p l e R s m args below meth c H locs cells slots Q (F0 m (pc + 1) ls (.int (iI (g i)) :: rest))) : W p l e R s m args below meth c H locs cells slots Q (F0 m pc ls (.int (iI i) :: .ref sc :: rest)) :=
  va_sld hexec hb hX hbl hsc hS (iI_in hin (by omega)) hdg (by rw [rI_get hin.1 (by omega)]; exact kk)
theorem wi_slen (hexec : p.tables.exec = Jvm.exec) (hb : c.code = cc) {sc n9 : Nat} {g : Int → Int} (hX : va_X sc n9 (rI g) s H0) (hbl : sc < H0.size) (hsc : ¬ A sc) (hS : va_S A H0 H locs) (hdg : decode cc pc = .ok (.arraylength, 1))
    (kk : W p l e R s m args below meth c H locs cells slots Q (F0 m (pc + 1) ls (.int (iI (n9 : Int)) :: rest))) : W p l e R s m args below meth c H locs cells slots Q (F0 m pc ls (.ref sc :: rest)) :=
  va_slen hexec hb hX hbl hsc hS hdg (by rw [len_ii]; exact kk)
end WL
