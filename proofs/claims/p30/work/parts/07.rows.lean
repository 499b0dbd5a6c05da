def jabs (x : Int32) : Int32 := if 0 ≤ x then x else 0 - x
def jmax (x y : Int32) : Int32 := if x < y then y else x
def jmin (x y : Int32) : Int32 := if y < x then y else x
theorem vp_lit (i : Int32) {n : Nat} (h0 : ¬ i < 0) (h1 : i.toNatClampNeg < n) : vp_in i n := fun q => q.elim h0 (fun z => absurd h1 (Nat.not_lt.mpr z))
section ROWS
variable {P : gP} {ad : Nat → Nat}
theorem cE_t0 (row : Nat → Int32) : cE P ad 0 row = .inr (7, [.ref (ad 8), .ref (ad 1), .ref (ad 3), .ref (ad 5), .ref (ad 6), .ref (ad 7)]) := rfl
theorem cE_t1 (row : Nat → Int32) : cE P ad 1 row = .inr (2, [.ref (ad 2), .int (row 1), .int (row 2)]) := rfl
theorem cE_t2 (row : Nat → Int32) : cE P ad 2 row = .inl (P.2.2.2, 7, .inr (.inr (.inr (.inr (fun j => some (ad (23 + 15 * j))))))) := rfl
theorem cE_t3 (row : Nat → Int32) : cE P ad 3 row = .inr (4, [.ref (ad 4), .int (row 1), .int (row 2), .int (row 3), .int (row 4), .int (row 5)]) := rfl
theorem cE_t4 (row : Nat → Int32) : cE P ad 4 row = .inl (P.2.1, 80, .inl row) := rfl
theorem cE_t5 (row : Nat → Int32) : cE P ad 5 row = .inl (P.2.2.2, 2, .inr (.inr (.inr (.inr (fun j => some (ad (128 + 15 * j))))))) := rfl
theorem cE_t6 (row : Nat → Int32) : cE P ad 6 row = .inl (P.2.2.1, 2, .inl row) := rfl
theorem cE_t158 (row : Nat → Int32) : cE P ad 158 row = .inl (P.1, 14, .inl row) := rfl
theorem cE_t159 (row : Nat → Int32) : cE P ad 159 row = .inl (P.1, 9, .inl row) := rfl
theorem cE_t160 (row : Nat → Int32) : cE P ad 160 row = .inl (P.1, 49, .inl row) := rfl
theorem cE_t161 (row : Nat → Int32) : cE P ad 161 row = .inl (P.1, 32, .inl row) := rfl
end ROWS
section GX2
variable {p : Program} {l : Launch} {e : Env} {R : Room} {s : State} {m : MethodId} {args : Array Value} {below : List Frame} {meth : Method} {c : Code} {H : Heap} {locs : List Loc} {cells slots : Nat} {Q : State → Prop}
variable {cc : ByteArray} {pc : Nat} {ls : Array Slot} {rest : List Value} {D : va_G} {cl : List vw_C} {A : Nat → Prop} {tys : List (ClassId × FieldType)} {H0 : Heap} {n : Nat} {E : gE} {ad : Nat → Nat} {h : Hp}
theorem gx_ialdK (hexec : p.tables.exec = Jvm.exec) (hb : c.code = cc) (hK : va_K D cl tys s) (hP : va_P D cl (gW n E ad h) H) (q0 t0 : Nat) (hq : q0 < n) {cA : ClassId} {N : Nat} (he : ∀ row, E q0 row = .inl (cA, N, .inl row)) (ht : tys[t0]? = some (cA, .int)) {i : Int32} (hin : vp_in i N) (j : Nat) (hj : i.toNatClampNeg = j) (hdg : decode cc pc = .ok (.iaload, 1))
    (kk : W p l e R s m args below meth c H locs cells slots Q (F0 m (pc + 1) ls (.int (h q0 j) :: rest))) : W p l e R s m args below meth c H locs cells slots Q (F0 m pc ls (.int i :: .ref (ad q0) :: rest)) := by
  subst hj
  exact gx_iald hexec hb hK hP q0 t0 hq he ht hin hdg kk
theorem gx_iastK (hexec : p.tables.exec = Jvm.exec) (hb : c.code = cc) (hK : va_K D cl tys s) (hP : va_P D cl (gW n E ad h) H) (hD : va_D A (gW n E ad h)) (hS : va_S A H0 H locs) (q0 t0 : Nat) (hq : q0 < n) {cA : ClassId} {N : Nat} (he : ∀ row, E q0 row = .inl (cA, N, .inl row)) (ht : tys[t0]? = some (cA, .int)) {i x : Int32} (hin : vp_in i N) (j : Nat) (hj : i.toNatClampNeg = j) (hdg : decode cc pc = .ok (.iastore, 1))
    (kk : ∀ h1 : Hp, h1 = up1 h q0 (upd (h q0) j x) → ∀ (H1 : Heap) (locs1 : List Loc), va_P D cl (gW n E ad h1) H1 → va_D A (gW n E ad h1) → va_S A H0 H1 locs1 → W p l e R s m args below meth c H1 locs1 cells slots Q (F0 m (pc + 1) ls rest)) : W p l e R s m args below meth c H locs cells slots Q (F0 m pc ls (.int x :: .int i :: .ref (ad q0) :: rest)) := by
  subst hj
  exact gx_iast hexec hb hK hP hD hS q0 t0 hq he ht hin hdg kk
end GX2
