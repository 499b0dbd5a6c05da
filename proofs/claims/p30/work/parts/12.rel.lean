/-! What the class's cells and the reference's say of each other. A voyage's cells: v o j (offset o, slot j). A row of the reference: r k, k < 119. -/
def nv (r : Nat → Int32) (n f : Nat) : Int32 := r (31 + 8 * n + f)
def rvSet (v : Nat → Nat → Int32) (r : Nat → Int32) : Prop := ∀ j, j < 4 → v 1 j = r j
def rvSky (v : Nat → Nat → Int32) (r : Nat → Int32) : Prop := v 2 0 = r 13 ∧ (∃ m : Nat, m < 256 ∧ v 2 1 = nI m ∧ ∀ s, s < 8 → r (23 + s) = if m.testBit s then 1 else 0) ∧ ∀ s, s < 8 → v 3 s = r (15 + s)
def rvNav (v : Nat → Nat → Int32) (r : Nat → Int32) (n : Nat) : Prop := v 5 n = nv r n 0 ∧ v 6 n = nv r n 1 ∧ v 7 n = nv r n 2 ∧ v 8 n = nv r n 3 ∧ v 9 n = nv r n 4 ∧ v 10 n = (if nv r n 5 = 1 then nv r n 6 else 9999) ∧ v 11 n = nv r n 7
def rvCrs (v : Nat → Nat → Int32) (r : Nat → Int32) : Prop := v 12 0 = r 4 ∧ v 12 1 = (if r 5 = 1 then r 6 else 9999) ∧ v 12 2 = r 7 ∧ v 12 3 = r 8
def rvMisc (v : Nat → Nat → Int32) (r : Nat → Int32) : Prop := v 0 5 = r 9 ∧ v 0 6 = r 11 ∧ v 0 7 = r 12
def rvLog (v : Nat → Nat → Int32) (r : Nat → Int32) : Prop := ∃ nt : Nat, nt ≤ 999 ∧ r 9 = nI nt ∧ r 14 = nI (min nt 8) ∧ ∀ j k, j < min nt 8 → k < 4 → v 14 (4 * ((nt - 1 - j) % 8) + k) = r (87 + 4 * j + k)
def RVv (v : Nat → Nat → Int32) (r : Nat → Int32) : Prop := rvSet v r ∧ rvSky v r ∧ (∀ n, n < 7 → rvNav v r n) ∧ rvCrs v r ∧ rvMisc v r ∧ rvLog v r
def RV (b : Nat) (h : Hp) (r : Nat → Int32) : Prop := RVv (fun o => h (b + o)) r
def rng (x : Int32) (lo hi : Int) : Prop := lo ≤ x.toInt ∧ x.toInt ≤ hi
def ivSet (r : Nat → Int32) : Prop := rng (r 0) (-30) 30 ∧ rng (r 1) 0 30 ∧ rng (r 2) 1 999 ∧ rng (r 3) 0 1800
def ivCrs (r : Nat → Int32) : Prop := rng (r 4) (-5400) 5400 ∧ rng (r 5) 0 1 ∧ rng (r 6) (-5400) 5400 ∧ rng (r 7) (-5400) 5400 ∧ rng (r 8) 0 9999
def ivSky (r : Nat → Int32) : Prop := rng (r 13) 0 8 ∧ ∀ s, s < 8 → rng (r (15 + s)) (-5400) 5400
def ivNav (r : Nat → Int32) (n : Nat) : Prop := rng (nv r n 0) 0 9 ∧ rng (nv r n 1) (-60) 60 ∧ rng (nv r n 2) 0 1 ∧ rng (nv r n 5) 0 1 ∧ rng (nv r n 6) (-5400) 5400 ∧ rng (nv r n 7) 0 2
def sm7 (r : Nat → Int32) : Int32 := nv r 0 4 + nv r 1 4 + nv r 2 4 + nv r 3 4 + nv r 4 4 + nv r 5 4 + nv r 6 4
/-- what always holds of a row -/
def IV (r : Nat → Int32) : Prop := ivSet r ∧ ivCrs r ∧ ivSky r ∧ (∀ n, n < 7 → ivNav r n) ∧ r 10 = sm7 r
def F_X8_within (x0 : Int32) (x1 : Int32) (x2 : Int32) (h0 : Hp) (Q : Int32 → Hp → Prop) : Prop := ((x0 < x1 → (Q (0 : Int32) h0)) ∧ (¬ x0 < x1 → (((x2 < x0 → (Q (0 : Int32) h0)) ∧ (¬ x2 < x0 → (Q (1 : Int32) h0))))))
