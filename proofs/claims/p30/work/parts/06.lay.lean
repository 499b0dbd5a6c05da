/-! The layout of both systems' cells. LampLatitudes: 0 itself, 1 history, 2 its places, 3 pad, 4 its signs, 5 slots, 6 saved, 7 trial, then ten voyages of 15 cells each; 158 .. 161 are the law's own rows q, d, v, l. -/
abbrev gP : Type := ClassId × ClassId × ClassId × ClassId
abbrev tyC (P : gP) : List (ClassId × FieldType) := [(P.1, .int), (P.2.1, .char), (P.2.2.1, .boolean), (P.2.2.2, .object "LampLatitudes$Voyage")]
def cV (P : gP) (ad : Nat → Nat) (b o : Nat) (row : Nat → Int32) : va_E := match o with
  | 0 => .inr (6, [.ref (ad (b + 1)), .ref (ad (b + 2)), .ref (ad (b + 4)), .ref (ad (b + 12)), .ref (ad (b + 13)), .int (row 5), .int (row 6), .int (row 7)])
  | 1 => .inl (P.1, 4, .inl row)
  | 2 => .inr (5, [.int (row 0), .int (row 1), .ref (ad (b + 3))])
  | 3 => .inl (P.1, 8, .inl row)
  | 4 => .inr (1, [.ref (ad (b + 5)), .ref (ad (b + 6)), .ref (ad (b + 7)), .ref (ad (b + 8)), .ref (ad (b + 9)), .ref (ad (b + 10)), .ref (ad (b + 11))])
  | 12 => .inr (0, [.int (row 0), .int (row 1), .int (row 2), .int (row 3)])
  | 13 => .inr (3, [.ref (ad (b + 14))])
  | 14 => .inl (P.1, 32, .inl row)
  | _ => .inl (P.1, 7, .inl row)
def cT (P : gP) (ad : Nat → Nat) (k : Nat) (row : Nat → Int32) : va_E := match k with
  | 0 => .inr (7, [.ref (ad 8), .ref (ad 1), .ref (ad 3), .ref (ad 5), .ref (ad 6), .ref (ad 7)])
  | 1 => .inr (2, [.ref (ad 2), .int (row 1), .int (row 2)])
  | 2 => .inl (P.2.2.2, 7, .inr (.inr (.inr (.inr (fun j => some (ad (23 + 15 * j)))))))
  | 3 => .inr (4, [.ref (ad 4), .int (row 1), .int (row 2), .int (row 3), .int (row 4), .int (row 5)])
  | 4 => .inl (P.2.1, 80, .inl row)
  | 5 => .inl (P.2.2.2, 2, .inr (.inr (.inr (.inr (fun j => some (ad (128 + 15 * j)))))))
  | 6 => .inl (P.2.2.1, 2, .inl row)
  | _ => .inr (0, [.int (row 0), .int (row 1), .int (row 2), .int (row 3)])
def cL (P : gP) (k : Nat) (row : Nat → Int32) : va_E := match k with
  | 158 => .inl (P.1, 14, .inl row)
  | 159 => .inl (P.1, 9, .inl row)
  | 160 => .inl (P.1, 49, .inl row)
  | _ => .inl (P.1, 32, .inl row)
def cE (P : gP) (ad : Nat → Nat) : gE := fun k row => if k < 8 then cT P ad k row else if k < 158 then cV P ad (k - (k - 8) % 15) ((k - 8) % 15) row else cL P k row
def vb (b : Nat) : Prop := ∃ v, v < 10 ∧ b = 8 + 15 * v
theorem vb_8 : vb 8 := ⟨0, by decide, rfl⟩
theorem vb_lt {b : Nat} (hb : vb b) {o : Nat} (ho : o < 15) : b + o < 162 := by
  obtain ⟨v, hv, rfl⟩ := hb
  omega
theorem vb_lt0 {b : Nat} (hb : vb b) : b < 162 := vb_lt hb (o := 0) (by decide)
theorem vb_place {i : Int32} (h : vp_in i 7) : vb (23 + 15 * i.toNatClampNeg) := ⟨i.toNatClampNeg + 1, by
  have h1 : i.toNatClampNeg < 7 := Nat.not_le.mp fun q => h (Or.inr q)
  omega, by omega⟩
theorem vb_slot {i : Int32} (h : vp_in i 2) : vb (128 + 15 * i.toNatClampNeg) := ⟨i.toNatClampNeg + 8, by
  have h1 : i.toNatClampNeg < 2 := Nat.not_le.mp fun q => h (Or.inr q)
  omega, by omega⟩
section LAY
variable {P : gP} {ad : Nat → Nat} {b : Nat}
theorem cE_v (hb : vb b) (o : Nat) (ho : o < 15) (row : Nat → Int32) : cE P ad (b + o) row = cV P ad b o row := by
  obtain ⟨v, hv, rfl⟩ := hb
  have e1 : (8 + 15 * v + o - 8) % 15 = o := by omega
  have e2 : 8 + 15 * v + o - o = 8 + 15 * v := by omega
  unfold cE
  rw [if_neg (by omega), if_pos (by omega), e1, e2]
theorem cE_0 (hb : vb b) (row : Nat → Int32) : cE P ad b row = .inr (6, [.ref (ad (b + 1)), .ref (ad (b + 2)), .ref (ad (b + 4)), .ref (ad (b + 12)), .ref (ad (b + 13)), .int (row 5), .int (row 6), .int (row 7)]) := cE_v hb 0 (by decide) row
theorem cE_1 (hb : vb b) (row : Nat → Int32) : cE P ad (b + 1) row = .inl (P.1, 4, .inl row) := cE_v hb 1 (by decide) row
theorem cE_2 (hb : vb b) (row : Nat → Int32) : cE P ad (b + 2) row = .inr (5, [.int (row 0), .int (row 1), .ref (ad (b + 3))]) := cE_v hb 2 (by decide) row
theorem cE_3 (hb : vb b) (row : Nat → Int32) : cE P ad (b + 3) row = .inl (P.1, 8, .inl row) := cE_v hb 3 (by decide) row
theorem cE_4 (hb : vb b) (row : Nat → Int32) : cE P ad (b + 4) row = .inr (1, [.ref (ad (b + 5)), .ref (ad (b + 6)), .ref (ad (b + 7)), .ref (ad (b + 8)), .ref (ad (b + 9)), .ref (ad (b + 10)), .ref (ad (b + 11))]) := cE_v hb 4 (by decide) row
theorem cE_5 (hb : vb b) (row : Nat → Int32) : cE P ad (b + 5) row = .inl (P.1, 7, .inl row) := cE_v hb 5 (by decide) row
theorem cE_6 (hb : vb b) (row : Nat → Int32) : cE P ad (b + 6) row = .inl (P.1, 7, .inl row) := cE_v hb 6 (by decide) row
theorem cE_7 (hb : vb b) (row : Nat → Int32) : cE P ad (b + 7) row = .inl (P.1, 7, .inl row) := cE_v hb 7 (by decide) row
theorem cE_8 (hb : vb b) (row : Nat → Int32) : cE P ad (b + 8) row = .inl (P.1, 7, .inl row) := cE_v hb 8 (by decide) row
theorem cE_9 (hb : vb b) (row : Nat → Int32) : cE P ad (b + 9) row = .inl (P.1, 7, .inl row) := cE_v hb 9 (by decide) row
theorem cE_10 (hb : vb b) (row : Nat → Int32) : cE P ad (b + 10) row = .inl (P.1, 7, .inl row) := cE_v hb 10 (by decide) row
theorem cE_11 (hb : vb b) (row : Nat → Int32) : cE P ad (b + 11) row = .inl (P.1, 7, .inl row) := cE_v hb 11 (by decide) row
theorem cE_12 (hb : vb b) (row : Nat → Int32) : cE P ad (b + 12) row = .inr (0, [.int (row 0), .int (row 1), .int (row 2), .int (row 3)]) := cE_v hb 12 (by decide) row
theorem cE_13 (hb : vb b) (row : Nat → Int32) : cE P ad (b + 13) row = .inr (3, [.ref (ad (b + 14))]) := cE_v hb 13 (by decide) row
theorem cE_14 (hb : vb b) (row : Nat → Int32) : cE P ad (b + 14) row = .inl (P.1, 32, .inl row) := cE_v hb 14 (by decide) row
def isCrs (c : Nat) : Prop := c = 7 ∨ ∃ b, vb b ∧ c = b + 12
theorem isCrs_v (hb : vb b) : isCrs (b + 12) := Or.inr ⟨b, hb, rfl⟩
theorem isCrs_7 : isCrs 7 := Or.inl rfl
theorem crs_lt {c : Nat} (hc : isCrs c) : c < 162 := by
  rcases hc with rfl | ⟨b, hb, rfl⟩
  · decide
  · exact vb_lt hb (by decide)
theorem cE_crs {c : Nat} (hc : isCrs c) (row : Nat → Int32) : cE P ad c row = .inr (0, [.int (row 0), .int (row 1), .int (row 2), .int (row 3)]) := by
  rcases hc with rfl | ⟨b, hb, rfl⟩
  · rfl
  · exact cE_12 hb row
end LAY
def stLS (j : Nat) : Int32 := match j with | 0 => -30 | 1 => 0 | 2 => 1 | _ => 0
def stMS (j : Nat) : Int32 := match j with | 0 => 30 | 1 => 30 | 2 => 999 | _ => 1800
def stFS (j : Nat) : Int32 := match j with | 0 => 4 | 1 => 6 | 2 => 60 | _ => 300
def stLT (j : Nat) : Int32 := match j with | 0 => 0 | 1 => -60 | _ => 0
def stMT (j : Nat) : Int32 := match j with | 0 => 9 | 1 => 60 | _ => 1
def zT (nm : String) (t N : Nat) (f : Nat → Int32) (A : Nat → Prop) (U : State) : Prop := va_Z RX6 nm "[I" (.ref t) A U U.heap ∧ va_T .int t N (fun j => .int (f j)) A U U.heap
theorem zT_calling {nm : String} {t N : Nat} {f : Nat → Int32} {A : Nat → Prop} {U : State} (h : zT nm t N f A U) (g : JFrame) (mk : MethodId) (a : Array Value) : zT nm t N f A (U.calling g mk a) :=
  ⟨va_Z.moved (u := U) (U := U.calling g mk a) (Vm.Alike.refl U.vm) h.1, va_T.moved (u := U) (U := U.calling g mk a) (Vm.Alike.refl U.vm) h.2⟩
theorem zT_keep {nm : String} {t N : Nat} {f : Nat → Int32} {A : Nat → Prop} {s U : State} (h : zT nm t N f A s) (hW : s.WarmedH U.vm) (hq : ∀ q : Nat, q < s.heap.size → ¬ A q → U.heap[q]? = s.heap[q]?) : zT nm t N f A U :=
  ⟨(va_Z.moved hW.alike h.1).kept hq, (va_T.moved hW.alike h.2).kept hq⟩
def gKC (tb : Nat → Nat) (A : Nat → Prop) (U : State) : Prop := (∀ w ∈ NB, va_Nw w U) ∧ zT "FIRST_SETTING" (tb 0) 4 stFS A U ∧ zT "LEAST_SETTING" (tb 1) 4 stLS A U ∧ zT "MOST_SETTING" (tb 2) 4 stMS A U ∧ zT "LEAST_TRAIT" (tb 3) 3 stLT A U ∧ zT "MOST_TRAIT" (tb 4) 3 stMT A U
theorem nb_call {U : State} (h : ∀ w ∈ NB, va_Nw w U) (g : JFrame) (mk : MethodId) (a : Array Value) : ∀ w ∈ NB, va_Nw w (U.calling g mk a) := by
  intro w hw
  have h1 := (nb_spec hw).2
  cases w <;> first | exact va_Nw.same (u := U) (U := U.calling g mk a) rfl rfl (h _ hw) | (simp [lw_nest] at h1; done)
theorem nb_warm {s U : State} (hW : s.WarmedH U.vm) (h : ∀ w ∈ NB, va_Nw w s) : ∀ w ∈ NB, va_Nw w U := by
  intro w hw
  have h1 := (nb_spec hw).2
  cases w <;> first | exact va_Nw.warmM hW (h _ hw) | (simp [lw_nest] at h1; done)
theorem gKC_keep (tb : Nat → Nat) (A : Nat → Prop) : gKeep A (gKC tb A) :=
  ⟨fun _ g mk a h => ⟨nb_call h.1 g mk a, zT_calling h.2.1 g mk a, zT_calling h.2.2.1 g mk a, zT_calling h.2.2.2.1 g mk a, zT_calling h.2.2.2.2.1 g mk a, zT_calling h.2.2.2.2.2 g mk a⟩,
   fun _ _ h hW hq => ⟨nb_warm hW h.1, zT_keep h.2.1 hW hq, zT_keep h.2.2.1 hW hq, zT_keep h.2.2.2.1 hW hq, zT_keep h.2.2.2.2.1 hW hq, zT_keep h.2.2.2.2.2 hW hq⟩⟩
def gKM (_ : State) : Prop := True
theorem gKM_keep (A : Nat → Prop) : gKeep A gKM := ⟨fun _ _ _ _ _ => trivial, fun _ _ _ _ _ => trivial⟩
