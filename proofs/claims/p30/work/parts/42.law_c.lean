theorem va_known {s : State} {args : Array Value} {ty : FieldType} (hp : ∀ C, ty ≠ .object C) (h : (Cond.arrayClass ty).before args s = true) : ∃ cA : ClassId, ArrOfT s cA ty ∧ va_RA s cA ty := by
  obtain ⟨c, k, comp, h1, h2, h3⟩ := Cond.arrayClass_spec h
  refine ⟨c, fun n z => ⟨fun k h => (by cases h), k, h2, comp, h3⟩, ?_⟩
  cases ty <;> first | exact h1 | exact absurd rfl (hp _)
theorem va_knownO {s : State} {args : Array Value} {C : String} (h : (Cond.arrayOver (.object C)).before args s = true) : ∃ cA : ClassId, ArrOfT s cA (.object C) ∧ va_RA s cA (.object C) := by
  obtain ⟨comp, c, k, h1, h2, h3, h4, h5⟩ := Cond.arrayOver_spec h
  exact ⟨c, fun n z => ⟨fun k h => (by cases h), k, h3, comp, h4⟩, k, comp, h3, h4, h1, h5⟩
theorem zT_of {args : Array Value} {s : State} {nm : String} {N : Nat} {f : Nat → Int32} {A : Nat → Prop} (hN : N < 2 ^ 31) (hl : (Cond.laysStatic "LampLatitudes$Voyage" nm "[I").before args s = true) (hini : (Cond.initialized "LampLatitudes$Voyage").before args s = true) (harr : (Cond.arrayOf (.static "LampLatitudes$Voyage" nm "[I") .int).before args s = true) (hlen : (Cond.eq (.length (.static "LampLatitudes$Voyage" nm "[I")) (.int (Int32.ofNat N))).before args s = true) (hel : ∀ j : Nat, j < N → (Cond.eq (.elem (.static "LampLatitudes$Voyage" nm "[I") (.int (Int32.ofNat j))) (.int (f j))).before args s = true) (hA : ∀ a : Nat, a < s.heap.size → ¬ A a) : ∃ t : Nat, zT nm t N f A s := by
  obtain ⟨t, h1, h2⟩ := va_Tof (f := fun j => .int (f j)) hN harr (va_eqt hlen) (fun j hj => va_eqt (hel j hj)) hA
  exact ⟨t, va_Zref hl hini h1 hA, h2⟩
set_option maxHeartbeats 16000000 in
set_option maxRecDepth 200000 in
/-- THE LAW, from its entry -/
theorem whole_start {p : Program} {e : Env} {s : State} {m : MethodId} {below : List Frame} {meth : Method} {c : Code} (l : Launch) (hflags : l.flags = flags0) {b L : Nat} {xs : Nat → Int32} (hL : L ≤ 260) (C0 : lw_At p s m meth c b L xs) : W p l e room_1 s m #[Value.ref b] below meth c s.heap [] 0 0 (lw_Z below #[Value.ref b] s) (entryFrame m ([Value.ref b] : List Value).toArray 17) := by
  obtain ⟨hx, hb, hr, hml, hown, hts0, hX, hbl, hlocks, hgv⟩ := id C0
  have hown : s.vm.findClass RL = some m.cls := hown
  have hts : ∀ w ∈ TB, w.before #[Value.ref b] s = true := fun w hw => hts0 w (List.mem_filter.mp hw).1
  have htt : ∀ w ∈ tables_1, w.before #[Value.ref b] s = true := fun w hw => hts0 w (List.mem_append_right _ hw)
  have hA : ∀ q : Nat, s.heap.size ≤ q → (fun q : Nat => s.heap.size ≤ q) q := fun _ h => h
  have hAn : ∀ a : Nat, a < s.heap.size → ¬ (fun q : Nat => s.heap.size ≤ q) a := fun a h => Nat.not_le.mpr h
  have hfl := flat_of_before _ hgv
  obtain ⟨c0, iS0, hKn0⟩ := u_known (C := RX0) (T := TX0) (N := 4) (n := 4) hts in_RX0 (hts _ ins_RX0)
  obtain ⟨c1, iS1, hKn1⟩ := u_known (C := RX1) (T := TX1) (N := 7) (n := 7) hts in_RX1 (hts _ ins_RX1)
  obtain ⟨c2, iS2, hKn2⟩ := u_known (C := RX2) (T := TX2) (N := 3) (n := 3) hts in_RX2 (hts _ ins_RX2)
  obtain ⟨c3, iS3, hKn3⟩ := u_known (C := RX3) (T := TX3) (N := 1) (n := 1) hts in_RX3 (hts _ ins_RX3)
  obtain ⟨c4, iS4, hKn4⟩ := u_known (C := RX4) (T := TX4) (N := 6) (n := 6) hts in_RX4 (hts _ ins_RX4)
  obtain ⟨c5, iS5, hKn5⟩ := u_known (C := RX5) (T := TX5) (N := 3) (n := 3) hts in_RX5 (hts _ ins_RX5)
  obtain ⟨c6, iS6, hKn6⟩ := u_known (C := RX6) (T := TX6) (N := 8) (n := 8) hts in_RX6 (hts _ ins_RX6)
  obtain ⟨c7, iS7, hKn7⟩ := u_known (C := RX7) (T := TX7) (N := 6) (n := 6) hts in_RX7 (hts _ ins_RX7)
  obtain ⟨dC, dI, hKc⟩ : ∃ (dC : Nat → ClassId) (dI : Nat → Nat → Nat), ∀ (k : Nat) (q : vw_C), vwCl[k]? = some q → u_Kn s q.1 q.2.1 q.2.2 (dC k) (dI k) := by
    refine ⟨fun k => match k with | 0 => c0 | 1 => c1 | 2 => c2 | 3 => c3 | 4 => c4 | 5 => c5 | 6 => c6 | _ => c7, fun k => match k with | 0 => iS0 | 1 => iS1 | 2 => iS2 | 3 => iS3 | 4 => iS4 | 5 => iS5 | 6 => iS6 | _ => iS7, ?_⟩
    intro k q hq
    match k, hq with
    | 0, hq => cases hq; exact hKn0
    | 1, hq => cases hq; exact hKn1
    | 2, hq => cases hq; exact hKn2
    | 3, hq => cases hq; exact hKn3
    | 4, hq => cases hq; exact hKn4
    | 5, hq => cases hq; exact hKn5
    | 6, hq => cases hq; exact hKn6
    | 7, hq => cases hq; exact hKn7
    | k + 8, hq => simp [vwCl] at hq
  obtain ⟨cI, hI⟩ := va_known (ty := .int) (fun _ h => by cases h) (hts _ ac_int)
  obtain ⟨cCh, hCh⟩ := va_known (ty := .char) (fun _ h => by cases h) (hts _ ac_char)
  obtain ⟨cZ, hZ⟩ := va_known (ty := .boolean) (fun _ h => by cases h) (hts _ ac_boolean)
  have hover : va_AO "LampLatitudes$Voyage" s := va_AO.of (htt _ (List.mem_of_getElem? (i := 151) (by decide +kernel)))
  obtain ⟨cVo, hVo⟩ := va_knownO (va_AO.use (A := #[Value.ref b]) hover)
  obtain ⟨P, eP⟩ : ∃ P : gP, P = (cI, cCh, cZ, cVo) := ⟨_, rfl⟩
  have hK : va_K (dC, dI) vwCl (tyC P) s := ⟨hKc, fun k q hq => by
    subst eP
    match k, hq with
    | 0, hq => cases hq; exact hI
    | 1, hq => cases hq; exact hCh
    | 2, hq => cases hq; exact hZ
    | 3, hq => cases hq; exact hVo
    | k + 4, hq => simp [tyC] at hq⟩
  obtain ⟨t0, ht0⟩ := zT_of (nm := "FIRST_SETTING") (N := 4) (f := stFS) (by decide) (htt _ (List.mem_of_getElem? (i := 113) (by decide +kernel))) (htt _ (List.mem_of_getElem? (i := 2) (by decide +kernel))) (hfl _ (by decide +kernel)) (hfl _ (by decide +kernel)) (lt_s (lt_s (lt_s (lt_s lt_0 (hfl _ (by decide +kernel))) (hfl _ (by decide +kernel))) (hfl _ (by decide +kernel))) (hfl _ (by decide +kernel))) hAn
  obtain ⟨t1, ht1⟩ := zT_of (nm := "LEAST_SETTING") (N := 4) (f := stLS) (by decide) (htt _ (List.mem_of_getElem? (i := 438) (by decide +kernel))) (htt _ (List.mem_of_getElem? (i := 2) (by decide +kernel))) (hfl _ (by decide +kernel)) (hfl _ (by decide +kernel)) (lt_s (lt_s (lt_s (lt_s lt_0 (hfl _ (by decide +kernel))) (hfl _ (by decide +kernel))) (hfl _ (by decide +kernel))) (hfl _ (by decide +kernel))) hAn
  obtain ⟨t2, ht2⟩ := zT_of (nm := "MOST_SETTING") (N := 4) (f := stMS) (by decide) (htt _ (List.mem_of_getElem? (i := 440) (by decide +kernel))) (htt _ (List.mem_of_getElem? (i := 2) (by decide +kernel))) (hfl _ (by decide +kernel)) (hfl _ (by decide +kernel)) (lt_s (lt_s (lt_s (lt_s lt_0 (hfl _ (by decide +kernel))) (hfl _ (by decide +kernel))) (hfl _ (by decide +kernel))) (hfl _ (by decide +kernel))) hAn
  obtain ⟨t3, ht3⟩ := zT_of (nm := "LEAST_TRAIT") (N := 3) (f := stLT) (by decide) (htt _ (List.mem_of_getElem? (i := 426) (by decide +kernel))) (htt _ (List.mem_of_getElem? (i := 2) (by decide +kernel))) (hfl _ (by decide +kernel)) (hfl _ (by decide +kernel)) (lt_s (lt_s (lt_s lt_0 (hfl _ (by decide +kernel))) (hfl _ (by decide +kernel))) (hfl _ (by decide +kernel))) hAn
  obtain ⟨t4, ht4⟩ := zT_of (nm := "MOST_TRAIT") (N := 3) (f := stMT) (by decide) (htt _ (List.mem_of_getElem? (i := 428) (by decide +kernel))) (htt _ (List.mem_of_getElem? (i := 2) (by decide +kernel))) (hfl _ (by decide +kernel)) (hfl _ (by decide +kernel)) (lt_s (lt_s (lt_s lt_0 (hfl _ (by decide +kernel))) (hfl _ (by decide +kernel))) (hfl _ (by decide +kernel))) hAn
  obtain ⟨tb, etb⟩ : ∃ tb : Nat → Nat, tb = fun j => match j with | 0 => t0 | 1 => t1 | 2 => t2 | 3 => t3 | _ => t4 := ⟨_, rfl⟩
  have hnb : ∀ w ∈ NB, va_Nw w s := fun w hw => by
    have h1 := nb_spec hw
    have h2 := htt w h1.1
    cases w <;> first | exact va_Nw.of rfl h2 | (simp [lw_nest] at h1; done)
  have hKs : gKC tb (fun q : Nat => s.heap.size ≤ q) s := by
    subst etb
    exact ⟨hnb, ht0, ht1, ht2, ht3, ht4⟩
  have hKi : gKI tb (fun q : Nat => s.heap.size ≤ q) s := ⟨hKs, hover⟩
  have hS : va_S (fun q : Nat => s.heap.size ≤ q) s.heap s.heap [] := va_S.rf
  have hP : va_P (dC, dI) vwCl ([] ++ gL 0 (fun _ => 0) (fun _ => .inr (0, []))) s.heap := fun k q h => by simp [gL] at h
  have hD : va_D (fun q : Nat => s.heap.size ≤ q) ([] ++ gL 0 (fun _ => 0) (fun _ => .inr (0, []))) := ⟨fun i j p q h => by simp [gL] at h, fun k q h => by simp [gL] at h⟩
  have hl := lv_entry ([.ref b]) (n := 17) (Nat.le_of_ble_eq_true rfl)
  rw [lg_entry_eq]
  generalize (lg_sl ([.ref b]) ++ List.replicate (17 - (lg_sl ([.ref b])).length) Slot.unset).toArray = ls at hl ⊢
  have hl : lv_has ls 17 [(0, .ref b)] := hl
  refine gl_new (ci := 7) (fs := [.null, .null, .null, .null, .null, .null]) hx hb hts in_RX7 tyX7 tyX7_ok hown cl_RL_38 ins_RX7 ini_RX7 hK hP hD hS hA rfl (lt_s (lt_s (lt_s (lt_s (lt_s (lt_s lt_0 rfl) rfl) rfl) rfl) rfl) rfl) (Nat.le_of_ble_eq_true rfl) (Nat.le_of_ble_eq_true rfl) dL_law_0 (fun q0 H hP hD hS => ?_)
  refine lv_dup hx hb dL_law_3 rfl ?_
  refine gl_init ⟨hx, hb, hml, hown, hts⟩ (gKI_keep tb) (fun _ _ _ h1 h2 => gKI_narrow h1 h2) hKi hK hP hD hS hA [.ref q0] (c_X7_init l dC dI P tb _ q0 H.size) (callB_of 0 hts (gGood co_yX7_init) rfl rfl rfl (hts _ ini_RX7) (hts _ ml_RL_127) ⟨by decide, by decide, by decide +kernel⟩ ⟨Nat.le_of_ble_eq_true rfl, Nat.le_of_ble_eq_true rfl⟩) im_yX7_init rfl hl.1 rfl (Nat.le_of_ble_eq_true rfl) dL_law_4 ⟨Nat.le_of_ble_eq_true rfl, Nat.le_of_ble_eq_true rfl⟩ (fun b1 eb1 H1 locs1 hP1 hD1 hS1 => ?_)
  subst eb1
  rw [gL_cat0] at hP1 hD1
  have hP2 := conv_P hP1
  have hD2 := conv_D hD1
  obtain ⟨adC, hadC⟩ : ∃ adC : Nat → Nat, adC = fun k => b1 (pi k) := ⟨_, rfl⟩
  rw [← hadC] at hP2 hD2
  have e0 : b1 0 = adC 0 := by rw [hadC]; rfl
  rw [e0]
  have hP3 : va_P (dC, dI) vwCl ([] ++ gL 158 adC (fun k => cE P adC k (cInit k))) H1 := hP2
  have hD3 : va_D (fun q : Nat => s.heap.size ≤ q) ([] ++ gL 158 adC (fun k => cE P adC k (cInit k))) := hD2
  refine lv_astore_n (lv' := [(1, .ref (adC 0)), (0, .ref b)]) hx hb dL_law_7 rfl hl (by decide) rfl (fun ls hl => ?_)
  refine lv_bipush (v := 14) hx hb dL_law_8 (by decide) ?_
  refine gl_newa (atype := .int) hx hb hts ac_int hK hP3 hD3 hS1 hA 0 rfl rfl 14 (by decide) (by decide) (Nat.le_of_ble_eq_true rfl) (Nat.le_of_ble_eq_true rfl) (Nat.le_of_ble_eq_true rfl) dL_law_10 (fun q1 H hP hD hS => ?_)
  refine lv_astore_n (lv' := [(2, .ref q1), (1, .ref (adC 0)), (0, .ref b)]) hx hb dL_law_12 rfl hl (by decide) rfl (fun ls hl => ?_)
  refine lv_bipush (v := 9) hx hb dL_law_13 (by decide) ?_
  refine gl_newa (atype := .int) hx hb hts ac_int hK hP hD hS hA 0 rfl rfl 9 (by decide) (by decide) (Nat.le_of_ble_eq_true rfl) (Nat.le_of_ble_eq_true rfl) (Nat.le_of_ble_eq_true rfl) dL_law_15 (fun q2 H hP hD hS => ?_)
  refine lv_astore_n (lv' := [(3, .ref q2), (2, .ref q1), (1, .ref (adC 0)), (0, .ref b)]) hx hb dL_law_17 rfl hl (by decide) rfl (fun ls hl => ?_)
  refine lv_bipush (v := 49) hx hb dL_law_18 (by decide) ?_
  refine gl_newa (atype := .int) hx hb hts ac_int hK hP hD hS hA 0 rfl rfl 49 (by decide) (by decide) (Nat.le_of_ble_eq_true rfl) (Nat.le_of_ble_eq_true rfl) (Nat.le_of_ble_eq_true rfl) dL_law_20 (fun q3 H hP hD hS => ?_)
  refine lv_astore (lv' := [(4, .ref q3), (3, .ref q2), (2, .ref q1), (1, .ref (adC 0)), (0, .ref b)]) hx hb dL_law_22 hl (by decide) rfl (fun ls hl => ?_)
  refine lv_bipush (v := 32) hx hb dL_law_24 (by decide) ?_
  refine gl_newa (atype := .int) hx hb hts ac_int hK hP hD hS hA 0 rfl rfl 32 (by decide) (by decide) (Nat.le_of_ble_eq_true rfl) (Nat.le_of_ble_eq_true rfl) (Nat.le_of_ble_eq_true rfl) dL_law_26 (fun q4 H hP hD hS => ?_)
  refine lv_astore (lv' := [(5, .ref q4), (4, .ref q3), (3, .ref q2), (2, .ref q1), (1, .ref (adC 0)), (0, .ref b)]) hx hb dL_law_28 hl (by decide) rfl (fun ls hl => ?_)
  obtain ⟨ad, had⟩ : ∃ ad : Nat → Nat, ad = adL adC q1 q2 q3 q4 := ⟨_, rfl⟩
  have hPL := convL_P hP
  have hDL := convL_D (P := P) hD
  rw [← had] at hPL hDL
  have a0 : adC 0 = ad 0 := by rw [had]; rfl
  have a1 : q1 = ad 158 := by rw [had]; rfl
  have a2 : q2 = ad 159 := by rw [had]; rfl
  have a3 : q3 = ad 160 := by rw [had]; rfl
  have a4 : q4 = ad 161 := by rw [had]; rfl
  rw [a0, a1, a2, a3, a4] at hl
  have hlw : ∀ k, k < 162 → s.heap.size ≤ ad k := fun k hk => hDL.2 k _ (gW_at hk rfl)
  refine W.widen (k := 162) (n := 1374) (Nat.le_of_ble_eq_true rfl) (Nat.le_of_ble_eq_true rfl) ?_
  exact c_L_law l dC dI P ad tb hx hb hr hlocks hml hown hts hK hKs hL hX hbl (Nat.not_le.mpr hbl) hKs hlw lInit (law_holds _) H _ ls hPL hDL hS hl
