set_option maxHeartbeats 16000000 in
set_option maxRecDepth 200000 in
/-- THE LAW, from its entry -/
theorem whole_start {p : Program} {e : Env} {s : State} {m : MethodId} {below : List Frame} {meth : Method} {c : Code} (l : Launch) (hflags : l.flags = flags0) {b L : Nat} {xs : Nat → Int32} (hL : L ≤ 2048) (C0 : lw_At p s m meth c b L xs) : W p l e room_1 s m #[Value.ref b] below meth c s.heap [] 0 0 (lw_Z below #[Value.ref b] s) (entryFrame m ([Value.ref b] : List Value).toArray 4) := by
  obtain ⟨hx, hb, hr, hml, hown, hts0, hX, hbl, hlocks, hgv⟩ := id C0
  have hown : s.vm.findClass RL = some m.cls := hown
  have hts : ∀ w ∈ TB, w.before #[Value.ref b] s = true := fun w hw => hts0 w (List.mem_filter.mp hw).1
  have htt : ∀ w ∈ tables_1, w.before #[Value.ref b] s = true := fun w hw => hts0 w (List.mem_append_right _ hw)
  have hA : ∀ q : Nat, s.heap.size ≤ q → (fun q : Nat => s.heap.size ≤ q) q := fun _ h => h
  have hAn : ∀ a : Nat, a < s.heap.size → ¬ (fun q : Nat => s.heap.size ≤ q) a := fun a h => Nat.not_le.mpr h
  have hfl := flat_of_before _ hgv
  obtain ⟨c0, iS0, hKn0⟩ := u_known (C := RX0) (T := TX0) (N := 4) (n := 4) hts in_RX0 (hts _ ins_RX0)
  obtain ⟨c1, iS1, hKn1⟩ := u_known (C := RX1) (T := TX1) (N := 7) (n := 7) hts in_RX1 (hts _ ins_RX1)
  obtain ⟨c2, iS2, hKn2⟩ := u_known (C := RX2) (T := TX2) (N := 3) (n := 3) hts in_RX2 (hts _ ins_RX2)
  obtain ⟨c3, iS3, hKn3⟩ := u_known (C := RX3) (T := TX3) (N := 1) (n := 1) hts in_RX3 (hts _ ins_RX3)
  obtain ⟨c4, iS4, hKn4⟩ := u_known (C := RX4) (T := TX4) (N := 6) (n := 6) hts in_RX4 (hts _ ins_RX4)
  obtain ⟨c5, iS5, hKn5⟩ := u_known (C := RX5) (T := TX5) (N := 3) (n := 3) hts in_RX5 (hts _ ins_RX5)
  obtain ⟨c6, iS6, hKn6⟩ := u_known (C := RX6) (T := TX6) (N := 8) (n := 8) hts in_RX6 (hts _ ins_RX6)
  obtain ⟨c7, iS7, hKn7⟩ := u_known (C := RX7) (T := TX7) (N := 6) (n := 6) hts in_RX7 (hts _ ins_RX7)
  obtain ⟨c8, iS8, hKn8⟩ := u_known (C := RX8) (T := TX8) (N := 12) (n := 12) hts in_RX8 (hts _ ins_RX8)
  obtain ⟨dC, dI, hKc⟩ : ∃ (dC : Nat → ClassId) (dI : Nat → Nat → Nat), ∀ (k : Nat) (q : vw_C), vwCl[k]? = some q → u_Kn s q.1 q.2.1 q.2.2 (dC k) (dI k) := by
    refine ⟨fun k => match k with | 0 => c0 | 1 => c1 | 2 => c2 | 3 => c3 | 4 => c4 | 5 => c5 | 6 => c6 | 7 => c7 | _ => c8, fun k => match k with | 0 => iS0 | 1 => iS1 | 2 => iS2 | 3 => iS3 | 4 => iS4 | 5 => iS5 | 6 => iS6 | 7 => iS7 | _ => iS8, ?_⟩
    intro k q hq
    match k, hq with
    | 0, hq => cases hq; exact hKn0
    | 1, hq => cases hq; exact hKn1
    | 2, hq => cases hq; exact hKn2
    | 3, hq => cases hq; exact hKn3
    | 4, hq => cases hq; exact hKn4
    | 5, hq => cases hq; exact hKn5
    | 6, hq => cases hq; exact hKn6
    | 7, hq => cases hq; exact hKn7
    | 8, hq => cases hq; exact hKn8
    | k + 9, hq => simp [vwCl] at hq
  obtain ⟨cI, hI⟩ := va_known (ty := .int) (fun _ h => by cases h) (hts _ ac_int)
  obtain ⟨cCh, hCh⟩ := va_known (ty := .char) (fun _ h => by cases h) (hts _ ac_char)
  obtain ⟨cZ, hZ⟩ := va_known (ty := .boolean) (fun _ h => by cases h) (hts _ ac_boolean)
  have hover : va_AO "LampLatitudes$Voyage" s := va_AO.of (htt _ (List.mem_of_getElem? (i := 153) (by decide +kernel)))
  obtain ⟨cVo, hVo⟩ := va_knownO (va_AO.use (A := #[Value.ref b]) hover)
  obtain ⟨P, eP⟩ : ∃ P : gP, P = (cI, cCh, cZ, cVo) := ⟨_, rfl⟩
  have hK : va_K (dC, dI) vwCl (tyC P) s := ⟨hKc, fun k q hq => by
    subst eP
    match k, hq with
    | 0, hq => cases hq; exact hI
    | 1, hq => cases hq; exact hCh
    | 2, hq => cases hq; exact hZ
    | 3, hq => cases hq; exact hVo
    | k + 4, hq => simp [tyC] at hq⟩
  obtain ⟨t0, ht0⟩ := zT_of (nm := "FIRST_SETTING") (N := 4) (f := stFS) (by decide) (htt _ (List.mem_of_getElem? (i := 115) (by decide +kernel))) (htt _ (List.mem_of_getElem? (i := 2) (by decide +kernel))) (hfl _ (by decide +kernel)) (hfl _ (by decide +kernel)) (lt_s (lt_s (lt_s (lt_s lt_0 (hfl _ (by decide +kernel))) (hfl _ (by decide +kernel))) (hfl _ (by decide +kernel))) (hfl _ (by decide +kernel))) hAn
  obtain ⟨t1, ht1⟩ := zT_of (nm := "LEAST_SETTING") (N := 4) (f := stLS) (by decide) (htt _ (List.mem_of_getElem? (i := 254) (by decide +kernel))) (htt _ (List.mem_of_getElem? (i := 2) (by decide +kernel))) (hfl _ (by decide +kernel)) (hfl _ (by decide +kernel)) (lt_s (lt_s (lt_s (lt_s lt_0 (hfl _ (by decide +kernel))) (hfl _ (by decide +kernel))) (hfl _ (by decide +kernel))) (hfl _ (by decide +kernel))) hAn
  obtain ⟨t2, ht2⟩ := zT_of (nm := "MOST_SETTING") (N := 4) (f := stMS) (by decide) (htt _ (List.mem_of_getElem? (i := 256) (by decide +kernel))) (htt _ (List.mem_of_getElem? (i := 2) (by decide +kernel))) (hfl _ (by decide +kernel)) (hfl _ (by decide +kernel)) (lt_s (lt_s (lt_s (lt_s lt_0 (hfl _ (by decide +kernel))) (hfl _ (by decide +kernel))) (hfl _ (by decide +kernel))) (hfl _ (by decide +kernel))) hAn
  obtain ⟨t3, ht3⟩ := zT_of (nm := "LEAST_TRAIT") (N := 3) (f := stLT) (by decide) (htt _ (List.mem_of_getElem? (i := 300) (by decide +kernel))) (htt _ (List.mem_of_getElem? (i := 2) (by decide +kernel))) (hfl _ (by decide +kernel)) (hfl _ (by decide +kernel)) (lt_s (lt_s (lt_s lt_0 (hfl _ (by decide +kernel))) (hfl _ (by decide +kernel))) (hfl _ (by decide +kernel))) hAn
  obtain ⟨t4, ht4⟩ := zT_of (nm := "MOST_TRAIT") (N := 3) (f := stMT) (by decide) (htt _ (List.mem_of_getElem? (i := 302) (by decide +kernel))) (htt _ (List.mem_of_getElem? (i := 2) (by decide +kernel))) (hfl _ (by decide +kernel)) (hfl _ (by decide +kernel)) (lt_s (lt_s (lt_s lt_0 (hfl _ (by decide +kernel))) (hfl _ (by decide +kernel))) (hfl _ (by decide +kernel))) hAn
  obtain ⟨tb, etb⟩ : ∃ tb : Nat → Nat, tb = fun j => match j with | 0 => t0 | 1 => t1 | 2 => t2 | 3 => t3 | _ => t4 := ⟨_, rfl⟩
  have hnb : ∀ w ∈ NB, va_Nw w s := fun w hw => by
    have h1 := nb_spec hw
    have h2 := htt w h1.1
    cases w <;> first | exact va_Nw.of rfl h2 | (simp [lw_nest] at h1; done)
  have hKs : gKC tb (fun q : Nat => s.heap.size ≤ q) s := by
    subst etb
    exact ⟨hnb, ht0, ht1, ht2, ht3, ht4⟩
  have hKi : gKI tb (fun q : Nat => s.heap.size ≤ q) s := ⟨hKs, hover⟩
  have hS : va_S (fun q : Nat => s.heap.size ≤ q) s.heap s.heap [] := va_S.rf
  have hP : va_P (dC, dI) vwCl ([] ++ gL 0 (fun _ => 0) (fun _ => .inr (0, []))) s.heap := fun k q h => by simp [gL] at h
  have hD : va_D (fun q : Nat => s.heap.size ≤ q) ([] ++ gL 0 (fun _ => 0) (fun _ => .inr (0, []))) := ⟨fun i j p q h => by simp [gL] at h, fun k q h => by simp [gL] at h⟩
  have hl := lv_entry ([.ref b]) (n := 4) (Nat.le_of_ble_eq_true rfl)
  rw [lg_entry_eq]
  generalize (lg_sl ([.ref b]) ++ List.replicate (4 - (lg_sl ([.ref b])).length) Slot.unset).toArray = ls at hl ⊢
  have hl : lv_has ls 4 [(0, .ref b)] := hl
  refine gl_new (ci := 7) (fs := [.null, .null, .null, .null, .null, .null]) hx hb hts in_RX7 tyX7 tyX7_ok hown cl_RL_7 ins_RX7 ini_RX7 hK hP hD hS hA rfl (lt_s (lt_s (lt_s (lt_s (lt_s (lt_s lt_0 rfl) rfl) rfl) rfl) rfl) rfl) (Nat.le_of_ble_eq_true rfl) (Nat.le_of_ble_eq_true rfl) dL_law_0 (fun q0 H hP hD hS => ?_)
  refine lv_dup hx hb dL_law_3 rfl ?_
  refine gl_init ⟨hx, hb, hml, hown, hts⟩ (gKI_keep tb) (fun _ _ _ h1 h2 => gKI_narrow h1 h2) hKi hK hP hD hS hA [.ref q0] (c_X7_init l dC dI P tb _ q0 H.size) (callB_of 0 hts (gGood co_yX7_init) rfl rfl rfl (hts _ ini_RX7) (hts _ ml_RL_9) ⟨by decide, by decide, by decide +kernel⟩ ⟨Nat.le_of_ble_eq_true rfl, Nat.le_of_ble_eq_true rfl⟩) im_yX7_init rfl hl.1 rfl (Nat.le_of_ble_eq_true rfl) dL_law_4 ⟨Nat.le_of_ble_eq_true rfl, Nat.le_of_ble_eq_true rfl⟩ (fun b1 eb1 H1 locs1 hP1 hD1 hS1 => ?_)
  subst eb1
  rw [gL_cat0] at hP1 hD1
  have hP2 := conv_P hP1
  have hD2 := conv_D hD1
  obtain ⟨adC, hadC⟩ : ∃ adC : Nat → Nat, adC = fun k => b1 (pi k) := ⟨_, rfl⟩
  rw [← hadC] at hP2 hD2
  have e0 : b1 0 = adC 0 := by rw [hadC]; rfl
  rw [e0]
  refine lv_astore_n (lv' := [(1, .ref (adC 0)), (0, .ref b)]) hx hb dL_law_7 rfl hl (by decide) rfl (fun ls hl => ?_)
  refine gl_new (ci := 8) (fs := [.null, .null, .null, .int 0, .null, .null, .null, .int 0, .int 0, .int 0, .int 0, .int 0]) hx hb hts in_RX8 tyX8 tyX8_ok hown cl_RL_10 ins_RX8 ini_RX8 hK hP2 hD2 hS1 hA rfl (lt_s (lt_s (lt_s (lt_s (lt_s (lt_s (lt_s (lt_s (lt_s (lt_s (lt_s (lt_s lt_0 rfl) rfl) rfl) rfl) rfl) rfl) rfl) rfl) rfl) rfl) rfl) rfl) (Nat.le_of_ble_eq_true rfl) (Nat.le_of_ble_eq_true rfl) dL_law_8 (fun q1 H hP hD hS => ?_)
  refine lv_dup hx hb dL_law_11 rfl ?_
  have hlast : (gW 158 (cE P adC) adC cInit ++ [(q1, ((.inr (8, [.null, .null, .null, .int 0, .null, .null, .null, .int 0, .int 0, .int 0, .int 0, .int 0])) : va_E))])[158]? = some (q1, (.inr (8, [.null, .null, .null, .int 0, .null, .null, .null, .int 0, .int 0, .int 0, .int 0, .int 0]))) := by
    rw [List.getElem?_append_right (by simp [gW])]
    simp [gW]
  have hfst : ∀ k, k < 158 → (gW 158 (cE P adC) adC cInit ++ [(q1, ((.inr (8, [.null, .null, .null, .int 0, .null, .null, .null, .int 0, .int 0, .int 0, .int 0, .int 0])) : va_E))])[k]? = some (adC k, cE P adC k (cInit k)) := fun k hk => by
    rw [List.getElem?_append_left (by simp [gW]; exact hk)]
    exact gW_at hk rfl
  have hPs : va_P (dC, dI) vwCl ([] ++ [(q1, ((.inr (8, [.null, .null, .null, .int 0, .null, .null, .null, .int 0, .int 0, .int 0, .int 0, .int 0])) : va_E))]) H := fun k q hq => by
    match k, hq with
    | 0, hq => cases hq; exact hP 158 _ hlast
    | k + 1, hq => simp at hq
  have hDs : va_D (fun q : Nat => s.heap.size ≤ q) ([] ++ [(q1, ((.inr (8, [.null, .null, .null, .int 0, .null, .null, .null, .int 0, .int 0, .int 0, .int 0, .int 0])) : va_E))]) := ⟨fun i j p q h1 h2 h3 => by
    have a1 : i < 1 := (List.getElem?_eq_some_iff.mp h1).1
    have a2 : j < 1 := (List.getElem?_eq_some_iff.mp h2).1
    omega, fun k q hq => by
    match k, hq with
    | 0, hq => cases hq; exact hD.2 158 _ hlast
    | k + 1, hq => simp at hq⟩
  have hsub := va_A_sub (sz := H.size) hDs (fun q h => Nat.le_trans hS.1 h)
  refine va_callv (A0 := fun q : Nat => s.heap.size ≤ q) (H0 := s.heap) (va_runI (b := q1) (As := []) (rest := [.ref q1]) ⟨hx, hb, hml, hown, hts⟩ (c_X8_init l dC dI P q1 H.size) ⟨(callB_of 0 hts (gGood co_yX8_init) rfl rfl rfl (hts _ ini_RX8) (hts _ ml_RL_12) ⟨by decide, by decide, by decide +kernel⟩ ⟨Nat.le_of_ble_eq_true rfl, Nat.le_of_ble_eq_true rfl⟩), rfl, hts _ im_yX8_init⟩ ⟨glPc_blind (fun A => gKM_keep A), fun U hU hW => ⟨rfl, by rw [hU], by rw [hU]; exact hPs, va_K.moved hW.alike hK, hDs.weaken (fun _ _ _ _ => trivial), trivial⟩⟩ rfl rfl hl.1 rfl (lv_room (Nat.le_of_ble_eq_true rfl)) dL_law_12 ⟨Nat.le_of_ble_eq_true rfl, Nat.le_of_ble_eq_true rfl⟩) hS (fun q _ h => hsub q h) hsub (fun adM t H2 locs2 ht hvm hw hB hz hk2 hS2 => ?_)
  obtain ⟨hPM, hDM⟩ := hB
  rw [ht] at hPM
  have hPfst : va_P (dC, dI) vwCl (gW 158 (cE P adC) adC cInit) H := fun k q hq => by
    obtain ⟨h1, rfl⟩ := gW_get hq
    exact hP k _ (hfst k h1)
  have hnot : ∀ k, k < 158 → ¬ va_A ([] ++ [(q1, ((.inr (8, [.null, .null, .null, .int 0, .null, .null, .null, .int 0, .int 0, .int 0, .int 0, .int 0])) : va_E))]) H.size (adC k) := fun k hk z => by
    rcases z with ⟨k2, e2, h2⟩ | h2
    · match k2, h2 with
      | 0, h2 =>
        have e3 : q1 = adC k := by simpa using congrArg (Option.map Prod.fst) h2
        have := hD.1 k 158 _ _ (hfst k hk) hlast e3.symm
        omega
      | k2 + 1, h2 => simp at h2
    · have := (hPfst k _ (gW_at hk rfl)).lt
      exact absurd h2 (Nat.not_le.mpr this)
  have hPC := gW_kept hPfst hk2 hnot
  have hDMa : va_D (fun q : Nat => s.heap.size ≤ q) (gW 7 (mE P adM) adM mInit) := gD_any hDM (fun _ _ z => hsub _ z)
  have hdis : ∀ i k, i < 158 → k < 7 → adC i ≠ adM k := fun i k hi hk z => hnot i hi (by rw [z]; exact hDM.2 k _ (gW_at hk rfl))
  have hAC : ∀ k, k < 158 → s.heap.size ≤ adC k := fun k hk => hD2.2 k _ (gW_at hk rfl)
  have e1 : q1 = adM 0 := hw.symm
  rw [e1]
  refine lv_astore_n (lv' := [(2, .ref (adM 0)), (1, .ref (adC 0)), (0, .ref b)]) hx hb dL_law_15 rfl hl (by decide) rfl (fun ls hl => ?_)
  refine lv_iconst (v := 0) hx hb dL_law_16 (by decide) ?_
  refine lv_istore_n (lv' := [(3, .int 0), (2, .ref (adM 0)), (1, .ref (adC 0)), (0, .ref b)]) hx hb dL_law_17 rfl hl (by decide) rfl (fun ls hl => ?_)
  refine W.widen (k := 165) (n := 2554) (Nat.le_of_ble_eq_true rfl) (Nat.le_of_ble_eq_true rfl) ?_
  exact law_loop hL C0 hK hKs hdis hAC (L + 1) 0 0 (Nat.zero_le L) (by omega) rfl cInit mInit rel_init _ _ hPC hPM hS2 hD2 hDMa ls (lv_sub hl [3, 2, 1, 0] rfl)
