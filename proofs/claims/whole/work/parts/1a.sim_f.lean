/-! The end of a night, both sides. -/
theorem writeC {b nt : Nat} {hc : Hp} {v : Nat → Nat → Int32} {x2 x3 x4 : Int32} (hnt : nt < 999) {Q : Hp → Prop} (q : Q (cv b hc (up1 v 14 (upd (upd (upd (upd (v 14) (nt % 8 * 4) (nI nt)) (nt % 8 * 4 + 1) x2) (nt % 8 * 4 + 2) x3) (nt % 8 * 4 + 3) x4)))) : F_X3_write b (nI nt) x2 x3 x4 (cv b hc v) Q := by
  intro x e
  have ex : x = nI (nt % 8 * 4) := by
    rw [e, show (8 : Int32) = nI 8 from rfl, pk_rem (by omega) (by decide) (by decide), show (4 : Int32) = nI 4 from rfl, pk_mul]
  have e1 : nI (nt % 8 * 4) + 1 = nI (nt % 8 * 4 + 1) := nI_add _ 1
  have e2 : nI (nt % 8 * 4) + 2 = nI (nt % 8 * 4 + 2) := nI_add _ 2
  have e3 : nI (nt % 8 * 4) + 3 = nI (nt % 8 * 4 + 3) := nI_add _ 3
  simp only [ex, e1, e2, e3, cv_14, cu_14, forall_eq, up1_s, up1_up1, clN (show nt % 8 * 4 < 2 ^ 31 by omega), clN (show nt % 8 * 4 + 1 < 2 ^ 31 by omega), clN (show nt % 8 * 4 + 2 < 2 ^ 31 by omega), clN (show nt % 8 * 4 + 3 < 2 ^ 31 by omega)]
  exact ⟨vpn (by omega) (by decide), vpn (by omega) (by decide), vpn (by omega) (by decide), vpn (by omega) (by decide), q⟩
def bel (r : Nat → Int32) : Int32 := if r 5 = 1 then r 6 + 5400 else -6
theorem belM {h : Hp} {Q : Int32 → Hp → Prop} (q : Q (bel (h 1)) h) : F_X8_belief h Q := by
  unfold bel at q
  exact bc _ (fun h1 => by rw [if_pos h1] at q; exact q) (fun h1 => by rw [if_neg h1] at q; exact q)
theorem belC {v : Nat → Nat → Int32} {r : Nat → Int32} (h : v 12 1 = (if r 5 = 1 then r 6 else 9999)) (h6 : rng (r 6) (-5400) 5400) : (if v 12 1 = 9999 then (-6 : Int32) else v 12 1 + 5400) = bel r := by
  unfold bel
  rw [h]
  by_cases h5 : r 5 = 1
  · rw [if_pos h5, if_pos h5, if_neg (ne_9999 h6)]
  · rw [if_neg h5, if_neg h5, if_pos rfl]
theorem eV_o {i o : Nat} {v : Nat → Nat → Int32} (h : o ≠ 8 ∧ o ≠ 10 ∧ o ≠ 11) : eV i v o = v o := by
  funext j
  unfold eV
  rw [if_neg h.2.1, if_neg h.2.2, if_neg h.1]
theorem shl_lo {r : Nat → Int32} {k : Nat} (h : k ≤ 90) : shl 3 r k = r k := by
  unfold shl
  rw [if_neg (by omega)]
theorem shl_hi {r : Nat → Int32} {k : Nat} (h : 90 < k) (h2 : k < 119) : shl 3 r k = r (k - 4) := by
  unfold shl
  rw [if_pos (by omega)]
theorem rng0 {lo hi : Int} (h : lo ≤ 0) (h2 : 0 ≤ hi) : rng 0 lo hi := by
  unfold rng
  rw [show (0 : Int32).toInt = 0 by decide]
  exact ⟨h, h2⟩
/-- the reference's row before the navigators' loop -/
def eR (nt : Nat) (r : Nat → Int32) : Nat → Int32 := upd (upd (upd (upd (upd (shl 3 r) 87 (nI nt)) 88 (r 4 + 5400)) 89 (bel r)) 90 (r 12)) 14 (nI (min (nt + 1) 8))
theorem eR_lo {nt k : Nat} {r : Nat → Int32} (h : k < 87) (h2 : k ≠ 14) : eR nt r k = r k := by
  unfold eR
  rw [upd_n' h2, upd_n' (by omega), upd_n' (by omega), upd_n' (by omega), upd_n' (by omega), shl_lo (by omega)]
def eW (nt : Nat) (v : Nat → Nat → Int32) (r : Nat → Int32) : Nat → Nat → Int32 := up1 v 14 (upd (upd (upd (upd (v 14) (nt % 8 * 4) (nI nt)) (nt % 8 * 4 + 1) (r 4 + 5400)) (nt % 8 * 4 + 2) (bel r)) (nt % 8 * 4 + 3) (r 12))
theorem min_nI {nt : Nat} (h : nt ≤ 999) : (8 ≤ nt → nI (min nt 8) + 0 = nI (min (nt + 1) 8)) ∧ (¬ 8 ≤ nt → nI (min nt 8) + 1 = nI (min (nt + 1) 8)) := by
  refine ⟨fun q => ?_, fun q => ?_⟩
  · rw [Int32.add_zero, show min nt 8 = min (nt + 1) 8 by omega]
  · rw [nI_1, show min nt 8 + 1 = min (nt + 1) 8 by omega]
theorem le8_nI {nt : Nat} : (8 : Int32) ≤ nI (min nt 8) ↔ 8 ≤ nt := by
  rw [show (8 : Int32) = nI 8 from rfl, nI_leI (by decide) (by omega)]
  omega
theorem endsC_run {b nt : Nat} {hc : Hp} {v : Nat → Nat → Int32} {r : Nat → Int32} (hV : RVv v r) (hI : IV r) (hnt : nt < 999) (e9 : r 9 = nI nt) {Q : Int32 → Hp → Prop} (q : Q (nI (nt + 1)) (cv b hc (up1 (eV 7 (eW nt v r)) 0 (upd (upd (v 0) 7 0) 5 (nI (nt + 1)))))) : F_X6_endNight b (cv b hc v) Q := by
  obtain ⟨m5, m6, m7⟩ := hV.2.2.2.2.1
  obtain ⟨c0, c1, c2, c3⟩ := hV.2.2.2.1
  have hb := belC c1 hI.2.1.2.2.1
  unfold F_X6_endNight
  simp only [told_iff, cv_12, cv_0, m5, m7, e9, c0, hb]
  refine bt' ?_ (writeC hnt ?_)
  · rw [show (999 : Int32) = nI 999 from rfl, nI_ltI (by omega) (by decide)]; exact hnt
  · have hz := endsC (b := b) (hc := hc) (v := eW nt v r) (Q := fun h_7 : Hp => ∀ h_8 : Hp, h_8 = up1 h_7 b (upd (h_7 b) 7 0) → ∀ h_9 : Hp, h_9 = up1 h_8 b (upd (h_8 b) 5 ((h_8 b 5) + 1)) → Q (h_9 b 5) h_9) (by
      have e0 : eV 7 (eW nt v r) 0 = v 0 := (eV_o (by decide)).trans (up1_n _ _ (by decide))
      simp only [forall_eq, cv_0, cu_0, up1_s, up1_up1, e0, upd_s', upd_n' (show (5 : Nat) ≠ 7 by decide), m5, e9, nI_1]
      exact q) 7 0 rfl
    rw [eV_0] at hz
    exact ⟨8, hz⟩
theorem endsM_run {nt : Nat} {hm : Hp} {r r2 : Nat → Int32} (hnt : nt < 999) (e9 : r 9 = nI nt) (e14 : r 14 = nI (min nt 8)) {Q : Int32 → Hp → Prop} (h2 : endQ Q (up1 hm 1 r2) → F_X8_ends_L135 8 (nI 0) (up1 hm 1 (eR nt r)) Q) (e29 : r2 9 = nI nt) (q : Q (nI (nt + 1)) (up1 hm 1 (upd (upd r2 12 0) 9 (nI (nt + 1))))) : F_X8_ends (up1 hm 1 r) Q := by
  have hz : F_X8_ends_L135 8 (nI 0) (up1 hm 1 (eR nt r)) Q := by
    refine h2 ?_
    unfold endQ
    simp only [forall_eq, up1_1, up1_up1, upd_s', upd_n' (show (9 : Nat) ≠ 12 by decide), e29, nI_1]
    exact q
  have s4 : shl 3 r 4 = r 4 := shl_lo (by decide)
  have s5 : shl 3 r 5 = r 5 := shl_lo (by decide)
  have s6 : shl 3 r 6 = r 6 := shl_lo (by decide)
  have s9 : shl 3 r 9 = r 9 := shl_lo (by decide)
  have s12 : shl 3 r 12 = r 12 := shl_lo (by decide)
  have s14 : shl 3 r 14 = r 14 := shl_lo (by decide)
  have hz1 : F_X8_ends_L19 1 (nI 3) (up1 hm 1 (shl 3 r)) Q := by
    refine bt' (by decide) ?_
    simp only [forall_eq, up1_1, up1_up1, upd_n' (show (4 : Nat) ≠ 87 by decide), s4, s9, e9]
    refine belM ?_
    have hbel : bel (upd (upd (shl 3 r) 87 (nI nt)) 88 (r 4 + 5400)) = bel r := by
      unfold bel
      rw [upd_n' (by decide), upd_n' (by decide), upd_n' (by decide), upd_n' (by decide), s5, s6]
    simp only [forall_eq, up1_1, up1_up1, hbel, upd_n' (show (12 : Nat) ≠ 87 by decide), upd_n' (show (12 : Nat) ≠ 88 by decide), upd_n' (show (12 : Nat) ≠ 89 by decide), upd_n' (show (14 : Nat) ≠ 87 by decide), upd_n' (show (14 : Nat) ≠ 88 by decide), upd_n' (show (14 : Nat) ≠ 89 by decide), upd_n' (show (14 : Nat) ≠ 90 by decide), s12, s14, e14]
    refine bc _ (fun h8 => ⟨8, ?_⟩) (fun h8 => ⟨8, ?_⟩)
    · rw [(min_nI (by omega)).1 (le8_nI.mp h8)]; exact hz
    · rw [(min_nI (by omega)).2 (fun z => h8 (le8_nI.mpr z))]; exact hz
  have hz2 := endsM1 hz1 28 (by decide)
  rw [shl_31] at hz2
  refine bf' ?_ ⟨29, hz2⟩
  rw [up1_1, e9, show (999 : Int32) = nI 999 from rfl, nI_eq (by omega) (by decide)]
  omega
theorem sim_ends : SimV (fun b h Q => F_X6_endNight b h Q) (fun h Q => F_X8_ends h Q) := by
  intro b hc v hm r hV hI
  obtain ⟨nt, hnt, e9, e14, hlog⟩ := hV.2.2.2.2.2
  obtain ⟨m5, m6, m7⟩ := hV.2.2.2.2.1
  by_cases h999 : nt = 999
  · refine ⟨-5, v, r, fun Q q => bf' ?_ q, fun Q q => bt' ?_ q, hV, hI, fun _ => ⟨rfl, rfl⟩⟩
    · rw [cv_0, m5, e9, h999]; decide
    · rw [up1_1, e9, h999]; rfl
  · have hnt2 : nt < 999 := by omega
    obtain ⟨r2, hr2, hQ⟩ := endsM2 (hm := hm) (r := eR nt r) 7 0 (eR nt r) rfl ⟨fun _ _ => rfl, fun n f _ _ => by rw [if_neg (by omega)]⟩
    have e29 : r2 9 = nI nt := by rw [hr2.1 9 (by decide), eR_lo (by decide) (by decide)]; exact e9
    have hv3 : ∀ o, o ≠ 0 → o ≠ 8 → o ≠ 10 → o ≠ 11 → o ≠ 14 → up1 (eV 7 (eW nt v r)) 0 (upd (upd (v 0) 7 0) 5 (nI (nt + 1))) o = v o := fun o h0 h8 h10 h11 h14 => by rw [up1_n _ _ h0, eV_o ⟨h8, h10, h11⟩]; exact up1_n _ _ h14
    have hr3 : ∀ k, k < 31 → k ≠ 9 → k ≠ 12 → k ≠ 14 → upd (upd r2 12 0) 9 (nI (nt + 1)) k = r k := fun k h1 h2 h3 h4 => by rw [upd_n' h2, upd_n' h3, hr2.1 k (Or.inl h1), eR_lo (by omega) h4]
    have hnv1 : ∀ n f, n < 7 → f < 8 → nv (eR nt r) n f = nv r n f := fun n f hn hf => eR_lo (by omega) (by omega)
    have hnv : ∀ n f, n < 7 → f < 8 → nv (upd (upd r2 12 0) 9 (nI (nt + 1))) n f = if (f = 5 ∨ f = 6 ∨ ((f = 3 ∨ f = 7) ∧ nv r n 7 = 2)) then 0 else nv r n f := fun n f hn hf => by
      rw [upd_nv (by decide) hf hn, upd_nv (by decide) hf hn, hr2.2 n f hn hf, hnv1 n f hn hf, hnv1 n 7 hn (by decide)]
      simp only [hn, true_and]
    refine ⟨nI (nt + 1), up1 (eV 7 (eW nt v r)) 0 (upd (upd (v 0) 7 0) 5 (nI (nt + 1))), upd (upd r2 12 0) 9 (nI (nt + 1)), fun Q q => endsC_run hV hI hnt2 e9 q, fun Q q => endsM_run hnt2 e9 e14 (hQ Q) e29 q, ?_, ?_, fun h => absurd h (nI_pos (by omega))⟩
    · refine ⟨rvSet_c (fun j hj => by rw [hv3 1 (by decide) (by decide) (by decide) (by decide) (by decide)]) (fun k hk => hr3 k (by omega) (by omega) (by omega) (by omega)) hV.1, rvSky_c (fun j hj => by rw [hv3 2 (by decide) (by decide) (by decide) (by decide) (by decide)]) (fun j hj => by rw [hv3 3 (by decide) (by decide) (by decide) (by decide) (by decide)]) (hr3 13 (by decide) (by decide) (by decide) (by decide)) (fun k h1 h2 => hr3 k (by omega) (by omega) (by omega) (by omega)) hV.2.1, fun n hn => ?_, rvCrs_c (fun j hj => by rw [hv3 12 (by decide) (by decide) (by decide) (by decide) (by decide)]) (fun k h1 h2 => hr3 k (by omega) (by omega) (by omega) (by omega)) hV.2.2.2.1, ?_, ?_⟩
      · obtain ⟨a5, a6, a7, a8, a9, a10, a11⟩ := hV.2.2.1 n hn
        have w : ∀ o, o ≠ 14 → eW nt v r o = v o := fun o ho => up1_n _ _ ho
        refine ⟨?_, ?_, ?_, ?_, ?_, ?_, ?_⟩
        · rw [hv3 5 (by decide) (by decide) (by decide) (by decide) (by decide), hnv n 0 hn (by decide), a5]; rfl
        · rw [hv3 6 (by decide) (by decide) (by decide) (by decide) (by decide), hnv n 1 hn (by decide), a6]; rfl
        · rw [hv3 7 (by decide) (by decide) (by decide) (by decide) (by decide), hnv n 2 hn (by decide), a7]; rfl
        · rw [up1_n _ _ (by decide), hnv n 3 hn (by decide)]
          unfold eV
          simp [w, a8, a11, hn]
        · rw [hv3 9 (by decide) (by decide) (by decide) (by decide) (by decide), hnv n 4 hn (by decide), a9]; rfl
        · rw [up1_n _ _ (by decide), hnv n 5 hn (by decide)]
          unfold eV
          simp [hn]
        · rw [up1_n _ _ (by decide), hnv n 7 hn (by decide)]
          unfold eV
          simp [w, a11, hn]
      · refine ⟨?_, ?_, ?_⟩
        · rw [up1_s, upd_s', upd_s']
        · rw [up1_s, upd_n' (by decide), upd_n' (by decide), hr3 11 (by decide) (by decide) (by decide) (by decide)]; exact m6
        · rw [up1_s, upd_n' (by decide), upd_s', upd_n' (by decide), upd_s']
      · have hhi : ∀ k, 87 ≤ k → upd (upd r2 12 0) 9 (nI (nt + 1)) k = eR nt r k := fun k hk => by rw [upd_n' (by omega), upd_n' (by omega), hr2.1 k (Or.inr hk)]
        refine ⟨nt + 1, by omega, upd_s', ?_, fun j k hj hk => ?_⟩
        · rw [upd_n' (by decide), upd_n' (by decide), hr2.1 14 (by decide)]
          unfold eR
          rw [upd_s']
        · have ew : up1 (eV 7 (eW nt v r)) 0 (upd (upd (v 0) 7 0) 5 (nI (nt + 1))) 14 = eW nt v r 14 := by rw [up1_n _ _ (by decide), eV_o (by decide)]
          rw [ew, hhi _ (by omega)]
          unfold eW eR
          rw [up1_s, upd_n' (show 87 + 4 * j + k ≠ 14 by omega)]
          by_cases hj0 : j = 0
          · subst hj0
            rw [show 4 * ((nt + 1 - 1 - 0) % 8) + k = nt % 8 * 4 + k by omega]
            rcases (show k = 0 ∨ k = 1 ∨ k = 2 ∨ k = 3 by omega) with rfl | rfl | rfl | rfl
            · rw [upd_n' (by omega), upd_n' (by omega), upd_n' (by omega)]
              rw [show nt % 8 * 4 + 0 = nt % 8 * 4 from rfl, upd_s', upd_n' (by decide), upd_n' (by decide), upd_n' (by decide)]
              exact upd_s'.symm
            · rw [upd_n' (by omega), upd_n' (by omega), upd_s', upd_n' (by decide), upd_n' (by decide)]
              exact upd_s'.symm
            · rw [upd_n' (by omega), upd_s', upd_n' (by decide)]
              exact upd_s'.symm
            · rw [upd_s']
              exact upd_s'.symm
          · rw [upd_n' (by omega), upd_n' (by omega), upd_n' (by omega), upd_n' (by omega), upd_n' (by omega), upd_n' (by omega), upd_n' (by omega), upd_n' (by omega), shl_hi (by omega) (by omega)]
            have hl := hlog (j - 1) k (by omega) hk
            rw [show 4 * ((nt + 1 - 1 - j) % 8) + k = 4 * ((nt - 1 - (j - 1)) % 8) + k by omega, hl, show 87 + 4 * (j - 1) + k = 87 + 4 * j + k - 4 by omega]
    · obtain ⟨iset, icrs, isky, inav, isum⟩ := hI
      refine ⟨ivSet_c (fun k hk => hr3 k (by omega) (by omega) (by omega) (by omega)) iset, ivCrs_c (fun k h1 h2 => hr3 k (by omega) (by omega) (by omega) (by omega)) icrs, ivSky_c (hr3 13 (by decide) (by decide) (by decide) (by decide)) (fun k h1 h2 => hr3 k (by omega) (by omega) (by omega) (by omega)) isky, fun n hn => ?_, ?_⟩
      · obtain ⟨j0, j1, j2, j5, j6, j7⟩ := inav n hn
        unfold ivNav
        rw [hnv n 0 hn (by decide), hnv n 1 hn (by decide), hnv n 2 hn (by decide), hnv n 5 hn (by decide), hnv n 6 hn (by decide), hnv n 7 hn (by decide)]
        refine ⟨j0, j1, j2, rng0 (by decide) (by decide), rng0 (by decide) (by decide), ?_⟩
        split
        · exact rng0 (by decide) (by decide)
        · exact j7
      · exact Eq.trans (b := sm7 r) (by rw [hr3 10 (by decide) (by decide) (by decide) (by decide)]; exact isum) (sm7_c (fun n hn => hnv n 4 hn (by decide))).symm
