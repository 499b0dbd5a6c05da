/-! The end of a night: the law's way. -/
def lsh (i : Nat) (l : Nat → Int32) : Nat → Int32 := fun k => if i < k ∧ k < 32 then l (k - 4) else l k
theorem lsh_step {i : Nat} {l : Nat → Int32} (h : 4 ≤ i) (h2 : i ≤ 31) : upd (lsh i l) i (lsh i l (i - 4)) = lsh (i - 1) l := by
  funext k
  by_cases h1 : k = i
  · subst h1
    rw [upd_s']
    unfold lsh
    rw [if_neg (by omega), if_pos (by omega)]
  · rw [upd_n' h1]
    unfold lsh
    by_cases h3 : i < k ∧ k < 32
    · rw [if_pos h3, if_pos (by omega)]
    · rw [if_neg h3, if_neg (by omega)]
theorem lsh_31 (l : Nat → Int32) : lsh 31 l = l := by
  funext k
  unfold lsh
  rw [if_neg (by omega)]
theorem ra_sh {q d v l : Nat → Int32} : rwA q d v (lsh 3 l) = shl 3 (rwA q d v l) := by
  have hlo : ∀ k, k ≤ 90 → shl 3 (rwA q d v l) k = rwA q d v l k := fun k hk => shl_lo hk
  refine ra_ext (fun k hk => by rw [hlo _ (by omega), qz_q hk]) (by rw [hlo _ (by omega), qz_5]) (by rw [hlo _ (by omega), qz_6]) (fun k h1 h2 => by rw [hlo _ (by omega), qz_p h1 h2]) (fun s hs => by rw [hlo _ (by omega), qz_d hs]) (fun s hs => by rw [hlo _ (by omega), qz_c hs]) (fun m e hm he => by rw [hlo _ (by omega), qz_v hm he]) (fun m hm => by rw [hlo _ (by omega), qz_v5 hm]) (fun m hm => by rw [hlo _ (by omega), qz_v6 hm]) (fun m hm => by rw [hlo _ (by omega), qz_v7 hm]) (fun k => ?_)
  unfold shl lsh
  by_cases h : 3 < k ∧ k < 32
  · rw [if_pos (by omega), if_pos h, show 87 + k - 4 = 87 + (k - 4) by omega, qz_l]
  · rw [if_neg (by omega), if_neg h, qz_l]
theorem endsL1 {g : Hp} {Q : Int32 → Hp → Prop} (q : F_L_ends_L3 1 (nI 3) (up1 g 161 (lsh 3 (g 161))) Q) : ∀ m : Nat, m ≤ 28 → F_L_ends_L3 (m + 1) (nI (m + 3)) (up1 g 161 (lsh (m + 3) (g 161))) Q
  | 0, _ => q
  | m + 1, hm2 => by
    have ej : nI (m + 1 + 3) - 4 = nI (m + 1 + 3 - 4) := pk_sub (b := 4) (show 4 ≤ m + 1 + 3 by omega)
    refine bf' ?_ ?_
    · rw [show (3 : Int32) = nI 3 from rfl, nI_leI (by omega) (by decide)]; omega
    · rw [ej]
      refine ⟨vpn (by omega) (by decide), vpn (by omega) (by decide), fun h e x ex => ?_⟩
      rw [clN (by omega), clN (by omega), up1_s, up1_up1, lsh_step (by omega) (by omega)] at e
      rw [ex, e, show m + 1 + 3 = m + 3 + 1 by omega, pk_m1]
      exact endsL1 q m (by omega)
def endQL (Q : Int32 → Hp → Prop) (g : Hp) : Prop := ∀ h : Hp, h = up1 g 158 (upd (g 158) 8 ((g 158 8) + (1 : Int32))) → Q (h 158 8) h
theorem endsL2 {r0 : Nat → Int32} : ∀ (m i : Nat) (g : Hp), i + m = 7 → eP i r0 (lrow g) → ∃ g2 : Hp, eP 7 r0 (lrow g2) ∧ (∀ c, c ≠ 160 → g2 c = g c) ∧ ∀ Q : Int32 → Hp → Prop, endQL Q g2 → F_L_ends_L98 (m + 1) (nI i) g Q := by
  intro m
  induction m with
  | zero =>
    intro i g e h
    obtain rfl : i = 7 := by omega
    exact ⟨g, h, fun _ _ => rfl, fun Q q => bt' (by decide) q⟩
  | succ m ih =>
    intro i g e h
    have hi : i < 7 := by omega
    have v3 : ((7 : Int32) * nI i + 3).toNatClampNeg = 7 * i + 3 := by rw [iv73]; exact clN (by omega)
    have v5 : ((7 : Int32) * nI i + 5).toNatClampNeg = 7 * i + 5 := by rw [iv75]; exact clN (by omega)
    have v6 : ((7 : Int32) * nI i + 6).toNatClampNeg = 7 * i + 6 := by rw [iv76]; exact clN (by omega)
    have i3 : vp_in ((7 : Int32) * nI i + 3) 49 := by rw [iv73]; exact vpn (by omega) (by decide)
    have i5 : vp_in ((7 : Int32) * nI i + 5) 49 := by rw [iv75]; exact vpn (by omega) (by decide)
    have i6 : vp_in ((7 : Int32) * nI i + 6) 49 := by rw [iv76]; exact vpn (by omega) (by decide)
    have e7 : g 160 (7 * i + 6) = nv r0 i 7 := by rw [show g 160 (7 * i + 6) = nv (lrow g) i 7 from (lr_v7 hi).symm, h.2 i 7 hi (by decide), if_neg (by omega)]
    have e3 : g 160 (7 * i + 3) = nv r0 i 3 := by rw [show g 160 (7 * i + 3) = nv (lrow g) i 3 from (lr_v hi (by decide)).symm, h.2 i 3 hi (by decide), if_neg (by omega)]
    have n35 : 7 * i + 3 ≠ 7 * i + 5 := by omega
    have n65 : 7 * i + 6 ≠ 7 * i + 5 := by omega
    have n63 : 7 * i + 6 ≠ 7 * i + 3 := by omega
    by_cases h2 : nv r0 i 7 = 2
    · have e8 : lrow (up1 g 160 (upd (upd (upd (g 160) (7 * i + 5) 9999) (7 * i + 3) 0) (7 * i + 6) 0)) = upd (upd (upd (upd (lrow g) (31 + 8 * i + 5) 0) (31 + 8 * i + 6) 0) (31 + 8 * i + 3) 0) (31 + 8 * i + 7) 0 := by
        show rwA (g 158) (g 159) (upd (upd (upd (g 160) (7 * i + 5) 9999) (7 * i + 3) 0) (7 * i + 6) 0) (g 161) = _
        rw [ra_v6 hi, ra_v hi (by decide), ra_v5 hi, hs9_9, vl9_9]
        rfl
      obtain ⟨g2, a, b, c⟩ := ih (i + 1) (up1 g 160 (upd (upd (upd (g 160) (7 * i + 5) 9999) (7 * i + 3) 0) (7 * i + 6) 0)) (by omega) (by rw [e8]; exact eP_2 hi h h2)
      refine ⟨g2, a, fun k hk => (b k hk).trans (up1_n _ _ hk), fun Q q => ?_⟩
      refine bf' (ge7 hi) ⟨i5, nm' ⟨i6, ?_⟩⟩
      rw [v5, v6, up1_s, upd_n' n65, e7]
      refine bt' h2 ⟨i3, ?_⟩
      rw [v3, up1_up1]
      refine nm' ⟨i6, ?_⟩
      rw [up1_s, upd_n' n63, upd_n' n65, e7]
      refine bt' h2 ⟨i6, ?_⟩
      rw [up1_up1]
      refine nm' (nm' ?_)
      rw [nI_1]
      exact c Q q
    · have e8 : lrow (up1 g 160 (upd (upd (upd (g 160) (7 * i + 5) 9999) (7 * i + 3) (nv r0 i 3)) (7 * i + 6) (nv r0 i 7))) = upd (upd (upd (upd (lrow g) (31 + 8 * i + 5) 0) (31 + 8 * i + 6) 0) (31 + 8 * i + 3) (nv r0 i 3)) (31 + 8 * i + 7) (nv r0 i 7) := by
        show rwA (g 158) (g 159) (upd (upd (upd (g 160) (7 * i + 5) 9999) (7 * i + 3) (nv r0 i 3)) (7 * i + 6) (nv r0 i 7)) (g 161) = _
        rw [ra_v6 hi, ra_v hi (by decide), ra_v5 hi, hs9_9, vl9_9]
        rfl
      obtain ⟨g2, a, b, c⟩ := ih (i + 1) (up1 g 160 (upd (upd (upd (g 160) (7 * i + 5) 9999) (7 * i + 3) (nv r0 i 3)) (7 * i + 6) (nv r0 i 7))) (by omega) (by rw [e8]; exact eP_1 hi h h2)
      refine ⟨g2, a, fun k hk => (b k hk).trans (up1_n _ _ hk), fun Q q => ?_⟩
      refine bf' (ge7 hi) ⟨i5, nm' ⟨i6, ?_⟩⟩
      rw [v5, v6, up1_s, upd_n' n65, e7]
      refine bf' h2 ⟨i3, i3, ?_⟩
      rw [v3, up1_up1, upd_n' n35, e3]
      refine nm' ⟨i6, ?_⟩
      rw [up1_s, upd_n' n63, upd_n' n65, e7]
      refine bf' h2 ⟨i6, i6, ?_⟩
      rw [up1_up1]
      refine nm' (nm' ?_)
      rw [nI_1]
      exact c Q q
def eE (r0 : Nat → Int32) : Nat → Int32 := fun k => if k < 31 ∨ 87 ≤ k then r0 k else if (k - 31) % 8 = 5 ∨ (k - 31) % 8 = 6 ∨ (((k - 31) % 8 = 3 ∨ (k - 31) % 8 = 7) ∧ nv r0 ((k - 31) / 8) 7 = 2) then 0 else r0 k
theorem eE_P (r0 : Nat → Int32) : eP 7 r0 (eE r0) := by
  refine ⟨fun k hk => if_pos hk, fun n f hn hf => ?_⟩
  have e1 : (31 + 8 * n + f - 31) % 8 = f := by omega
  have e2 : (31 + 8 * n + f - 31) / 8 = n := by omega
  show eE r0 (31 + 8 * n + f) = _
  unfold eE
  rw [if_neg (by omega), e1, e2]
  simp only [hn, true_and]
  rfl
theorem eP_one {r0 a : Nat → Int32} (h : eP 7 r0 a) : a = eE r0 := by
  have hb := eE_P r0
  funext k
  by_cases hk : k < 31 ∨ 87 ≤ k
  · rw [h.1 k hk, hb.1 k hk]
  · have hn : (k - 31) / 8 < 7 := by omega
    have hf : (k - 31) % 8 < 8 := by omega
    have ek : k = 31 + 8 * ((k - 31) / 8) + (k - 31) % 8 := by omega
    have h1 := h.2 _ _ hn hf
    have h2 := hb.2 _ _ hn hf
    unfold nv at h1 h2
    rw [← ek] at h1 h2
    rw [h1, h2]
theorem eE_12 {r0 : Nat → Int32} {x : Int32} : eE (upd r0 12 x) = upd (eE r0) 12 x := by
  funext k
  by_cases h12 : k = 12
  · subst h12
    rw [upd_s']
    unfold eE
    rw [if_pos (by decide), upd_s']
  · rw [upd_n' h12]
    unfold eE
    have e : ∀ n, nv (upd r0 12 x) n 7 = nv r0 n 7 := fun n => upd_n' (by omega)
    rw [upd_n' h12, e]
theorem bel_9 {g : Hp} (h : g 158 5 = 9999) : bel (lrow g) = -6 := by
  unfold bel
  rw [lr_5, h, hs9_9, if_neg (by decide)]
theorem bel_n {g : Hp} (h : ¬ g 158 5 = 9999) : bel (lrow g) = g 158 5 + 5400 := by
  unfold bel
  rw [lr_5, hs9_n h, if_pos rfl, lr_6, vl9_n h]
theorem endsLaw {a b4 w : Int32} {nt : Nat} {r : Nat → Int32} (hnt : nt < 999) (e9 : r 9 = nI nt) (e14 : r 14 = nI (min nt 8)) : LawP (fun g Q => F_L_due 3 a b4 w g Q) r (nI (nt + 1)) (upd (upd (eE (eR nt r)) 12 0) 9 (nI (nt + 1))) := by
  intro g eg hd
  have q8 : g 158 8 = nI nt := by rw [← e9, ← eg]; exact (lr_p (by decide) (by decide)).symm
  have q4 : g 158 4 = r 4 := by rw [← eg]; exact (lr_q (by decide)).symm
  have q11 : g 158 11 = r 12 := by rw [← eg]; exact (lr_p (by decide) (by decide)).symm
  have q13 : g 158 13 = nI (min nt 8) := by rw [← e14, ← eg]; exact (lr_p (by decide) (by decide)).symm
  have er : rwA (g 158) (g 159) (g 160) (g 161) = r := eg
  obtain ⟨g1, eg1⟩ : ∃ g1 : Hp, g1 = up1 (up1 g 161 (upd (upd (upd (upd (lsh 3 (g 161)) 0 (nI nt)) 1 (r 4 + 5400)) 2 (bel r)) 3 (r 12))) 158 (upd (upd (g 158) 11 0) 13 (nI (min (nt + 1) 8))) := ⟨_, rfl⟩
  have l1 : lrow g1 = upd (eR nt r) 12 0 := by
    rw [eg1]
    show rwA (upd (upd (g 158) 11 0) 13 (nI (min (nt + 1) 8))) (g 159) (g 160) (upd (upd (upd (upd (lsh 3 (g 161)) 0 (nI nt)) 1 (r 4 + 5400)) 2 (bel r)) 3 (r 12)) = _
    rw [ra_p (by decide) (by decide), ra_p (by decide) (by decide), ra_l, ra_l, ra_l, ra_l, ra_sh, er]
    unfold eR
    rw [fa_upd_swap _ (i := 12) (j := 14) (by decide)]
  obtain ⟨g2, a2, b2, c2⟩ := endsL2 (r0 := upd (eR nt r) 12 0) 7 0 g1 rfl ⟨fun k _ => by rw [l1], fun n f _ _ => by rw [l1, if_neg (by omega)]⟩
  have l2 : lrow g2 = upd (eE (eR nt r)) 12 0 := by rw [eP_one a2, eE_12]
  have g28 : g2 158 8 = nI nt := by rw [b2 158 (by decide), eg1, up1_s, upd_n' (by decide), upd_n' (by decide), q8]
  have g1o : ∀ c, c ≠ 158 → c ≠ 161 → g1 c = g c := fun c h1 h2 => by rw [eg1, up1_n _ _ h1, up1_n _ _ h2]
  refine ⟨up1 g2 158 (upd (g2 158) 8 (nI (nt + 1))), fun Q q => bf' (by decide) (bf' (by decide) (bf' (by decide) (bt' rfl ⟨29, ?_⟩))), ?_, DI_c ?_ ?_ hd, fun c hc => ?_⟩
  · have hz : ∃ n, F_L_ends_L98 n 0 g1 Q := ⟨8, c2 Q (by
      refine nm' ?_
      rw [g28, nI_1, up1_s, upd_s']
      exact q)⟩
    have hz1 : F_L_ends_L3 1 (nI 3) (up1 g 161 (lsh 3 (g 161))) Q := by
      have o8 : ∀ f, up1 g 161 f 158 = g 158 := fun f => up1_n _ _ (by decide)
      refine bt' (by decide) ?_
      simp only [forall_eq, up1_s, up1_up1, o8, q8, q4, q11, q13, upd_n' (show (13 : Nat) ≠ 11 by decide)]
      refine bc _ (fun h9 => ?_) (fun h9 => ?_)
      · have eg2 := eg1
        rw [show bel r = -6 by rw [← eg]; exact bel_9 h9] at eg2
        refine bc _ (fun h8 => ?_) (fun h8 => ?_)
        · rw [(min_nI (by omega)).1 (le8_nI.mp h8), ← eg2]; exact hz
        · rw [(min_nI (by omega)).2 (fun z => h8 (le8_nI.mpr z)), ← eg2]; exact hz
      · have eg2 := eg1
        rw [show bel r = g 158 5 + 5400 by rw [← eg]; exact bel_n h9] at eg2
        refine bc _ (fun h8 => ?_) (fun h8 => ?_)
        · rw [(min_nI (by omega)).1 (le8_nI.mp h8), ← eg2]; exact hz
        · rw [(min_nI (by omega)).2 (fun z => h8 (le8_nI.mpr z)), ← eg2]; exact hz
    have hz2 := endsL1 hz1 28 (by decide)
    rw [lsh_31, up1_self] at hz2
    exact hz2
  · rw [lu_p (by decide) (by decide), l2]
  · rw [up1_s, upd_n' (by decide), b2 158 (by decide), eg1, up1_s, upd_n' (by decide), upd_n' (by decide)]
  · rw [up1_n _ _ (by decide), b2 159 (by decide), g1o 159 (by decide) (by decide)]
  · rw [up1_n _ _ (by omega), b2 c (by omega), g1o c (by omega) (by omega)]
def endsF (r : Nat → Int32) : Int32 × (Nat → Int32) := (nI ((r 9).toNatClampNeg + 1), upd (upd (eE (eR (r 9).toNatClampNeg r)) 12 0) 9 (nI ((r 9).toNatClampNeg + 1)))
theorem sim_ends (a b4 w : Int32) : SimV (fun b h Q => F_X6_endNight b h Q) (fun g Q => F_L_due 3 a b4 w g Q) endsF := by
  intro b hc v r hV hI hG
  obtain ⟨nt, hnt, e9, e14, hlog⟩ := hV.2.2.2.2.2
  obtain ⟨m5, m6, m7⟩ := hV.2.2.2.2.1
  have hnt2 : nt < 999 := by have := hG.2; rw [e9, nI_toInt (by omega)] at this; omega
  obtain ⟨r2, er2⟩ : ∃ r2, r2 = eE (eR nt r) := ⟨_, rfl⟩
  have hr2 : eP 7 (eR nt r) r2 := by rw [er2]; exact eE_P _
  have e29 : r2 9 = nI nt := by rw [hr2.1 9 (by decide), eR_lo (by decide) (by decide)]; exact e9
  have hv3 : ∀ o, o ≠ 0 → o ≠ 8 → o ≠ 10 → o ≠ 11 → o ≠ 14 → up1 (eV 7 (eW nt v r)) 0 (upd (upd (v 0) 7 0) 5 (nI (nt + 1))) o = v o := fun o h0 h8 h10 h11 h14 => by rw [up1_n _ _ h0, eV_o ⟨h8, h10, h11⟩]; exact up1_n _ _ h14
  have hr3 : ∀ k, k < 31 → k ≠ 9 → k ≠ 12 → k ≠ 14 → upd (upd r2 12 0) 9 (nI (nt + 1)) k = r k := fun k h1 h2 h3 h4 => by rw [upd_n' h2, upd_n' h3, hr2.1 k (Or.inl h1), eR_lo (by omega) h4]
  have hnv1 : ∀ n f, n < 7 → f < 8 → nv (eR nt r) n f = nv r n f := fun n f hn hf => eR_lo (by omega) (by omega)
  have hnv : ∀ n f, n < 7 → f < 8 → nv (upd (upd r2 12 0) 9 (nI (nt + 1))) n f = if (f = 5 ∨ f = 6 ∨ ((f = 3 ∨ f = 7) ∧ nv r n 7 = 2)) then 0 else nv r n f := fun n f hn hf => by
    rw [upd_nv (by decide) hf hn, upd_nv (by decide) hf hn, hr2.2 n f hn hf, hnv1 n f hn hf, hnv1 n 7 hn (by decide)]
    simp only [hn, true_and]
  refine ⟨nI (nt + 1), up1 (eV 7 (eW nt v r)) 0 (upd (upd (v 0) 7 0) 5 (nI (nt + 1))), upd (upd r2 12 0) 9 (nI (nt + 1)), by unfold endsF; rw [e9, clN (by omega), er2], fun Q q => endsC_run hV hI hnt2 e9 q, by rw [er2]; exact endsLaw hnt2 e9 e14, ?_, ?_, fun h => absurd h (nI_pos (by omega))⟩
  · refine ⟨rvSet_c (fun j hj => by rw [hv3 1 (by decide) (by decide) (by decide) (by decide) (by decide)]) (fun k hk => hr3 k (by omega) (by omega) (by omega) (by omega)) hV.1, rvSky_c (fun j hj => by rw [hv3 2 (by decide) (by decide) (by decide) (by decide) (by decide)]) (fun j hj => by rw [hv3 3 (by decide) (by decide) (by decide) (by decide) (by decide)]) (hr3 13 (by decide) (by decide) (by decide) (by decide)) (fun k h1 h2 => hr3 k (by omega) (by omega) (by omega) (by omega)) hV.2.1, fun n hn => ?_, rvCrs_c (fun j hj => by rw [hv3 12 (by decide) (by decide) (by decide) (by decide) (by decide)]) (fun k h1 h2 => hr3 k (by omega) (by omega) (by omega) (by omega)) hV.2.2.2.1, ?_, ?_⟩
    · obtain ⟨a5, a6, a7, a8, a9, a10, a11⟩ := hV.2.2.1 n hn
      have w : ∀ o, o ≠ 14 → eW nt v r o = v o := fun o ho => up1_n _ _ ho
      refine ⟨?_, ?_, ?_, ?_, ?_, ?_, ?_⟩
      · rw [hv3 5 (by decide) (by decide) (by decide) (by decide) (by decide), hnv n 0 hn (by decide), a5]; rfl
      · rw [hv3 6 (by decide) (by decide) (by decide) (by decide) (by decide), hnv n 1 hn (by decide), a6]; rfl
      · rw [hv3 7 (by decide) (by decide) (by decide) (by decide) (by decide), hnv n 2 hn (by decide), a7]; rfl
      · rw [up1_n _ _ (by decide), hnv n 3 hn (by decide)]
        unfold eV
        simp [w, a8, a11, hn]
      · rw [hv3 9 (by decide) (by decide) (by decide) (by decide) (by decide), hnv n 4 hn (by decide), a9]; rfl
      · rw [up1_n _ _ (by decide), hnv n 5 hn (by decide)]
        unfold eV
        simp [hn]
      · rw [up1_n _ _ (by decide), hnv n 7 hn (by decide)]
        unfold eV
        simp [w, a11, hn]
    · refine ⟨?_, ?_, ?_⟩
      · rw [up1_s, upd_s', upd_s']
      · rw [up1_s, upd_n' (by decide), upd_n' (by decide), hr3 11 (by decide) (by decide) (by decide) (by decide)]; exact m6
      · rw [up1_s, upd_n' (by decide), upd_s', upd_n' (by decide), upd_s']
    · have hhi : ∀ k, 87 ≤ k → upd (upd r2 12 0) 9 (nI (nt + 1)) k = eR nt r k := fun k hk => by rw [upd_n' (by omega), upd_n' (by omega), hr2.1 k (Or.inr hk)]
      refine ⟨nt + 1, by omega, upd_s', ?_, fun j k hj hk => ?_⟩
      · rw [upd_n' (by decide), upd_n' (by decide), hr2.1 14 (by decide)]
        unfold eR
        rw [upd_s']
      · have ew : up1 (eV 7 (eW nt v r)) 0 (upd (upd (v 0) 7 0) 5 (nI (nt + 1))) 14 = eW nt v r 14 := by rw [up1_n _ _ (by decide), eV_o (by decide)]
        rw [ew, hhi _ (by omega)]
        unfold eW eR
        rw [up1_s, upd_n' (show 87 + 4 * j + k ≠ 14 by omega)]
        by_cases hj0 : j = 0
        · subst hj0
          rw [show 4 * ((nt + 1 - 1 - 0) % 8) + k = nt % 8 * 4 + k by omega]
          rcases (show k = 0 ∨ k = 1 ∨ k = 2 ∨ k = 3 by omega) with rfl | rfl | rfl | rfl
          · rw [upd_n' (by omega), upd_n' (by omega), upd_n' (by omega)]
            rw [show nt % 8 * 4 + 0 = nt % 8 * 4 from rfl, upd_s', upd_n' (by decide), upd_n' (by decide), upd_n' (by decide)]
            exact upd_s'.symm
          · rw [upd_n' (by omega), upd_n' (by omega), upd_s', upd_n' (by decide), upd_n' (by decide)]
            exact upd_s'.symm
          · rw [upd_n' (by omega), upd_s', upd_n' (by decide)]
            exact upd_s'.symm
          · rw [upd_s']
            exact upd_s'.symm
        · rw [upd_n' (by omega), upd_n' (by omega), upd_n' (by omega), upd_n' (by omega), upd_n' (by omega), upd_n' (by omega), upd_n' (by omega), upd_n' (by omega), shl_hi (by omega) (by omega)]
          have hl := hlog (j - 1) k (by omega) hk
          rw [show 4 * ((nt + 1 - 1 - j) % 8) + k = 4 * ((nt - 1 - (j - 1)) % 8) + k by omega, hl, show 87 + 4 * (j - 1) + k = 87 + 4 * j + k - 4 by omega]
  · obtain ⟨iset, icrs, isky, inav, isum⟩ := hI
    refine ⟨ivSet_c (fun k hk => hr3 k (by omega) (by omega) (by omega) (by omega)) iset, ivCrs_c (fun k h1 h2 => hr3 k (by omega) (by omega) (by omega) (by omega)) icrs, ivSky_c (hr3 13 (by decide) (by decide) (by decide) (by decide)) (fun k h1 h2 => hr3 k (by omega) (by omega) (by omega) (by omega)) isky, fun n hn => ?_, ?_⟩
    · obtain ⟨j0, j1, j2, j5, j6, j7⟩ := inav n hn
      unfold ivNav
      rw [hnv n 0 hn (by decide), hnv n 1 hn (by decide), hnv n 2 hn (by decide), hnv n 5 hn (by decide), hnv n 6 hn (by decide), hnv n 7 hn (by decide)]
      refine ⟨j0, j1, j2, rng0 (by decide) (by decide), rng0 (by decide) (by decide), ?_⟩
      split
      · exact rng0 (by decide) (by decide)
      · exact j7
    · exact Eq.trans (b := sm7 r) (by rw [hr3 10 (by decide) (by decide) (by decide) (by decide)]; exact isum) (sm7_c (fun n hn => hnv n 4 hn (by decide))).symm
