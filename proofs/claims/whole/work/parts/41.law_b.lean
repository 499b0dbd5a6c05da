set_option maxHeartbeats 16000000 in
set_option maxRecDepth 200000 in
theorem law_loop {p : Program} {l : Launch} {e : Env} {s : State} {m : MethodId} {below : List Frame} {meth : Method} {c : Code} {dC : Nat → ClassId} {dI : Nat → Nat → Nat} {P : gP} {tb : Nat → Nat} {b L : Nat} {xs : Nat → Int32} (hL : L ≤ 2048) (C0 : lw_At p s m meth c b L xs) (hK : va_K (dC, dI) vwCl (tyC P) s) (hKs : gKC tb (fun q : Nat => s.heap.size ≤ q) s) {adC adM : Nat → Nat} (hdis : ∀ i k, i < 158 → k < 7 → adC i ≠ adM k) (hAC : ∀ k, k < 158 → s.heap.size ≤ adC k) :
    ∀ (n i : Nat) (x3 : Int32), i ≤ L → L + 1 ≤ i + n → x3 = nI i → ∀ (hc hm : Hp), Rel hc hm → ∀ (H : Heap) (locs : List Loc), va_P (dC, dI) vwCl (gW 158 (cE P adC) adC hc) H → va_P (dC, dI) vwCl (gW 7 (mE P adM) adM hm) H → va_S (fun q : Nat => s.heap.size ≤ q) s.heap H locs → va_D (fun q : Nat => s.heap.size ≤ q) (gW 158 (cE P adC) adC hc) → va_D (fun q : Nat => s.heap.size ≤ q) (gW 7 (mE P adM) adM hm) → ∀ (ls : Array Slot), lv_has ls 4 [(0, .ref b), (1, .ref (adC 0)), (2, .ref (adM 0)), (3, .int x3)] → W p l e room_1 s m #[Value.ref b] below meth c H locs 165 2554 (lw_Z below #[Value.ref b] s) (F0 m 18 ls []) := by
  obtain ⟨hx, hb, hr, hml, hown, hts0, hX, hbl, hlocks, hgv⟩ := C0
  have hown : s.vm.findClass RL = some m.cls := hown
  have hts : ∀ w ∈ TB, w.before #[Value.ref b] s = true := fun w hw => hts0 w (List.mem_filter.mp hw).1
  have hbA : ¬ (fun q : Nat => s.heap.size ≤ q) b := Nat.not_le.mpr hbl
  intro n
  induction n with
  | zero =>
    intro i x3 h1 h2
    exact absurd h2 (by omega)
  | succ n ih =>
    intro i x3 hi hin ex3 hc hm hR H locs hPC hPM hS hDC hDM ls hl
    have hKC : ∀ U : State, U.heap = H → s.WarmedH U.vm → gKC tb (gA 158 adC) U := fun U hU hW => (gKC_keep tb _).2 s U (gKC_narrow (fun q h => by obtain ⟨k, hk, rfl⟩ := h; exact hAC k hk) hKs) hW (fun q h1 h2 => by rw [hU]; exact hS.2.1 q h1 (Nat.not_le.mpr h1))
    refine lv_iload_n hx hb dL_law_18 rfl (lv_at hl 3 rfl) ?_
    refine lv_aload_n hx hb dL_law_19 rfl (lv_at hl 0 rfl) ?_
    refine va_slen hx hb hX hbl hbA hS dL_law_20 ?_
    refine lv_iconst (v := 4) hx hb dL_law_21 (by decide) ?_
    refine lv_isub hx hb dL_law_22 ?_
    refine lv_icmp_gt (tgt := 833) hx hb dL_law_23 (by decide) (fun c_1 => ?_) (fun c_1 => ?_)
    · refine lv_iconst (v := 1) hx hb dL_law_833 (by decide) ?_
      refine va_forget (fun q hq => hS.2.2 q hq) ?_
      refine W.widen (k := 600000) (n := 7302250) (Nat.le_of_ble_eq_true rfl) (Nat.le_of_ble_eq_true rfl) ?_
      exact lw_ret hx hb hr hlocks dL_law_834
    · have h4 : i + 4 ≤ L := law_in hL hi (by rw [← ex3]; exact c_1)
      have hidx : ∀ j : Nat, j < 4 → vp_in (x3 + nI j) L := fun j hj => by rw [ex3, nI_add]; exact vp_in_nI (by omega) (by omega)
      have hidx0 : vp_in x3 L := by rw [ex3]; exact vp_in_nI (by omega) (by omega)
      have tail : ∀ (hc1 hm2 : Hp), Rel hc1 hm2 → ∀ (H2 : Heap) (locs2 : List Loc), va_P (dC, dI) vwCl (gW 158 (cE P adC) adC hc1) H2 → va_P (dC, dI) vwCl (gW 7 (mE P adM) adM hm2) H2 → va_S (fun q : Nat => s.heap.size ≤ q) s.heap H2 locs2 → va_D (fun q : Nat => s.heap.size ≤ q) (gW 158 (cE P adC) adC hc1) → va_D (fun q : Nat => s.heap.size ≤ q) (gW 7 (mE P adM) adM hm2) → W p l e room_1 s m #[Value.ref b] below meth c H2 locs2 165 2554 (lw_Z below #[Value.ref b] s) (F0 m 827 ls []) := by
        intro hc1 hm2 hR2 H2 locs2 hPC2 hPM2 hS2 hDC2 hDM2
        obtain ⟨y3, ey3⟩ : ∃ y : Int32, y = x3 + 4 := ⟨_, rfl⟩
        refine lv_iinc (v := y3) (lv' := [(3, .int y3), (0, .ref b), (1, .ref (adC 0)), (2, .ref (adM 0))]) hx hb dL_law_827 hl (k := 3) rfl (by rw [ey3]; rfl) (by decide) rfl (fun ls hl => ?_)
        refine lv_goto (tgt := 18) hx hb dL_law_830 (by decide) ?_
        exact ih (i + 4) y3 h4 (by omega) (by rw [ey3, ex3]; exact nI_add i 4) hc1 hm2 hR2 H2 locs2 hPC2 hPM2 hS2 hDC2 hDM2 ls (lv_sub hl [1, 2, 3, 0] rfl)
      refine lv_aload_n hx hb dL_law_26 rfl (lv_at hl 0 rfl) ?_
      refine lv_iload_n hx hb dL_law_27 rfl (lv_at hl 3 rfl) ?_
      refine va_sld hx hb hX hbl hbA hS hidx0 dL_law_28 ?_
      refine lv_bipush (v := 31) hx hb dL_law_29 (by decide) ?_
      refine lv_iand hx hb dL_law_31 ?_
      refine lv_topi (fun z ez => ?_)
      by_cases c_10 : z = 0
      · refine lv_tableIn (off := 124) (tgt := 156) hx hb dL_law_32 (by rw [c_10]; decide) (by rw [c_10]; decide) (by rw [c_10]; rfl) (by decide) ?_
        refine lv_aload_n hx hb dL_law_156 rfl (lv_at hl 1 rfl) ?_
        refine lv_aload_n hx hb dL_law_157 rfl (lv_at hl 0 rfl) ?_
        refine lv_iload_n hx hb dL_law_158 rfl (lv_at hl 3 rfl) ?_
        refine lv_iconst (v := 1) hx hb dL_law_159 (by decide) ?_
        refine lv_iadd hx hb dL_law_160 ?_
        refine va_sld hx hb hX hbl hbA hS (hidx 1 (by decide)) dL_law_161 ?_
        refine lv_aload_n hx hb dL_law_162 rfl (lv_at hl 0 rfl) ?_
        refine lv_iload_n hx hb dL_law_163 rfl (lv_at hl 3 rfl) ?_
        refine lv_iconst (v := 2) hx hb dL_law_164 (by decide) ?_
        refine lv_iadd hx hb dL_law_165 ?_
        refine va_sld hx hb hX hbl hbA hS (hidx 2 (by decide)) dL_law_166 ?_
        have he := sim_set (xs (x3 + (1 : Int32)).toNatClampNeg) (xs (x3 + (2 : Int32)).toNatClampNeg) hR
        refine ga_vi ⟨hx, hb, hml, hown, hts⟩ (gKC_keep tb _) hKC hK hPC hDC hS 0 [.int (xs (x3 + (1 : Int32)).toNatClampNeg), .int (xs (x3 + (2 : Int32)).toNatClampNeg)] [] (c_X7_set l dC dI P adC tb (xs (x3 + (1 : Int32)).toNatClampNeg) (xs (x3 + (2 : Int32)).toNatClampNeg) hc _ he) gm_X7_set im_yX7_set se_yX7_set ml_RL_13 (by decide) (cE_t0 _) rfl rfl rfl ⟨Nat.le_of_ble_eq_true rfl, Nat.le_of_ble_eq_true rfl⟩ rfl hl.1 rfl (Nat.le_of_ble_eq_true rfl) dL_law_167 ⟨Nat.le_of_ble_eq_true rfl, Nat.le_of_ble_eq_true rfl⟩ (fun r1 hc1 he H1 locs1 hPC1 hDC1 hS1 hk1 => ?_)
        have hPM1 := gW_kept hPM hk1 (fun k hk z => by obtain ⟨i, hi, e9⟩ := z; exact hdis i k hi hk e9.symm)
        refine lv_aload_n hx hb dL_law_170 rfl (lv_at hl 2 rfl) ?_
        refine lv_aload_n hx hb dL_law_171 rfl (lv_at hl 0 rfl) ?_
        refine lv_iload_n hx hb dL_law_172 rfl (lv_at hl 3 rfl) ?_
        refine lv_iconst (v := 1) hx hb dL_law_173 (by decide) ?_
        refine lv_iadd hx hb dL_law_174 ?_
        refine va_sld hx hb hX hbl hbA hS1 (hidx 1 (by decide)) dL_law_175 ?_
        refine lv_aload_n hx hb dL_law_176 rfl (lv_at hl 0 rfl) ?_
        refine lv_iload_n hx hb dL_law_177 rfl (lv_at hl 3 rfl) ?_
        refine lv_iconst (v := 2) hx hb dL_law_178 (by decide) ?_
        refine lv_iadd hx hb dL_law_179 ?_
        refine va_sld hx hb hX hbl hbA hS1 (hidx 2 (by decide)) dL_law_180 ?_
        refine ga_vi ⟨hx, hb, hml, hown, hts⟩ (gKM_keep _) (fun _ _ _ => trivial) hK hPM1 hDM hS1 0 [.int (xs (x3 + (1 : Int32)).toNatClampNeg), .int (xs (x3 + (2 : Int32)).toNatClampNeg)] [.int r1] (c_X8_set l dC dI P adM (xs (x3 + (1 : Int32)).toNatClampNeg) (xs (x3 + (2 : Int32)).toNatClampNeg) hm _ he) gm_X8_set im_yX8_set se_yX8_set ml_RL_17 (by decide) (mE_0 _) rfl rfl rfl ⟨Nat.le_of_ble_eq_true rfl, Nat.le_of_ble_eq_true rfl⟩ rfl hl.1 rfl (Nat.le_of_ble_eq_true rfl) dL_law_181 ⟨Nat.le_of_ble_eq_true rfl, Nat.le_of_ble_eq_true rfl⟩ (fun r2 hm2 he H2 locs2 hPM2 hDM2 hS2 hk2 => ?_)
        have hPC2 := gW_kept hPC1 hk2 (fun k hk z => by obtain ⟨i, hi, e9⟩ := z; exact hdis k i hk hi e9)
        refine lv_icmp_eq (tgt := 827) hx hb dL_law_184 (by decide) (fun _ => ?_) (fun c9 => absurd he.1 c9)
        exact tail hc1 hm2 he.2 H2 locs2 hPC2 hPM2 hS2 hDC1 hDM2
      by_cases c_11 : z = 1
      · refine lv_tableIn (off := 157) (tgt := 189) hx hb dL_law_32 (by rw [c_11]; decide) (by rw [c_11]; decide) (by rw [c_11]; rfl) (by decide) ?_
        refine lv_aload_n hx hb dL_law_189 rfl (lv_at hl 1 rfl) ?_
        refine lv_aload_n hx hb dL_law_190 rfl (lv_at hl 0 rfl) ?_
        refine lv_iload_n hx hb dL_law_191 rfl (lv_at hl 3 rfl) ?_
        refine lv_iconst (v := 1) hx hb dL_law_192 (by decide) ?_
        refine lv_iadd hx hb dL_law_193 ?_
        refine va_sld hx hb hX hbl hbA hS (hidx 1 (by decide)) dL_law_194 ?_
        have he := sim_star (xs (x3 + (1 : Int32)).toNatClampNeg) hR
        refine ga_vi ⟨hx, hb, hml, hown, hts⟩ (gKC_keep tb _) hKC hK hPC hDC hS 0 [.int (xs (x3 + (1 : Int32)).toNatClampNeg)] [] (c_X7_star l dC dI P adC tb (xs (x3 + (1 : Int32)).toNatClampNeg) hc _ he) gm_X7_star im_yX7_star se_yX7_star ml_RL_18 (by decide) (cE_t0 _) rfl rfl rfl ⟨Nat.le_of_ble_eq_true rfl, Nat.le_of_ble_eq_true rfl⟩ rfl hl.1 rfl (Nat.le_of_ble_eq_true rfl) dL_law_195 ⟨Nat.le_of_ble_eq_true rfl, Nat.le_of_ble_eq_true rfl⟩ (fun r1 hc1 he H1 locs1 hPC1 hDC1 hS1 hk1 => ?_)
        have hPM1 := gW_kept hPM hk1 (fun k hk z => by obtain ⟨i, hi, e9⟩ := z; exact hdis i k hi hk e9.symm)
        refine lv_aload_n hx hb dL_law_198 rfl (lv_at hl 2 rfl) ?_
        refine lv_aload_n hx hb dL_law_199 rfl (lv_at hl 0 rfl) ?_
        refine lv_iload_n hx hb dL_law_200 rfl (lv_at hl 3 rfl) ?_
        refine lv_iconst (v := 1) hx hb dL_law_201 (by decide) ?_
        refine lv_iadd hx hb dL_law_202 ?_
        refine va_sld hx hb hX hbl hbA hS1 (hidx 1 (by decide)) dL_law_203 ?_
        refine ga_vi ⟨hx, hb, hml, hown, hts⟩ (gKM_keep _) (fun _ _ _ => trivial) hK hPM1 hDM hS1 0 [.int (xs (x3 + (1 : Int32)).toNatClampNeg)] [.int r1] (c_X8_star l dC dI P adM (xs (x3 + (1 : Int32)).toNatClampNeg) hm _ he) gm_X8_star im_yX8_star se_yX8_star ml_RL_22 (by decide) (mE_0 _) rfl rfl rfl ⟨Nat.le_of_ble_eq_true rfl, Nat.le_of_ble_eq_true rfl⟩ rfl hl.1 rfl (Nat.le_of_ble_eq_true rfl) dL_law_204 ⟨Nat.le_of_ble_eq_true rfl, Nat.le_of_ble_eq_true rfl⟩ (fun r2 hm2 he H2 locs2 hPM2 hDM2 hS2 hk2 => ?_)
        have hPC2 := gW_kept hPC1 hk2 (fun k hk z => by obtain ⟨i, hi, e9⟩ := z; exact hdis k i hk hi e9)
        refine lv_icmp_eq (tgt := 827) hx hb dL_law_207 (by decide) (fun _ => ?_) (fun c9 => absurd he.1 c9)
        exact tail hc1 hm2 he.2 H2 locs2 hPC2 hPM2 hS2 hDC1 hDM2
      by_cases c_12 : z = 2
      · refine lv_tableIn (off := 180) (tgt := 212) hx hb dL_law_32 (by rw [c_12]; decide) (by rw [c_12]; decide) (by rw [c_12]; rfl) (by decide) ?_
        refine lv_aload_n hx hb dL_law_212 rfl (lv_at hl 1 rfl) ?_
        refine lv_aload_n hx hb dL_law_213 rfl (lv_at hl 0 rfl) ?_
        refine lv_iload_n hx hb dL_law_214 rfl (lv_at hl 3 rfl) ?_
        refine lv_iconst (v := 1) hx hb dL_law_215 (by decide) ?_
        refine lv_iadd hx hb dL_law_216 ?_
        refine va_sld hx hb hX hbl hbA hS (hidx 1 (by decide)) dL_law_217 ?_
        have he := sim_cloud (xs (x3 + (1 : Int32)).toNatClampNeg) hR
        refine ga_vi ⟨hx, hb, hml, hown, hts⟩ (gKC_keep tb _) hKC hK hPC hDC hS 0 [.int (xs (x3 + (1 : Int32)).toNatClampNeg)] [] (c_X7_cloud l dC dI P adC tb (xs (x3 + (1 : Int32)).toNatClampNeg) hc _ he) gm_X7_cloud im_yX7_cloud se_yX7_cloud ml_RL_23 (by decide) (cE_t0 _) rfl rfl rfl ⟨Nat.le_of_ble_eq_true rfl, Nat.le_of_ble_eq_true rfl⟩ rfl hl.1 rfl (Nat.le_of_ble_eq_true rfl) dL_law_218 ⟨Nat.le_of_ble_eq_true rfl, Nat.le_of_ble_eq_true rfl⟩ (fun r1 hc1 he H1 locs1 hPC1 hDC1 hS1 hk1 => ?_)
        have hPM1 := gW_kept hPM hk1 (fun k hk z => by obtain ⟨i, hi, e9⟩ := z; exact hdis i k hi hk e9.symm)
        refine lv_aload_n hx hb dL_law_221 rfl (lv_at hl 2 rfl) ?_
        refine lv_aload_n hx hb dL_law_222 rfl (lv_at hl 0 rfl) ?_
        refine lv_iload_n hx hb dL_law_223 rfl (lv_at hl 3 rfl) ?_
        refine lv_iconst (v := 1) hx hb dL_law_224 (by decide) ?_
        refine lv_iadd hx hb dL_law_225 ?_
        refine va_sld hx hb hX hbl hbA hS1 (hidx 1 (by decide)) dL_law_226 ?_
        refine ga_vi ⟨hx, hb, hml, hown, hts⟩ (gKM_keep _) (fun _ _ _ => trivial) hK hPM1 hDM hS1 0 [.int (xs (x3 + (1 : Int32)).toNatClampNeg)] [.int r1] (c_X8_cloud l dC dI P adM (xs (x3 + (1 : Int32)).toNatClampNeg) hm _ he) gm_X8_cloud im_yX8_cloud se_yX8_cloud ml_RL_26 (by decide) (mE_0 _) rfl rfl rfl ⟨Nat.le_of_ble_eq_true rfl, Nat.le_of_ble_eq_true rfl⟩ rfl hl.1 rfl (Nat.le_of_ble_eq_true rfl) dL_law_227 ⟨Nat.le_of_ble_eq_true rfl, Nat.le_of_ble_eq_true rfl⟩ (fun r2 hm2 he H2 locs2 hPM2 hDM2 hS2 hk2 => ?_)
        have hPC2 := gW_kept hPC1 hk2 (fun k hk z => by obtain ⟨i, hi, e9⟩ := z; exact hdis k i hk hi e9)
        refine lv_icmp_eq (tgt := 827) hx hb dL_law_230 (by decide) (fun _ => ?_) (fun c9 => absurd he.1 c9)
        exact tail hc1 hm2 he.2 H2 locs2 hPC2 hPM2 hS2 hDC1 hDM2
      by_cases c_13 : z = 3
      · refine lv_tableIn (off := 203) (tgt := 235) hx hb dL_law_32 (by rw [c_13]; decide) (by rw [c_13]; decide) (by rw [c_13]; rfl) (by decide) ?_
        refine lv_aload_n hx hb dL_law_235 rfl (lv_at hl 1 rfl) ?_
        refine lv_aload_n hx hb dL_law_236 rfl (lv_at hl 0 rfl) ?_
        refine lv_iload_n hx hb dL_law_237 rfl (lv_at hl 3 rfl) ?_
        refine lv_iconst (v := 1) hx hb dL_law_238 (by decide) ?_
        refine lv_iadd hx hb dL_law_239 ?_
        refine va_sld hx hb hX hbl hbA hS (hidx 1 (by decide)) dL_law_240 ?_
        refine lv_aload_n hx hb dL_law_241 rfl (lv_at hl 0 rfl) ?_
        refine lv_iload_n hx hb dL_law_242 rfl (lv_at hl 3 rfl) ?_
        refine lv_iconst (v := 2) hx hb dL_law_243 (by decide) ?_
        refine lv_iadd hx hb dL_law_244 ?_
        refine va_sld hx hb hX hbl hbA hS (hidx 2 (by decide)) dL_law_245 ?_
        refine lv_aload_n hx hb dL_law_246 rfl (lv_at hl 0 rfl) ?_
        refine lv_iload_n hx hb dL_law_247 rfl (lv_at hl 3 rfl) ?_
        refine lv_iconst (v := 3) hx hb dL_law_248 (by decide) ?_
        refine lv_iadd hx hb dL_law_249 ?_
        refine va_sld hx hb hX hbl hbA hS (hidx 3 (by decide)) dL_law_250 ?_
        have he := sim_navigator (xs (x3 + (1 : Int32)).toNatClampNeg) (xs (x3 + (2 : Int32)).toNatClampNeg) (xs (x3 + (3 : Int32)).toNatClampNeg) hR
        refine ga_vi ⟨hx, hb, hml, hown, hts⟩ (gKC_keep tb _) hKC hK hPC hDC hS 0 [.int (xs (x3 + (1 : Int32)).toNatClampNeg), .int (xs (x3 + (2 : Int32)).toNatClampNeg), .int (xs (x3 + (3 : Int32)).toNatClampNeg)] [] (c_X7_navigator l dC dI P adC tb (xs (x3 + (1 : Int32)).toNatClampNeg) (xs (x3 + (2 : Int32)).toNatClampNeg) (xs (x3 + (3 : Int32)).toNatClampNeg) hc _ he) gm_X7_navigator im_yX7_navigator se_yX7_navigator ml_RL_27 (by decide) (cE_t0 _) rfl rfl rfl ⟨Nat.le_of_ble_eq_true rfl, Nat.le_of_ble_eq_true rfl⟩ rfl hl.1 rfl (Nat.le_of_ble_eq_true rfl) dL_law_251 ⟨Nat.le_of_ble_eq_true rfl, Nat.le_of_ble_eq_true rfl⟩ (fun r1 hc1 he H1 locs1 hPC1 hDC1 hS1 hk1 => ?_)
        have hPM1 := gW_kept hPM hk1 (fun k hk z => by obtain ⟨i, hi, e9⟩ := z; exact hdis i k hi hk e9.symm)
        refine lv_aload_n hx hb dL_law_254 rfl (lv_at hl 2 rfl) ?_
        refine lv_aload_n hx hb dL_law_255 rfl (lv_at hl 0 rfl) ?_
        refine lv_iload_n hx hb dL_law_256 rfl (lv_at hl 3 rfl) ?_
        refine lv_iconst (v := 1) hx hb dL_law_257 (by decide) ?_
        refine lv_iadd hx hb dL_law_258 ?_
        refine va_sld hx hb hX hbl hbA hS1 (hidx 1 (by decide)) dL_law_259 ?_
        refine lv_aload_n hx hb dL_law_260 rfl (lv_at hl 0 rfl) ?_
        refine lv_iload_n hx hb dL_law_261 rfl (lv_at hl 3 rfl) ?_
        refine lv_iconst (v := 2) hx hb dL_law_262 (by decide) ?_
        refine lv_iadd hx hb dL_law_263 ?_
        refine va_sld hx hb hX hbl hbA hS1 (hidx 2 (by decide)) dL_law_264 ?_
        refine lv_aload_n hx hb dL_law_265 rfl (lv_at hl 0 rfl) ?_
        refine lv_iload_n hx hb dL_law_266 rfl (lv_at hl 3 rfl) ?_
        refine lv_iconst (v := 3) hx hb dL_law_267 (by decide) ?_
        refine lv_iadd hx hb dL_law_268 ?_
        refine va_sld hx hb hX hbl hbA hS1 (hidx 3 (by decide)) dL_law_269 ?_
        refine ga_vi ⟨hx, hb, hml, hown, hts⟩ (gKM_keep _) (fun _ _ _ => trivial) hK hPM1 hDM hS1 0 [.int (xs (x3 + (1 : Int32)).toNatClampNeg), .int (xs (x3 + (2 : Int32)).toNatClampNeg), .int (xs (x3 + (3 : Int32)).toNatClampNeg)] [.int r1] (c_X8_navigator l dC dI P adM (xs (x3 + (1 : Int32)).toNatClampNeg) (xs (x3 + (2 : Int32)).toNatClampNeg) (xs (x3 + (3 : Int32)).toNatClampNeg) hm _ he) gm_X8_navigator im_yX8_navigator se_yX8_navigator ml_RL_31 (by decide) (mE_0 _) rfl rfl rfl ⟨Nat.le_of_ble_eq_true rfl, Nat.le_of_ble_eq_true rfl⟩ rfl hl.1 rfl (Nat.le_of_ble_eq_true rfl) dL_law_270 ⟨Nat.le_of_ble_eq_true rfl, Nat.le_of_ble_eq_true rfl⟩ (fun r2 hm2 he H2 locs2 hPM2 hDM2 hS2 hk2 => ?_)
        have hPC2 := gW_kept hPC1 hk2 (fun k hk z => by obtain ⟨i, hi, e9⟩ := z; exact hdis k i hk hi e9)
        refine lv_icmp_eq (tgt := 827) hx hb dL_law_273 (by decide) (fun _ => ?_) (fun c9 => absurd he.1 c9)
        exact tail hc1 hm2 he.2 H2 locs2 hPC2 hPM2 hS2 hDC1 hDM2
      by_cases c_14 : z = 4
      · refine lv_tableIn (off := 246) (tgt := 278) hx hb dL_law_32 (by rw [c_14]; decide) (by rw [c_14]; decide) (by rw [c_14]; rfl) (by decide) ?_
        refine lv_aload_n hx hb dL_law_278 rfl (lv_at hl 1 rfl) ?_
        refine lv_aload_n hx hb dL_law_279 rfl (lv_at hl 0 rfl) ?_
        refine lv_iload_n hx hb dL_law_280 rfl (lv_at hl 3 rfl) ?_
        refine lv_iconst (v := 1) hx hb dL_law_281 (by decide) ?_
        refine lv_iadd hx hb dL_law_282 ?_
        refine va_sld hx hb hX hbl hbA hS (hidx 1 (by decide)) dL_law_283 ?_
        have he := sim_sleep (xs (x3 + (1 : Int32)).toNatClampNeg) hR
        refine ga_vi ⟨hx, hb, hml, hown, hts⟩ (gKC_keep tb _) hKC hK hPC hDC hS 0 [.int (xs (x3 + (1 : Int32)).toNatClampNeg)] [] (c_X7_sleep l dC dI P adC tb (xs (x3 + (1 : Int32)).toNatClampNeg) hc _ he) gm_X7_sleep im_yX7_sleep se_yX7_sleep ml_RL_32 (by decide) (cE_t0 _) rfl rfl rfl ⟨Nat.le_of_ble_eq_true rfl, Nat.le_of_ble_eq_true rfl⟩ rfl hl.1 rfl (Nat.le_of_ble_eq_true rfl) dL_law_284 ⟨Nat.le_of_ble_eq_true rfl, Nat.le_of_ble_eq_true rfl⟩ (fun r1 hc1 he H1 locs1 hPC1 hDC1 hS1 hk1 => ?_)
        have hPM1 := gW_kept hPM hk1 (fun k hk z => by obtain ⟨i, hi, e9⟩ := z; exact hdis i k hi hk e9.symm)
        refine lv_aload_n hx hb dL_law_287 rfl (lv_at hl 2 rfl) ?_
        refine lv_aload_n hx hb dL_law_288 rfl (lv_at hl 0 rfl) ?_
        refine lv_iload_n hx hb dL_law_289 rfl (lv_at hl 3 rfl) ?_
        refine lv_iconst (v := 1) hx hb dL_law_290 (by decide) ?_
        refine lv_iadd hx hb dL_law_291 ?_
        refine va_sld hx hb hX hbl hbA hS1 (hidx 1 (by decide)) dL_law_292 ?_
        refine ga_vi ⟨hx, hb, hml, hown, hts⟩ (gKM_keep _) (fun _ _ _ => trivial) hK hPM1 hDM hS1 0 [.int (xs (x3 + (1 : Int32)).toNatClampNeg)] [.int r1] (c_X8_sleep l dC dI P adM (xs (x3 + (1 : Int32)).toNatClampNeg) hm _ he) gm_X8_sleep im_yX8_sleep se_yX8_sleep ml_RL_35 (by decide) (mE_0 _) rfl rfl rfl ⟨Nat.le_of_ble_eq_true rfl, Nat.le_of_ble_eq_true rfl⟩ rfl hl.1 rfl (Nat.le_of_ble_eq_true rfl) dL_law_293 ⟨Nat.le_of_ble_eq_true rfl, Nat.le_of_ble_eq_true rfl⟩ (fun r2 hm2 he H2 locs2 hPM2 hDM2 hS2 hk2 => ?_)
        have hPC2 := gW_kept hPC1 hk2 (fun k hk z => by obtain ⟨i, hi, e9⟩ := z; exact hdis k i hk hi e9)
        refine lv_icmp_eq (tgt := 827) hx hb dL_law_296 (by decide) (fun _ => ?_) (fun c9 => absurd he.1 c9)
        exact tail hc1 hm2 he.2 H2 locs2 hPC2 hPM2 hS2 hDC1 hDM2
      by_cases c_15 : z = 5
      · refine lv_tableIn (off := 269) (tgt := 301) hx hb dL_law_32 (by rw [c_15]; decide) (by rw [c_15]; decide) (by rw [c_15]; rfl) (by decide) ?_
        refine lv_aload_n hx hb dL_law_301 rfl (lv_at hl 1 rfl) ?_
        refine lv_aload_n hx hb dL_law_302 rfl (lv_at hl 0 rfl) ?_
        refine lv_iload_n hx hb dL_law_303 rfl (lv_at hl 3 rfl) ?_
        refine lv_iconst (v := 1) hx hb dL_law_304 (by decide) ?_
        refine lv_iadd hx hb dL_law_305 ?_
        refine va_sld hx hb hX hbl hbA hS (hidx 1 (by decide)) dL_law_306 ?_
        have he := sim_goal (xs (x3 + (1 : Int32)).toNatClampNeg) hR
        refine ga_vi ⟨hx, hb, hml, hown, hts⟩ (gKC_keep tb _) hKC hK hPC hDC hS 0 [.int (xs (x3 + (1 : Int32)).toNatClampNeg)] [] (c_X7_goal l dC dI P adC tb (xs (x3 + (1 : Int32)).toNatClampNeg) hc _ he) gm_X7_goal im_yX7_goal se_yX7_goal ml_RL_36 (by decide) (cE_t0 _) rfl rfl rfl ⟨Nat.le_of_ble_eq_true rfl, Nat.le_of_ble_eq_true rfl⟩ rfl hl.1 rfl (Nat.le_of_ble_eq_true rfl) dL_law_307 ⟨Nat.le_of_ble_eq_true rfl, Nat.le_of_ble_eq_true rfl⟩ (fun r1 hc1 he H1 locs1 hPC1 hDC1 hS1 hk1 => ?_)
        have hPM1 := gW_kept hPM hk1 (fun k hk z => by obtain ⟨i, hi, e9⟩ := z; exact hdis i k hi hk e9.symm)
        refine lv_aload_n hx hb dL_law_310 rfl (lv_at hl 2 rfl) ?_
        refine lv_aload_n hx hb dL_law_311 rfl (lv_at hl 0 rfl) ?_
        refine lv_iload_n hx hb dL_law_312 rfl (lv_at hl 3 rfl) ?_
        refine lv_iconst (v := 1) hx hb dL_law_313 (by decide) ?_
        refine lv_iadd hx hb dL_law_314 ?_
        refine va_sld hx hb hX hbl hbA hS1 (hidx 1 (by decide)) dL_law_315 ?_
        refine ga_vi ⟨hx, hb, hml, hown, hts⟩ (gKM_keep _) (fun _ _ _ => trivial) hK hPM1 hDM hS1 0 [.int (xs (x3 + (1 : Int32)).toNatClampNeg)] [.int r1] (c_X8_goal l dC dI P adM (xs (x3 + (1 : Int32)).toNatClampNeg) hm _ he) gm_X8_goal im_yX8_goal se_yX8_goal ml_RL_39 (by decide) (mE_0 _) rfl rfl rfl ⟨Nat.le_of_ble_eq_true rfl, Nat.le_of_ble_eq_true rfl⟩ rfl hl.1 rfl (Nat.le_of_ble_eq_true rfl) dL_law_316 ⟨Nat.le_of_ble_eq_true rfl, Nat.le_of_ble_eq_true rfl⟩ (fun r2 hm2 he H2 locs2 hPM2 hDM2 hS2 hk2 => ?_)
        have hPC2 := gW_kept hPC1 hk2 (fun k hk z => by obtain ⟨i, hi, e9⟩ := z; exact hdis k i hk hi e9)
        refine lv_icmp_eq (tgt := 827) hx hb dL_law_319 (by decide) (fun _ => ?_) (fun c9 => absurd he.1 c9)
        exact tail hc1 hm2 he.2 H2 locs2 hPC2 hPM2 hS2 hDC1 hDM2
      by_cases c_16 : z = 6
      · refine lv_tableIn (off := 292) (tgt := 324) hx hb dL_law_32 (by rw [c_16]; decide) (by rw [c_16]; decide) (by rw [c_16]; rfl) (by decide) ?_
        refine lv_aload_n hx hb dL_law_324 rfl (lv_at hl 1 rfl) ?_
        refine lv_aload_n hx hb dL_law_325 rfl (lv_at hl 0 rfl) ?_
        refine lv_iload_n hx hb dL_law_326 rfl (lv_at hl 3 rfl) ?_
        refine lv_iconst (v := 1) hx hb dL_law_327 (by decide) ?_
        refine lv_iadd hx hb dL_law_328 ?_
        refine va_sld hx hb hX hbl hbA hS (hidx 1 (by decide)) dL_law_329 ?_
        refine lv_aload_n hx hb dL_law_330 rfl (lv_at hl 0 rfl) ?_
        refine lv_iload_n hx hb dL_law_331 rfl (lv_at hl 3 rfl) ?_
        refine lv_iconst (v := 2) hx hb dL_law_332 (by decide) ?_
        refine lv_iadd hx hb dL_law_333 ?_
        refine va_sld hx hb hX hbl hbA hS (hidx 2 (by decide)) dL_law_334 ?_
        have he := sim_sight (xs (x3 + (1 : Int32)).toNatClampNeg) (xs (x3 + (2 : Int32)).toNatClampNeg) hR
        refine ga_vi ⟨hx, hb, hml, hown, hts⟩ (gKC_keep tb _) hKC hK hPC hDC hS 0 [.int (xs (x3 + (1 : Int32)).toNatClampNeg), .int (xs (x3 + (2 : Int32)).toNatClampNeg)] [] (c_X7_sight l dC dI P adC tb (xs (x3 + (1 : Int32)).toNatClampNeg) (xs (x3 + (2 : Int32)).toNatClampNeg) hc _ he) gm_X7_sight im_yX7_sight se_yX7_sight ml_RL_40 (by decide) (cE_t0 _) rfl rfl rfl ⟨Nat.le_of_ble_eq_true rfl, Nat.le_of_ble_eq_true rfl⟩ rfl hl.1 rfl (Nat.le_of_ble_eq_true rfl) dL_law_335 ⟨Nat.le_of_ble_eq_true rfl, Nat.le_of_ble_eq_true rfl⟩ (fun r1 hc1 he H1 locs1 hPC1 hDC1 hS1 hk1 => ?_)
        have hPM1 := gW_kept hPM hk1 (fun k hk z => by obtain ⟨i, hi, e9⟩ := z; exact hdis i k hi hk e9.symm)
        refine lv_aload_n hx hb dL_law_338 rfl (lv_at hl 2 rfl) ?_
        refine lv_aload_n hx hb dL_law_339 rfl (lv_at hl 0 rfl) ?_
        refine lv_iload_n hx hb dL_law_340 rfl (lv_at hl 3 rfl) ?_
        refine lv_iconst (v := 1) hx hb dL_law_341 (by decide) ?_
        refine lv_iadd hx hb dL_law_342 ?_
        refine va_sld hx hb hX hbl hbA hS1 (hidx 1 (by decide)) dL_law_343 ?_
        refine lv_aload_n hx hb dL_law_344 rfl (lv_at hl 0 rfl) ?_
        refine lv_iload_n hx hb dL_law_345 rfl (lv_at hl 3 rfl) ?_
        refine lv_iconst (v := 2) hx hb dL_law_346 (by decide) ?_
        refine lv_iadd hx hb dL_law_347 ?_
        refine va_sld hx hb hX hbl hbA hS1 (hidx 2 (by decide)) dL_law_348 ?_
        refine ga_vi ⟨hx, hb, hml, hown, hts⟩ (gKM_keep _) (fun _ _ _ => trivial) hK hPM1 hDM hS1 0 [.int (xs (x3 + (1 : Int32)).toNatClampNeg), .int (xs (x3 + (2 : Int32)).toNatClampNeg)] [.int r1] (c_X8_sight l dC dI P adM (xs (x3 + (1 : Int32)).toNatClampNeg) (xs (x3 + (2 : Int32)).toNatClampNeg) hm _ he) gm_X8_sight im_yX8_sight se_yX8_sight ml_RL_43 (by decide) (mE_0 _) rfl rfl rfl ⟨Nat.le_of_ble_eq_true rfl, Nat.le_of_ble_eq_true rfl⟩ rfl hl.1 rfl (Nat.le_of_ble_eq_true rfl) dL_law_349 ⟨Nat.le_of_ble_eq_true rfl, Nat.le_of_ble_eq_true rfl⟩ (fun r2 hm2 he H2 locs2 hPM2 hDM2 hS2 hk2 => ?_)
        have hPC2 := gW_kept hPC1 hk2 (fun k hk z => by obtain ⟨i, hi, e9⟩ := z; exact hdis k i hk hi e9)
        refine lv_icmp_eq (tgt := 827) hx hb dL_law_352 (by decide) (fun _ => ?_) (fun c9 => absurd he.1 c9)
        exact tail hc1 hm2 he.2 H2 locs2 hPC2 hPM2 hS2 hDC1 hDM2
      by_cases c_17 : z = 7
      · refine lv_tableIn (off := 325) (tgt := 357) hx hb dL_law_32 (by rw [c_17]; decide) (by rw [c_17]; decide) (by rw [c_17]; rfl) (by decide) ?_
        refine lv_aload_n hx hb dL_law_357 rfl (lv_at hl 1 rfl) ?_
        have he := sim_agree  hR
        refine ga_vi ⟨hx, hb, hml, hown, hts⟩ (gKC_keep tb _) hKC hK hPC hDC hS 0 [] [] (c_X7_agree l dC dI P adC tb  hc _ he) gm_X7_agree im_yX7_agree se_yX7_agree ml_RL_44 (by decide) (cE_t0 _) rfl rfl rfl ⟨Nat.le_of_ble_eq_true rfl, Nat.le_of_ble_eq_true rfl⟩ rfl hl.1 rfl (Nat.le_of_ble_eq_true rfl) dL_law_358 ⟨Nat.le_of_ble_eq_true rfl, Nat.le_of_ble_eq_true rfl⟩ (fun r1 hc1 he H1 locs1 hPC1 hDC1 hS1 hk1 => ?_)
        have hPM1 := gW_kept hPM hk1 (fun k hk z => by obtain ⟨i, hi, e9⟩ := z; exact hdis i k hi hk e9.symm)
        refine lv_aload_n hx hb dL_law_361 rfl (lv_at hl 2 rfl) ?_
        refine ga_vi ⟨hx, hb, hml, hown, hts⟩ (gKM_keep _) (fun _ _ _ => trivial) hK hPM1 hDM hS1 0 [] [.int r1] (c_X8_agree l dC dI P adM  hm _ he) gm_X8_agree im_yX8_agree se_yX8_agree ml_RL_48 (by decide) (mE_0 _) rfl rfl rfl ⟨Nat.le_of_ble_eq_true rfl, Nat.le_of_ble_eq_true rfl⟩ rfl hl.1 rfl (Nat.le_of_ble_eq_true rfl) dL_law_362 ⟨Nat.le_of_ble_eq_true rfl, Nat.le_of_ble_eq_true rfl⟩ (fun r2 hm2 he H2 locs2 hPM2 hDM2 hS2 hk2 => ?_)
        have hPC2 := gW_kept hPC1 hk2 (fun k hk z => by obtain ⟨i, hi, e9⟩ := z; exact hdis k i hk hi e9)
        refine lv_icmp_eq (tgt := 827) hx hb dL_law_365 (by decide) (fun _ => ?_) (fun c9 => absurd he.1 c9)
        exact tail hc1 hm2 he.2 H2 locs2 hPC2 hPM2 hS2 hDC1 hDM2
      by_cases c_18 : z = 8
      · refine lv_tableIn (off := 338) (tgt := 370) hx hb dL_law_32 (by rw [c_18]; decide) (by rw [c_18]; decide) (by rw [c_18]; rfl) (by decide) ?_
        refine lv_aload_n hx hb dL_law_370 rfl (lv_at hl 1 rfl) ?_
        refine lv_aload_n hx hb dL_law_371 rfl (lv_at hl 0 rfl) ?_
        refine lv_iload_n hx hb dL_law_372 rfl (lv_at hl 3 rfl) ?_
        refine lv_iconst (v := 1) hx hb dL_law_373 (by decide) ?_
        refine lv_iadd hx hb dL_law_374 ?_
        refine va_sld hx hb hX hbl hbA hS (hidx 1 (by decide)) dL_law_375 ?_
        have he := sim_sail (xs (x3 + (1 : Int32)).toNatClampNeg) hR
        refine ga_vi ⟨hx, hb, hml, hown, hts⟩ (gKC_keep tb _) hKC hK hPC hDC hS 0 [.int (xs (x3 + (1 : Int32)).toNatClampNeg)] [] (c_X7_sail l dC dI P adC tb (xs (x3 + (1 : Int32)).toNatClampNeg) hc _ he) gm_X7_sail im_yX7_sail se_yX7_sail ml_RL_49 (by decide) (cE_t0 _) rfl rfl rfl ⟨Nat.le_of_ble_eq_true rfl, Nat.le_of_ble_eq_true rfl⟩ rfl hl.1 rfl (Nat.le_of_ble_eq_true rfl) dL_law_376 ⟨Nat.le_of_ble_eq_true rfl, Nat.le_of_ble_eq_true rfl⟩ (fun r1 hc1 he H1 locs1 hPC1 hDC1 hS1 hk1 => ?_)
        have hPM1 := gW_kept hPM hk1 (fun k hk z => by obtain ⟨i, hi, e9⟩ := z; exact hdis i k hi hk e9.symm)
        refine lv_aload_n hx hb dL_law_379 rfl (lv_at hl 2 rfl) ?_
        refine lv_aload_n hx hb dL_law_380 rfl (lv_at hl 0 rfl) ?_
        refine lv_iload_n hx hb dL_law_381 rfl (lv_at hl 3 rfl) ?_
        refine lv_iconst (v := 1) hx hb dL_law_382 (by decide) ?_
        refine lv_iadd hx hb dL_law_383 ?_
        refine va_sld hx hb hX hbl hbA hS1 (hidx 1 (by decide)) dL_law_384 ?_
        refine ga_vi ⟨hx, hb, hml, hown, hts⟩ (gKM_keep _) (fun _ _ _ => trivial) hK hPM1 hDM hS1 0 [.int (xs (x3 + (1 : Int32)).toNatClampNeg)] [.int r1] (c_X8_sail l dC dI P adM (xs (x3 + (1 : Int32)).toNatClampNeg) hm _ he) gm_X8_sail im_yX8_sail se_yX8_sail ml_RL_52 (by decide) (mE_0 _) rfl rfl rfl ⟨Nat.le_of_ble_eq_true rfl, Nat.le_of_ble_eq_true rfl⟩ rfl hl.1 rfl (Nat.le_of_ble_eq_true rfl) dL_law_385 ⟨Nat.le_of_ble_eq_true rfl, Nat.le_of_ble_eq_true rfl⟩ (fun r2 hm2 he H2 locs2 hPM2 hDM2 hS2 hk2 => ?_)
        have hPC2 := gW_kept hPC1 hk2 (fun k hk z => by obtain ⟨i, hi, e9⟩ := z; exact hdis k i hk hi e9)
        refine lv_icmp_eq (tgt := 827) hx hb dL_law_388 (by decide) (fun _ => ?_) (fun c9 => absurd he.1 c9)
        exact tail hc1 hm2 he.2 H2 locs2 hPC2 hPM2 hS2 hDC1 hDM2
      by_cases c_19 : z = 9
      · refine lv_tableIn (off := 361) (tgt := 393) hx hb dL_law_32 (by rw [c_19]; decide) (by rw [c_19]; decide) (by rw [c_19]; rfl) (by decide) ?_
        refine lv_aload_n hx hb dL_law_393 rfl (lv_at hl 1 rfl) ?_
        have he := sim_night  hR
        refine ga_vi ⟨hx, hb, hml, hown, hts⟩ (gKC_keep tb _) hKC hK hPC hDC hS 0 [] [] (c_X7_night l dC dI P adC tb  hc _ he) gm_X7_night im_yX7_night se_yX7_night ml_RL_53 (by decide) (cE_t0 _) rfl rfl rfl ⟨Nat.le_of_ble_eq_true rfl, Nat.le_of_ble_eq_true rfl⟩ rfl hl.1 rfl (Nat.le_of_ble_eq_true rfl) dL_law_394 ⟨Nat.le_of_ble_eq_true rfl, Nat.le_of_ble_eq_true rfl⟩ (fun r1 hc1 he H1 locs1 hPC1 hDC1 hS1 hk1 => ?_)
        have hPM1 := gW_kept hPM hk1 (fun k hk z => by obtain ⟨i, hi, e9⟩ := z; exact hdis i k hi hk e9.symm)
        refine lv_aload_n hx hb dL_law_397 rfl (lv_at hl 2 rfl) ?_
        refine ga_vi ⟨hx, hb, hml, hown, hts⟩ (gKM_keep _) (fun _ _ _ => trivial) hK hPM1 hDM hS1 0 [] [.int r1] (c_X8_night l dC dI P adM  hm _ he) gm_X8_night im_yX8_night se_yX8_night ml_RL_56 (by decide) (mE_0 _) rfl rfl rfl ⟨Nat.le_of_ble_eq_true rfl, Nat.le_of_ble_eq_true rfl⟩ rfl hl.1 rfl (Nat.le_of_ble_eq_true rfl) dL_law_398 ⟨Nat.le_of_ble_eq_true rfl, Nat.le_of_ble_eq_true rfl⟩ (fun r2 hm2 he H2 locs2 hPM2 hDM2 hS2 hk2 => ?_)
        have hPC2 := gW_kept hPC1 hk2 (fun k hk z => by obtain ⟨i, hi, e9⟩ := z; exact hdis k i hk hi e9)
        refine lv_icmp_eq (tgt := 827) hx hb dL_law_401 (by decide) (fun _ => ?_) (fun c9 => absurd he.1 c9)
        exact tail hc1 hm2 he.2 H2 locs2 hPC2 hPM2 hS2 hDC1 hDM2
      by_cases c_20 : z = 10
      · refine lv_tableIn (off := 374) (tgt := 406) hx hb dL_law_32 (by rw [c_20]; decide) (by rw [c_20]; decide) (by rw [c_20]; rfl) (by decide) ?_
        refine lv_aload_n hx hb dL_law_406 rfl (lv_at hl 1 rfl) ?_
        refine lv_aload_n hx hb dL_law_407 rfl (lv_at hl 0 rfl) ?_
        refine lv_iload_n hx hb dL_law_408 rfl (lv_at hl 3 rfl) ?_
        refine lv_iconst (v := 1) hx hb dL_law_409 (by decide) ?_
        refine lv_iadd hx hb dL_law_410 ?_
        refine va_sld hx hb hX hbl hbA hS (hidx 1 (by decide)) dL_law_411 ?_
        refine lv_aload_n hx hb dL_law_412 rfl (lv_at hl 0 rfl) ?_
        refine lv_iload_n hx hb dL_law_413 rfl (lv_at hl 3 rfl) ?_
        refine lv_iconst (v := 2) hx hb dL_law_414 (by decide) ?_
        refine lv_iadd hx hb dL_law_415 ?_
        refine va_sld hx hb hX hbl hbA hS (hidx 2 (by decide)) dL_law_416 ?_
        have he := sim_of (xs (x3 + (1 : Int32)).toNatClampNeg) (xs (x3 + (2 : Int32)).toNatClampNeg) hR
        refine ga_vi ⟨hx, hb, hml, hown, hts⟩ (gKC_keep tb _) hKC hK hPC hDC hS 0 [.int (xs (x3 + (1 : Int32)).toNatClampNeg), .int (xs (x3 + (2 : Int32)).toNatClampNeg)] [] (c_X7_of l dC dI P adC tb (xs (x3 + (1 : Int32)).toNatClampNeg) (xs (x3 + (2 : Int32)).toNatClampNeg) hc _ he) gm_X7_of im_yX7_of se_yX7_of ml_RL_57 (by decide) (cE_t0 _) rfl rfl rfl ⟨Nat.le_of_ble_eq_true rfl, Nat.le_of_ble_eq_true rfl⟩ rfl hl.1 rfl (Nat.le_of_ble_eq_true rfl) dL_law_417 ⟨Nat.le_of_ble_eq_true rfl, Nat.le_of_ble_eq_true rfl⟩ (fun r1 hc1 he H1 locs1 hPC1 hDC1 hS1 hk1 => ?_)
        have hPM1 := gW_kept hPM hk1 (fun k hk z => by obtain ⟨i, hi, e9⟩ := z; exact hdis i k hi hk e9.symm)
        refine lv_aload_n hx hb dL_law_420 rfl (lv_at hl 2 rfl) ?_
        refine lv_aload_n hx hb dL_law_421 rfl (lv_at hl 0 rfl) ?_
        refine lv_iload_n hx hb dL_law_422 rfl (lv_at hl 3 rfl) ?_
        refine lv_iconst (v := 1) hx hb dL_law_423 (by decide) ?_
        refine lv_iadd hx hb dL_law_424 ?_
        refine va_sld hx hb hX hbl hbA hS1 (hidx 1 (by decide)) dL_law_425 ?_
        refine lv_aload_n hx hb dL_law_426 rfl (lv_at hl 0 rfl) ?_
        refine lv_iload_n hx hb dL_law_427 rfl (lv_at hl 3 rfl) ?_
        refine lv_iconst (v := 2) hx hb dL_law_428 (by decide) ?_
        refine lv_iadd hx hb dL_law_429 ?_
        refine va_sld hx hb hX hbl hbA hS1 (hidx 2 (by decide)) dL_law_430 ?_
        refine ga_vi ⟨hx, hb, hml, hown, hts⟩ (gKM_keep _) (fun _ _ _ => trivial) hK hPM1 hDM hS1 0 [.int (xs (x3 + (1 : Int32)).toNatClampNeg), .int (xs (x3 + (2 : Int32)).toNatClampNeg)] [.int r1] (c_X8_of l dC dI P adM (xs (x3 + (1 : Int32)).toNatClampNeg) (xs (x3 + (2 : Int32)).toNatClampNeg) hm _ he) gm_X8_of im_yX8_of se_yX8_of ml_RL_60 (by decide) (mE_0 _) rfl rfl rfl ⟨Nat.le_of_ble_eq_true rfl, Nat.le_of_ble_eq_true rfl⟩ rfl hl.1 rfl (Nat.le_of_ble_eq_true rfl) dL_law_431 ⟨Nat.le_of_ble_eq_true rfl, Nat.le_of_ble_eq_true rfl⟩ (fun r2 hm2 he H2 locs2 hPM2 hDM2 hS2 hk2 => ?_)
        have hPC2 := gW_kept hPC1 hk2 (fun k hk z => by obtain ⟨i, hi, e9⟩ := z; exact hdis k i hk hi e9)
        refine lv_icmp_eq (tgt := 827) hx hb dL_law_434 (by decide) (fun _ => ?_) (fun c9 => absurd he.1 c9)
        exact tail hc1 hm2 he.2 H2 locs2 hPC2 hPM2 hS2 hDC1 hDM2
      by_cases c_21 : z = 11
      · refine lv_tableIn (off := 407) (tgt := 439) hx hb dL_law_32 (by rw [c_21]; decide) (by rw [c_21]; decide) (by rw [c_21]; rfl) (by decide) ?_
        refine lv_aload_n hx hb dL_law_439 rfl (lv_at hl 1 rfl) ?_
        refine lv_aload_n hx hb dL_law_440 rfl (lv_at hl 0 rfl) ?_
        refine lv_iload_n hx hb dL_law_441 rfl (lv_at hl 3 rfl) ?_
        refine lv_iconst (v := 1) hx hb dL_law_442 (by decide) ?_
        refine lv_iadd hx hb dL_law_443 ?_
        refine va_sld hx hb hX hbl hbA hS (hidx 1 (by decide)) dL_law_444 ?_
        refine lv_aload_n hx hb dL_law_445 rfl (lv_at hl 0 rfl) ?_
        refine lv_iload_n hx hb dL_law_446 rfl (lv_at hl 3 rfl) ?_
        refine lv_iconst (v := 2) hx hb dL_law_447 (by decide) ?_
        refine lv_iadd hx hb dL_law_448 ?_
        refine va_sld hx hb hX hbl hbA hS (hidx 2 (by decide)) dL_law_449 ?_
        have he := sim_ofStar (xs (x3 + (1 : Int32)).toNatClampNeg) (xs (x3 + (2 : Int32)).toNatClampNeg) hR
        refine ga_vi ⟨hx, hb, hml, hown, hts⟩ (gKC_keep tb _) hKC hK hPC hDC hS 0 [.int (xs (x3 + (1 : Int32)).toNatClampNeg), .int (xs (x3 + (2 : Int32)).toNatClampNeg)] [] (c_X7_ofStar l dC dI P adC tb (xs (x3 + (1 : Int32)).toNatClampNeg) (xs (x3 + (2 : Int32)).toNatClampNeg) hc _ he) gm_X7_ofStar im_yX7_ofStar se_yX7_ofStar ml_RL_61 (by decide) (cE_t0 _) rfl rfl rfl ⟨Nat.le_of_ble_eq_true rfl, Nat.le_of_ble_eq_true rfl⟩ rfl hl.1 rfl (Nat.le_of_ble_eq_true rfl) dL_law_450 ⟨Nat.le_of_ble_eq_true rfl, Nat.le_of_ble_eq_true rfl⟩ (fun r1 hc1 he H1 locs1 hPC1 hDC1 hS1 hk1 => ?_)
        have hPM1 := gW_kept hPM hk1 (fun k hk z => by obtain ⟨i, hi, e9⟩ := z; exact hdis i k hi hk e9.symm)
        refine lv_aload_n hx hb dL_law_453 rfl (lv_at hl 2 rfl) ?_
        refine lv_aload_n hx hb dL_law_454 rfl (lv_at hl 0 rfl) ?_
        refine lv_iload_n hx hb dL_law_455 rfl (lv_at hl 3 rfl) ?_
        refine lv_iconst (v := 1) hx hb dL_law_456 (by decide) ?_
        refine lv_iadd hx hb dL_law_457 ?_
        refine va_sld hx hb hX hbl hbA hS1 (hidx 1 (by decide)) dL_law_458 ?_
        refine lv_aload_n hx hb dL_law_459 rfl (lv_at hl 0 rfl) ?_
        refine lv_iload_n hx hb dL_law_460 rfl (lv_at hl 3 rfl) ?_
        refine lv_iconst (v := 2) hx hb dL_law_461 (by decide) ?_
        refine lv_iadd hx hb dL_law_462 ?_
        refine va_sld hx hb hX hbl hbA hS1 (hidx 2 (by decide)) dL_law_463 ?_
        refine ga_vi ⟨hx, hb, hml, hown, hts⟩ (gKM_keep _) (fun _ _ _ => trivial) hK hPM1 hDM hS1 0 [.int (xs (x3 + (1 : Int32)).toNatClampNeg), .int (xs (x3 + (2 : Int32)).toNatClampNeg)] [.int r1] (c_X8_ofStar l dC dI P adM (xs (x3 + (1 : Int32)).toNatClampNeg) (xs (x3 + (2 : Int32)).toNatClampNeg) hm _ he) gm_X8_ofStar im_yX8_ofStar se_yX8_ofStar ml_RL_64 (by decide) (mE_0 _) rfl rfl rfl ⟨Nat.le_of_ble_eq_true rfl, Nat.le_of_ble_eq_true rfl⟩ rfl hl.1 rfl (Nat.le_of_ble_eq_true rfl) dL_law_464 ⟨Nat.le_of_ble_eq_true rfl, Nat.le_of_ble_eq_true rfl⟩ (fun r2 hm2 he H2 locs2 hPM2 hDM2 hS2 hk2 => ?_)
        have hPC2 := gW_kept hPC1 hk2 (fun k hk z => by obtain ⟨i, hi, e9⟩ := z; exact hdis k i hk hi e9)
        refine lv_icmp_eq (tgt := 827) hx hb dL_law_467 (by decide) (fun _ => ?_) (fun c9 => absurd he.1 c9)
        exact tail hc1 hm2 he.2 H2 locs2 hPC2 hPM2 hS2 hDC1 hDM2
      by_cases c_22 : z = 12
      · refine lv_tableIn (off := 440) (tgt := 472) hx hb dL_law_32 (by rw [c_22]; decide) (by rw [c_22]; decide) (by rw [c_22]; rfl) (by decide) ?_
        refine lv_aload_n hx hb dL_law_472 rfl (lv_at hl 1 rfl) ?_
        refine lv_aload_n hx hb dL_law_473 rfl (lv_at hl 0 rfl) ?_
        refine lv_iload_n hx hb dL_law_474 rfl (lv_at hl 3 rfl) ?_
        refine lv_iconst (v := 1) hx hb dL_law_475 (by decide) ?_
        refine lv_iadd hx hb dL_law_476 ?_
        refine va_sld hx hb hX hbl hbA hS (hidx 1 (by decide)) dL_law_477 ?_
        refine lv_aload_n hx hb dL_law_478 rfl (lv_at hl 0 rfl) ?_
        refine lv_iload_n hx hb dL_law_479 rfl (lv_at hl 3 rfl) ?_
        refine lv_iconst (v := 2) hx hb dL_law_480 (by decide) ?_
        refine lv_iadd hx hb dL_law_481 ?_
        refine va_sld hx hb hX hbl hbA hS (hidx 2 (by decide)) dL_law_482 ?_
        have he := sim_log (xs (x3 + (1 : Int32)).toNatClampNeg) (xs (x3 + (2 : Int32)).toNatClampNeg) hR
        refine ga_vi ⟨hx, hb, hml, hown, hts⟩ (gKC_keep tb _) hKC hK hPC hDC hS 0 [.int (xs (x3 + (1 : Int32)).toNatClampNeg), .int (xs (x3 + (2 : Int32)).toNatClampNeg)] [] (c_X7_log l dC dI P adC tb (xs (x3 + (1 : Int32)).toNatClampNeg) (xs (x3 + (2 : Int32)).toNatClampNeg) hc _ he) gm_X7_log im_yX7_log se_yX7_log ml_RL_65 (by decide) (cE_t0 _) rfl rfl rfl ⟨Nat.le_of_ble_eq_true rfl, Nat.le_of_ble_eq_true rfl⟩ rfl hl.1 rfl (Nat.le_of_ble_eq_true rfl) dL_law_483 ⟨Nat.le_of_ble_eq_true rfl, Nat.le_of_ble_eq_true rfl⟩ (fun r1 hc1 he H1 locs1 hPC1 hDC1 hS1 hk1 => ?_)
        have hPM1 := gW_kept hPM hk1 (fun k hk z => by obtain ⟨i, hi, e9⟩ := z; exact hdis i k hi hk e9.symm)
        refine lv_aload_n hx hb dL_law_486 rfl (lv_at hl 2 rfl) ?_
        refine lv_aload_n hx hb dL_law_487 rfl (lv_at hl 0 rfl) ?_
        refine lv_iload_n hx hb dL_law_488 rfl (lv_at hl 3 rfl) ?_
        refine lv_iconst (v := 1) hx hb dL_law_489 (by decide) ?_
        refine lv_iadd hx hb dL_law_490 ?_
        refine va_sld hx hb hX hbl hbA hS1 (hidx 1 (by decide)) dL_law_491 ?_
        refine lv_aload_n hx hb dL_law_492 rfl (lv_at hl 0 rfl) ?_
        refine lv_iload_n hx hb dL_law_493 rfl (lv_at hl 3 rfl) ?_
        refine lv_iconst (v := 2) hx hb dL_law_494 (by decide) ?_
        refine lv_iadd hx hb dL_law_495 ?_
        refine va_sld hx hb hX hbl hbA hS1 (hidx 2 (by decide)) dL_law_496 ?_
        refine ga_vi ⟨hx, hb, hml, hown, hts⟩ (gKM_keep _) (fun _ _ _ => trivial) hK hPM1 hDM hS1 0 [.int (xs (x3 + (1 : Int32)).toNatClampNeg), .int (xs (x3 + (2 : Int32)).toNatClampNeg)] [.int r1] (c_X8_log l dC dI P adM (xs (x3 + (1 : Int32)).toNatClampNeg) (xs (x3 + (2 : Int32)).toNatClampNeg) hm _ he) gm_X8_log im_yX8_log se_yX8_log ml_RL_68 (by decide) (mE_0 _) rfl rfl rfl ⟨Nat.le_of_ble_eq_true rfl, Nat.le_of_ble_eq_true rfl⟩ rfl hl.1 rfl (Nat.le_of_ble_eq_true rfl) dL_law_497 ⟨Nat.le_of_ble_eq_true rfl, Nat.le_of_ble_eq_true rfl⟩ (fun r2 hm2 he H2 locs2 hPM2 hDM2 hS2 hk2 => ?_)
        have hPC2 := gW_kept hPC1 hk2 (fun k hk z => by obtain ⟨i, hi, e9⟩ := z; exact hdis k i hk hi e9)
        refine lv_icmp_eq (tgt := 827) hx hb dL_law_500 (by decide) (fun _ => ?_) (fun c9 => absurd he.1 c9)
        exact tail hc1 hm2 he.2 H2 locs2 hPC2 hPM2 hS2 hDC1 hDM2
      by_cases c_23 : z = 13
      · refine lv_tableIn (off := 473) (tgt := 505) hx hb dL_law_32 (by rw [c_23]; decide) (by rw [c_23]; decide) (by rw [c_23]; rfl) (by decide) ?_
        refine lv_aload_n hx hb dL_law_505 rfl (lv_at hl 1 rfl) ?_
        refine lv_aload_n hx hb dL_law_506 rfl (lv_at hl 0 rfl) ?_
        refine lv_iload_n hx hb dL_law_507 rfl (lv_at hl 3 rfl) ?_
        refine lv_iconst (v := 1) hx hb dL_law_508 (by decide) ?_
        refine lv_iadd hx hb dL_law_509 ?_
        refine va_sld hx hb hX hbl hbA hS (hidx 1 (by decide)) dL_law_510 ?_
        have he := sim_count (xs (x3 + (1 : Int32)).toNatClampNeg) hR
        refine ga_vi ⟨hx, hb, hml, hown, hts⟩ (gKC_keep tb _) hKC hK hPC hDC hS 0 [.int (xs (x3 + (1 : Int32)).toNatClampNeg)] [] (c_X7_count l dC dI P adC tb (xs (x3 + (1 : Int32)).toNatClampNeg) hc _ he) gm_X7_count im_yX7_count se_yX7_count ml_RL_69 (by decide) (cE_t0 _) rfl rfl rfl ⟨Nat.le_of_ble_eq_true rfl, Nat.le_of_ble_eq_true rfl⟩ rfl hl.1 rfl (Nat.le_of_ble_eq_true rfl) dL_law_511 ⟨Nat.le_of_ble_eq_true rfl, Nat.le_of_ble_eq_true rfl⟩ (fun r1 hc1 he H1 locs1 hPC1 hDC1 hS1 hk1 => ?_)
        have hPM1 := gW_kept hPM hk1 (fun k hk z => by obtain ⟨i, hi, e9⟩ := z; exact hdis i k hi hk e9.symm)
        refine lv_aload_n hx hb dL_law_514 rfl (lv_at hl 2 rfl) ?_
        refine lv_aload_n hx hb dL_law_515 rfl (lv_at hl 0 rfl) ?_
        refine lv_iload_n hx hb dL_law_516 rfl (lv_at hl 3 rfl) ?_
        refine lv_iconst (v := 1) hx hb dL_law_517 (by decide) ?_
        refine lv_iadd hx hb dL_law_518 ?_
        refine va_sld hx hb hX hbl hbA hS1 (hidx 1 (by decide)) dL_law_519 ?_
        refine ga_vi ⟨hx, hb, hml, hown, hts⟩ (gKM_keep _) (fun _ _ _ => trivial) hK hPM1 hDM hS1 0 [.int (xs (x3 + (1 : Int32)).toNatClampNeg)] [.int r1] (c_X8_count l dC dI P adM (xs (x3 + (1 : Int32)).toNatClampNeg) hm _ he) gm_X8_count im_yX8_count se_yX8_count ml_RL_72 (by decide) (mE_0 _) rfl rfl rfl ⟨Nat.le_of_ble_eq_true rfl, Nat.le_of_ble_eq_true rfl⟩ rfl hl.1 rfl (Nat.le_of_ble_eq_true rfl) dL_law_520 ⟨Nat.le_of_ble_eq_true rfl, Nat.le_of_ble_eq_true rfl⟩ (fun r2 hm2 he H2 locs2 hPM2 hDM2 hS2 hk2 => ?_)
        have hPC2 := gW_kept hPC1 hk2 (fun k hk z => by obtain ⟨i, hi, e9⟩ := z; exact hdis k i hk hi e9)
        refine lv_icmp_eq (tgt := 827) hx hb dL_law_523 (by decide) (fun _ => ?_) (fun c9 => absurd he.1 c9)
        exact tail hc1 hm2 he.2 H2 locs2 hPC2 hPM2 hS2 hDC1 hDM2
      by_cases c_24 : z = 14
      · refine lv_tableIn (off := 496) (tgt := 528) hx hb dL_law_32 (by rw [c_24]; decide) (by rw [c_24]; decide) (by rw [c_24]; rfl) (by decide) ?_
        refine lv_aload_n hx hb dL_law_528 rfl (lv_at hl 1 rfl) ?_
        refine lv_aload_n hx hb dL_law_529 rfl (lv_at hl 0 rfl) ?_
        refine lv_iload_n hx hb dL_law_530 rfl (lv_at hl 3 rfl) ?_
        refine lv_iconst (v := 1) hx hb dL_law_531 (by decide) ?_
        refine lv_iadd hx hb dL_law_532 ?_
        refine va_sld hx hb hX hbl hbA hS (hidx 1 (by decide)) dL_law_533 ?_
        refine lv_aload_n hx hb dL_law_534 rfl (lv_at hl 0 rfl) ?_
        refine lv_iload_n hx hb dL_law_535 rfl (lv_at hl 3 rfl) ?_
        refine lv_iconst (v := 2) hx hb dL_law_536 (by decide) ?_
        refine lv_iadd hx hb dL_law_537 ?_
        refine va_sld hx hb hX hbl hbA hS (hidx 2 (by decide)) dL_law_538 ?_
        have he := sim_why (xs (x3 + (1 : Int32)).toNatClampNeg) (xs (x3 + (2 : Int32)).toNatClampNeg) hR
        refine ga_vi ⟨hx, hb, hml, hown, hts⟩ (gKC_keep tb _) hKC hK hPC hDC hS 0 [.int (xs (x3 + (1 : Int32)).toNatClampNeg), .int (xs (x3 + (2 : Int32)).toNatClampNeg)] [] (c_X7_why l dC dI P adC tb (xs (x3 + (1 : Int32)).toNatClampNeg) (xs (x3 + (2 : Int32)).toNatClampNeg) hc _ he) gm_X7_why im_yX7_why se_yX7_why ml_RL_73 (by decide) (cE_t0 _) rfl rfl rfl ⟨Nat.le_of_ble_eq_true rfl, Nat.le_of_ble_eq_true rfl⟩ rfl hl.1 rfl (Nat.le_of_ble_eq_true rfl) dL_law_539 ⟨Nat.le_of_ble_eq_true rfl, Nat.le_of_ble_eq_true rfl⟩ (fun r1 hc1 he H1 locs1 hPC1 hDC1 hS1 hk1 => ?_)
        have hPM1 := gW_kept hPM hk1 (fun k hk z => by obtain ⟨i, hi, e9⟩ := z; exact hdis i k hi hk e9.symm)
        refine lv_aload_n hx hb dL_law_542 rfl (lv_at hl 2 rfl) ?_
        refine lv_aload_n hx hb dL_law_543 rfl (lv_at hl 0 rfl) ?_
        refine lv_iload_n hx hb dL_law_544 rfl (lv_at hl 3 rfl) ?_
        refine lv_iconst (v := 1) hx hb dL_law_545 (by decide) ?_
        refine lv_iadd hx hb dL_law_546 ?_
        refine va_sld hx hb hX hbl hbA hS1 (hidx 1 (by decide)) dL_law_547 ?_
        refine lv_aload_n hx hb dL_law_548 rfl (lv_at hl 0 rfl) ?_
        refine lv_iload_n hx hb dL_law_549 rfl (lv_at hl 3 rfl) ?_
        refine lv_iconst (v := 2) hx hb dL_law_550 (by decide) ?_
        refine lv_iadd hx hb dL_law_551 ?_
        refine va_sld hx hb hX hbl hbA hS1 (hidx 2 (by decide)) dL_law_552 ?_
        refine ga_vi ⟨hx, hb, hml, hown, hts⟩ (gKM_keep _) (fun _ _ _ => trivial) hK hPM1 hDM hS1 0 [.int (xs (x3 + (1 : Int32)).toNatClampNeg), .int (xs (x3 + (2 : Int32)).toNatClampNeg)] [.int r1] (c_X8_why l dC dI P adM (xs (x3 + (1 : Int32)).toNatClampNeg) (xs (x3 + (2 : Int32)).toNatClampNeg) hm _ he) gm_X8_why im_yX8_why se_yX8_why ml_RL_76 (by decide) (mE_0 _) rfl rfl rfl ⟨Nat.le_of_ble_eq_true rfl, Nat.le_of_ble_eq_true rfl⟩ rfl hl.1 rfl (Nat.le_of_ble_eq_true rfl) dL_law_553 ⟨Nat.le_of_ble_eq_true rfl, Nat.le_of_ble_eq_true rfl⟩ (fun r2 hm2 he H2 locs2 hPM2 hDM2 hS2 hk2 => ?_)
        have hPC2 := gW_kept hPC1 hk2 (fun k hk z => by obtain ⟨i, hi, e9⟩ := z; exact hdis k i hk hi e9)
        refine lv_icmp_eq (tgt := 827) hx hb dL_law_556 (by decide) (fun _ => ?_) (fun c9 => absurd he.1 c9)
        exact tail hc1 hm2 he.2 H2 locs2 hPC2 hPM2 hS2 hDC1 hDM2
      by_cases c_25 : z = 15
      · refine lv_tableIn (off := 529) (tgt := 561) hx hb dL_law_32 (by rw [c_25]; decide) (by rw [c_25]; decide) (by rw [c_25]; rfl) (by decide) ?_
        refine lv_aload_n hx hb dL_law_561 rfl (lv_at hl 1 rfl) ?_
        refine lv_aload_n hx hb dL_law_562 rfl (lv_at hl 0 rfl) ?_
        refine lv_iload_n hx hb dL_law_563 rfl (lv_at hl 3 rfl) ?_
        refine lv_iconst (v := 1) hx hb dL_law_564 (by decide) ?_
        refine lv_iadd hx hb dL_law_565 ?_
        refine va_sld hx hb hX hbl hbA hS (hidx 1 (by decide)) dL_law_566 ?_
        refine lv_aload_n hx hb dL_law_567 rfl (lv_at hl 0 rfl) ?_
        refine lv_iload_n hx hb dL_law_568 rfl (lv_at hl 3 rfl) ?_
        refine lv_iconst (v := 2) hx hb dL_law_569 (by decide) ?_
        refine lv_iadd hx hb dL_law_570 ?_
        refine va_sld hx hb hX hbl hbA hS (hidx 2 (by decide)) dL_law_571 ?_
        have he := sim_ifSighted (xs (x3 + (1 : Int32)).toNatClampNeg) (xs (x3 + (2 : Int32)).toNatClampNeg) hR
        refine ga_vi ⟨hx, hb, hml, hown, hts⟩ (gKC_keep tb _) hKC hK hPC hDC hS 0 [.int (xs (x3 + (1 : Int32)).toNatClampNeg), .int (xs (x3 + (2 : Int32)).toNatClampNeg)] [] (c_X7_ifSighted l dC dI P adC tb (xs (x3 + (1 : Int32)).toNatClampNeg) (xs (x3 + (2 : Int32)).toNatClampNeg) hc _ he) gm_X7_ifSighted im_yX7_ifSighted se_yX7_ifSighted ml_RL_77 (by decide) (cE_t0 _) rfl rfl rfl ⟨Nat.le_of_ble_eq_true rfl, Nat.le_of_ble_eq_true rfl⟩ rfl hl.1 rfl (Nat.le_of_ble_eq_true rfl) dL_law_572 ⟨Nat.le_of_ble_eq_true rfl, Nat.le_of_ble_eq_true rfl⟩ (fun r1 hc1 he H1 locs1 hPC1 hDC1 hS1 hk1 => ?_)
        have hPM1 := gW_kept hPM hk1 (fun k hk z => by obtain ⟨i, hi, e9⟩ := z; exact hdis i k hi hk e9.symm)
        refine lv_aload_n hx hb dL_law_575 rfl (lv_at hl 2 rfl) ?_
        refine lv_aload_n hx hb dL_law_576 rfl (lv_at hl 0 rfl) ?_
        refine lv_iload_n hx hb dL_law_577 rfl (lv_at hl 3 rfl) ?_
        refine lv_iconst (v := 1) hx hb dL_law_578 (by decide) ?_
        refine lv_iadd hx hb dL_law_579 ?_
        refine va_sld hx hb hX hbl hbA hS1 (hidx 1 (by decide)) dL_law_580 ?_
        refine lv_aload_n hx hb dL_law_581 rfl (lv_at hl 0 rfl) ?_
        refine lv_iload_n hx hb dL_law_582 rfl (lv_at hl 3 rfl) ?_
        refine lv_iconst (v := 2) hx hb dL_law_583 (by decide) ?_
        refine lv_iadd hx hb dL_law_584 ?_
        refine va_sld hx hb hX hbl hbA hS1 (hidx 2 (by decide)) dL_law_585 ?_
        refine ga_vi ⟨hx, hb, hml, hown, hts⟩ (gKM_keep _) (fun _ _ _ => trivial) hK hPM1 hDM hS1 0 [.int (xs (x3 + (1 : Int32)).toNatClampNeg), .int (xs (x3 + (2 : Int32)).toNatClampNeg)] [.int r1] (c_X8_ifSighted l dC dI P adM (xs (x3 + (1 : Int32)).toNatClampNeg) (xs (x3 + (2 : Int32)).toNatClampNeg) hm _ he) gm_X8_ifSighted im_yX8_ifSighted se_yX8_ifSighted ml_RL_80 (by decide) (mE_0 _) rfl rfl rfl ⟨Nat.le_of_ble_eq_true rfl, Nat.le_of_ble_eq_true rfl⟩ rfl hl.1 rfl (Nat.le_of_ble_eq_true rfl) dL_law_586 ⟨Nat.le_of_ble_eq_true rfl, Nat.le_of_ble_eq_true rfl⟩ (fun r2 hm2 he H2 locs2 hPM2 hDM2 hS2 hk2 => ?_)
        have hPC2 := gW_kept hPC1 hk2 (fun k hk z => by obtain ⟨i, hi, e9⟩ := z; exact hdis k i hk hi e9)
        refine lv_icmp_eq (tgt := 827) hx hb dL_law_589 (by decide) (fun _ => ?_) (fun c9 => absurd he.1 c9)
        exact tail hc1 hm2 he.2 H2 locs2 hPC2 hPM2 hS2 hDC1 hDM2
      by_cases c_26 : z = 16
      · refine lv_tableIn (off := 562) (tgt := 594) hx hb dL_law_32 (by rw [c_26]; decide) (by rw [c_26]; decide) (by rw [c_26]; rfl) (by decide) ?_
        refine lv_aload_n hx hb dL_law_594 rfl (lv_at hl 1 rfl) ?_
        refine lv_aload_n hx hb dL_law_595 rfl (lv_at hl 0 rfl) ?_
        refine lv_iload_n hx hb dL_law_596 rfl (lv_at hl 3 rfl) ?_
        refine lv_iconst (v := 1) hx hb dL_law_597 (by decide) ?_
        refine lv_iadd hx hb dL_law_598 ?_
        refine va_sld hx hb hX hbl hbA hS (hidx 1 (by decide)) dL_law_599 ?_
        have he := sim_median (xs (x3 + (1 : Int32)).toNatClampNeg) hR
        refine ga_vi ⟨hx, hb, hml, hown, hts⟩ (gKC_keep tb _) hKC hK hPC hDC hS 0 [.int (xs (x3 + (1 : Int32)).toNatClampNeg)] [] (c_X7_median l dC dI P adC tb (xs (x3 + (1 : Int32)).toNatClampNeg) hc _ he) gm_X7_median im_yX7_median se_yX7_median ml_RL_81 (by decide) (cE_t0 _) rfl rfl rfl ⟨Nat.le_of_ble_eq_true rfl, Nat.le_of_ble_eq_true rfl⟩ rfl hl.1 rfl (Nat.le_of_ble_eq_true rfl) dL_law_600 ⟨Nat.le_of_ble_eq_true rfl, Nat.le_of_ble_eq_true rfl⟩ (fun r1 hc1 he H1 locs1 hPC1 hDC1 hS1 hk1 => ?_)
        have hPM1 := gW_kept hPM hk1 (fun k hk z => by obtain ⟨i, hi, e9⟩ := z; exact hdis i k hi hk e9.symm)
        refine lv_aload_n hx hb dL_law_603 rfl (lv_at hl 2 rfl) ?_
        refine lv_aload_n hx hb dL_law_604 rfl (lv_at hl 0 rfl) ?_
        refine lv_iload_n hx hb dL_law_605 rfl (lv_at hl 3 rfl) ?_
        refine lv_iconst (v := 1) hx hb dL_law_606 (by decide) ?_
        refine lv_iadd hx hb dL_law_607 ?_
        refine va_sld hx hb hX hbl hbA hS1 (hidx 1 (by decide)) dL_law_608 ?_
        refine ga_vi ⟨hx, hb, hml, hown, hts⟩ (gKM_keep _) (fun _ _ _ => trivial) hK hPM1 hDM hS1 0 [.int (xs (x3 + (1 : Int32)).toNatClampNeg)] [.int r1] (c_X8_median l dC dI P adM (xs (x3 + (1 : Int32)).toNatClampNeg) hm _ he) gm_X8_median im_yX8_median se_yX8_median ml_RL_84 (by decide) (mE_0 _) rfl rfl rfl ⟨Nat.le_of_ble_eq_true rfl, Nat.le_of_ble_eq_true rfl⟩ rfl hl.1 rfl (Nat.le_of_ble_eq_true rfl) dL_law_609 ⟨Nat.le_of_ble_eq_true rfl, Nat.le_of_ble_eq_true rfl⟩ (fun r2 hm2 he H2 locs2 hPM2 hDM2 hS2 hk2 => ?_)
        have hPC2 := gW_kept hPC1 hk2 (fun k hk z => by obtain ⟨i, hi, e9⟩ := z; exact hdis k i hk hi e9)
        refine lv_icmp_eq (tgt := 827) hx hb dL_law_612 (by decide) (fun _ => ?_) (fun c9 => absurd he.1 c9)
        exact tail hc1 hm2 he.2 H2 locs2 hPC2 hPM2 hS2 hDC1 hDM2
      by_cases c_27 : z = 17
      · refine lv_tableIn (off := 585) (tgt := 617) hx hb dL_law_32 (by rw [c_27]; decide) (by rw [c_27]; decide) (by rw [c_27]; rfl) (by decide) ?_
        refine lv_aload_n hx hb dL_law_617 rfl (lv_at hl 1 rfl) ?_
        have he := sim_bestStar  hR
        refine ga_vi ⟨hx, hb, hml, hown, hts⟩ (gKC_keep tb _) hKC hK hPC hDC hS 0 [] [] (c_X7_bestStar l dC dI P adC tb  hc _ he) gm_X7_bestStar im_yX7_bestStar se_yX7_bestStar ml_RL_85 (by decide) (cE_t0 _) rfl rfl rfl ⟨Nat.le_of_ble_eq_true rfl, Nat.le_of_ble_eq_true rfl⟩ rfl hl.1 rfl (Nat.le_of_ble_eq_true rfl) dL_law_618 ⟨Nat.le_of_ble_eq_true rfl, Nat.le_of_ble_eq_true rfl⟩ (fun r1 hc1 he H1 locs1 hPC1 hDC1 hS1 hk1 => ?_)
        have hPM1 := gW_kept hPM hk1 (fun k hk z => by obtain ⟨i, hi, e9⟩ := z; exact hdis i k hi hk e9.symm)
        refine lv_aload_n hx hb dL_law_621 rfl (lv_at hl 2 rfl) ?_
        refine ga_vi ⟨hx, hb, hml, hown, hts⟩ (gKM_keep _) (fun _ _ _ => trivial) hK hPM1 hDM hS1 0 [] [.int r1] (c_X8_bestStar l dC dI P adM  hm _ he) gm_X8_bestStar im_yX8_bestStar se_yX8_bestStar ml_RL_88 (by decide) (mE_0 _) rfl rfl rfl ⟨Nat.le_of_ble_eq_true rfl, Nat.le_of_ble_eq_true rfl⟩ rfl hl.1 rfl (Nat.le_of_ble_eq_true rfl) dL_law_622 ⟨Nat.le_of_ble_eq_true rfl, Nat.le_of_ble_eq_true rfl⟩ (fun r2 hm2 he H2 locs2 hPM2 hDM2 hS2 hk2 => ?_)
        have hPC2 := gW_kept hPC1 hk2 (fun k hk z => by obtain ⟨i, hi, e9⟩ := z; exact hdis k i hk hi e9)
        refine lv_icmp_eq (tgt := 827) hx hb dL_law_625 (by decide) (fun _ => ?_) (fun c9 => absurd he.1 c9)
        exact tail hc1 hm2 he.2 H2 locs2 hPC2 hPM2 hS2 hDC1 hDM2
      by_cases c_28 : z = 18
      · refine lv_tableIn (off := 598) (tgt := 630) hx hb dL_law_32 (by rw [c_28]; decide) (by rw [c_28]; decide) (by rw [c_28]; rfl) (by decide) ?_
        refine lv_aload_n hx hb dL_law_630 rfl (lv_at hl 1 rfl) ?_
        refine lv_aload_n hx hb dL_law_631 rfl (lv_at hl 0 rfl) ?_
        refine lv_iload_n hx hb dL_law_632 rfl (lv_at hl 3 rfl) ?_
        refine lv_iconst (v := 1) hx hb dL_law_633 (by decide) ?_
        refine lv_iadd hx hb dL_law_634 ?_
        refine va_sld hx hb hX hbl hbA hS (hidx 1 (by decide)) dL_law_635 ?_
        have he := sim_nearest (xs (x3 + (1 : Int32)).toNatClampNeg) hR
        refine ga_vi ⟨hx, hb, hml, hown, hts⟩ (gKC_keep tb _) hKC hK hPC hDC hS 0 [.int (xs (x3 + (1 : Int32)).toNatClampNeg)] [] (c_X7_nearest l dC dI P adC tb (xs (x3 + (1 : Int32)).toNatClampNeg) hc _ he) gm_X7_nearest im_yX7_nearest se_yX7_nearest ml_RL_89 (by decide) (cE_t0 _) rfl rfl rfl ⟨Nat.le_of_ble_eq_true rfl, Nat.le_of_ble_eq_true rfl⟩ rfl hl.1 rfl (Nat.le_of_ble_eq_true rfl) dL_law_636 ⟨Nat.le_of_ble_eq_true rfl, Nat.le_of_ble_eq_true rfl⟩ (fun r1 hc1 he H1 locs1 hPC1 hDC1 hS1 hk1 => ?_)
        have hPM1 := gW_kept hPM hk1 (fun k hk z => by obtain ⟨i, hi, e9⟩ := z; exact hdis i k hi hk e9.symm)
        refine lv_aload_n hx hb dL_law_639 rfl (lv_at hl 2 rfl) ?_
        refine lv_aload_n hx hb dL_law_640 rfl (lv_at hl 0 rfl) ?_
        refine lv_iload_n hx hb dL_law_641 rfl (lv_at hl 3 rfl) ?_
        refine lv_iconst (v := 1) hx hb dL_law_642 (by decide) ?_
        refine lv_iadd hx hb dL_law_643 ?_
        refine va_sld hx hb hX hbl hbA hS1 (hidx 1 (by decide)) dL_law_644 ?_
        refine ga_vi ⟨hx, hb, hml, hown, hts⟩ (gKM_keep _) (fun _ _ _ => trivial) hK hPM1 hDM hS1 0 [.int (xs (x3 + (1 : Int32)).toNatClampNeg)] [.int r1] (c_X8_nearest l dC dI P adM (xs (x3 + (1 : Int32)).toNatClampNeg) hm _ he) gm_X8_nearest im_yX8_nearest se_yX8_nearest ml_RL_92 (by decide) (mE_0 _) rfl rfl rfl ⟨Nat.le_of_ble_eq_true rfl, Nat.le_of_ble_eq_true rfl⟩ rfl hl.1 rfl (Nat.le_of_ble_eq_true rfl) dL_law_645 ⟨Nat.le_of_ble_eq_true rfl, Nat.le_of_ble_eq_true rfl⟩ (fun r2 hm2 he H2 locs2 hPM2 hDM2 hS2 hk2 => ?_)
        have hPC2 := gW_kept hPC1 hk2 (fun k hk z => by obtain ⟨i, hi, e9⟩ := z; exact hdis k i hk hi e9)
        refine lv_icmp_eq (tgt := 827) hx hb dL_law_648 (by decide) (fun _ => ?_) (fun c9 => absurd he.1 c9)
        exact tail hc1 hm2 he.2 H2 locs2 hPC2 hPM2 hS2 hDC1 hDM2
      by_cases c_29 : z = 19
      · refine lv_tableIn (off := 621) (tgt := 653) hx hb dL_law_32 (by rw [c_29]; decide) (by rw [c_29]; decide) (by rw [c_29]; rfl) (by decide) ?_
        refine lv_aload_n hx hb dL_law_653 rfl (lv_at hl 1 rfl) ?_
        refine lv_aload_n hx hb dL_law_654 rfl (lv_at hl 0 rfl) ?_
        refine lv_iload_n hx hb dL_law_655 rfl (lv_at hl 3 rfl) ?_
        refine lv_iconst (v := 1) hx hb dL_law_656 (by decide) ?_
        refine lv_iadd hx hb dL_law_657 ?_
        refine va_sld hx hb hX hbl hbA hS (hidx 1 (by decide)) dL_law_658 ?_
        have he := sim_arrivesIn (xs (x3 + (1 : Int32)).toNatClampNeg) hR
        refine ga_vi ⟨hx, hb, hml, hown, hts⟩ (gKC_keep tb _) hKC hK hPC hDC hS 0 [.int (xs (x3 + (1 : Int32)).toNatClampNeg)] [] (c_X7_arrivesIn l dC dI P adC tb (xs (x3 + (1 : Int32)).toNatClampNeg) hc _ he) gm_X7_arrivesIn im_yX7_arrivesIn se_yX7_arrivesIn ml_RL_93 (by decide) (cE_t0 _) rfl rfl rfl ⟨Nat.le_of_ble_eq_true rfl, Nat.le_of_ble_eq_true rfl⟩ rfl hl.1 rfl (Nat.le_of_ble_eq_true rfl) dL_law_659 ⟨Nat.le_of_ble_eq_true rfl, Nat.le_of_ble_eq_true rfl⟩ (fun r1 hc1 he H1 locs1 hPC1 hDC1 hS1 hk1 => ?_)
        have hPM1 := gW_kept hPM hk1 (fun k hk z => by obtain ⟨i, hi, e9⟩ := z; exact hdis i k hi hk e9.symm)
        refine lv_aload_n hx hb dL_law_662 rfl (lv_at hl 2 rfl) ?_
        refine lv_aload_n hx hb dL_law_663 rfl (lv_at hl 0 rfl) ?_
        refine lv_iload_n hx hb dL_law_664 rfl (lv_at hl 3 rfl) ?_
        refine lv_iconst (v := 1) hx hb dL_law_665 (by decide) ?_
        refine lv_iadd hx hb dL_law_666 ?_
        refine va_sld hx hb hX hbl hbA hS1 (hidx 1 (by decide)) dL_law_667 ?_
        refine ga_vi ⟨hx, hb, hml, hown, hts⟩ (gKM_keep _) (fun _ _ _ => trivial) hK hPM1 hDM hS1 0 [.int (xs (x3 + (1 : Int32)).toNatClampNeg)] [.int r1] (c_X8_arrivesIn l dC dI P adM (xs (x3 + (1 : Int32)).toNatClampNeg) hm _ he) gm_X8_arrivesIn im_yX8_arrivesIn se_yX8_arrivesIn ml_RL_96 (by decide) (mE_0 _) rfl rfl rfl ⟨Nat.le_of_ble_eq_true rfl, Nat.le_of_ble_eq_true rfl⟩ rfl hl.1 rfl (Nat.le_of_ble_eq_true rfl) dL_law_668 ⟨Nat.le_of_ble_eq_true rfl, Nat.le_of_ble_eq_true rfl⟩ (fun r2 hm2 he H2 locs2 hPM2 hDM2 hS2 hk2 => ?_)
        have hPC2 := gW_kept hPC1 hk2 (fun k hk z => by obtain ⟨i, hi, e9⟩ := z; exact hdis k i hk hi e9)
        refine lv_icmp_eq (tgt := 827) hx hb dL_law_671 (by decide) (fun _ => ?_) (fun c9 => absurd he.1 c9)
        exact tail hc1 hm2 he.2 H2 locs2 hPC2 hPM2 hS2 hDC1 hDM2
      by_cases c_30 : z = 20
      · refine lv_tableIn (off := 644) (tgt := 676) hx hb dL_law_32 (by rw [c_30]; decide) (by rw [c_30]; decide) (by rw [c_30]; rfl) (by decide) ?_
        refine lv_aload_n hx hb dL_law_676 rfl (lv_at hl 1 rfl) ?_
        refine lv_aload_n hx hb dL_law_677 rfl (lv_at hl 0 rfl) ?_
        refine lv_iload_n hx hb dL_law_678 rfl (lv_at hl 3 rfl) ?_
        refine lv_iconst (v := 1) hx hb dL_law_679 (by decide) ?_
        refine lv_iadd hx hb dL_law_680 ?_
        refine va_sld hx hb hX hbl hbA hS (hidx 1 (by decide)) dL_law_681 ?_
        refine lv_i2l (v := (xs (x3 + (1 : Int32)).toNatClampNeg).toInt64) hx hb dL_law_682 rfl ?_
        refine lv_bipush (v := 32) hx hb dL_law_683 (by decide) ?_
        refine lv_lshl (v := ((xs (x3 + (1 : Int32)).toNatClampNeg).toInt64 <<< ((32 : Int32).toInt64 &&& 63))) hx hb dL_law_685 rfl ?_
        refine lv_aload_n hx hb dL_law_686 rfl (lv_at hl 0 rfl) ?_
        refine lv_iload_n hx hb dL_law_687 rfl (lv_at hl 3 rfl) ?_
        refine lv_iconst (v := 2) hx hb dL_law_688 (by decide) ?_
        refine lv_iadd hx hb dL_law_689 ?_
        refine va_sld hx hb hX hbl hbA hS (hidx 2 (by decide)) dL_law_690 ?_
        refine lv_i2l (v := (xs (x3 + (2 : Int32)).toNatClampNeg).toInt64) hx hb dL_law_691 rfl ?_
        refine lv_ldc2 (v := (4294967295 : Int64)) hx hb hown (hts _ kl_RL_97) dL_law_692 ?_
        refine lv_land hx hb dL_law_695 ?_
        refine lv_lor hx hb dL_law_696 ?_
        have he := sim_put (((xs (x3 + (1 : Int32)).toNatClampNeg).toInt64 <<< ((32 : Int32).toInt64 &&& 63)) ||| ((xs (x3 + (2 : Int32)).toNatClampNeg).toInt64 &&& (4294967295 : Int64))) hR
        refine ga_vi ⟨hx, hb, hml, hown, hts⟩ (gKC_keep tb _) hKC hK hPC hDC hS 0 [.long (((xs (x3 + (1 : Int32)).toNatClampNeg).toInt64 <<< ((32 : Int32).toInt64 &&& 63)) ||| ((xs (x3 + (2 : Int32)).toNatClampNeg).toInt64 &&& (4294967295 : Int64)))] [] (c_X7_put l dC dI P adC tb (((xs (x3 + (1 : Int32)).toNatClampNeg).toInt64 <<< ((32 : Int32).toInt64 &&& 63)) ||| ((xs (x3 + (2 : Int32)).toNatClampNeg).toInt64 &&& (4294967295 : Int64))) hc _ he) gm_X7_put im_yX7_put se_yX7_put ml_RL_99 (by decide) (cE_t0 _) rfl rfl rfl ⟨Nat.le_of_ble_eq_true rfl, Nat.le_of_ble_eq_true rfl⟩ rfl hl.1 rfl (Nat.le_of_ble_eq_true rfl) dL_law_697 ⟨Nat.le_of_ble_eq_true rfl, Nat.le_of_ble_eq_true rfl⟩ (fun r1 hc1 he H1 locs1 hPC1 hDC1 hS1 hk1 => ?_)
        have hPM1 := gW_kept hPM hk1 (fun k hk z => by obtain ⟨i, hi, e9⟩ := z; exact hdis i k hi hk e9.symm)
        refine lv_aload_n hx hb dL_law_700 rfl (lv_at hl 2 rfl) ?_
        refine lv_aload_n hx hb dL_law_701 rfl (lv_at hl 0 rfl) ?_
        refine lv_iload_n hx hb dL_law_702 rfl (lv_at hl 3 rfl) ?_
        refine lv_iconst (v := 1) hx hb dL_law_703 (by decide) ?_
        refine lv_iadd hx hb dL_law_704 ?_
        refine va_sld hx hb hX hbl hbA hS1 (hidx 1 (by decide)) dL_law_705 ?_
        refine lv_i2l (v := (xs (x3 + (1 : Int32)).toNatClampNeg).toInt64) hx hb dL_law_706 rfl ?_
        refine lv_bipush (v := 32) hx hb dL_law_707 (by decide) ?_
        refine lv_lshl (v := ((xs (x3 + (1 : Int32)).toNatClampNeg).toInt64 <<< ((32 : Int32).toInt64 &&& 63))) hx hb dL_law_709 rfl ?_
        refine lv_aload_n hx hb dL_law_710 rfl (lv_at hl 0 rfl) ?_
        refine lv_iload_n hx hb dL_law_711 rfl (lv_at hl 3 rfl) ?_
        refine lv_iconst (v := 2) hx hb dL_law_712 (by decide) ?_
        refine lv_iadd hx hb dL_law_713 ?_
        refine va_sld hx hb hX hbl hbA hS1 (hidx 2 (by decide)) dL_law_714 ?_
        refine lv_i2l (v := (xs (x3 + (2 : Int32)).toNatClampNeg).toInt64) hx hb dL_law_715 rfl ?_
        refine lv_ldc2 (v := (4294967295 : Int64)) hx hb hown (hts _ kl_RL_97) dL_law_716 ?_
        refine lv_land hx hb dL_law_719 ?_
        refine lv_lor hx hb dL_law_720 ?_
        refine ga_vi ⟨hx, hb, hml, hown, hts⟩ (gKM_keep _) (fun _ _ _ => trivial) hK hPM1 hDM hS1 0 [.long (((xs (x3 + (1 : Int32)).toNatClampNeg).toInt64 <<< ((32 : Int32).toInt64 &&& 63)) ||| ((xs (x3 + (2 : Int32)).toNatClampNeg).toInt64 &&& (4294967295 : Int64)))] [.int r1] (c_X8_put l dC dI P adM (((xs (x3 + (1 : Int32)).toNatClampNeg).toInt64 <<< ((32 : Int32).toInt64 &&& 63)) ||| ((xs (x3 + (2 : Int32)).toNatClampNeg).toInt64 &&& (4294967295 : Int64))) hm _ he) gm_X8_put im_yX8_put se_yX8_put ml_RL_103 (by decide) (mE_0 _) rfl rfl rfl ⟨Nat.le_of_ble_eq_true rfl, Nat.le_of_ble_eq_true rfl⟩ rfl hl.1 rfl (Nat.le_of_ble_eq_true rfl) dL_law_721 ⟨Nat.le_of_ble_eq_true rfl, Nat.le_of_ble_eq_true rfl⟩ (fun r2 hm2 he H2 locs2 hPM2 hDM2 hS2 hk2 => ?_)
        have hPC2 := gW_kept hPC1 hk2 (fun k hk z => by obtain ⟨i, hi, e9⟩ := z; exact hdis k i hk hi e9)
        refine lv_icmp_eq (tgt := 827) hx hb dL_law_724 (by decide) (fun _ => ?_) (fun c9 => absurd he.1 c9)
        exact tail hc1 hm2 he.2 H2 locs2 hPC2 hPM2 hS2 hDC1 hDM2
      by_cases c_31 : z = 21
      · refine lv_tableIn (off := 697) (tgt := 729) hx hb dL_law_32 (by rw [c_31]; decide) (by rw [c_31]; decide) (by rw [c_31]; rfl) (by decide) ?_
        refine lv_aload_n hx hb dL_law_729 rfl (lv_at hl 1 rfl) ?_
        have he := sim_wipe  hR
        refine ga_vi ⟨hx, hb, hml, hown, hts⟩ (gKC_keep tb _) hKC hK hPC hDC hS 0 [] [] (c_X7_wipe l dC dI P adC tb  hc _ he) gm_X7_wipe im_yX7_wipe se_yX7_wipe ml_RL_104 (by decide) (cE_t0 _) rfl rfl rfl ⟨Nat.le_of_ble_eq_true rfl, Nat.le_of_ble_eq_true rfl⟩ rfl hl.1 rfl (Nat.le_of_ble_eq_true rfl) dL_law_730 ⟨Nat.le_of_ble_eq_true rfl, Nat.le_of_ble_eq_true rfl⟩ (fun r1 hc1 he H1 locs1 hPC1 hDC1 hS1 hk1 => ?_)
        have hPM1 := gW_kept hPM hk1 (fun k hk z => by obtain ⟨i, hi, e9⟩ := z; exact hdis i k hi hk e9.symm)
        refine lv_aload_n hx hb dL_law_733 rfl (lv_at hl 2 rfl) ?_
        refine ga_vi ⟨hx, hb, hml, hown, hts⟩ (gKM_keep _) (fun _ _ _ => trivial) hK hPM1 hDM hS1 0 [] [.int r1] (c_X8_wipe l dC dI P adM  hm _ he) gm_X8_wipe im_yX8_wipe se_yX8_wipe ml_RL_107 (by decide) (mE_0 _) rfl rfl rfl ⟨Nat.le_of_ble_eq_true rfl, Nat.le_of_ble_eq_true rfl⟩ rfl hl.1 rfl (Nat.le_of_ble_eq_true rfl) dL_law_734 ⟨Nat.le_of_ble_eq_true rfl, Nat.le_of_ble_eq_true rfl⟩ (fun r2 hm2 he H2 locs2 hPM2 hDM2 hS2 hk2 => ?_)
        have hPC2 := gW_kept hPC1 hk2 (fun k hk z => by obtain ⟨i, hi, e9⟩ := z; exact hdis k i hk hi e9)
        refine lv_icmp_eq (tgt := 827) hx hb dL_law_737 (by decide) (fun _ => ?_) (fun c9 => absurd he.1 c9)
        exact tail hc1 hm2 he.2 H2 locs2 hPC2 hPM2 hS2 hDC1 hDM2
      by_cases c_32 : z = 22
      · refine lv_tableIn (off := 710) (tgt := 742) hx hb dL_law_32 (by rw [c_32]; decide) (by rw [c_32]; decide) (by rw [c_32]; rfl) (by decide) ?_
        refine lv_aload_n hx hb dL_law_742 rfl (lv_at hl 1 rfl) ?_
        have he := sim_fault  hR
        refine ga_vi ⟨hx, hb, hml, hown, hts⟩ (gKC_keep tb _) hKC hK hPC hDC hS 0 [] [] (c_X7_fault l dC dI P adC tb  hc _ he) gm_X7_fault im_yX7_fault se_yX7_fault ml_RL_108 (by decide) (cE_t0 _) rfl rfl rfl ⟨Nat.le_of_ble_eq_true rfl, Nat.le_of_ble_eq_true rfl⟩ rfl hl.1 rfl (Nat.le_of_ble_eq_true rfl) dL_law_743 ⟨Nat.le_of_ble_eq_true rfl, Nat.le_of_ble_eq_true rfl⟩ (fun r1 hc1 he H1 locs1 hPC1 hDC1 hS1 hk1 => ?_)
        have hPM1 := gW_kept hPM hk1 (fun k hk z => by obtain ⟨i, hi, e9⟩ := z; exact hdis i k hi hk e9.symm)
        refine lv_aload_n hx hb dL_law_746 rfl (lv_at hl 2 rfl) ?_
        refine ga_vi ⟨hx, hb, hml, hown, hts⟩ (gKM_keep _) (fun _ _ _ => trivial) hK hPM1 hDM hS1 0 [] [.int r1] (c_X8_fault l dC dI P adM  hm _ he) gm_X8_fault im_yX8_fault se_yX8_fault ml_RL_111 (by decide) (mE_0 _) rfl rfl rfl ⟨Nat.le_of_ble_eq_true rfl, Nat.le_of_ble_eq_true rfl⟩ rfl hl.1 rfl (Nat.le_of_ble_eq_true rfl) dL_law_747 ⟨Nat.le_of_ble_eq_true rfl, Nat.le_of_ble_eq_true rfl⟩ (fun r2 hm2 he H2 locs2 hPM2 hDM2 hS2 hk2 => ?_)
        have hPC2 := gW_kept hPC1 hk2 (fun k hk z => by obtain ⟨i, hi, e9⟩ := z; exact hdis k i hk hi e9)
        refine lv_icmp_eq (tgt := 827) hx hb dL_law_750 (by decide) (fun _ => ?_) (fun c9 => absurd he.1 c9)
        exact tail hc1 hm2 he.2 H2 locs2 hPC2 hPM2 hS2 hDC1 hDM2
      by_cases c_33 : z = 23
      · refine lv_tableIn (off := 723) (tgt := 755) hx hb dL_law_32 (by rw [c_33]; decide) (by rw [c_33]; decide) (by rw [c_33]; rfl) (by decide) ?_
        refine lv_aload_n hx hb dL_law_755 rfl (lv_at hl 1 rfl) ?_
        have he := sim_carryOut  hR
        refine ga_vi ⟨hx, hb, hml, hown, hts⟩ (gKC_keep tb _) hKC hK hPC hDC hS 0 [] [] (c_X7_carryOut l dC dI P adC tb  hc _ he) gm_X7_carryOut im_yX7_carryOut se_yX7_carryOut ml_RL_112 (by decide) (cE_t0 _) rfl rfl rfl ⟨Nat.le_of_ble_eq_true rfl, Nat.le_of_ble_eq_true rfl⟩ rfl hl.1 rfl (Nat.le_of_ble_eq_true rfl) dL_law_756 ⟨Nat.le_of_ble_eq_true rfl, Nat.le_of_ble_eq_true rfl⟩ (fun r1 hc1 he H1 locs1 hPC1 hDC1 hS1 hk1 => ?_)
        have hPM1 := gW_kept hPM hk1 (fun k hk z => by obtain ⟨i, hi, e9⟩ := z; exact hdis i k hi hk e9.symm)
        refine lv_aload_n hx hb dL_law_759 rfl (lv_at hl 2 rfl) ?_
        refine ga_vi ⟨hx, hb, hml, hown, hts⟩ (gKM_keep _) (fun _ _ _ => trivial) hK hPM1 hDM hS1 0 [] [.int r1] (c_X8_carryOut l dC dI P adM  hm _ he) gm_X8_carryOut im_yX8_carryOut se_yX8_carryOut ml_RL_115 (by decide) (mE_0 _) rfl rfl rfl ⟨Nat.le_of_ble_eq_true rfl, Nat.le_of_ble_eq_true rfl⟩ rfl hl.1 rfl (Nat.le_of_ble_eq_true rfl) dL_law_760 ⟨Nat.le_of_ble_eq_true rfl, Nat.le_of_ble_eq_true rfl⟩ (fun r2 hm2 he H2 locs2 hPM2 hDM2 hS2 hk2 => ?_)
        have hPC2 := gW_kept hPC1 hk2 (fun k hk z => by obtain ⟨i, hi, e9⟩ := z; exact hdis k i hk hi e9)
        refine lv_icmp_eq (tgt := 827) hx hb dL_law_763 (by decide) (fun _ => ?_) (fun c9 => absurd he.1 c9)
        exact tail hc1 hm2 he.2 H2 locs2 hPC2 hPM2 hS2 hDC1 hDM2
      by_cases c_34 : z = 24
      · refine lv_tableIn (off := 736) (tgt := 768) hx hb dL_law_32 (by rw [c_34]; decide) (by rw [c_34]; decide) (by rw [c_34]; rfl) (by decide) ?_
        refine lv_aload_n hx hb dL_law_768 rfl (lv_at hl 1 rfl) ?_
        have he := sim_undo  hR
        refine ga_vi ⟨hx, hb, hml, hown, hts⟩ (gKC_keep tb _) hKC hK hPC hDC hS 0 [] [] (c_X7_undo l dC dI P adC tb  hc _ he) gm_X7_undo im_yX7_undo se_yX7_undo ml_RL_116 (by decide) (cE_t0 _) rfl rfl rfl ⟨Nat.le_of_ble_eq_true rfl, Nat.le_of_ble_eq_true rfl⟩ rfl hl.1 rfl (Nat.le_of_ble_eq_true rfl) dL_law_769 ⟨Nat.le_of_ble_eq_true rfl, Nat.le_of_ble_eq_true rfl⟩ (fun r1 hc1 he H1 locs1 hPC1 hDC1 hS1 hk1 => ?_)
        have hPM1 := gW_kept hPM hk1 (fun k hk z => by obtain ⟨i, hi, e9⟩ := z; exact hdis i k hi hk e9.symm)
        refine lv_aload_n hx hb dL_law_772 rfl (lv_at hl 2 rfl) ?_
        refine ga_vi ⟨hx, hb, hml, hown, hts⟩ (gKM_keep _) (fun _ _ _ => trivial) hK hPM1 hDM hS1 0 [] [.int r1] (c_X8_undo l dC dI P adM  hm _ he) gm_X8_undo im_yX8_undo se_yX8_undo ml_RL_119 (by decide) (mE_0 _) rfl rfl rfl ⟨Nat.le_of_ble_eq_true rfl, Nat.le_of_ble_eq_true rfl⟩ rfl hl.1 rfl (Nat.le_of_ble_eq_true rfl) dL_law_773 ⟨Nat.le_of_ble_eq_true rfl, Nat.le_of_ble_eq_true rfl⟩ (fun r2 hm2 he H2 locs2 hPM2 hDM2 hS2 hk2 => ?_)
        have hPC2 := gW_kept hPC1 hk2 (fun k hk z => by obtain ⟨i, hi, e9⟩ := z; exact hdis k i hk hi e9)
        refine lv_icmp_eq (tgt := 827) hx hb dL_law_776 (by decide) (fun _ => ?_) (fun c9 => absurd he.1 c9)
        exact tail hc1 hm2 he.2 H2 locs2 hPC2 hPM2 hS2 hDC1 hDM2
      by_cases c_35 : z = 25
      · refine lv_tableIn (off := 749) (tgt := 781) hx hb dL_law_32 (by rw [c_35]; decide) (by rw [c_35]; decide) (by rw [c_35]; rfl) (by decide) ?_
        refine lv_aload_n hx hb dL_law_781 rfl (lv_at hl 1 rfl) ?_
        refine lv_aload_n hx hb dL_law_782 rfl (lv_at hl 0 rfl) ?_
        refine lv_iload_n hx hb dL_law_783 rfl (lv_at hl 3 rfl) ?_
        refine lv_iconst (v := 1) hx hb dL_law_784 (by decide) ?_
        refine lv_iadd hx hb dL_law_785 ?_
        refine va_sld hx hb hX hbl hbA hS (hidx 1 (by decide)) dL_law_786 ?_
        have he := sim_save (xs (x3 + (1 : Int32)).toNatClampNeg) hR
        refine ga_vi ⟨hx, hb, hml, hown, hts⟩ (gKC_keep tb _) hKC hK hPC hDC hS 0 [.int (xs (x3 + (1 : Int32)).toNatClampNeg)] [] (c_X7_save l dC dI P adC tb (xs (x3 + (1 : Int32)).toNatClampNeg) hc _ he) gm_X7_save im_yX7_save se_yX7_save ml_RL_120 (by decide) (cE_t0 _) rfl rfl rfl ⟨Nat.le_of_ble_eq_true rfl, Nat.le_of_ble_eq_true rfl⟩ rfl hl.1 rfl (Nat.le_of_ble_eq_true rfl) dL_law_787 ⟨Nat.le_of_ble_eq_true rfl, Nat.le_of_ble_eq_true rfl⟩ (fun r1 hc1 he H1 locs1 hPC1 hDC1 hS1 hk1 => ?_)
        have hPM1 := gW_kept hPM hk1 (fun k hk z => by obtain ⟨i, hi, e9⟩ := z; exact hdis i k hi hk e9.symm)
        refine lv_aload_n hx hb dL_law_790 rfl (lv_at hl 2 rfl) ?_
        refine lv_aload_n hx hb dL_law_791 rfl (lv_at hl 0 rfl) ?_
        refine lv_iload_n hx hb dL_law_792 rfl (lv_at hl 3 rfl) ?_
        refine lv_iconst (v := 1) hx hb dL_law_793 (by decide) ?_
        refine lv_iadd hx hb dL_law_794 ?_
        refine va_sld hx hb hX hbl hbA hS1 (hidx 1 (by decide)) dL_law_795 ?_
        refine ga_vi ⟨hx, hb, hml, hown, hts⟩ (gKM_keep _) (fun _ _ _ => trivial) hK hPM1 hDM hS1 0 [.int (xs (x3 + (1 : Int32)).toNatClampNeg)] [.int r1] (c_X8_save l dC dI P adM (xs (x3 + (1 : Int32)).toNatClampNeg) hm _ he) gm_X8_save im_yX8_save se_yX8_save ml_RL_123 (by decide) (mE_0 _) rfl rfl rfl ⟨Nat.le_of_ble_eq_true rfl, Nat.le_of_ble_eq_true rfl⟩ rfl hl.1 rfl (Nat.le_of_ble_eq_true rfl) dL_law_796 ⟨Nat.le_of_ble_eq_true rfl, Nat.le_of_ble_eq_true rfl⟩ (fun r2 hm2 he H2 locs2 hPM2 hDM2 hS2 hk2 => ?_)
        have hPC2 := gW_kept hPC1 hk2 (fun k hk z => by obtain ⟨i, hi, e9⟩ := z; exact hdis k i hk hi e9)
        refine lv_icmp_eq (tgt := 827) hx hb dL_law_799 (by decide) (fun _ => ?_) (fun c9 => absurd he.1 c9)
        exact tail hc1 hm2 he.2 H2 locs2 hPC2 hPM2 hS2 hDC1 hDM2
      by_cases c_36 : z = 26
      · refine lv_tableIn (off := 772) (tgt := 804) hx hb dL_law_32 (by rw [c_36]; decide) (by rw [c_36]; decide) (by rw [c_36]; rfl) (by decide) ?_
        refine lv_aload_n hx hb dL_law_804 rfl (lv_at hl 1 rfl) ?_
        refine lv_aload_n hx hb dL_law_805 rfl (lv_at hl 0 rfl) ?_
        refine lv_iload_n hx hb dL_law_806 rfl (lv_at hl 3 rfl) ?_
        refine lv_iconst (v := 1) hx hb dL_law_807 (by decide) ?_
        refine lv_iadd hx hb dL_law_808 ?_
        refine va_sld hx hb hX hbl hbA hS (hidx 1 (by decide)) dL_law_809 ?_
        have he := sim_restore (xs (x3 + (1 : Int32)).toNatClampNeg) hR
        refine ga_vi ⟨hx, hb, hml, hown, hts⟩ (gKC_keep tb _) hKC hK hPC hDC hS 0 [.int (xs (x3 + (1 : Int32)).toNatClampNeg)] [] (c_X7_restore l dC dI P adC tb (xs (x3 + (1 : Int32)).toNatClampNeg) hc _ he) gm_X7_restore im_yX7_restore se_yX7_restore ml_RL_124 (by decide) (cE_t0 _) rfl rfl rfl ⟨Nat.le_of_ble_eq_true rfl, Nat.le_of_ble_eq_true rfl⟩ rfl hl.1 rfl (Nat.le_of_ble_eq_true rfl) dL_law_810 ⟨Nat.le_of_ble_eq_true rfl, Nat.le_of_ble_eq_true rfl⟩ (fun r1 hc1 he H1 locs1 hPC1 hDC1 hS1 hk1 => ?_)
        have hPM1 := gW_kept hPM hk1 (fun k hk z => by obtain ⟨i, hi, e9⟩ := z; exact hdis i k hi hk e9.symm)
        refine lv_aload_n hx hb dL_law_813 rfl (lv_at hl 2 rfl) ?_
        refine lv_aload_n hx hb dL_law_814 rfl (lv_at hl 0 rfl) ?_
        refine lv_iload_n hx hb dL_law_815 rfl (lv_at hl 3 rfl) ?_
        refine lv_iconst (v := 1) hx hb dL_law_816 (by decide) ?_
        refine lv_iadd hx hb dL_law_817 ?_
        refine va_sld hx hb hX hbl hbA hS1 (hidx 1 (by decide)) dL_law_818 ?_
        refine ga_vi ⟨hx, hb, hml, hown, hts⟩ (gKM_keep _) (fun _ _ _ => trivial) hK hPM1 hDM hS1 0 [.int (xs (x3 + (1 : Int32)).toNatClampNeg)] [.int r1] (c_X8_restore l dC dI P adM (xs (x3 + (1 : Int32)).toNatClampNeg) hm _ he) gm_X8_restore im_yX8_restore se_yX8_restore ml_RL_127 (by decide) (mE_0 _) rfl rfl rfl ⟨Nat.le_of_ble_eq_true rfl, Nat.le_of_ble_eq_true rfl⟩ rfl hl.1 rfl (Nat.le_of_ble_eq_true rfl) dL_law_819 ⟨Nat.le_of_ble_eq_true rfl, Nat.le_of_ble_eq_true rfl⟩ (fun r2 hm2 he H2 locs2 hPM2 hDM2 hS2 hk2 => ?_)
        have hPC2 := gW_kept hPC1 hk2 (fun k hk z => by obtain ⟨i, hi, e9⟩ := z; exact hdis k i hk hi e9)
        refine lv_icmp_eq (tgt := 827) hx hb dL_law_822 (by decide) (fun _ => ?_) (fun c9 => absurd he.1 c9)
        exact tail hc1 hm2 he.2 H2 locs2 hPC2 hPM2 hS2 hDC1 hDM2
      refine lv_tableOut (tgt := 827) hx hb dL_law_32 (by have z0 := lv_neT c_10 (a := 0) rfl; have z1 := lv_neT c_11 (a := 1) rfl; have z2 := lv_neT c_12 (a := 2) rfl; have z3 := lv_neT c_13 (a := 3) rfl; have z4 := lv_neT c_14 (a := 4) rfl; have z5 := lv_neT c_15 (a := 5) rfl; have z6 := lv_neT c_16 (a := 6) rfl; have z7 := lv_neT c_17 (a := 7) rfl; have z8 := lv_neT c_18 (a := 8) rfl; have z9 := lv_neT c_19 (a := 9) rfl; have z10 := lv_neT c_20 (a := 10) rfl; have z11 := lv_neT c_21 (a := 11) rfl; have z12 := lv_neT c_22 (a := 12) rfl; have z13 := lv_neT c_23 (a := 13) rfl; have z14 := lv_neT c_24 (a := 14) rfl; have z15 := lv_neT c_25 (a := 15) rfl; have z16 := lv_neT c_26 (a := 16) rfl; have z17 := lv_neT c_27 (a := 17) rfl; have z18 := lv_neT c_28 (a := 18) rfl; have z19 := lv_neT c_29 (a := 19) rfl; have z20 := lv_neT c_30 (a := 20) rfl; have z21 := lv_neT c_31 (a := 21) rfl; have z22 := lv_neT c_32 (a := 22) rfl; have z23 := lv_neT c_33 (a := 23) rfl; have z24 := lv_neT c_34 (a := 24) rfl; have z25 := lv_neT c_35 (a := 25) rfl; have z26 := lv_neT c_36 (a := 26) rfl; omega) (by decide) ?_
      exact tail hc hm hR H locs hPC hPM hS hDC hDM
