abbrev rm_L_agrees : Room := { frames := 2, cells := 0, slots := 0, locals := 48 }
set_option maxHeartbeats 4000000 in
set_option maxRecDepth 100000 in
theorem l_L_agrees_18 (l : Launch) (dC : Nat → ClassId) (dI : Nat → Nat → Nat) (P : gP) (ad : Nat → Nat) (tb : Nat → Nat) {p : Program} {e : Env} {s : State} {m : MethodId} {args : Array Value} {below : List Frame} {meth : Method} {c : Code} (hx : p.tables.exec = Jvm.exec) (hb0 : c.code = cL_agrees) (hr : meth.sig.returnType = (some .int)) (hlocks : meth.locks = false) (hml : c.maxLocals = 5) (hown : s.vm.findClass RL = some m.cls) (hts : ∀ w ∈ TB, w.before args s = true) (hK : va_K (dC, dI) vwCl (tyC P) s) (hk : (gKC tb (gA 162 ad)) s) (Q : Int32 → Hp → Prop) : ∀ (n : Nat) (y2 : Int32) (y3 : Int32) (h0 : Hp), F_L_agrees_L18  n y2 y3 h0 Q → ∀ (H : Heap) (locs : List Loc) (ls : Array Slot), va_P (dC, dI) vwCl (gW 162 (cE P ad) ad h0) H → va_D (gA 162 ad) (gW 162 (cE P ad) ad h0) → va_S (gA 162 ad) s.heap H locs → lv_has ls 5 [(0, .ref (ad 158)), (1, .ref (ad 160)), (2, .int y2), (3, .int y3)] → W p l e rm_L_agrees s m args below meth c H locs 0 0 (MQ below (gQi (dC, dI) vwCl (tyC P) 162 (cE P ad) ad Q) args s 0 0 (gA 162 ad)) (F0 m 18 ls []) := by
  intro n
  induction n with
  | zero =>
    intro y2 y3 h0 he
    exact he.elim
  | succ n ih =>
    intro y2 y3 h0 he H locs ls hP hD hS hl
    rw [F_L_agrees_L18] at he
    refine lv_iload_n hx hb0 dL_agrees_18 rfl (lv_at hl 3 rfl) ?_
    refine lv_bipush (v := (7 : Int32)) hx hb0 dL_agrees_19 (by decide) ?_
    refine lv_icmp_ge (tgt := 146) hx hb0 dL_agrees_21 (by decide) (fun c_4 => ?_) (fun c_4 => ?_)
    · have he := he.1 c_4
      refine lv_aload_n hx hb0 dL_agrees_146 rfl (lv_at hl 0 rfl) ?_
      refine lv_iconst (v := (5 : Int32)) hx hb0 dL_agrees_147 (by decide) ?_
      refine lv_iload_n hx hb0 dL_agrees_148 rfl (lv_at hl 2 rfl) ?_
      refine gx_iastK hx hb0 hK hP hD hS 158 0 (by decide) cE_t158 rfl (vp_lit (5 : Int32) (by decide) (by decide)) 5 rfl dL_agrees_149 (fun h_5 eh_5 H locs hP hD hS => ?_)
      have he := he h_5 eh_5
      refine lv_aload_n hx hb0 dL_agrees_150 rfl (lv_at hl 0 rfl) ?_
      refine lv_bipush (v := (10 : Int32)) hx hb0 dL_agrees_151 (by decide) ?_
      refine lv_dup2_11 hx hb0 dL_agrees_153 rfl rfl ?_
      refine gx_ialdK hx hb0 hK hP 158 0 (by decide) cE_t158 rfl (vp_lit (10 : Int32) (by decide) (by decide)) 10 rfl dL_agrees_154 ?_
      refine lv_iconst (v := (1 : Int32)) hx hb0 dL_agrees_155 (by decide) ?_
      refine lv_iadd hx hb0 dL_agrees_156 ?_
      refine gx_iastK hx hb0 hK hP hD hS 158 0 (by decide) cE_t158 rfl (vp_lit (10 : Int32) (by decide) (by decide)) 10 rfl dL_agrees_157 (fun h_6 eh_6 H locs hP hD hS => ?_)
      have he := he h_6 eh_6
      refine lv_iload_n hx hb0 dL_agrees_158 rfl (lv_at hl 2 rfl) ?_
      refine lv_sipush (v := (5400 : Int32)) hx hb0 dL_agrees_159 (by decide) ?_
      refine lv_iadd hx hb0 dL_agrees_162 ?_
      exact gx_iret hx hb0 hr hlocks hK hP hD hS he dL_agrees_163
    · have he := he.2 c_4
      refine lv_iload_n hx hb0 dL_agrees_24 rfl (lv_at hl 3 rfl) ?_
      refine lv_iconst (v := (-1 : Int32)) hx hb0 dL_agrees_25 (by decide) ?_
      refine lv_aload_n hx hb0 dL_agrees_26 rfl (lv_at hl 1 rfl) ?_
      refine gx_si ⟨hx, hb0, hml, hown, hts⟩ (gKC_keep _ _) hk hK hP hD hS [.int y3, .int (-1 : Int32), .ref (ad 160)] [] (c_L_takes l dC dI P ad tb y3 (-1 : Int32) h0 _ he) gm_L_takes st_yL_takes ml_RL_30 rfl rfl ⟨Nat.le_of_ble_eq_true rfl, Nat.le_of_ble_eq_true rfl⟩ rfl hl.1 rfl (Nat.le_of_ble_eq_true rfl) dL_agrees_27 ⟨Nat.zero_le _, Nat.zero_le _⟩ (fun r_7 h_8 he H locs hP hD hS => ?_)
      refine lv_if_eq (tgt := 140) hx hb0 dL_agrees_30 (by decide) (fun c_9 => ?_) (fun c_9 => ?_)
      · have he := he.1 c_9
        obtain ⟨x_10, ex_10⟩ : ∃ y : Int32, y = y3 + 1 := ⟨_, rfl⟩
        have he := he x_10 ex_10
        refine lv_iinc (v := x_10) (lv' := [(3, .int x_10), (0, .ref (ad 158)), (1, .ref (ad 160)), (2, .int y2)]) hx hb0 dL_agrees_140 hl (k := 3) rfl (by rw [ex_10]; rfl) (by decide) rfl (fun ls hl => ?_)
        refine lv_goto (tgt := 18) hx hb0 dL_agrees_143 (by decide) ?_
        exact ih y2 x_10 h_8 he _ _ ls hP hD hS (lv_sub hl [1, 2, 3, 0] rfl)
      · have he := he.2 c_9
        refine lv_aload_n hx hb0 dL_agrees_33 rfl (lv_at hl 1 rfl) ?_
        refine lv_bipush (v := (7 : Int32)) hx hb0 dL_agrees_34 (by decide) ?_
        refine lv_iload_n hx hb0 dL_agrees_36 rfl (lv_at hl 3 rfl) ?_
        refine lv_imul hx hb0 dL_agrees_37 ?_
        refine lv_iconst (v := (5 : Int32)) hx hb0 dL_agrees_38 (by decide) ?_
        refine lv_iadd hx hb0 dL_agrees_39 ?_
        obtain ⟨v_11, he⟩ := he
        refine gx_iald hx hb0 hK hP 160 0 (by decide) cE_t160 rfl v_11 dL_agrees_40 ?_
        refine lv_iload_n hx hb0 dL_agrees_41 rfl (lv_at hl 2 rfl) ?_
        refine lv_isub hx hb0 dL_agrees_42 ?_
        refine gx_si ⟨hx, hb0, hml, hown, hts⟩ (gKC_keep _ _) hk hK hP hD hS [.int ((h_8 160 (((7 : Int32) * y3) + (5 : Int32)).toNatClampNeg) - y2)] [] (c_L_size l dC dI P ad tb ((h_8 160 (((7 : Int32) * y3) + (5 : Int32)).toNatClampNeg) - y2) h_8 _ he) gm_L_size st_yL_size ml_RL_16 rfl rfl ⟨Nat.le_of_ble_eq_true rfl, Nat.le_of_ble_eq_true rfl⟩ rfl hl.1 rfl (Nat.le_of_ble_eq_true rfl) dL_agrees_43 ⟨Nat.zero_le _, Nat.zero_le _⟩ (fun r_12 h_13 he H locs hP hD hS => ?_)
        refine lv_aload_n hx hb0 dL_agrees_46 rfl (lv_at hl 0 rfl) ?_
        refine lv_iconst (v := (2 : Int32)) hx hb0 dL_agrees_47 (by decide) ?_
        refine gx_ialdK hx hb0 hK hP 158 0 (by decide) cE_t158 rfl (vp_lit (2 : Int32) (by decide) (by decide)) 2 rfl dL_agrees_48 ?_
        refine lv_icmp_le (tgt := 56) hx hb0 dL_agrees_49 (by decide) (fun c_14 => ?_) (fun c_14 => ?_)
        · have he := he.1 c_14
          refine lv_iconst (v := (0 : Int32)) hx hb0 dL_agrees_56 (by decide) ?_
          refine lv_istore (lv' := [(4, .int (0 : Int32)), (0, .ref (ad 158)), (1, .ref (ad 160)), (2, .int y2), (3, .int y3)]) hx hb0 dL_agrees_57 hl (by decide) rfl (fun ls hl => ?_)
          refine lv_aload_n hx hb0 dL_agrees_59 rfl (lv_at hl 2 rfl) ?_
          refine lv_bipush (v := (7 : Int32)) hx hb0 dL_agrees_60 (by decide) ?_
          refine lv_iload_n hx hb0 dL_agrees_62 rfl (lv_at hl 4 rfl) ?_
          refine lv_imul hx hb0 dL_agrees_63 ?_
          refine lv_iconst (v := (3 : Int32)) hx hb0 dL_agrees_64 (by decide) ?_
          refine lv_iadd hx hb0 dL_agrees_65 ?_
          refine lv_iload hx hb0 dL_agrees_66 (lv_at hl 0 rfl) ?_
          refine lv_if_eq (tgt := 84) hx hb0 dL_agrees_68 (by decide) (fun c_15 => ?_) (fun c_15 => ?_)
          · refine lv_iconst (v := (0 : Int32)) hx hb0 dL_agrees_84 (by decide) ?_
            obtain ⟨v_17, he⟩ := he
            refine gx_iast hx hb0 hK hP hD hS 160 0 (by decide) cE_t160 rfl v_17 dL_agrees_85 (fun h_16 eh_16 H locs hP hD hS => ?_)
            have he := he h_16 eh_16
            refine lv_aload_n hx hb0 dL_agrees_86 rfl (lv_at hl 1 rfl) ?_
            refine lv_bipush (v := (11 : Int32)) hx hb0 dL_agrees_87 (by decide) ?_
            refine lv_dup2_11 hx hb0 dL_agrees_89 rfl rfl ?_
            refine gx_ialdK hx hb0 hK hP 158 0 (by decide) cE_t158 rfl (vp_lit (11 : Int32) (by decide) (by decide)) 11 rfl dL_agrees_90 ?_
            refine lv_iload hx hb0 dL_agrees_91 (lv_at hl 0 rfl) ?_
            refine lv_if_eq (tgt := 100) hx hb0 dL_agrees_93 (by decide) (fun c_18 => ?_) (fun c_18 => ?_)
            · refine lv_iconst (v := (0 : Int32)) hx hb0 dL_agrees_100 (by decide) ?_
              refine lv_iadd hx hb0 dL_agrees_101 ?_
              refine gx_iastK hx hb0 hK hP hD hS 158 0 (by decide) cE_t158 rfl (vp_lit (11 : Int32) (by decide) (by decide)) 11 rfl dL_agrees_102 (fun h_19 eh_19 H locs hP hD hS => ?_)
              have he := he h_19 eh_19
              refine lv_aload_n hx hb0 dL_agrees_103 rfl (lv_at hl 2 rfl) ?_
              refine lv_bipush (v := (7 : Int32)) hx hb0 dL_agrees_104 (by decide) ?_
              refine lv_iload_n hx hb0 dL_agrees_106 rfl (lv_at hl 4 rfl) ?_
              refine lv_imul hx hb0 dL_agrees_107 ?_
              refine lv_iconst (v := (5 : Int32)) hx hb0 dL_agrees_108 (by decide) ?_
              refine lv_iadd hx hb0 dL_agrees_109 ?_
              refine lv_sipush (v := (9999 : Int32)) hx hb0 dL_agrees_110 (by decide) ?_
              obtain ⟨v_21, he⟩ := he
              refine gx_iast hx hb0 hK hP hD hS 160 0 (by decide) cE_t160 rfl v_21 dL_agrees_113 (fun h_20 eh_20 H locs hP hD hS => ?_)
              have he := he h_20 eh_20
              refine lv_aload_n hx hb0 dL_agrees_114 rfl (lv_at hl 2 rfl) ?_
              refine lv_bipush (v := (7 : Int32)) hx hb0 dL_agrees_115 (by decide) ?_
              refine lv_iload_n hx hb0 dL_agrees_117 rfl (lv_at hl 4 rfl) ?_
              refine lv_imul hx hb0 dL_agrees_118 ?_
              refine lv_bipush (v := (6 : Int32)) hx hb0 dL_agrees_119 (by decide) ?_
              refine lv_iadd hx hb0 dL_agrees_121 ?_
              refine lv_aload_n hx hb0 dL_agrees_122 rfl (lv_at hl 2 rfl) ?_
              refine lv_bipush (v := (7 : Int32)) hx hb0 dL_agrees_123 (by decide) ?_
              refine lv_iload_n hx hb0 dL_agrees_125 rfl (lv_at hl 4 rfl) ?_
              refine lv_imul hx hb0 dL_agrees_126 ?_
              refine lv_iconst (v := (3 : Int32)) hx hb0 dL_agrees_127 (by decide) ?_
              refine lv_iadd hx hb0 dL_agrees_128 ?_
              obtain ⟨v_22, he⟩ := he
              refine gx_iald hx hb0 hK hP 160 0 (by decide) cE_t160 rfl v_22 dL_agrees_129 ?_
              refine lv_iconst (v := (2 : Int32)) hx hb0 dL_agrees_130 (by decide) ?_
              refine lv_icmp_le (tgt := 138) hx hb0 dL_agrees_131 (by decide) (fun c_23 => ?_) (fun c_23 => ?_)
              · have he := he.1 c_23
                refine lv_iconst (v := (0 : Int32)) hx hb0 dL_agrees_138 (by decide) ?_
                obtain ⟨v_25, he⟩ := he
                refine gx_iast hx hb0 hK hP hD hS 160 0 (by decide) cE_t160 rfl v_25 dL_agrees_139 (fun h_24 eh_24 H locs hP hD hS => ?_)
                have he := he h_24 eh_24
                obtain ⟨x_26, ex_26⟩ : ∃ y : Int32, y = y3 + 1 := ⟨_, rfl⟩
                have he := he x_26 ex_26
                refine lv_iinc (v := x_26) (lv' := [(3, .int x_26), (4, .int (0 : Int32)), (0, .ref (ad 158)), (1, .ref (ad 160)), (2, .int y2)]) hx hb0 dL_agrees_140 hl (k := 4) rfl (by rw [ex_26]; rfl) (by decide) rfl (fun ls hl => ?_)
                refine lv_goto (tgt := 18) hx hb0 dL_agrees_143 (by decide) ?_
                exact ih y2 x_26 h_24 he _ _ ls hP hD hS (lv_sub hl [2, 3, 4, 0] rfl)
              · have he := he.2 c_23
                refine lv_iconst (v := (2 : Int32)) hx hb0 dL_agrees_134 (by decide) ?_
                refine lv_goto (tgt := 139) hx hb0 dL_agrees_135 (by decide) ?_
                obtain ⟨v_28, he⟩ := he
                refine gx_iast hx hb0 hK hP hD hS 160 0 (by decide) cE_t160 rfl v_28 dL_agrees_139 (fun h_27 eh_27 H locs hP hD hS => ?_)
                have he := he h_27 eh_27
                obtain ⟨x_29, ex_29⟩ : ∃ y : Int32, y = y3 + 1 := ⟨_, rfl⟩
                have he := he x_29 ex_29
                refine lv_iinc (v := x_29) (lv' := [(3, .int x_29), (4, .int (0 : Int32)), (0, .ref (ad 158)), (1, .ref (ad 160)), (2, .int y2)]) hx hb0 dL_agrees_140 hl (k := 4) rfl (by rw [ex_29]; rfl) (by decide) rfl (fun ls hl => ?_)
                refine lv_goto (tgt := 18) hx hb0 dL_agrees_143 (by decide) ?_
                exact ih y2 x_29 h_27 he _ _ ls hP hD hS (lv_sub hl [2, 3, 4, 0] rfl)
            · exact absurd c_18 (by decide)
          · exact absurd c_15 (by decide)
        · have he := he.2 c_14
          refine lv_iconst (v := (1 : Int32)) hx hb0 dL_agrees_52 (by decide) ?_
          refine lv_goto (tgt := 57) hx hb0 dL_agrees_53 (by decide) ?_
          refine lv_istore (lv' := [(4, .int (1 : Int32)), (0, .ref (ad 158)), (1, .ref (ad 160)), (2, .int y2), (3, .int y3)]) hx hb0 dL_agrees_57 hl (by decide) rfl (fun ls hl => ?_)
          refine lv_aload_n hx hb0 dL_agrees_59 rfl (lv_at hl 2 rfl) ?_
          refine lv_bipush (v := (7 : Int32)) hx hb0 dL_agrees_60 (by decide) ?_
          refine lv_iload_n hx hb0 dL_agrees_62 rfl (lv_at hl 4 rfl) ?_
          refine lv_imul hx hb0 dL_agrees_63 ?_
          refine lv_iconst (v := (3 : Int32)) hx hb0 dL_agrees_64 (by decide) ?_
          refine lv_iadd hx hb0 dL_agrees_65 ?_
          refine lv_iload hx hb0 dL_agrees_66 (lv_at hl 0 rfl) ?_
          refine lv_if_eq (tgt := 84) hx hb0 dL_agrees_68 (by decide) (fun c_30 => ?_) (fun c_30 => ?_)
          · exact absurd c_30 (by decide)
          · refine lv_aload_n hx hb0 dL_agrees_71 rfl (lv_at hl 2 rfl) ?_
            refine lv_bipush (v := (7 : Int32)) hx hb0 dL_agrees_72 (by decide) ?_
            refine lv_iload_n hx hb0 dL_agrees_74 rfl (lv_at hl 4 rfl) ?_
            refine lv_imul hx hb0 dL_agrees_75 ?_
            refine lv_iconst (v := (3 : Int32)) hx hb0 dL_agrees_76 (by decide) ?_
            refine lv_iadd hx hb0 dL_agrees_77 ?_
            obtain ⟨v_31, he⟩ := he
            refine gx_iald hx hb0 hK hP 160 0 (by decide) cE_t160 rfl v_31 dL_agrees_78 ?_
            refine lv_iconst (v := (1 : Int32)) hx hb0 dL_agrees_79 (by decide) ?_
            refine lv_iadd hx hb0 dL_agrees_80 ?_
            refine lv_goto (tgt := 85) hx hb0 dL_agrees_81 (by decide) ?_
            obtain ⟨v_33, he⟩ := he
            refine gx_iast hx hb0 hK hP hD hS 160 0 (by decide) cE_t160 rfl v_33 dL_agrees_85 (fun h_32 eh_32 H locs hP hD hS => ?_)
            have he := he h_32 eh_32
            refine lv_aload_n hx hb0 dL_agrees_86 rfl (lv_at hl 1 rfl) ?_
            refine lv_bipush (v := (11 : Int32)) hx hb0 dL_agrees_87 (by decide) ?_
            refine lv_dup2_11 hx hb0 dL_agrees_89 rfl rfl ?_
            refine gx_ialdK hx hb0 hK hP 158 0 (by decide) cE_t158 rfl (vp_lit (11 : Int32) (by decide) (by decide)) 11 rfl dL_agrees_90 ?_
            refine lv_iload hx hb0 dL_agrees_91 (lv_at hl 0 rfl) ?_
            refine lv_if_eq (tgt := 100) hx hb0 dL_agrees_93 (by decide) (fun c_34 => ?_) (fun c_34 => ?_)
            · exact absurd c_34 (by decide)
            · refine lv_iconst (v := (1 : Int32)) hx hb0 dL_agrees_96 (by decide) ?_
              refine lv_goto (tgt := 101) hx hb0 dL_agrees_97 (by decide) ?_
              refine lv_iadd hx hb0 dL_agrees_101 ?_
              refine gx_iastK hx hb0 hK hP hD hS 158 0 (by decide) cE_t158 rfl (vp_lit (11 : Int32) (by decide) (by decide)) 11 rfl dL_agrees_102 (fun h_35 eh_35 H locs hP hD hS => ?_)
              have he := he h_35 eh_35
              refine lv_aload_n hx hb0 dL_agrees_103 rfl (lv_at hl 2 rfl) ?_
              refine lv_bipush (v := (7 : Int32)) hx hb0 dL_agrees_104 (by decide) ?_
              refine lv_iload_n hx hb0 dL_agrees_106 rfl (lv_at hl 4 rfl) ?_
              refine lv_imul hx hb0 dL_agrees_107 ?_
              refine lv_iconst (v := (5 : Int32)) hx hb0 dL_agrees_108 (by decide) ?_
              refine lv_iadd hx hb0 dL_agrees_109 ?_
              refine lv_sipush (v := (9999 : Int32)) hx hb0 dL_agrees_110 (by decide) ?_
              obtain ⟨v_37, he⟩ := he
              refine gx_iast hx hb0 hK hP hD hS 160 0 (by decide) cE_t160 rfl v_37 dL_agrees_113 (fun h_36 eh_36 H locs hP hD hS => ?_)
              have he := he h_36 eh_36
              refine lv_aload_n hx hb0 dL_agrees_114 rfl (lv_at hl 2 rfl) ?_
              refine lv_bipush (v := (7 : Int32)) hx hb0 dL_agrees_115 (by decide) ?_
              refine lv_iload_n hx hb0 dL_agrees_117 rfl (lv_at hl 4 rfl) ?_
              refine lv_imul hx hb0 dL_agrees_118 ?_
              refine lv_bipush (v := (6 : Int32)) hx hb0 dL_agrees_119 (by decide) ?_
              refine lv_iadd hx hb0 dL_agrees_121 ?_
              refine lv_aload_n hx hb0 dL_agrees_122 rfl (lv_at hl 2 rfl) ?_
              refine lv_bipush (v := (7 : Int32)) hx hb0 dL_agrees_123 (by decide) ?_
              refine lv_iload_n hx hb0 dL_agrees_125 rfl (lv_at hl 4 rfl) ?_
              refine lv_imul hx hb0 dL_agrees_126 ?_
              refine lv_iconst (v := (3 : Int32)) hx hb0 dL_agrees_127 (by decide) ?_
              refine lv_iadd hx hb0 dL_agrees_128 ?_
              obtain ⟨v_38, he⟩ := he
              refine gx_iald hx hb0 hK hP 160 0 (by decide) cE_t160 rfl v_38 dL_agrees_129 ?_
              refine lv_iconst (v := (2 : Int32)) hx hb0 dL_agrees_130 (by decide) ?_
              refine lv_icmp_le (tgt := 138) hx hb0 dL_agrees_131 (by decide) (fun c_39 => ?_) (fun c_39 => ?_)
              · have he := he.1 c_39
                refine lv_iconst (v := (0 : Int32)) hx hb0 dL_agrees_138 (by decide) ?_
                obtain ⟨v_41, he⟩ := he
                refine gx_iast hx hb0 hK hP hD hS 160 0 (by decide) cE_t160 rfl v_41 dL_agrees_139 (fun h_40 eh_40 H locs hP hD hS => ?_)
                have he := he h_40 eh_40
                obtain ⟨x_42, ex_42⟩ : ∃ y : Int32, y = y3 + 1 := ⟨_, rfl⟩
                have he := he x_42 ex_42
                refine lv_iinc (v := x_42) (lv' := [(3, .int x_42), (4, .int (1 : Int32)), (0, .ref (ad 158)), (1, .ref (ad 160)), (2, .int y2)]) hx hb0 dL_agrees_140 hl (k := 4) rfl (by rw [ex_42]; rfl) (by decide) rfl (fun ls hl => ?_)
                refine lv_goto (tgt := 18) hx hb0 dL_agrees_143 (by decide) ?_
                exact ih y2 x_42 h_40 he _ _ ls hP hD hS (lv_sub hl [2, 3, 4, 0] rfl)
              · have he := he.2 c_39
                refine lv_iconst (v := (2 : Int32)) hx hb0 dL_agrees_134 (by decide) ?_
                refine lv_goto (tgt := 139) hx hb0 dL_agrees_135 (by decide) ?_
                obtain ⟨v_44, he⟩ := he
                refine gx_iast hx hb0 hK hP hD hS 160 0 (by decide) cE_t160 rfl v_44 dL_agrees_139 (fun h_43 eh_43 H locs hP hD hS => ?_)
                have he := he h_43 eh_43
                obtain ⟨x_45, ex_45⟩ : ∃ y : Int32, y = y3 + 1 := ⟨_, rfl⟩
                have he := he x_45 ex_45
                refine lv_iinc (v := x_45) (lv' := [(3, .int x_45), (4, .int (1 : Int32)), (0, .ref (ad 158)), (1, .ref (ad 160)), (2, .int y2)]) hx hb0 dL_agrees_140 hl (k := 4) rfl (by rw [ex_45]; rfl) (by decide) rfl (fun ls hl => ?_)
                refine lv_goto (tgt := 18) hx hb0 dL_agrees_143 (by decide) ?_
                exact ih y2 x_45 h_43 he _ _ ls hP hD hS (lv_sub hl [2, 3, 4, 0] rfl)
set_option maxHeartbeats 4000000 in
set_option maxRecDepth 100000 in
theorem c_L_agrees (l : Launch) (dC : Nat → ClassId) (dI : Nat → Nat → Nat) (P : gP) (ad : Nat → Nat) (tb : Nat → Nat) (h0 : Hp) (Q : Int32 → Hp → Prop) (he : F_L_agrees  h0 Q) : Met l yL_agrees (Cond.code yL_agrees cL_agrees 5 (some .int) :: TB) rm_L_agrees (gPc (dC, dI) vwCl (tyC P) 162 (cE P ad) ad (gKC tb (gA 162 ad)) h0 [.ref (ad 158), .ref (ad 160)]) (gQi (dC, dI) vwCl (tyC P) 162 (cE P ad) ad Q) 0 0 (gA 162 ad) := by
  refine gx_start (by decide) (Nat.le_of_ble_eq_true rfl) (fun p e s m below meth c ls hx hb0 hr hlocks hml hown hts hK hk hP hD hS hl => ?_)
  have hl : lv_has ls 5 [(0, .ref (ad 158)), (1, .ref (ad 160))] := hl
  have hown : s.vm.findClass RL = some m.cls := hown
  unfold F_L_agrees at he
  refine lv_iconst (v := (-1 : Int32)) hx hb0 dL_agrees_0 (by decide) ?_
  refine lv_aload_n hx hb0 dL_agrees_1 rfl (lv_at hl 1 rfl) ?_
  refine gx_si ⟨hx, hb0, hml, hown, hts⟩ (gKC_keep _ _) hk hK hP hD hS [.int (-1 : Int32), .ref (ad 160)] [] (c_L_median l dC dI P ad tb (-1 : Int32) h0 _ he) gm_L_median st_yL_median ml_RL_34 rfl rfl ⟨Nat.le_of_ble_eq_true rfl, Nat.le_of_ble_eq_true rfl⟩ rfl hl.1 rfl (Nat.le_of_ble_eq_true rfl) dL_agrees_2 ⟨Nat.zero_le _, Nat.zero_le _⟩ (fun r_1 h_2 he H locs hP hD hS => ?_)
  refine lv_istore_n (lv' := [(2, .int r_1), (0, .ref (ad 158)), (1, .ref (ad 160))]) hx hb0 dL_agrees_5 rfl hl (by decide) rfl (fun ls hl => ?_)
  refine lv_iload_n hx hb0 dL_agrees_6 rfl (lv_at hl 0 rfl) ?_
  refine lv_sipush (v := (9999 : Int32)) hx hb0 dL_agrees_7 (by decide) ?_
  refine lv_icmp_ne (tgt := 16) hx hb0 dL_agrees_10 (by decide) (fun c_3 => ?_) (fun c_3 => ?_)
  · have he := he.2 c_3
    refine lv_iconst (v := (0 : Int32)) hx hb0 dL_agrees_16 (by decide) ?_
    refine lv_istore_n (lv' := [(3, .int (0 : Int32)), (2, .int r_1), (0, .ref (ad 158)), (1, .ref (ad 160))]) hx hb0 dL_agrees_17 rfl hl (by decide) rfl (fun ls hl => ?_)
    obtain ⟨n_46, he⟩ := he
    exact l_L_agrees_18 l dC dI P ad tb  hx hb0 hr hlocks hml hown hts hK hk Q n_46 r_1 (0 : Int32) h_2 he _ _ ls hP hD hS (lv_sub hl [2, 3, 1, 0] rfl)
  · have he := he.1 c_3
    refine lv_bipush (v := (-5 : Int32)) hx hb0 dL_agrees_13 (by decide) ?_
    exact gx_iret hx hb0 hr hlocks hK hP hD hS he dL_agrees_15
theorem gm_L_agrees : gMeth yL_agrees cL_agrees 5 (some .int) 2 := ⟨⟨by decide, by decide, by decide +kernel⟩, ini_RL, co_yL_agrees⟩
abbrev rm_L_hour : Room := { frames := 1, cells := 0, slots := 0, locals := 20 }
set_option maxHeartbeats 4000000 in
set_option maxRecDepth 100000 in
theorem c_L_hour (l : Launch) (dC : Nat → ClassId) (dI : Nat → Nat → Nat) (P : gP) (ad : Nat → Nat) (tb : Nat → Nat) (h0 : Hp) (Q : Hp → Prop) (he : F_L_hour  h0 Q) : Met l yL_hour (Cond.code yL_hour cL_hour 3 none :: TB) rm_L_hour (gPc (dC, dI) vwCl (tyC P) 162 (cE P ad) ad (gKC tb (gA 162 ad)) h0 [.ref (ad 158)]) (gQv (dC, dI) vwCl (tyC P) 162 (cE P ad) ad Q) 0 0 (gA 162 ad) := by
  refine gx_start (by decide) (Nat.le_of_ble_eq_true rfl) (fun p e s m below meth c ls hx hb0 hr hlocks hml hown hts hK hk hP hD hS hl => ?_)
  have hl : lv_has ls 3 [(0, .ref (ad 158))] := hl
  have hown : s.vm.findClass RL = some m.cls := hown
  unfold F_L_hour at he
  refine lv_aload_n hx hb0 dL_hour_0 rfl (lv_at hl 0 rfl) ?_
  refine lv_iconst (v := (5 : Int32)) hx hb0 dL_hour_1 (by decide) ?_
  refine gx_ialdK hx hb0 hK hP 158 0 (by decide) cE_t158 rfl (vp_lit (5 : Int32) (by decide) (by decide)) 5 rfl dL_hour_2 ?_
  refine lv_sipush (v := (9999 : Int32)) hx hb0 dL_hour_3 (by decide) ?_
  refine lv_icmp_eq (tgt := 70) hx hb0 dL_hour_6 (by decide) (fun c_1 => ?_) (fun c_1 => ?_)
  · have he := he.1 c_1
    refine lv_aload_n hx hb0 dL_hour_70 rfl (lv_at hl 0 rfl) ?_
    refine lv_iconst (v := (4 : Int32)) hx hb0 dL_hour_71 (by decide) ?_
    refine lv_aload_n hx hb0 dL_hour_72 rfl (lv_at hl 0 rfl) ?_
    refine lv_iconst (v := (4 : Int32)) hx hb0 dL_hour_73 (by decide) ?_
    refine gx_ialdK hx hb0 hK hP 158 0 (by decide) cE_t158 rfl (vp_lit (4 : Int32) (by decide) (by decide)) 4 rfl dL_hour_74 ?_
    refine lv_aload_n hx hb0 dL_hour_75 rfl (lv_at hl 0 rfl) ?_
    refine lv_iconst (v := (0 : Int32)) hx hb0 dL_hour_76 (by decide) ?_
    refine gx_ialdK hx hb0 hK hP 158 0 (by decide) cE_t158 rfl (vp_lit (0 : Int32) (by decide) (by decide)) 0 rfl dL_hour_77 ?_
    refine lv_iadd hx hb0 dL_hour_78 ?_
    refine gx_si ⟨hx, hb0, hml, hown, hts⟩ (gKC_keep _ _) hk hK hP hD hS [.int ((h0 158 4) + (h0 158 0))] [.int (4 : Int32), .ref (ad 158)] (c_L_bound l dC dI P ad tb ((h0 158 4) + (h0 158 0)) h0 _ he) gm_L_bound st_yL_bound ml_RL_27 rfl rfl ⟨Nat.le_of_ble_eq_true rfl, Nat.le_of_ble_eq_true rfl⟩ rfl hl.1 rfl (Nat.le_of_ble_eq_true rfl) dL_hour_79 ⟨Nat.zero_le _, Nat.zero_le _⟩ (fun r_2 h_3 he H locs hP hD hS => ?_)
    refine gx_iastK hx hb0 hK hP hD hS 158 0 (by decide) cE_t158 rfl (vp_lit (4 : Int32) (by decide) (by decide)) 4 rfl dL_hour_82 (fun h_4 eh_4 H locs hP hD hS => ?_)
    have he := he h_4 eh_4
    refine lv_aload_n hx hb0 dL_hour_83 rfl (lv_at hl 0 rfl) ?_
    refine lv_bipush (v := (7 : Int32)) hx hb0 dL_hour_84 (by decide) ?_
    refine lv_dup2_11 hx hb0 dL_hour_86 rfl rfl ?_
    refine gx_ialdK hx hb0 hK hP 158 0 (by decide) cE_t158 rfl (vp_lit (7 : Int32) (by decide) (by decide)) 7 rfl dL_hour_87 ?_
    refine lv_iconst (v := (1 : Int32)) hx hb0 dL_hour_88 (by decide) ?_
    refine lv_iadd hx hb0 dL_hour_89 ?_
    refine gx_iastK hx hb0 hK hP hD hS 158 0 (by decide) cE_t158 rfl (vp_lit (7 : Int32) (by decide) (by decide)) 7 rfl dL_hour_90 (fun h_5 eh_5 H locs hP hD hS => ?_)
    have he := he h_5 eh_5
    exact gx_vret hx hb0 hr hlocks hK hP hD hS he dL_hour_91
  · have he := he.2 c_1
    refine lv_aload_n hx hb0 dL_hour_9 rfl (lv_at hl 0 rfl) ?_
    refine lv_bipush (v := (6 : Int32)) hx hb0 dL_hour_10 (by decide) ?_
    refine gx_ialdK hx hb0 hK hP 158 0 (by decide) cE_t158 rfl (vp_lit (6 : Int32) (by decide) (by decide)) 6 rfl dL_hour_12 ?_
    refine lv_aload_n hx hb0 dL_hour_13 rfl (lv_at hl 0 rfl) ?_
    refine lv_iconst (v := (5 : Int32)) hx hb0 dL_hour_14 (by decide) ?_
    refine gx_ialdK hx hb0 hK hP 158 0 (by decide) cE_t158 rfl (vp_lit (5 : Int32) (by decide) (by decide)) 5 rfl dL_hour_15 ?_
    refine lv_isub hx hb0 dL_hour_16 ?_
    refine lv_topi (fun x_6 ex_6 => ?_)
    have he := he x_6 ex_6
    refine lv_istore_n (lv' := [(1, .int x_6), (0, .ref (ad 158))]) hx hb0 dL_hour_17 rfl hl (by decide) rfl (fun ls hl => ?_)
    refine lv_iload_n hx hb0 dL_hour_18 rfl (lv_at hl 0 rfl) ?_
    refine lv_aload_n hx hb0 dL_hour_19 rfl (lv_at hl 1 rfl) ?_
    refine lv_iconst (v := (1 : Int32)) hx hb0 dL_hour_20 (by decide) ?_
    refine gx_ialdK hx hb0 hK hP 158 0 (by decide) cE_t158 rfl (vp_lit (1 : Int32) (by decide) (by decide)) 1 rfl dL_hour_21 ?_
    refine lv_icmp_le (tgt := 31) hx hb0 dL_hour_22 (by decide) (fun c_7 => ?_) (fun c_7 => ?_)
    · have he := he.1 c_7
      refine lv_iload_n hx hb0 dL_hour_31 rfl (lv_at hl 0 rfl) ?_
      refine lv_aload_n hx hb0 dL_hour_32 rfl (lv_at hl 1 rfl) ?_
      refine lv_iconst (v := (1 : Int32)) hx hb0 dL_hour_33 (by decide) ?_
      refine gx_ialdK hx hb0 hK hP 158 0 (by decide) cE_t158 rfl (vp_lit (1 : Int32) (by decide) (by decide)) 1 rfl dL_hour_34 ?_
      refine lv_ineg hx hb0 dL_hour_35 ?_
      refine lv_icmp_ge (tgt := 46) hx hb0 dL_hour_36 (by decide) (fun c_8 => ?_) (fun c_8 => ?_)
      · have he := he.1 c_8
        refine lv_iload_n hx hb0 dL_hour_46 rfl (lv_at hl 0 rfl) ?_
        refine lv_istore_n (lv' := [(2, .int x_6), (1, .int x_6), (0, .ref (ad 158))]) hx hb0 dL_hour_47 rfl hl (by decide) rfl (fun ls hl => ?_)
        refine lv_aload_n hx hb0 dL_hour_48 rfl (lv_at hl 2 rfl) ?_
        refine lv_iconst (v := (4 : Int32)) hx hb0 dL_hour_49 (by decide) ?_
        refine lv_aload_n hx hb0 dL_hour_50 rfl (lv_at hl 2 rfl) ?_
        refine lv_iconst (v := (4 : Int32)) hx hb0 dL_hour_51 (by decide) ?_
        refine gx_ialdK hx hb0 hK hP 158 0 (by decide) cE_t158 rfl (vp_lit (4 : Int32) (by decide) (by decide)) 4 rfl dL_hour_52 ?_
        refine lv_iload_n hx hb0 dL_hour_53 rfl (lv_at hl 0 rfl) ?_
        refine lv_iadd hx hb0 dL_hour_54 ?_
        refine gx_si ⟨hx, hb0, hml, hown, hts⟩ (gKC_keep _ _) hk hK hP hD hS [.int ((h0 158 4) + x_6)] [.int (4 : Int32), .ref (ad 158)] (c_L_bound l dC dI P ad tb ((h0 158 4) + x_6) h0 _ he) gm_L_bound st_yL_bound ml_RL_27 rfl rfl ⟨Nat.le_of_ble_eq_true rfl, Nat.le_of_ble_eq_true rfl⟩ rfl hl.1 rfl (Nat.le_of_ble_eq_true rfl) dL_hour_55 ⟨Nat.zero_le _, Nat.zero_le _⟩ (fun r_9 h_10 he H locs hP hD hS => ?_)
        refine gx_iastK hx hb0 hK hP hD hS 158 0 (by decide) cE_t158 rfl (vp_lit (4 : Int32) (by decide) (by decide)) 4 rfl dL_hour_58 (fun h_11 eh_11 H locs hP hD hS => ?_)
        have he := he h_11 eh_11
        refine lv_aload_n hx hb0 dL_hour_59 rfl (lv_at hl 2 rfl) ?_
        refine lv_iconst (v := (5 : Int32)) hx hb0 dL_hour_60 (by decide) ?_
        refine lv_aload_n hx hb0 dL_hour_61 rfl (lv_at hl 2 rfl) ?_
        refine lv_iconst (v := (5 : Int32)) hx hb0 dL_hour_62 (by decide) ?_
        refine gx_ialdK hx hb0 hK hP 158 0 (by decide) cE_t158 rfl (vp_lit (5 : Int32) (by decide) (by decide)) 5 rfl dL_hour_63 ?_
        refine lv_iload_n hx hb0 dL_hour_64 rfl (lv_at hl 0 rfl) ?_
        refine lv_iadd hx hb0 dL_hour_65 ?_
        refine gx_si ⟨hx, hb0, hml, hown, hts⟩ (gKC_keep _ _) hk hK hP hD hS [.int ((h_11 158 5) + x_6)] [.int (5 : Int32), .ref (ad 158)] (c_L_bound l dC dI P ad tb ((h_11 158 5) + x_6) h_11 _ he) gm_L_bound st_yL_bound ml_RL_27 rfl rfl ⟨Nat.le_of_ble_eq_true rfl, Nat.le_of_ble_eq_true rfl⟩ rfl hl.1 rfl (Nat.le_of_ble_eq_true rfl) dL_hour_66 ⟨Nat.zero_le _, Nat.zero_le _⟩ (fun r_12 h_13 he H locs hP hD hS => ?_)
        refine gx_iastK hx hb0 hK hP hD hS 158 0 (by decide) cE_t158 rfl (vp_lit (5 : Int32) (by decide) (by decide)) 5 rfl dL_hour_69 (fun h_14 eh_14 H locs hP hD hS => ?_)
        have he := he h_14 eh_14
        refine lv_aload_n hx hb0 dL_hour_70 rfl (lv_at hl 2 rfl) ?_
        refine lv_iconst (v := (4 : Int32)) hx hb0 dL_hour_71 (by decide) ?_
        refine lv_aload_n hx hb0 dL_hour_72 rfl (lv_at hl 2 rfl) ?_
        refine lv_iconst (v := (4 : Int32)) hx hb0 dL_hour_73 (by decide) ?_
        refine gx_ialdK hx hb0 hK hP 158 0 (by decide) cE_t158 rfl (vp_lit (4 : Int32) (by decide) (by decide)) 4 rfl dL_hour_74 ?_
        refine lv_aload_n hx hb0 dL_hour_75 rfl (lv_at hl 2 rfl) ?_
        refine lv_iconst (v := (0 : Int32)) hx hb0 dL_hour_76 (by decide) ?_
        refine gx_ialdK hx hb0 hK hP 158 0 (by decide) cE_t158 rfl (vp_lit (0 : Int32) (by decide) (by decide)) 0 rfl dL_hour_77 ?_
        refine lv_iadd hx hb0 dL_hour_78 ?_
        refine gx_si ⟨hx, hb0, hml, hown, hts⟩ (gKC_keep _ _) hk hK hP hD hS [.int ((h_14 158 4) + (h_14 158 0))] [.int (4 : Int32), .ref (ad 158)] (c_L_bound l dC dI P ad tb ((h_14 158 4) + (h_14 158 0)) h_14 _ he) gm_L_bound st_yL_bound ml_RL_27 rfl rfl ⟨Nat.le_of_ble_eq_true rfl, Nat.le_of_ble_eq_true rfl⟩ rfl hl.1 rfl (Nat.le_of_ble_eq_true rfl) dL_hour_79 ⟨Nat.zero_le _, Nat.zero_le _⟩ (fun r_15 h_16 he H locs hP hD hS => ?_)
        refine gx_iastK hx hb0 hK hP hD hS 158 0 (by decide) cE_t158 rfl (vp_lit (4 : Int32) (by decide) (by decide)) 4 rfl dL_hour_82 (fun h_17 eh_17 H locs hP hD hS => ?_)
        have he := he h_17 eh_17
        refine lv_aload_n hx hb0 dL_hour_83 rfl (lv_at hl 2 rfl) ?_
        refine lv_bipush (v := (7 : Int32)) hx hb0 dL_hour_84 (by decide) ?_
        refine lv_dup2_11 hx hb0 dL_hour_86 rfl rfl ?_
        refine gx_ialdK hx hb0 hK hP 158 0 (by decide) cE_t158 rfl (vp_lit (7 : Int32) (by decide) (by decide)) 7 rfl dL_hour_87 ?_
        refine lv_iconst (v := (1 : Int32)) hx hb0 dL_hour_88 (by decide) ?_
        refine lv_iadd hx hb0 dL_hour_89 ?_
        refine gx_iastK hx hb0 hK hP hD hS 158 0 (by decide) cE_t158 rfl (vp_lit (7 : Int32) (by decide) (by decide)) 7 rfl dL_hour_90 (fun h_18 eh_18 H locs hP hD hS => ?_)
        have he := he h_18 eh_18
        exact gx_vret hx hb0 hr hlocks hK hP hD hS he dL_hour_91
      · have he := he.2 c_8
        refine lv_aload_n hx hb0 dL_hour_39 rfl (lv_at hl 1 rfl) ?_
        refine lv_iconst (v := (1 : Int32)) hx hb0 dL_hour_40 (by decide) ?_
        refine gx_ialdK hx hb0 hK hP 158 0 (by decide) cE_t158 rfl (vp_lit (1 : Int32) (by decide) (by decide)) 1 rfl dL_hour_41 ?_
        refine lv_ineg hx hb0 dL_hour_42 ?_
        refine lv_goto (tgt := 47) hx hb0 dL_hour_43 (by decide) ?_
        refine lv_topi (fun x_19 ex_19 => ?_)
        have he := he x_19 ex_19
        refine lv_istore_n (lv' := [(2, .int x_19), (1, .int x_6), (0, .ref (ad 158))]) hx hb0 dL_hour_47 rfl hl (by decide) rfl (fun ls hl => ?_)
        refine lv_aload_n hx hb0 dL_hour_48 rfl (lv_at hl 2 rfl) ?_
        refine lv_iconst (v := (4 : Int32)) hx hb0 dL_hour_49 (by decide) ?_
        refine lv_aload_n hx hb0 dL_hour_50 rfl (lv_at hl 2 rfl) ?_
        refine lv_iconst (v := (4 : Int32)) hx hb0 dL_hour_51 (by decide) ?_
        refine gx_ialdK hx hb0 hK hP 158 0 (by decide) cE_t158 rfl (vp_lit (4 : Int32) (by decide) (by decide)) 4 rfl dL_hour_52 ?_
        refine lv_iload_n hx hb0 dL_hour_53 rfl (lv_at hl 0 rfl) ?_
        refine lv_iadd hx hb0 dL_hour_54 ?_
        refine gx_si ⟨hx, hb0, hml, hown, hts⟩ (gKC_keep _ _) hk hK hP hD hS [.int ((h0 158 4) + x_19)] [.int (4 : Int32), .ref (ad 158)] (c_L_bound l dC dI P ad tb ((h0 158 4) + x_19) h0 _ he) gm_L_bound st_yL_bound ml_RL_27 rfl rfl ⟨Nat.le_of_ble_eq_true rfl, Nat.le_of_ble_eq_true rfl⟩ rfl hl.1 rfl (Nat.le_of_ble_eq_true rfl) dL_hour_55 ⟨Nat.zero_le _, Nat.zero_le _⟩ (fun r_20 h_21 he H locs hP hD hS => ?_)
        refine gx_iastK hx hb0 hK hP hD hS 158 0 (by decide) cE_t158 rfl (vp_lit (4 : Int32) (by decide) (by decide)) 4 rfl dL_hour_58 (fun h_22 eh_22 H locs hP hD hS => ?_)
        have he := he h_22 eh_22
        refine lv_aload_n hx hb0 dL_hour_59 rfl (lv_at hl 2 rfl) ?_
        refine lv_iconst (v := (5 : Int32)) hx hb0 dL_hour_60 (by decide) ?_
        refine lv_aload_n hx hb0 dL_hour_61 rfl (lv_at hl 2 rfl) ?_
        refine lv_iconst (v := (5 : Int32)) hx hb0 dL_hour_62 (by decide) ?_
        refine gx_ialdK hx hb0 hK hP 158 0 (by decide) cE_t158 rfl (vp_lit (5 : Int32) (by decide) (by decide)) 5 rfl dL_hour_63 ?_
        refine lv_iload_n hx hb0 dL_hour_64 rfl (lv_at hl 0 rfl) ?_
        refine lv_iadd hx hb0 dL_hour_65 ?_
        refine gx_si ⟨hx, hb0, hml, hown, hts⟩ (gKC_keep _ _) hk hK hP hD hS [.int ((h_22 158 5) + x_19)] [.int (5 : Int32), .ref (ad 158)] (c_L_bound l dC dI P ad tb ((h_22 158 5) + x_19) h_22 _ he) gm_L_bound st_yL_bound ml_RL_27 rfl rfl ⟨Nat.le_of_ble_eq_true rfl, Nat.le_of_ble_eq_true rfl⟩ rfl hl.1 rfl (Nat.le_of_ble_eq_true rfl) dL_hour_66 ⟨Nat.zero_le _, Nat.zero_le _⟩ (fun r_23 h_24 he H locs hP hD hS => ?_)
        refine gx_iastK hx hb0 hK hP hD hS 158 0 (by decide) cE_t158 rfl (vp_lit (5 : Int32) (by decide) (by decide)) 5 rfl dL_hour_69 (fun h_25 eh_25 H locs hP hD hS => ?_)
        have he := he h_25 eh_25
        refine lv_aload_n hx hb0 dL_hour_70 rfl (lv_at hl 2 rfl) ?_
        refine lv_iconst (v := (4 : Int32)) hx hb0 dL_hour_71 (by decide) ?_
        refine lv_aload_n hx hb0 dL_hour_72 rfl (lv_at hl 2 rfl) ?_
        refine lv_iconst (v := (4 : Int32)) hx hb0 dL_hour_73 (by decide) ?_
        refine gx_ialdK hx hb0 hK hP 158 0 (by decide) cE_t158 rfl (vp_lit (4 : Int32) (by decide) (by decide)) 4 rfl dL_hour_74 ?_
        refine lv_aload_n hx hb0 dL_hour_75 rfl (lv_at hl 2 rfl) ?_
        refine lv_iconst (v := (0 : Int32)) hx hb0 dL_hour_76 (by decide) ?_
        refine gx_ialdK hx hb0 hK hP 158 0 (by decide) cE_t158 rfl (vp_lit (0 : Int32) (by decide) (by decide)) 0 rfl dL_hour_77 ?_
        refine lv_iadd hx hb0 dL_hour_78 ?_
        refine gx_si ⟨hx, hb0, hml, hown, hts⟩ (gKC_keep _ _) hk hK hP hD hS [.int ((h_25 158 4) + (h_25 158 0))] [.int (4 : Int32), .ref (ad 158)] (c_L_bound l dC dI P ad tb ((h_25 158 4) + (h_25 158 0)) h_25 _ he) gm_L_bound st_yL_bound ml_RL_27 rfl rfl ⟨Nat.le_of_ble_eq_true rfl, Nat.le_of_ble_eq_true rfl⟩ rfl hl.1 rfl (Nat.le_of_ble_eq_true rfl) dL_hour_79 ⟨Nat.zero_le _, Nat.zero_le _⟩ (fun r_26 h_27 he H locs hP hD hS => ?_)
        refine gx_iastK hx hb0 hK hP hD hS 158 0 (by decide) cE_t158 rfl (vp_lit (4 : Int32) (by decide) (by decide)) 4 rfl dL_hour_82 (fun h_28 eh_28 H locs hP hD hS => ?_)
        have he := he h_28 eh_28
        refine lv_aload_n hx hb0 dL_hour_83 rfl (lv_at hl 2 rfl) ?_
        refine lv_bipush (v := (7 : Int32)) hx hb0 dL_hour_84 (by decide) ?_
        refine lv_dup2_11 hx hb0 dL_hour_86 rfl rfl ?_
        refine gx_ialdK hx hb0 hK hP 158 0 (by decide) cE_t158 rfl (vp_lit (7 : Int32) (by decide) (by decide)) 7 rfl dL_hour_87 ?_
        refine lv_iconst (v := (1 : Int32)) hx hb0 dL_hour_88 (by decide) ?_
        refine lv_iadd hx hb0 dL_hour_89 ?_
        refine gx_iastK hx hb0 hK hP hD hS 158 0 (by decide) cE_t158 rfl (vp_lit (7 : Int32) (by decide) (by decide)) 7 rfl dL_hour_90 (fun h_29 eh_29 H locs hP hD hS => ?_)
        have he := he h_29 eh_29
        exact gx_vret hx hb0 hr hlocks hK hP hD hS he dL_hour_91
    · have he := he.2 c_7
      refine lv_aload_n hx hb0 dL_hour_25 rfl (lv_at hl 1 rfl) ?_
      refine lv_iconst (v := (1 : Int32)) hx hb0 dL_hour_26 (by decide) ?_
      refine gx_ialdK hx hb0 hK hP 158 0 (by decide) cE_t158 rfl (vp_lit (1 : Int32) (by decide) (by decide)) 1 rfl dL_hour_27 ?_
      refine lv_goto (tgt := 47) hx hb0 dL_hour_28 (by decide) ?_
      refine lv_topi (fun x_30 ex_30 => ?_)
      have he := he x_30 ex_30
      refine lv_istore_n (lv' := [(2, .int x_30), (1, .int x_6), (0, .ref (ad 158))]) hx hb0 dL_hour_47 rfl hl (by decide) rfl (fun ls hl => ?_)
      refine lv_aload_n hx hb0 dL_hour_48 rfl (lv_at hl 2 rfl) ?_
      refine lv_iconst (v := (4 : Int32)) hx hb0 dL_hour_49 (by decide) ?_
      refine lv_aload_n hx hb0 dL_hour_50 rfl (lv_at hl 2 rfl) ?_
      refine lv_iconst (v := (4 : Int32)) hx hb0 dL_hour_51 (by decide) ?_
      refine gx_ialdK hx hb0 hK hP 158 0 (by decide) cE_t158 rfl (vp_lit (4 : Int32) (by decide) (by decide)) 4 rfl dL_hour_52 ?_
      refine lv_iload_n hx hb0 dL_hour_53 rfl (lv_at hl 0 rfl) ?_
      refine lv_iadd hx hb0 dL_hour_54 ?_
      refine gx_si ⟨hx, hb0, hml, hown, hts⟩ (gKC_keep _ _) hk hK hP hD hS [.int ((h0 158 4) + x_30)] [.int (4 : Int32), .ref (ad 158)] (c_L_bound l dC dI P ad tb ((h0 158 4) + x_30) h0 _ he) gm_L_bound st_yL_bound ml_RL_27 rfl rfl ⟨Nat.le_of_ble_eq_true rfl, Nat.le_of_ble_eq_true rfl⟩ rfl hl.1 rfl (Nat.le_of_ble_eq_true rfl) dL_hour_55 ⟨Nat.zero_le _, Nat.zero_le _⟩ (fun r_31 h_32 he H locs hP hD hS => ?_)
      refine gx_iastK hx hb0 hK hP hD hS 158 0 (by decide) cE_t158 rfl (vp_lit (4 : Int32) (by decide) (by decide)) 4 rfl dL_hour_58 (fun h_33 eh_33 H locs hP hD hS => ?_)
      have he := he h_33 eh_33
      refine lv_aload_n hx hb0 dL_hour_59 rfl (lv_at hl 2 rfl) ?_
      refine lv_iconst (v := (5 : Int32)) hx hb0 dL_hour_60 (by decide) ?_
      refine lv_aload_n hx hb0 dL_hour_61 rfl (lv_at hl 2 rfl) ?_
      refine lv_iconst (v := (5 : Int32)) hx hb0 dL_hour_62 (by decide) ?_
      refine gx_ialdK hx hb0 hK hP 158 0 (by decide) cE_t158 rfl (vp_lit (5 : Int32) (by decide) (by decide)) 5 rfl dL_hour_63 ?_
      refine lv_iload_n hx hb0 dL_hour_64 rfl (lv_at hl 0 rfl) ?_
      refine lv_iadd hx hb0 dL_hour_65 ?_
      refine gx_si ⟨hx, hb0, hml, hown, hts⟩ (gKC_keep _ _) hk hK hP hD hS [.int ((h_33 158 5) + x_30)] [.int (5 : Int32), .ref (ad 158)] (c_L_bound l dC dI P ad tb ((h_33 158 5) + x_30) h_33 _ he) gm_L_bound st_yL_bound ml_RL_27 rfl rfl ⟨Nat.le_of_ble_eq_true rfl, Nat.le_of_ble_eq_true rfl⟩ rfl hl.1 rfl (Nat.le_of_ble_eq_true rfl) dL_hour_66 ⟨Nat.zero_le _, Nat.zero_le _⟩ (fun r_34 h_35 he H locs hP hD hS => ?_)
      refine gx_iastK hx hb0 hK hP hD hS 158 0 (by decide) cE_t158 rfl (vp_lit (5 : Int32) (by decide) (by decide)) 5 rfl dL_hour_69 (fun h_36 eh_36 H locs hP hD hS => ?_)
      have he := he h_36 eh_36
      refine lv_aload_n hx hb0 dL_hour_70 rfl (lv_at hl 2 rfl) ?_
      refine lv_iconst (v := (4 : Int32)) hx hb0 dL_hour_71 (by decide) ?_
      refine lv_aload_n hx hb0 dL_hour_72 rfl (lv_at hl 2 rfl) ?_
      refine lv_iconst (v := (4 : Int32)) hx hb0 dL_hour_73 (by decide) ?_
      refine gx_ialdK hx hb0 hK hP 158 0 (by decide) cE_t158 rfl (vp_lit (4 : Int32) (by decide) (by decide)) 4 rfl dL_hour_74 ?_
      refine lv_aload_n hx hb0 dL_hour_75 rfl (lv_at hl 2 rfl) ?_
      refine lv_iconst (v := (0 : Int32)) hx hb0 dL_hour_76 (by decide) ?_
      refine gx_ialdK hx hb0 hK hP 158 0 (by decide) cE_t158 rfl (vp_lit (0 : Int32) (by decide) (by decide)) 0 rfl dL_hour_77 ?_
      refine lv_iadd hx hb0 dL_hour_78 ?_
      refine gx_si ⟨hx, hb0, hml, hown, hts⟩ (gKC_keep _ _) hk hK hP hD hS [.int ((h_36 158 4) + (h_36 158 0))] [.int (4 : Int32), .ref (ad 158)] (c_L_bound l dC dI P ad tb ((h_36 158 4) + (h_36 158 0)) h_36 _ he) gm_L_bound st_yL_bound ml_RL_27 rfl rfl ⟨Nat.le_of_ble_eq_true rfl, Nat.le_of_ble_eq_true rfl⟩ rfl hl.1 rfl (Nat.le_of_ble_eq_true rfl) dL_hour_79 ⟨Nat.zero_le _, Nat.zero_le _⟩ (fun r_37 h_38 he H locs hP hD hS => ?_)
      refine gx_iastK hx hb0 hK hP hD hS 158 0 (by decide) cE_t158 rfl (vp_lit (4 : Int32) (by decide) (by decide)) 4 rfl dL_hour_82 (fun h_39 eh_39 H locs hP hD hS => ?_)
      have he := he h_39 eh_39
      refine lv_aload_n hx hb0 dL_hour_83 rfl (lv_at hl 2 rfl) ?_
      refine lv_bipush (v := (7 : Int32)) hx hb0 dL_hour_84 (by decide) ?_
      refine lv_dup2_11 hx hb0 dL_hour_86 rfl rfl ?_
      refine gx_ialdK hx hb0 hK hP 158 0 (by decide) cE_t158 rfl (vp_lit (7 : Int32) (by decide) (by decide)) 7 rfl dL_hour_87 ?_
      refine lv_iconst (v := (1 : Int32)) hx hb0 dL_hour_88 (by decide) ?_
      refine lv_iadd hx hb0 dL_hour_89 ?_
      refine gx_iastK hx hb0 hK hP hD hS 158 0 (by decide) cE_t158 rfl (vp_lit (7 : Int32) (by decide) (by decide)) 7 rfl dL_hour_90 (fun h_40 eh_40 H locs hP hD hS => ?_)
      have he := he h_40 eh_40
      exact gx_vret hx hb0 hr hlocks hK hP hD hS he dL_hour_91
theorem gm_L_hour : gMeth yL_hour cL_hour 3 none 1 := ⟨⟨by decide, by decide, by decide +kernel⟩, ini_RL, co_yL_hour⟩
abbrev rm_L_ends : Room := { frames := 0, cells := 0, slots := 0, locals := 0 }
set_option maxHeartbeats 4000000 in
set_option maxRecDepth 100000 in
theorem l_L_ends_98 (l : Launch) (dC : Nat → ClassId) (dI : Nat → Nat → Nat) (P : gP) (ad : Nat → Nat) (tb : Nat → Nat) {p : Program} {e : Env} {s : State} {m : MethodId} {args : Array Value} {below : List Frame} {meth : Method} {c : Code} (hx : p.tables.exec = Jvm.exec) (hb0 : c.code = cL_ends) (hr : meth.sig.returnType = (some .int)) (hlocks : meth.locks = false) (hml : c.maxLocals = 4) (hown : s.vm.findClass RL = some m.cls) (hts : ∀ w ∈ TB, w.before args s = true) (hK : va_K (dC, dI) vwCl (tyC P) s) (hk : (gKC tb (gA 162 ad)) s) (Q : Int32 → Hp → Prop) : ∀ (n : Nat) (y3 : Int32) (h0 : Hp), F_L_ends_L98  n y3 h0 Q → ∀ (H : Heap) (locs : List Loc) (ls : Array Slot), va_P (dC, dI) vwCl (gW 162 (cE P ad) ad h0) H → va_D (gA 162 ad) (gW 162 (cE P ad) ad h0) → va_S (gA 162 ad) s.heap H locs → lv_has ls 4 [(0, .ref (ad 158)), (1, .ref (ad 160)), (2, .ref (ad 161)), (3, .int y3)] → W p l e rm_L_ends s m args below meth c H locs 0 0 (MQ below (gQi (dC, dI) vwCl (tyC P) 162 (cE P ad) ad Q) args s 0 0 (gA 162 ad)) (F0 m 98 ls []) := by
  intro n
  induction n with
  | zero =>
    intro y3 h0 he
    exact he.elim
  | succ n ih =>
    intro y3 h0 he H locs ls hP hD hS hl
    rw [F_L_ends_L98] at he
    refine lv_iload_n hx hb0 dL_ends_98 rfl (lv_at hl 3 rfl) ?_
    refine lv_bipush (v := (7 : Int32)) hx hb0 dL_ends_99 (by decide) ?_
    refine lv_icmp_ge (tgt := 189) hx hb0 dL_ends_101 (by decide) (fun c_10 => ?_) (fun c_10 => ?_)
    · have he := he.1 c_10
      refine lv_aload_n hx hb0 dL_ends_189 rfl (lv_at hl 0 rfl) ?_
      refine lv_bipush (v := (8 : Int32)) hx hb0 dL_ends_190 (by decide) ?_
      refine lv_dup2_11 hx hb0 dL_ends_192 rfl rfl ?_
      refine gx_ialdK hx hb0 hK hP 158 0 (by decide) cE_t158 rfl (vp_lit (8 : Int32) (by decide) (by decide)) 8 rfl dL_ends_193 ?_
      refine lv_iconst (v := (1 : Int32)) hx hb0 dL_ends_194 (by decide) ?_
      refine lv_iadd hx hb0 dL_ends_195 ?_
      refine gx_iastK hx hb0 hK hP hD hS 158 0 (by decide) cE_t158 rfl (vp_lit (8 : Int32) (by decide) (by decide)) 8 rfl dL_ends_196 (fun h_11 eh_11 H locs hP hD hS => ?_)
      have he := he h_11 eh_11
      refine lv_aload_n hx hb0 dL_ends_197 rfl (lv_at hl 0 rfl) ?_
      refine lv_bipush (v := (8 : Int32)) hx hb0 dL_ends_198 (by decide) ?_
      refine gx_ialdK hx hb0 hK hP 158 0 (by decide) cE_t158 rfl (vp_lit (8 : Int32) (by decide) (by decide)) 8 rfl dL_ends_200 ?_
      exact gx_iret hx hb0 hr hlocks hK hP hD hS he dL_ends_201
    · have he := he.2 c_10
      refine lv_aload_n hx hb0 dL_ends_104 rfl (lv_at hl 1 rfl) ?_
      refine lv_bipush (v := (7 : Int32)) hx hb0 dL_ends_105 (by decide) ?_
      refine lv_iload_n hx hb0 dL_ends_107 rfl (lv_at hl 3 rfl) ?_
      refine lv_imul hx hb0 dL_ends_108 ?_
      refine lv_iconst (v := (5 : Int32)) hx hb0 dL_ends_109 (by decide) ?_
      refine lv_iadd hx hb0 dL_ends_110 ?_
      refine lv_sipush (v := (9999 : Int32)) hx hb0 dL_ends_111 (by decide) ?_
      obtain ⟨v_13, he⟩ := he
      refine gx_iast hx hb0 hK hP hD hS 160 0 (by decide) cE_t160 rfl v_13 dL_ends_114 (fun h_12 eh_12 H locs hP hD hS => ?_)
      have he := he h_12 eh_12
      refine lv_aload_n hx hb0 dL_ends_115 rfl (lv_at hl 1 rfl) ?_
      refine lv_bipush (v := (7 : Int32)) hx hb0 dL_ends_116 (by decide) ?_
      refine lv_iload_n hx hb0 dL_ends_118 rfl (lv_at hl 3 rfl) ?_
      refine lv_imul hx hb0 dL_ends_119 ?_
      refine lv_iconst (v := (3 : Int32)) hx hb0 dL_ends_120 (by decide) ?_
      refine lv_iadd hx hb0 dL_ends_121 ?_
      refine lv_aload_n hx hb0 dL_ends_122 rfl (lv_at hl 1 rfl) ?_
      refine lv_bipush (v := (7 : Int32)) hx hb0 dL_ends_123 (by decide) ?_
      refine lv_iload_n hx hb0 dL_ends_125 rfl (lv_at hl 3 rfl) ?_
      refine lv_imul hx hb0 dL_ends_126 ?_
      refine lv_bipush (v := (6 : Int32)) hx hb0 dL_ends_127 (by decide) ?_
      refine lv_iadd hx hb0 dL_ends_129 ?_
      obtain ⟨v_14, he⟩ := he
      refine gx_iald hx hb0 hK hP 160 0 (by decide) cE_t160 rfl v_14 dL_ends_130 ?_
      refine lv_iconst (v := (2 : Int32)) hx hb0 dL_ends_131 (by decide) ?_
      refine lv_icmp_ne (tgt := 139) hx hb0 dL_ends_132 (by decide) (fun c_15 => ?_) (fun c_15 => ?_)
      · have he := he.2 c_15
        refine lv_aload_n hx hb0 dL_ends_139 rfl (lv_at hl 1 rfl) ?_
        refine lv_bipush (v := (7 : Int32)) hx hb0 dL_ends_140 (by decide) ?_
        refine lv_iload_n hx hb0 dL_ends_142 rfl (lv_at hl 3 rfl) ?_
        refine lv_imul hx hb0 dL_ends_143 ?_
        refine lv_iconst (v := (3 : Int32)) hx hb0 dL_ends_144 (by decide) ?_
        refine lv_iadd hx hb0 dL_ends_145 ?_
        obtain ⟨v_16, he⟩ := he
        refine gx_iald hx hb0 hK hP 160 0 (by decide) cE_t160 rfl v_16 dL_ends_146 ?_
        obtain ⟨v_18, he⟩ := he
        refine gx_iast hx hb0 hK hP hD hS 160 0 (by decide) cE_t160 rfl v_18 dL_ends_147 (fun h_17 eh_17 H locs hP hD hS => ?_)
        have he := he h_17 eh_17
        refine lv_aload_n hx hb0 dL_ends_148 rfl (lv_at hl 1 rfl) ?_
        refine lv_bipush (v := (7 : Int32)) hx hb0 dL_ends_149 (by decide) ?_
        refine lv_iload_n hx hb0 dL_ends_151 rfl (lv_at hl 3 rfl) ?_
        refine lv_imul hx hb0 dL_ends_152 ?_
        refine lv_bipush (v := (6 : Int32)) hx hb0 dL_ends_153 (by decide) ?_
        refine lv_iadd hx hb0 dL_ends_155 ?_
        refine lv_aload_n hx hb0 dL_ends_156 rfl (lv_at hl 1 rfl) ?_
        refine lv_bipush (v := (7 : Int32)) hx hb0 dL_ends_157 (by decide) ?_
        refine lv_iload_n hx hb0 dL_ends_159 rfl (lv_at hl 3 rfl) ?_
        refine lv_imul hx hb0 dL_ends_160 ?_
        refine lv_bipush (v := (6 : Int32)) hx hb0 dL_ends_161 (by decide) ?_
        refine lv_iadd hx hb0 dL_ends_163 ?_
        obtain ⟨v_19, he⟩ := he
        refine gx_iald hx hb0 hK hP 160 0 (by decide) cE_t160 rfl v_19 dL_ends_164 ?_
        refine lv_iconst (v := (2 : Int32)) hx hb0 dL_ends_165 (by decide) ?_
        refine lv_icmp_ne (tgt := 173) hx hb0 dL_ends_166 (by decide) (fun c_20 => ?_) (fun c_20 => ?_)
        · have he := he.2 c_20
          refine lv_aload_n hx hb0 dL_ends_173 rfl (lv_at hl 1 rfl) ?_
          refine lv_bipush (v := (7 : Int32)) hx hb0 dL_ends_174 (by decide) ?_
          refine lv_iload_n hx hb0 dL_ends_176 rfl (lv_at hl 3 rfl) ?_
          refine lv_imul hx hb0 dL_ends_177 ?_
          refine lv_bipush (v := (6 : Int32)) hx hb0 dL_ends_178 (by decide) ?_
          refine lv_iadd hx hb0 dL_ends_180 ?_
          obtain ⟨v_21, he⟩ := he
          refine gx_iald hx hb0 hK hP 160 0 (by decide) cE_t160 rfl v_21 dL_ends_181 ?_
          obtain ⟨v_23, he⟩ := he
          refine gx_iast hx hb0 hK hP hD hS 160 0 (by decide) cE_t160 rfl v_23 dL_ends_182 (fun h_22 eh_22 H locs hP hD hS => ?_)
          have he := he h_22 eh_22
          obtain ⟨x_24, ex_24⟩ : ∃ y : Int32, y = y3 + 1 := ⟨_, rfl⟩
          have he := he x_24 ex_24
          refine lv_iinc (v := x_24) (lv' := [(3, .int x_24), (0, .ref (ad 158)), (1, .ref (ad 160)), (2, .ref (ad 161))]) hx hb0 dL_ends_183 hl (k := 3) rfl (by rw [ex_24]; rfl) (by decide) rfl (fun ls hl => ?_)
          refine lv_goto (tgt := 98) hx hb0 dL_ends_186 (by decide) ?_
          exact ih x_24 h_22 he _ _ ls hP hD hS (lv_sub hl [1, 2, 3, 0] rfl)
        · have he := he.1 c_20
          refine lv_iconst (v := (0 : Int32)) hx hb0 dL_ends_169 (by decide) ?_
          refine lv_goto (tgt := 182) hx hb0 dL_ends_170 (by decide) ?_
          obtain ⟨v_26, he⟩ := he
          refine gx_iast hx hb0 hK hP hD hS 160 0 (by decide) cE_t160 rfl v_26 dL_ends_182 (fun h_25 eh_25 H locs hP hD hS => ?_)
          have he := he h_25 eh_25
          obtain ⟨x_27, ex_27⟩ : ∃ y : Int32, y = y3 + 1 := ⟨_, rfl⟩
          have he := he x_27 ex_27
          refine lv_iinc (v := x_27) (lv' := [(3, .int x_27), (0, .ref (ad 158)), (1, .ref (ad 160)), (2, .ref (ad 161))]) hx hb0 dL_ends_183 hl (k := 3) rfl (by rw [ex_27]; rfl) (by decide) rfl (fun ls hl => ?_)
          refine lv_goto (tgt := 98) hx hb0 dL_ends_186 (by decide) ?_
          exact ih x_27 h_25 he _ _ ls hP hD hS (lv_sub hl [1, 2, 3, 0] rfl)
      · have he := he.1 c_15
        refine lv_iconst (v := (0 : Int32)) hx hb0 dL_ends_135 (by decide) ?_
        refine lv_goto (tgt := 147) hx hb0 dL_ends_136 (by decide) ?_
        obtain ⟨v_29, he⟩ := he
        refine gx_iast hx hb0 hK hP hD hS 160 0 (by decide) cE_t160 rfl v_29 dL_ends_147 (fun h_28 eh_28 H locs hP hD hS => ?_)
        have he := he h_28 eh_28
        refine lv_aload_n hx hb0 dL_ends_148 rfl (lv_at hl 1 rfl) ?_
        refine lv_bipush (v := (7 : Int32)) hx hb0 dL_ends_149 (by decide) ?_
        refine lv_iload_n hx hb0 dL_ends_151 rfl (lv_at hl 3 rfl) ?_
        refine lv_imul hx hb0 dL_ends_152 ?_
        refine lv_bipush (v := (6 : Int32)) hx hb0 dL_ends_153 (by decide) ?_
        refine lv_iadd hx hb0 dL_ends_155 ?_
        refine lv_aload_n hx hb0 dL_ends_156 rfl (lv_at hl 1 rfl) ?_
        refine lv_bipush (v := (7 : Int32)) hx hb0 dL_ends_157 (by decide) ?_
        refine lv_iload_n hx hb0 dL_ends_159 rfl (lv_at hl 3 rfl) ?_
        refine lv_imul hx hb0 dL_ends_160 ?_
        refine lv_bipush (v := (6 : Int32)) hx hb0 dL_ends_161 (by decide) ?_
        refine lv_iadd hx hb0 dL_ends_163 ?_
        obtain ⟨v_30, he⟩ := he
        refine gx_iald hx hb0 hK hP 160 0 (by decide) cE_t160 rfl v_30 dL_ends_164 ?_
        refine lv_iconst (v := (2 : Int32)) hx hb0 dL_ends_165 (by decide) ?_
        refine lv_icmp_ne (tgt := 173) hx hb0 dL_ends_166 (by decide) (fun c_31 => ?_) (fun c_31 => ?_)
        · have he := he.2 c_31
          refine lv_aload_n hx hb0 dL_ends_173 rfl (lv_at hl 1 rfl) ?_
          refine lv_bipush (v := (7 : Int32)) hx hb0 dL_ends_174 (by decide) ?_
          refine lv_iload_n hx hb0 dL_ends_176 rfl (lv_at hl 3 rfl) ?_
          refine lv_imul hx hb0 dL_ends_177 ?_
          refine lv_bipush (v := (6 : Int32)) hx hb0 dL_ends_178 (by decide) ?_
          refine lv_iadd hx hb0 dL_ends_180 ?_
          obtain ⟨v_32, he⟩ := he
          refine gx_iald hx hb0 hK hP 160 0 (by decide) cE_t160 rfl v_32 dL_ends_181 ?_
          obtain ⟨v_34, he⟩ := he
          refine gx_iast hx hb0 hK hP hD hS 160 0 (by decide) cE_t160 rfl v_34 dL_ends_182 (fun h_33 eh_33 H locs hP hD hS => ?_)
          have he := he h_33 eh_33
          obtain ⟨x_35, ex_35⟩ : ∃ y : Int32, y = y3 + 1 := ⟨_, rfl⟩
          have he := he x_35 ex_35
          refine lv_iinc (v := x_35) (lv' := [(3, .int x_35), (0, .ref (ad 158)), (1, .ref (ad 160)), (2, .ref (ad 161))]) hx hb0 dL_ends_183 hl (k := 3) rfl (by rw [ex_35]; rfl) (by decide) rfl (fun ls hl => ?_)
          refine lv_goto (tgt := 98) hx hb0 dL_ends_186 (by decide) ?_
          exact ih x_35 h_33 he _ _ ls hP hD hS (lv_sub hl [1, 2, 3, 0] rfl)
        · have he := he.1 c_31
          refine lv_iconst (v := (0 : Int32)) hx hb0 dL_ends_169 (by decide) ?_
          refine lv_goto (tgt := 182) hx hb0 dL_ends_170 (by decide) ?_
          obtain ⟨v_37, he⟩ := he
          refine gx_iast hx hb0 hK hP hD hS 160 0 (by decide) cE_t160 rfl v_37 dL_ends_182 (fun h_36 eh_36 H locs hP hD hS => ?_)
          have he := he h_36 eh_36
          obtain ⟨x_38, ex_38⟩ : ∃ y : Int32, y = y3 + 1 := ⟨_, rfl⟩
          have he := he x_38 ex_38
          refine lv_iinc (v := x_38) (lv' := [(3, .int x_38), (0, .ref (ad 158)), (1, .ref (ad 160)), (2, .ref (ad 161))]) hx hb0 dL_ends_183 hl (k := 3) rfl (by rw [ex_38]; rfl) (by decide) rfl (fun ls hl => ?_)
          refine lv_goto (tgt := 98) hx hb0 dL_ends_186 (by decide) ?_
          exact ih x_38 h_36 he _ _ ls hP hD hS (lv_sub hl [1, 2, 3, 0] rfl)
set_option maxHeartbeats 4000000 in
set_option maxRecDepth 100000 in
theorem l_L_ends_3 (l : Launch) (dC : Nat → ClassId) (dI : Nat → Nat → Nat) (P : gP) (ad : Nat → Nat) (tb : Nat → Nat) {p : Program} {e : Env} {s : State} {m : MethodId} {args : Array Value} {below : List Frame} {meth : Method} {c : Code} (hx : p.tables.exec = Jvm.exec) (hb0 : c.code = cL_ends) (hr : meth.sig.returnType = (some .int)) (hlocks : meth.locks = false) (hml : c.maxLocals = 4) (hown : s.vm.findClass RL = some m.cls) (hts : ∀ w ∈ TB, w.before args s = true) (hK : va_K (dC, dI) vwCl (tyC P) s) (hk : (gKC tb (gA 162 ad)) s) (Q : Int32 → Hp → Prop) : ∀ (n : Nat) (y3 : Int32) (h0 : Hp), F_L_ends_L3  n y3 h0 Q → ∀ (H : Heap) (locs : List Loc) (ls : Array Slot), va_P (dC, dI) vwCl (gW 162 (cE P ad) ad h0) H → va_D (gA 162 ad) (gW 162 (cE P ad) ad h0) → va_S (gA 162 ad) s.heap H locs → lv_has ls 4 [(0, .ref (ad 158)), (1, .ref (ad 160)), (2, .ref (ad 161)), (3, .int y3)] → W p l e rm_L_ends s m args below meth c H locs 0 0 (MQ below (gQi (dC, dI) vwCl (tyC P) 162 (cE P ad) ad Q) args s 0 0 (gA 162 ad)) (F0 m 3 ls []) := by
  intro n
  induction n with
  | zero =>
    intro y3 h0 he
    exact he.elim
  | succ n ih =>
    intro y3 h0 he H locs ls hP hD hS hl
    rw [F_L_ends_L3] at he
    refine lv_iload_n hx hb0 dL_ends_3 rfl (lv_at hl 3 rfl) ?_
    refine lv_iconst (v := (3 : Int32)) hx hb0 dL_ends_4 (by decide) ?_
    refine lv_icmp_le (tgt := 22) hx hb0 dL_ends_5 (by decide) (fun c_1 => ?_) (fun c_1 => ?_)
    · have he := he.1 c_1
      refine lv_aload_n hx hb0 dL_ends_22 rfl (lv_at hl 2 rfl) ?_
      refine lv_iconst (v := (0 : Int32)) hx hb0 dL_ends_23 (by decide) ?_
      refine lv_aload_n hx hb0 dL_ends_24 rfl (lv_at hl 0 rfl) ?_
      refine lv_bipush (v := (8 : Int32)) hx hb0 dL_ends_25 (by decide) ?_
      refine gx_ialdK hx hb0 hK hP 158 0 (by decide) cE_t158 rfl (vp_lit (8 : Int32) (by decide) (by decide)) 8 rfl dL_ends_27 ?_
      refine gx_iastK hx hb0 hK hP hD hS 161 0 (by decide) cE_t161 rfl (vp_lit (0 : Int32) (by decide) (by decide)) 0 rfl dL_ends_28 (fun h_2 eh_2 H locs hP hD hS => ?_)
      have he := he h_2 eh_2
      refine lv_aload_n hx hb0 dL_ends_29 rfl (lv_at hl 2 rfl) ?_
      refine lv_iconst (v := (1 : Int32)) hx hb0 dL_ends_30 (by decide) ?_
      refine lv_aload_n hx hb0 dL_ends_31 rfl (lv_at hl 0 rfl) ?_
      refine lv_iconst (v := (4 : Int32)) hx hb0 dL_ends_32 (by decide) ?_
      refine gx_ialdK hx hb0 hK hP 158 0 (by decide) cE_t158 rfl (vp_lit (4 : Int32) (by decide) (by decide)) 4 rfl dL_ends_33 ?_
      refine lv_sipush (v := (5400 : Int32)) hx hb0 dL_ends_34 (by decide) ?_
      refine lv_iadd hx hb0 dL_ends_37 ?_
      refine gx_iastK hx hb0 hK hP hD hS 161 0 (by decide) cE_t161 rfl (vp_lit (1 : Int32) (by decide) (by decide)) 1 rfl dL_ends_38 (fun h_3 eh_3 H locs hP hD hS => ?_)
      have he := he h_3 eh_3
      refine lv_aload_n hx hb0 dL_ends_39 rfl (lv_at hl 2 rfl) ?_
      refine lv_iconst (v := (2 : Int32)) hx hb0 dL_ends_40 (by decide) ?_
      refine lv_aload_n hx hb0 dL_ends_41 rfl (lv_at hl 0 rfl) ?_
      refine lv_iconst (v := (5 : Int32)) hx hb0 dL_ends_42 (by decide) ?_
      refine gx_ialdK hx hb0 hK hP 158 0 (by decide) cE_t158 rfl (vp_lit (5 : Int32) (by decide) (by decide)) 5 rfl dL_ends_43 ?_
      refine lv_sipush (v := (9999 : Int32)) hx hb0 dL_ends_44 (by decide) ?_
      refine lv_icmp_ne (tgt := 55) hx hb0 dL_ends_47 (by decide) (fun c_4 => ?_) (fun c_4 => ?_)
      · have he := he.2 c_4
        refine lv_aload_n hx hb0 dL_ends_55 rfl (lv_at hl 0 rfl) ?_
        refine lv_iconst (v := (5 : Int32)) hx hb0 dL_ends_56 (by decide) ?_
        refine gx_ialdK hx hb0 hK hP 158 0 (by decide) cE_t158 rfl (vp_lit (5 : Int32) (by decide) (by decide)) 5 rfl dL_ends_57 ?_
        refine lv_sipush (v := (5400 : Int32)) hx hb0 dL_ends_58 (by decide) ?_
        refine lv_iadd hx hb0 dL_ends_61 ?_
        refine gx_iastK hx hb0 hK hP hD hS 161 0 (by decide) cE_t161 rfl (vp_lit (2 : Int32) (by decide) (by decide)) 2 rfl dL_ends_62 (fun h_5 eh_5 H locs hP hD hS => ?_)
        have he := he h_5 eh_5
        refine lv_aload_n hx hb0 dL_ends_63 rfl (lv_at hl 2 rfl) ?_
        refine lv_iconst (v := (3 : Int32)) hx hb0 dL_ends_64 (by decide) ?_
        refine lv_aload_n hx hb0 dL_ends_65 rfl (lv_at hl 0 rfl) ?_
        refine lv_bipush (v := (11 : Int32)) hx hb0 dL_ends_66 (by decide) ?_
        refine gx_ialdK hx hb0 hK hP 158 0 (by decide) cE_t158 rfl (vp_lit (11 : Int32) (by decide) (by decide)) 11 rfl dL_ends_68 ?_
        refine gx_iastK hx hb0 hK hP hD hS 161 0 (by decide) cE_t161 rfl (vp_lit (3 : Int32) (by decide) (by decide)) 3 rfl dL_ends_69 (fun h_6 eh_6 H locs hP hD hS => ?_)
        have he := he h_6 eh_6
        refine lv_aload_n hx hb0 dL_ends_70 rfl (lv_at hl 0 rfl) ?_
        refine lv_bipush (v := (11 : Int32)) hx hb0 dL_ends_71 (by decide) ?_
        refine lv_iconst (v := (0 : Int32)) hx hb0 dL_ends_73 (by decide) ?_
        refine gx_iastK hx hb0 hK hP hD hS 158 0 (by decide) cE_t158 rfl (vp_lit (11 : Int32) (by decide) (by decide)) 11 rfl dL_ends_74 (fun h_7 eh_7 H locs hP hD hS => ?_)
        have he := he h_7 eh_7
        refine lv_aload_n hx hb0 dL_ends_75 rfl (lv_at hl 0 rfl) ?_
        refine lv_bipush (v := (13 : Int32)) hx hb0 dL_ends_76 (by decide) ?_
        refine lv_dup2_11 hx hb0 dL_ends_78 rfl rfl ?_
        refine gx_ialdK hx hb0 hK hP 158 0 (by decide) cE_t158 rfl (vp_lit (13 : Int32) (by decide) (by decide)) 13 rfl dL_ends_79 ?_
        refine lv_aload_n hx hb0 dL_ends_80 rfl (lv_at hl 0 rfl) ?_
        refine lv_bipush (v := (13 : Int32)) hx hb0 dL_ends_81 (by decide) ?_
        refine gx_ialdK hx hb0 hK hP 158 0 (by decide) cE_t158 rfl (vp_lit (13 : Int32) (by decide) (by decide)) 13 rfl dL_ends_83 ?_
        refine lv_bipush (v := (8 : Int32)) hx hb0 dL_ends_84 (by decide) ?_
        refine lv_icmp_ge (tgt := 93) hx hb0 dL_ends_86 (by decide) (fun c_8 => ?_) (fun c_8 => ?_)
        · have he := he.1 c_8
          refine lv_iconst (v := (0 : Int32)) hx hb0 dL_ends_93 (by decide) ?_
          refine lv_iadd hx hb0 dL_ends_94 ?_
          refine gx_iastK hx hb0 hK hP hD hS 158 0 (by decide) cE_t158 rfl (vp_lit (13 : Int32) (by decide) (by decide)) 13 rfl dL_ends_95 (fun h_9 eh_9 H locs hP hD hS => ?_)
          have he := he h_9 eh_9
          refine lv_iconst (v := (0 : Int32)) hx hb0 dL_ends_96 (by decide) ?_
          refine lv_istore_n (lv' := [(3, .int (0 : Int32)), (0, .ref (ad 158)), (1, .ref (ad 160)), (2, .ref (ad 161))]) hx hb0 dL_ends_97 rfl hl (by decide) rfl (fun ls hl => ?_)
          obtain ⟨n_39, he⟩ := he
          exact l_L_ends_98 l dC dI P ad tb  hx hb0 hr hlocks hml hown hts hK hk Q n_39 (0 : Int32) h_9 he _ _ ls hP hD hS (lv_sub hl [1, 2, 3, 0] rfl)
        · have he := he.2 c_8
          refine lv_iconst (v := (1 : Int32)) hx hb0 dL_ends_89 (by decide) ?_
          refine lv_goto (tgt := 94) hx hb0 dL_ends_90 (by decide) ?_
          refine lv_iadd hx hb0 dL_ends_94 ?_
          refine gx_iastK hx hb0 hK hP hD hS 158 0 (by decide) cE_t158 rfl (vp_lit (13 : Int32) (by decide) (by decide)) 13 rfl dL_ends_95 (fun h_40 eh_40 H locs hP hD hS => ?_)
          have he := he h_40 eh_40
          refine lv_iconst (v := (0 : Int32)) hx hb0 dL_ends_96 (by decide) ?_
          refine lv_istore_n (lv' := [(3, .int (0 : Int32)), (0, .ref (ad 158)), (1, .ref (ad 160)), (2, .ref (ad 161))]) hx hb0 dL_ends_97 rfl hl (by decide) rfl (fun ls hl => ?_)
          obtain ⟨n_41, he⟩ := he
          exact l_L_ends_98 l dC dI P ad tb  hx hb0 hr hlocks hml hown hts hK hk Q n_41 (0 : Int32) h_40 he _ _ ls hP hD hS (lv_sub hl [1, 2, 3, 0] rfl)
      · have he := he.1 c_4
        refine lv_bipush (v := (-6 : Int32)) hx hb0 dL_ends_50 (by decide) ?_
        refine lv_goto (tgt := 62) hx hb0 dL_ends_52 (by decide) ?_
        refine gx_iastK hx hb0 hK hP hD hS 161 0 (by decide) cE_t161 rfl (vp_lit (2 : Int32) (by decide) (by decide)) 2 rfl dL_ends_62 (fun h_42 eh_42 H locs hP hD hS => ?_)
        have he := he h_42 eh_42
        refine lv_aload_n hx hb0 dL_ends_63 rfl (lv_at hl 2 rfl) ?_
        refine lv_iconst (v := (3 : Int32)) hx hb0 dL_ends_64 (by decide) ?_
        refine lv_aload_n hx hb0 dL_ends_65 rfl (lv_at hl 0 rfl) ?_
        refine lv_bipush (v := (11 : Int32)) hx hb0 dL_ends_66 (by decide) ?_
        refine gx_ialdK hx hb0 hK hP 158 0 (by decide) cE_t158 rfl (vp_lit (11 : Int32) (by decide) (by decide)) 11 rfl dL_ends_68 ?_
        refine gx_iastK hx hb0 hK hP hD hS 161 0 (by decide) cE_t161 rfl (vp_lit (3 : Int32) (by decide) (by decide)) 3 rfl dL_ends_69 (fun h_43 eh_43 H locs hP hD hS => ?_)
        have he := he h_43 eh_43
        refine lv_aload_n hx hb0 dL_ends_70 rfl (lv_at hl 0 rfl) ?_
        refine lv_bipush (v := (11 : Int32)) hx hb0 dL_ends_71 (by decide) ?_
        refine lv_iconst (v := (0 : Int32)) hx hb0 dL_ends_73 (by decide) ?_
        refine gx_iastK hx hb0 hK hP hD hS 158 0 (by decide) cE_t158 rfl (vp_lit (11 : Int32) (by decide) (by decide)) 11 rfl dL_ends_74 (fun h_44 eh_44 H locs hP hD hS => ?_)
        have he := he h_44 eh_44
        refine lv_aload_n hx hb0 dL_ends_75 rfl (lv_at hl 0 rfl) ?_
        refine lv_bipush (v := (13 : Int32)) hx hb0 dL_ends_76 (by decide) ?_
        refine lv_dup2_11 hx hb0 dL_ends_78 rfl rfl ?_
        refine gx_ialdK hx hb0 hK hP 158 0 (by decide) cE_t158 rfl (vp_lit (13 : Int32) (by decide) (by decide)) 13 rfl dL_ends_79 ?_
        refine lv_aload_n hx hb0 dL_ends_80 rfl (lv_at hl 0 rfl) ?_
        refine lv_bipush (v := (13 : Int32)) hx hb0 dL_ends_81 (by decide) ?_
        refine gx_ialdK hx hb0 hK hP 158 0 (by decide) cE_t158 rfl (vp_lit (13 : Int32) (by decide) (by decide)) 13 rfl dL_ends_83 ?_
        refine lv_bipush (v := (8 : Int32)) hx hb0 dL_ends_84 (by decide) ?_
        refine lv_icmp_ge (tgt := 93) hx hb0 dL_ends_86 (by decide) (fun c_45 => ?_) (fun c_45 => ?_)
        · have he := he.1 c_45
          refine lv_iconst (v := (0 : Int32)) hx hb0 dL_ends_93 (by decide) ?_
          refine lv_iadd hx hb0 dL_ends_94 ?_
          refine gx_iastK hx hb0 hK hP hD hS 158 0 (by decide) cE_t158 rfl (vp_lit (13 : Int32) (by decide) (by decide)) 13 rfl dL_ends_95 (fun h_46 eh_46 H locs hP hD hS => ?_)
          have he := he h_46 eh_46
          refine lv_iconst (v := (0 : Int32)) hx hb0 dL_ends_96 (by decide) ?_
          refine lv_istore_n (lv' := [(3, .int (0 : Int32)), (0, .ref (ad 158)), (1, .ref (ad 160)), (2, .ref (ad 161))]) hx hb0 dL_ends_97 rfl hl (by decide) rfl (fun ls hl => ?_)
          obtain ⟨n_47, he⟩ := he
          exact l_L_ends_98 l dC dI P ad tb  hx hb0 hr hlocks hml hown hts hK hk Q n_47 (0 : Int32) h_46 he _ _ ls hP hD hS (lv_sub hl [1, 2, 3, 0] rfl)
        · have he := he.2 c_45
          refine lv_iconst (v := (1 : Int32)) hx hb0 dL_ends_89 (by decide) ?_
          refine lv_goto (tgt := 94) hx hb0 dL_ends_90 (by decide) ?_
          refine lv_iadd hx hb0 dL_ends_94 ?_
          refine gx_iastK hx hb0 hK hP hD hS 158 0 (by decide) cE_t158 rfl (vp_lit (13 : Int32) (by decide) (by decide)) 13 rfl dL_ends_95 (fun h_48 eh_48 H locs hP hD hS => ?_)
          have he := he h_48 eh_48
          refine lv_iconst (v := (0 : Int32)) hx hb0 dL_ends_96 (by decide) ?_
          refine lv_istore_n (lv' := [(3, .int (0 : Int32)), (0, .ref (ad 158)), (1, .ref (ad 160)), (2, .ref (ad 161))]) hx hb0 dL_ends_97 rfl hl (by decide) rfl (fun ls hl => ?_)
          obtain ⟨n_49, he⟩ := he
          exact l_L_ends_98 l dC dI P ad tb  hx hb0 hr hlocks hml hown hts hK hk Q n_49 (0 : Int32) h_48 he _ _ ls hP hD hS (lv_sub hl [1, 2, 3, 0] rfl)
    · have he := he.2 c_1
      refine lv_aload_n hx hb0 dL_ends_8 rfl (lv_at hl 2 rfl) ?_
      refine lv_iload_n hx hb0 dL_ends_9 rfl (lv_at hl 3 rfl) ?_
      refine lv_aload_n hx hb0 dL_ends_10 rfl (lv_at hl 2 rfl) ?_
      refine lv_iload_n hx hb0 dL_ends_11 rfl (lv_at hl 3 rfl) ?_
      refine lv_iconst (v := (4 : Int32)) hx hb0 dL_ends_12 (by decide) ?_
      refine lv_isub hx hb0 dL_ends_13 ?_
      obtain ⟨v_50, he⟩ := he
      refine gx_iald hx hb0 hK hP 161 0 (by decide) cE_t161 rfl v_50 dL_ends_14 ?_
      obtain ⟨v_52, he⟩ := he
      refine gx_iast hx hb0 hK hP hD hS 161 0 (by decide) cE_t161 rfl v_52 dL_ends_15 (fun h_51 eh_51 H locs hP hD hS => ?_)
      have he := he h_51 eh_51
      obtain ⟨x_53, ex_53⟩ : ∃ y : Int32, y = y3 + (-1) := ⟨_, rfl⟩
      have he := he x_53 ex_53
      refine lv_iinc (v := x_53) (lv' := [(3, .int x_53), (0, .ref (ad 158)), (1, .ref (ad 160)), (2, .ref (ad 161))]) hx hb0 dL_ends_16 hl (k := 3) rfl (by rw [ex_53]; rfl) (by decide) rfl (fun ls hl => ?_)
      refine lv_goto (tgt := 3) hx hb0 dL_ends_19 (by decide) ?_
      exact ih x_53 h_51 he _ _ ls hP hD hS (lv_sub hl [1, 2, 3, 0] rfl)
set_option maxHeartbeats 4000000 in
set_option maxRecDepth 100000 in
theorem c_L_ends (l : Launch) (dC : Nat → ClassId) (dI : Nat → Nat → Nat) (P : gP) (ad : Nat → Nat) (tb : Nat → Nat) (h0 : Hp) (Q : Int32 → Hp → Prop) (he : F_L_ends  h0 Q) : Met l yL_ends (Cond.code yL_ends cL_ends 4 (some .int) :: TB) rm_L_ends (gPc (dC, dI) vwCl (tyC P) 162 (cE P ad) ad (gKC tb (gA 162 ad)) h0 [.ref (ad 158), .ref (ad 160), .ref (ad 161)]) (gQi (dC, dI) vwCl (tyC P) 162 (cE P ad) ad Q) 0 0 (gA 162 ad) := by
  refine gx_start (by decide) (Nat.le_of_ble_eq_true rfl) (fun p e s m below meth c ls hx hb0 hr hlocks hml hown hts hK hk hP hD hS hl => ?_)
  have hl : lv_has ls 4 [(0, .ref (ad 158)), (1, .ref (ad 160)), (2, .ref (ad 161))] := hl
  have hown : s.vm.findClass RL = some m.cls := hown
  unfold F_L_ends at he
  refine lv_bipush (v := (31 : Int32)) hx hb0 dL_ends_0 (by decide) ?_
  refine lv_istore_n (lv' := [(3, .int (31 : Int32)), (0, .ref (ad 158)), (1, .ref (ad 160)), (2, .ref (ad 161))]) hx hb0 dL_ends_2 rfl hl (by decide) rfl (fun ls hl => ?_)
  obtain ⟨n_54, he⟩ := he
  exact l_L_ends_3 l dC dI P ad tb  hx hb0 hr hlocks hml hown hts hK hk Q n_54 (31 : Int32) h0 he _ _ ls hP hD hS (lv_sub hl [1, 2, 3, 0] rfl)
theorem gm_L_ends : gMeth yL_ends cL_ends 4 (some .int) 3 := ⟨⟨by decide, by decide, by decide +kernel⟩, ini_RL, co_yL_ends⟩
abbrev rm_L_call : Room := { frames := 6, cells := 0, slots := 0, locals := 128 }
set_option maxHeartbeats 4000000 in
set_option maxRecDepth 100000 in
theorem c_L_call (l : Launch) (dC : Nat → ClassId) (dI : Nat → Nat → Nat) (P : gP) (ad : Nat → Nat) (tb : Nat → Nat) (x1 : Int32) (x2 : Int32) (x3 : Int32) (x4 : Int32) (h0 : Hp) (Q : Int32 → Hp → Prop) (he : F_L_call x1 x2 x3 x4 h0 Q) : Met l yL_call (Cond.code yL_call cL_call 5 (some .int) :: TB) rm_L_call (gPc (dC, dI) vwCl (tyC P) 162 (cE P ad) ad (gKC tb (gA 162 ad)) h0 [.ref (ad 0), .int x1, .int x2, .int x3, .int x4]) (gQi (dC, dI) vwCl (tyC P) 162 (cE P ad) ad Q) 0 0 (gA 162 ad) := by
  refine gx_start (by decide) (Nat.le_of_ble_eq_true rfl) (fun p e s m below meth c ls hx hb0 hr hlocks hml hown hts hK hk hP hD hS hl => ?_)
  have hl : lv_has ls 5 [(0, .ref (ad 0)), (1, .int x1), (2, .int x2), (3, .int x3), (4, .int x4)] := hl
  have hown : s.vm.findClass RL = some m.cls := hown
  unfold F_L_call at he
  refine lv_iload_n hx hb0 dL_call_0 rfl (lv_at hl 1 rfl) ?_
  by_cases c_1 : x1 = 0
  · have he := he.1 c_1
    refine lv_tableIn (off := 51) (tgt := 52) hx hb0 dL_call_1 (by rw [c_1]; decide) (by rw [c_1]; decide) (by rw [c_1]; rfl) (by decide) ?_
    refine lv_aload_n hx hb0 dL_call_52 rfl (lv_at hl 0 rfl) ?_
    refine lv_iload_n hx hb0 dL_call_53 rfl (lv_at hl 2 rfl) ?_
    refine lv_iload_n hx hb0 dL_call_54 rfl (lv_at hl 3 rfl) ?_
    refine gx_vi ⟨hx, hb0, hml, hown, hts⟩ (gKC_keep _ _) hk hK hP hD hS 0 [.int x2, .int x3] [] (c_X7_sight l dC dI P ad tb x2 x3 h0 _ he) gm_X7_sight im_yX7_sight se_yX7_sight ml_RL_37 (by decide) (cE_t0 _) rfl rfl rfl ⟨Nat.le_of_ble_eq_true rfl, Nat.le_of_ble_eq_true rfl⟩ rfl hl.1 rfl (Nat.le_of_ble_eq_true rfl) dL_call_55 ⟨Nat.zero_le _, Nat.zero_le _⟩ (fun r_2 h_3 he H locs hP hD hS => ?_)
    exact gx_iret hx hb0 hr hlocks hK hP hD hS he dL_call_58
  have he := he.2 c_1
  by_cases c_4 : x1 = 1
  · have he := he.1 c_4
    refine lv_tableIn (off := 58) (tgt := 59) hx hb0 dL_call_1 (by rw [c_4]; decide) (by rw [c_4]; decide) (by rw [c_4]; rfl) (by decide) ?_
    refine lv_aload_n hx hb0 dL_call_59 rfl (lv_at hl 0 rfl) ?_
    refine gx_vi ⟨hx, hb0, hml, hown, hts⟩ (gKC_keep _ _) hk hK hP hD hS 0 [] [] (c_X7_agree l dC dI P ad tb  h0 _ he) gm_X7_agree im_yX7_agree se_yX7_agree ml_RL_43 (by decide) (cE_t0 _) rfl rfl rfl ⟨Nat.le_of_ble_eq_true rfl, Nat.le_of_ble_eq_true rfl⟩ rfl hl.1 rfl (Nat.le_of_ble_eq_true rfl) dL_call_60 ⟨Nat.zero_le _, Nat.zero_le _⟩ (fun r_5 h_6 he H locs hP hD hS => ?_)
    exact gx_iret hx hb0 hr hlocks hK hP hD hS he dL_call_63
  have he := he.2 c_4
  by_cases c_7 : x1 = 2
  · have he := he.1 c_7
    refine lv_tableIn (off := 63) (tgt := 64) hx hb0 dL_call_1 (by rw [c_7]; decide) (by rw [c_7]; decide) (by rw [c_7]; rfl) (by decide) ?_
    refine lv_aload_n hx hb0 dL_call_64 rfl (lv_at hl 0 rfl) ?_
    refine lv_iload_n hx hb0 dL_call_65 rfl (lv_at hl 2 rfl) ?_
    refine gx_vi ⟨hx, hb0, hml, hown, hts⟩ (gKC_keep _ _) hk hK hP hD hS 0 [.int x2] [] (c_X7_sail l dC dI P ad tb x2 h0 _ he) gm_X7_sail im_yX7_sail se_yX7_sail ml_RL_47 (by decide) (cE_t0 _) rfl rfl rfl ⟨Nat.le_of_ble_eq_true rfl, Nat.le_of_ble_eq_true rfl⟩ rfl hl.1 rfl (Nat.le_of_ble_eq_true rfl) dL_call_66 ⟨Nat.zero_le _, Nat.zero_le _⟩ (fun r_8 h_9 he H locs hP hD hS => ?_)
    exact gx_iret hx hb0 hr hlocks hK hP hD hS he dL_call_69
  have he := he.2 c_7
  by_cases c_10 : x1 = 3
  · have he := he.1 c_10
    refine lv_tableIn (off := 69) (tgt := 70) hx hb0 dL_call_1 (by rw [c_10]; decide) (by rw [c_10]; decide) (by rw [c_10]; rfl) (by decide) ?_
    refine lv_aload_n hx hb0 dL_call_70 rfl (lv_at hl 0 rfl) ?_
    refine gx_vi ⟨hx, hb0, hml, hown, hts⟩ (gKC_keep _ _) hk hK hP hD hS 0 [] [] (c_X7_night l dC dI P ad tb  h0 _ he) gm_X7_night im_yX7_night se_yX7_night ml_RL_50 (by decide) (cE_t0 _) rfl rfl rfl ⟨Nat.le_of_ble_eq_true rfl, Nat.le_of_ble_eq_true rfl⟩ rfl hl.1 rfl (Nat.le_of_ble_eq_true rfl) dL_call_71 ⟨Nat.zero_le _, Nat.zero_le _⟩ (fun r_11 h_12 he H locs hP hD hS => ?_)
    exact gx_iret hx hb0 hr hlocks hK hP hD hS he dL_call_74
  have he := he.2 c_10
  by_cases c_13 : x1 = 4
  · have he := he.1 c_13
    refine lv_tableIn (off := 74) (tgt := 75) hx hb0 dL_call_1 (by rw [c_13]; decide) (by rw [c_13]; decide) (by rw [c_13]; rfl) (by decide) ?_
    refine lv_aload_n hx hb0 dL_call_75 rfl (lv_at hl 0 rfl) ?_
    refine lv_iload hx hb0 dL_call_76 (lv_at hl 4 rfl) ?_
    refine gx_vi ⟨hx, hb0, hml, hown, hts⟩ (gKC_keep _ _) hk hK hP hD hS 0 [.int x4] [] (c_X7_star l dC dI P ad tb x4 h0 _ he) gm_X7_star im_yX7_star se_yX7_star ml_RL_53 (by decide) (cE_t0 _) rfl rfl rfl ⟨Nat.le_of_ble_eq_true rfl, Nat.le_of_ble_eq_true rfl⟩ rfl hl.1 rfl (Nat.le_of_ble_eq_true rfl) dL_call_78 ⟨Nat.zero_le _, Nat.zero_le _⟩ (fun r_14 h_15 he H locs hP hD hS => ?_)
    exact gx_iret hx hb0 hr hlocks hK hP hD hS he dL_call_81
  have he := he.2 c_13
  by_cases c_16 : x1 = 5
  · have he := he.1 c_16
    refine lv_tableIn (off := 81) (tgt := 82) hx hb0 dL_call_1 (by rw [c_16]; decide) (by rw [c_16]; decide) (by rw [c_16]; rfl) (by decide) ?_
    refine lv_aload_n hx hb0 dL_call_82 rfl (lv_at hl 0 rfl) ?_
    refine lv_iload_n hx hb0 dL_call_83 rfl (lv_at hl 3 rfl) ?_
    refine gx_vi ⟨hx, hb0, hml, hown, hts⟩ (gKC_keep _ _) hk hK hP hD hS 0 [.int x3] [] (c_X7_cloud l dC dI P ad tb x3 h0 _ he) gm_X7_cloud im_yX7_cloud se_yX7_cloud ml_RL_56 (by decide) (cE_t0 _) rfl rfl rfl ⟨Nat.le_of_ble_eq_true rfl, Nat.le_of_ble_eq_true rfl⟩ rfl hl.1 rfl (Nat.le_of_ble_eq_true rfl) dL_call_84 ⟨Nat.zero_le _, Nat.zero_le _⟩ (fun r_17 h_18 he H locs hP hD hS => ?_)
    exact gx_iret hx hb0 hr hlocks hK hP hD hS he dL_call_87
  have he := he.2 c_16
  by_cases c_19 : x1 = 6
  · have he := he.1 c_19
    refine lv_tableIn (off := 87) (tgt := 88) hx hb0 dL_call_1 (by rw [c_19]; decide) (by rw [c_19]; decide) (by rw [c_19]; rfl) (by decide) ?_
    refine lv_aload_n hx hb0 dL_call_88 rfl (lv_at hl 0 rfl) ?_
    refine lv_iload_n hx hb0 dL_call_89 rfl (lv_at hl 2 rfl) ?_
    refine gx_vi ⟨hx, hb0, hml, hown, hts⟩ (gKC_keep _ _) hk hK hP hD hS 0 [.int x2] [] (c_X7_sleep l dC dI P ad tb x2 h0 _ he) gm_X7_sleep im_yX7_sleep se_yX7_sleep ml_RL_59 (by decide) (cE_t0 _) rfl rfl rfl ⟨Nat.le_of_ble_eq_true rfl, Nat.le_of_ble_eq_true rfl⟩ rfl hl.1 rfl (Nat.le_of_ble_eq_true rfl) dL_call_90 ⟨Nat.zero_le _, Nat.zero_le _⟩ (fun r_20 h_21 he H locs hP hD hS => ?_)
    exact gx_iret hx hb0 hr hlocks hK hP hD hS he dL_call_93
  have he := he.2 c_19
  by_cases c_22 : x1 = 7
  · have he := he.1 c_22
    refine lv_tableIn (off := 93) (tgt := 94) hx hb0 dL_call_1 (by rw [c_22]; decide) (by rw [c_22]; decide) (by rw [c_22]; rfl) (by decide) ?_
    refine lv_aload_n hx hb0 dL_call_94 rfl (lv_at hl 0 rfl) ?_
    refine lv_iload hx hb0 dL_call_95 (lv_at hl 4 rfl) ?_
    refine gx_vi ⟨hx, hb0, hml, hown, hts⟩ (gKC_keep _ _) hk hK hP hD hS 0 [.int x4] [] (c_X7_goal l dC dI P ad tb x4 h0 _ he) gm_X7_goal im_yX7_goal se_yX7_goal ml_RL_62 (by decide) (cE_t0 _) rfl rfl rfl ⟨Nat.le_of_ble_eq_true rfl, Nat.le_of_ble_eq_true rfl⟩ rfl hl.1 rfl (Nat.le_of_ble_eq_true rfl) dL_call_97 ⟨Nat.zero_le _, Nat.zero_le _⟩ (fun r_23 h_24 he H locs hP hD hS => ?_)
    exact gx_iret hx hb0 hr hlocks hK hP hD hS he dL_call_100
  have he := he.2 c_22
  by_cases c_25 : x1 = 8
  · have he := he.1 c_25
    refine lv_tableIn (off := 100) (tgt := 101) hx hb0 dL_call_1 (by rw [c_25]; decide) (by rw [c_25]; decide) (by rw [c_25]; rfl) (by decide) ?_
    refine lv_aload_n hx hb0 dL_call_101 rfl (lv_at hl 0 rfl) ?_
    refine lv_iload_n hx hb0 dL_call_102 rfl (lv_at hl 2 rfl) ?_
    refine lv_iload_n hx hb0 dL_call_103 rfl (lv_at hl 3 rfl) ?_
    refine lv_iload hx hb0 dL_call_104 (lv_at hl 4 rfl) ?_
    refine gx_vi ⟨hx, hb0, hml, hown, hts⟩ (gKC_keep _ _) hk hK hP hD hS 0 [.int x2, .int x3, .int x4] [] (c_X7_navigator l dC dI P ad tb x2 x3 x4 h0 _ he) gm_X7_navigator im_yX7_navigator se_yX7_navigator ml_RL_65 (by decide) (cE_t0 _) rfl rfl rfl ⟨Nat.le_of_ble_eq_true rfl, Nat.le_of_ble_eq_true rfl⟩ rfl hl.1 rfl (Nat.le_of_ble_eq_true rfl) dL_call_106 ⟨Nat.zero_le _, Nat.zero_le _⟩ (fun r_26 h_27 he H locs hP hD hS => ?_)
    exact gx_iret hx hb0 hr hlocks hK hP hD hS he dL_call_109
  have he := he.2 c_25
  refine lv_tableOut (tgt := 110) hx hb0 dL_call_1 (by have z0 := lv_neT c_1 (a := 0) rfl; have z1 := lv_neT c_4 (a := 1) rfl; have z2 := lv_neT c_7 (a := 2) rfl; have z3 := lv_neT c_10 (a := 3) rfl; have z4 := lv_neT c_13 (a := 4) rfl; have z5 := lv_neT c_16 (a := 5) rfl; have z6 := lv_neT c_19 (a := 6) rfl; have z7 := lv_neT c_22 (a := 7) rfl; have z8 := lv_neT c_25 (a := 8) rfl; omega) (by decide) ?_
  refine lv_aload_n hx hb0 dL_call_110 rfl (lv_at hl 0 rfl) ?_
  refine lv_iload_n hx hb0 dL_call_111 rfl (lv_at hl 3 rfl) ?_
  refine lv_iload hx hb0 dL_call_112 (lv_at hl 4 rfl) ?_
  refine gx_vi ⟨hx, hb0, hml, hown, hts⟩ (gKC_keep _ _) hk hK hP hD hS 0 [.int x3, .int x4] [] (c_X7_set l dC dI P ad tb x3 x4 h0 _ he) gm_X7_set im_yX7_set se_yX7_set ml_RL_69 (by decide) (cE_t0 _) rfl rfl rfl ⟨Nat.le_of_ble_eq_true rfl, Nat.le_of_ble_eq_true rfl⟩ rfl hl.1 rfl (Nat.le_of_ble_eq_true rfl) dL_call_114 ⟨Nat.zero_le _, Nat.zero_le _⟩ (fun r_28 h_29 he H locs hP hD hS => ?_)
  exact gx_iret hx hb0 hr hlocks hK hP hD hS he dL_call_117
theorem gm_L_call : gMeth yL_call cL_call 5 (some .int) 5 := ⟨⟨by decide, by decide, by decide +kernel⟩, ini_RL, co_yL_call⟩
abbrev rm_L_due : Room := { frames := 3, cells := 0, slots := 0, locals := 72 }
set_option maxHeartbeats 4000000 in
set_option maxRecDepth 100000 in
theorem l_L_due_120 (l : Launch) (dC : Nat → ClassId) (dI : Nat → Nat → Nat) (P : gP) (ad : Nat → Nat) (tb : Nat → Nat) {p : Program} {e : Env} {s : State} {m : MethodId} {args : Array Value} {below : List Frame} {meth : Method} {c : Code} (hx : p.tables.exec = Jvm.exec) (hb0 : c.code = cL_due) (hr : meth.sig.returnType = (some .int)) (hlocks : meth.locks = false) (hml : c.maxLocals = 9) (hown : s.vm.findClass RL = some m.cls) (hts : ∀ w ∈ TB, w.before args s = true) (hK : va_K (dC, dI) vwCl (tyC P) s) (hk : (gKC tb (gA 162 ad)) s) (Q : Int32 → Hp → Prop) : ∀ (n : Nat) (y0 : Int32) (y1 : Int32) (y2 : Int32) (y3 : Int32) (y8 : Int32) (h0 : Hp), F_L_due_L120  n y0 y1 y2 y3 y8 h0 Q → ∀ (H : Heap) (locs : List Loc) (ls : Array Slot), va_P (dC, dI) vwCl (gW 162 (cE P ad) ad h0) H → va_D (gA 162 ad) (gW 162 (cE P ad) ad h0) → va_S (gA 162 ad) s.heap H locs → lv_has ls 9 [(0, .int y0), (1, .int y1), (2, .int y2), (3, .int y3), (4, .ref (ad 158)), (5, .ref (ad 159)), (6, .ref (ad 160)), (7, .ref (ad 161)), (8, .int y8)] → W p l e rm_L_due s m args below meth c H locs 0 0 (MQ below (gQi (dC, dI) vwCl (tyC P) 162 (cE P ad) ad Q) args s 0 0 (gA 162 ad)) (F0 m 120 ls []) := by
  intro n
  induction n with
  | zero =>
    intro y0 y1 y2 y3 y8 h0 he
    exact he.elim
  | succ n ih =>
    intro y0 y1 y2 y3 y8 h0 he H locs ls hP hD hS hl
    rw [F_L_due_L120] at he
    refine lv_iload hx hb0 dL_due_120 (lv_at hl 8 rfl) ?_
    refine lv_iload_n hx hb0 dL_due_122 rfl (lv_at hl 1 rfl) ?_
    refine lv_icmp_ge (tgt := 137) hx hb0 dL_due_123 (by decide) (fun c_63 => ?_) (fun c_63 => ?_)
    · have he := he.1 c_63
      refine lv_aload hx hb0 dL_due_137 (lv_at hl 4 rfl) ?_
      refine lv_iconst (v := (4 : Int32)) hx hb0 dL_due_139 (by decide) ?_
      refine gx_ialdK hx hb0 hK hP 158 0 (by decide) cE_t158 rfl (vp_lit (4 : Int32) (by decide) (by decide)) 4 rfl dL_due_140 ?_
      refine lv_sipush (v := (5400 : Int32)) hx hb0 dL_due_141 (by decide) ?_
      refine lv_iadd hx hb0 dL_due_144 ?_
      exact gx_iret hx hb0 hr hlocks hK hP hD hS he dL_due_145
    · have he := he.2 c_63
      refine lv_aload hx hb0 dL_due_126 (lv_at hl 4 rfl) ?_
      refine gx_sv ⟨hx, hb0, hml, hown, hts⟩ (gKC_keep _ _) hk hK hP hD hS [.ref (ad 158)] [] (c_L_hour l dC dI P ad tb  h0 _ he) gm_L_hour st_yL_hour ml_RL_83 rfl rfl ⟨Nat.le_of_ble_eq_true rfl, Nat.le_of_ble_eq_true rfl⟩ rfl hl.1 rfl (Nat.le_of_ble_eq_true rfl) dL_due_128 ⟨Nat.zero_le _, Nat.zero_le _⟩ (fun h_65 he H locs hP hD hS => ?_)
      obtain ⟨x_66, ex_66⟩ : ∃ y : Int32, y = y8 + 1 := ⟨_, rfl⟩
      have he := he x_66 ex_66
      refine lv_iinc (v := x_66) (lv' := [(8, .int x_66), (0, .int y0), (1, .int y1), (2, .int y2), (3, .int y3), (4, .ref (ad 158)), (5, .ref (ad 159)), (6, .ref (ad 160)), (7, .ref (ad 161))]) hx hb0 dL_due_131 hl (k := 8) rfl (by rw [ex_66]; rfl) (by decide) rfl (fun ls hl => ?_)
      refine lv_goto (tgt := 120) hx hb0 dL_due_134 (by decide) ?_
      exact ih y0 y1 y2 y3 x_66 h_65 he _ _ ls hP hD hS (lv_sub hl [1, 2, 3, 4, 5, 6, 7, 8, 0] rfl)
set_option maxHeartbeats 4000000 in
set_option maxRecDepth 100000 in
theorem c_L_due (l : Launch) (dC : Nat → ClassId) (dI : Nat → Nat → Nat) (P : gP) (ad : Nat → Nat) (tb : Nat → Nat) (x0 : Int32) (x1 : Int32) (x2 : Int32) (x3 : Int32) (h0 : Hp) (Q : Int32 → Hp → Prop) (he : F_L_due x0 x1 x2 x3 h0 Q) : Met l yL_due (Cond.code yL_due cL_due 9 (some .int) :: TB) rm_L_due (gPc (dC, dI) vwCl (tyC P) 162 (cE P ad) ad (gKC tb (gA 162 ad)) h0 [.int x0, .int x1, .int x2, .int x3, .ref (ad 158), .ref (ad 159), .ref (ad 160), .ref (ad 161)]) (gQi (dC, dI) vwCl (tyC P) 162 (cE P ad) ad Q) 0 0 (gA 162 ad) := by
  refine gx_start (by decide) (Nat.le_of_ble_eq_true rfl) (fun p e s m below meth c ls hx hb0 hr hlocks hml hown hts hK hk hP hD hS hl => ?_)
  have hl : lv_has ls 9 [(0, .int x0), (1, .int x1), (2, .int x2), (3, .int x3), (4, .ref (ad 158)), (5, .ref (ad 159)), (6, .ref (ad 160)), (7, .ref (ad 161))] := hl
  have hown : s.vm.findClass RL = some m.cls := hown
  unfold F_L_due at he
  refine lv_iload_n hx hb0 dL_due_0 rfl (lv_at hl 0 rfl) ?_
  refine lv_if_ne (tgt := 99) hx hb0 dL_due_1 (by decide) (fun c_1 => ?_) (fun c_1 => ?_)
  · have he := he.2 c_1
    refine lv_iload_n hx hb0 dL_due_99 rfl (lv_at hl 0 rfl) ?_
    refine lv_iconst (v := (1 : Int32)) hx hb0 dL_due_100 (by decide) ?_
    refine lv_icmp_ne (tgt := 112) hx hb0 dL_due_101 (by decide) (fun c_2 => ?_) (fun c_2 => ?_)
    · have he := he.2 c_2
      refine lv_iload_n hx hb0 dL_due_112 rfl (lv_at hl 0 rfl) ?_
      refine lv_iconst (v := (2 : Int32)) hx hb0 dL_due_113 (by decide) ?_
      refine lv_icmp_ne (tgt := 146) hx hb0 dL_due_114 (by decide) (fun c_3 => ?_) (fun c_3 => ?_)
      · have he := he.2 c_3
        refine lv_iload_n hx hb0 dL_due_146 rfl (lv_at hl 0 rfl) ?_
        refine lv_iconst (v := (3 : Int32)) hx hb0 dL_due_147 (by decide) ?_
        refine lv_icmp_ne (tgt := 161) hx hb0 dL_due_148 (by decide) (fun c_4 => ?_) (fun c_4 => ?_)
        · have he := he.2 c_4
          refine lv_iload_n hx hb0 dL_due_161 rfl (lv_at hl 0 rfl) ?_
          refine lv_iconst (v := (4 : Int32)) hx hb0 dL_due_162 (by decide) ?_
          refine lv_icmp_ne (tgt := 205) hx hb0 dL_due_163 (by decide) (fun c_5 => ?_) (fun c_5 => ?_)
          · have he := he.2 c_5
            refine lv_iload_n hx hb0 dL_due_205 rfl (lv_at hl 0 rfl) ?_
            refine lv_iconst (v := (5 : Int32)) hx hb0 dL_due_206 (by decide) ?_
            refine lv_icmp_ne (tgt := 263) hx hb0 dL_due_207 (by decide) (fun c_6 => ?_) (fun c_6 => ?_)
            · have he := he.2 c_6
              refine lv_iload_n hx hb0 dL_due_263 rfl (lv_at hl 0 rfl) ?_
              refine lv_bipush (v := (6 : Int32)) hx hb0 dL_due_264 (by decide) ?_
              refine lv_icmp_ne (tgt := 321) hx hb0 dL_due_266 (by decide) (fun c_7 => ?_) (fun c_7 => ?_)
              · have he := he.2 c_7
                refine lv_iload_n hx hb0 dL_due_321 rfl (lv_at hl 0 rfl) ?_
                refine lv_bipush (v := (7 : Int32)) hx hb0 dL_due_322 (by decide) ?_
                refine lv_icmp_ne (tgt := 339) hx hb0 dL_due_324 (by decide) (fun c_8 => ?_) (fun c_8 => ?_)
                · have he := he.2 c_8
                  refine lv_iload_n hx hb0 dL_due_339 rfl (lv_at hl 0 rfl) ?_
                  refine lv_bipush (v := (8 : Int32)) hx hb0 dL_due_340 (by decide) ?_
                  refine lv_icmp_ne (tgt := 360) hx hb0 dL_due_342 (by decide) (fun c_9 => ?_) (fun c_9 => ?_)
                  · have he := he.2 c_9
                    refine lv_aload hx hb0 dL_due_360 (lv_at hl 4 rfl) ?_
                    refine lv_iload_n hx hb0 dL_due_362 rfl (lv_at hl 2 rfl) ?_
                    obtain ⟨v_10, he⟩ := he
                    refine gx_iald hx hb0 hK hP 158 0 (by decide) cE_t158 rfl v_10 dL_due_363 ?_
                    refine lv_bipush (v := (30 : Int32)) hx hb0 dL_due_364 (by decide) ?_
                    refine lv_iadd hx hb0 dL_due_366 ?_
                    refine lv_topi (fun x_11 ex_11 => ?_)
                    have he := he x_11 ex_11
                    refine lv_istore (lv' := [(8, .int x_11), (0, .int x0), (1, .int x1), (2, .int x2), (3, .int x3), (4, .ref (ad 158)), (5, .ref (ad 159)), (6, .ref (ad 160)), (7, .ref (ad 161))]) hx hb0 dL_due_367 hl (by decide) rfl (fun ls hl => ?_)
                    refine lv_iload_n hx hb0 dL_due_369 rfl (lv_at hl 1 rfl) ?_
                    refine lv_bipush (v := (8 : Int32)) hx hb0 dL_due_370 (by decide) ?_
                    refine lv_icmp_ne (tgt := 388) hx hb0 dL_due_372 (by decide) (fun c_12 => ?_) (fun c_12 => ?_)
                    · have he := he.2 c_12
                      refine lv_aload hx hb0 dL_due_388 (lv_at hl 5 rfl) ?_
                      refine lv_iload_n hx hb0 dL_due_390 rfl (lv_at hl 1 rfl) ?_
                      refine lv_bipush (v := (7 : Int32)) hx hb0 dL_due_391 (by decide) ?_
                      refine lv_icmp_ne (tgt := 401) hx hb0 dL_due_393 (by decide) (fun c_13 => ?_) (fun c_13 => ?_)
                      · have he := he.2 c_13
                        refine lv_iload_n hx hb0 dL_due_401 rfl (lv_at hl 3 rfl) ?_
                        refine lv_iload_n hx hb0 dL_due_402 rfl (lv_at hl 4 rfl) ?_
                        obtain ⟨v_15, he⟩ := he
                        refine gx_iast hx hb0 hK hP hD hS 158 0 (by decide) cE_t158 rfl v_15 dL_due_403 (fun h_14 eh_14 H locs hP hD hS => ?_)
                        have he := he h_14 eh_14
                        refine lv_iload hx hb0 dL_due_404 (lv_at hl 0 rfl) ?_
                        exact gx_iret hx hb0 hr hlocks hK hP hD hS he dL_due_406
                      · have he := he.1 c_13
                        refine lv_bipush (v := (6 : Int32)) hx hb0 dL_due_396 (by decide) ?_
                        refine lv_goto (tgt := 402) hx hb0 dL_due_398 (by decide) ?_
                        refine lv_iload_n hx hb0 dL_due_402 rfl (lv_at hl 4 rfl) ?_
                        refine gx_iastK hx hb0 hK hP hD hS 158 0 (by decide) cE_t158 rfl (vp_lit (6 : Int32) (by decide) (by decide)) 6 rfl dL_due_403 (fun h_16 eh_16 H locs hP hD hS => ?_)
                        have he := he h_16 eh_16
                        refine lv_iload hx hb0 dL_due_404 (lv_at hl 0 rfl) ?_
                        exact gx_iret hx hb0 hr hlocks hK hP hD hS he dL_due_406
                    · have he := he.1 c_12
                      refine lv_aload hx hb0 dL_due_375 (lv_at hl 7 rfl) ?_
                      refine lv_bipush (v := (7 : Int32)) hx hb0 dL_due_377 (by decide) ?_
                      refine lv_iload_n hx hb0 dL_due_379 rfl (lv_at hl 2 rfl) ?_
                      refine lv_imul hx hb0 dL_due_380 ?_
                      refine lv_iload_n hx hb0 dL_due_381 rfl (lv_at hl 3 rfl) ?_
                      refine lv_iadd hx hb0 dL_due_382 ?_
                      refine lv_iload_n hx hb0 dL_due_383 rfl (lv_at hl 4 rfl) ?_
                      obtain ⟨v_18, he⟩ := he
                      refine gx_iast hx hb0 hK hP hD hS 160 0 (by decide) cE_t160 rfl v_18 dL_due_384 (fun h_17 eh_17 H locs hP hD hS => ?_)
                      have he := he h_17 eh_17
                      refine lv_goto (tgt := 404) hx hb0 dL_due_385 (by decide) ?_
                      refine lv_iload hx hb0 dL_due_404 (lv_at hl 0 rfl) ?_
                      exact gx_iret hx hb0 hr hlocks hK hP hD hS he dL_due_406
                  · have he := he.1 c_9
                    refine lv_aload hx hb0 dL_due_345 (lv_at hl 6 rfl) ?_
                    refine lv_bipush (v := (7 : Int32)) hx hb0 dL_due_347 (by decide) ?_
                    refine lv_iload_n hx hb0 dL_due_349 rfl (lv_at hl 1 rfl) ?_
                    refine lv_imul hx hb0 dL_due_350 ?_
                    refine lv_iload_n hx hb0 dL_due_351 rfl (lv_at hl 2 rfl) ?_
                    refine lv_iadd hx hb0 dL_due_352 ?_
                    obtain ⟨v_19, he⟩ := he
                    refine gx_iald hx hb0 hK hP 160 0 (by decide) cE_t160 rfl v_19 dL_due_353 ?_
                    refine lv_bipush (v := (60 : Int32)) hx hb0 dL_due_354 (by decide) ?_
                    refine lv_iadd hx hb0 dL_due_356 ?_
                    refine lv_goto (tgt := 367) hx hb0 dL_due_357 (by decide) ?_
                    refine lv_topi (fun x_20 ex_20 => ?_)
                    have he := he x_20 ex_20
                    refine lv_istore (lv' := [(8, .int x_20), (0, .int x0), (1, .int x1), (2, .int x2), (3, .int x3), (4, .ref (ad 158)), (5, .ref (ad 159)), (6, .ref (ad 160)), (7, .ref (ad 161))]) hx hb0 dL_due_367 hl (by decide) rfl (fun ls hl => ?_)
                    refine lv_iload_n hx hb0 dL_due_369 rfl (lv_at hl 1 rfl) ?_
                    refine lv_bipush (v := (8 : Int32)) hx hb0 dL_due_370 (by decide) ?_
                    refine lv_icmp_ne (tgt := 388) hx hb0 dL_due_372 (by decide) (fun c_21 => ?_) (fun c_21 => ?_)
                    · have he := he.2 c_21
                      refine lv_aload hx hb0 dL_due_388 (lv_at hl 5 rfl) ?_
                      refine lv_iload_n hx hb0 dL_due_390 rfl (lv_at hl 1 rfl) ?_
                      refine lv_bipush (v := (7 : Int32)) hx hb0 dL_due_391 (by decide) ?_
                      refine lv_icmp_ne (tgt := 401) hx hb0 dL_due_393 (by decide) (fun c_22 => ?_) (fun c_22 => ?_)
                      · have he := he.2 c_22
                        refine lv_iload_n hx hb0 dL_due_401 rfl (lv_at hl 3 rfl) ?_
                        refine lv_iload_n hx hb0 dL_due_402 rfl (lv_at hl 4 rfl) ?_
                        obtain ⟨v_24, he⟩ := he
                        refine gx_iast hx hb0 hK hP hD hS 158 0 (by decide) cE_t158 rfl v_24 dL_due_403 (fun h_23 eh_23 H locs hP hD hS => ?_)
                        have he := he h_23 eh_23
                        refine lv_iload hx hb0 dL_due_404 (lv_at hl 0 rfl) ?_
                        exact gx_iret hx hb0 hr hlocks hK hP hD hS he dL_due_406
                      · have he := he.1 c_22
                        refine lv_bipush (v := (6 : Int32)) hx hb0 dL_due_396 (by decide) ?_
                        refine lv_goto (tgt := 402) hx hb0 dL_due_398 (by decide) ?_
                        refine lv_iload_n hx hb0 dL_due_402 rfl (lv_at hl 4 rfl) ?_
                        refine gx_iastK hx hb0 hK hP hD hS 158 0 (by decide) cE_t158 rfl (vp_lit (6 : Int32) (by decide) (by decide)) 6 rfl dL_due_403 (fun h_25 eh_25 H locs hP hD hS => ?_)
                        have he := he h_25 eh_25
                        refine lv_iload hx hb0 dL_due_404 (lv_at hl 0 rfl) ?_
                        exact gx_iret hx hb0 hr hlocks hK hP hD hS he dL_due_406
                    · have he := he.1 c_21
                      refine lv_aload hx hb0 dL_due_375 (lv_at hl 7 rfl) ?_
                      refine lv_bipush (v := (7 : Int32)) hx hb0 dL_due_377 (by decide) ?_
                      refine lv_iload_n hx hb0 dL_due_379 rfl (lv_at hl 2 rfl) ?_
                      refine lv_imul hx hb0 dL_due_380 ?_
                      refine lv_iload_n hx hb0 dL_due_381 rfl (lv_at hl 3 rfl) ?_
                      refine lv_iadd hx hb0 dL_due_382 ?_
                      refine lv_iload_n hx hb0 dL_due_383 rfl (lv_at hl 4 rfl) ?_
                      obtain ⟨v_27, he⟩ := he
                      refine gx_iast hx hb0 hK hP hD hS 160 0 (by decide) cE_t160 rfl v_27 dL_due_384 (fun h_26 eh_26 H locs hP hD hS => ?_)
                      have he := he h_26 eh_26
                      refine lv_goto (tgt := 404) hx hb0 dL_due_385 (by decide) ?_
                      refine lv_iload hx hb0 dL_due_404 (lv_at hl 0 rfl) ?_
                      exact gx_iret hx hb0 hr hlocks hK hP hD hS he dL_due_406
                · have he := he.1 c_8
                  refine lv_aload hx hb0 dL_due_327 (lv_at hl 4 rfl) ?_
                  refine lv_bipush (v := (6 : Int32)) hx hb0 dL_due_329 (by decide) ?_
                  refine gx_ialdK hx hb0 hK hP 158 0 (by decide) cE_t158 rfl (vp_lit (6 : Int32) (by decide) (by decide)) 6 rfl dL_due_331 ?_
                  refine lv_sipush (v := (5400 : Int32)) hx hb0 dL_due_332 (by decide) ?_
                  refine lv_iadd hx hb0 dL_due_335 ?_
                  refine lv_goto (tgt := 367) hx hb0 dL_due_336 (by decide) ?_
                  refine lv_topi (fun x_28 ex_28 => ?_)
                  have he := he x_28 ex_28
                  refine lv_istore (lv' := [(8, .int x_28), (0, .int x0), (1, .int x1), (2, .int x2), (3, .int x3), (4, .ref (ad 158)), (5, .ref (ad 159)), (6, .ref (ad 160)), (7, .ref (ad 161))]) hx hb0 dL_due_367 hl (by decide) rfl (fun ls hl => ?_)
                  refine lv_iload_n hx hb0 dL_due_369 rfl (lv_at hl 1 rfl) ?_
                  refine lv_bipush (v := (8 : Int32)) hx hb0 dL_due_370 (by decide) ?_
                  refine lv_icmp_ne (tgt := 388) hx hb0 dL_due_372 (by decide) (fun c_29 => ?_) (fun c_29 => ?_)
                  · have he := he.2 c_29
                    refine lv_aload hx hb0 dL_due_388 (lv_at hl 5 rfl) ?_
                    refine lv_iload_n hx hb0 dL_due_390 rfl (lv_at hl 1 rfl) ?_
                    refine lv_bipush (v := (7 : Int32)) hx hb0 dL_due_391 (by decide) ?_
                    refine lv_icmp_ne (tgt := 401) hx hb0 dL_due_393 (by decide) (fun c_30 => ?_) (fun c_30 => ?_)
                    · have he := he.2 c_30
                      refine lv_iload_n hx hb0 dL_due_401 rfl (lv_at hl 3 rfl) ?_
                      refine lv_iload_n hx hb0 dL_due_402 rfl (lv_at hl 4 rfl) ?_
                      obtain ⟨v_32, he⟩ := he
                      refine gx_iast hx hb0 hK hP hD hS 158 0 (by decide) cE_t158 rfl v_32 dL_due_403 (fun h_31 eh_31 H locs hP hD hS => ?_)
                      have he := he h_31 eh_31
                      refine lv_iload hx hb0 dL_due_404 (lv_at hl 0 rfl) ?_
                      exact gx_iret hx hb0 hr hlocks hK hP hD hS he dL_due_406
                    · have he := he.1 c_30
                      refine lv_bipush (v := (6 : Int32)) hx hb0 dL_due_396 (by decide) ?_
                      refine lv_goto (tgt := 402) hx hb0 dL_due_398 (by decide) ?_
                      refine lv_iload_n hx hb0 dL_due_402 rfl (lv_at hl 4 rfl) ?_
                      refine gx_iastK hx hb0 hK hP hD hS 158 0 (by decide) cE_t158 rfl (vp_lit (6 : Int32) (by decide) (by decide)) 6 rfl dL_due_403 (fun h_33 eh_33 H locs hP hD hS => ?_)
                      have he := he h_33 eh_33
                      refine lv_iload hx hb0 dL_due_404 (lv_at hl 0 rfl) ?_
                      exact gx_iret hx hb0 hr hlocks hK hP hD hS he dL_due_406
                  · have he := he.1 c_29
                    refine lv_aload hx hb0 dL_due_375 (lv_at hl 7 rfl) ?_
                    refine lv_bipush (v := (7 : Int32)) hx hb0 dL_due_377 (by decide) ?_
                    refine lv_iload_n hx hb0 dL_due_379 rfl (lv_at hl 2 rfl) ?_
                    refine lv_imul hx hb0 dL_due_380 ?_
                    refine lv_iload_n hx hb0 dL_due_381 rfl (lv_at hl 3 rfl) ?_
                    refine lv_iadd hx hb0 dL_due_382 ?_
                    refine lv_iload_n hx hb0 dL_due_383 rfl (lv_at hl 4 rfl) ?_
                    obtain ⟨v_35, he⟩ := he
                    refine gx_iast hx hb0 hK hP hD hS 160 0 (by decide) cE_t160 rfl v_35 dL_due_384 (fun h_34 eh_34 H locs hP hD hS => ?_)
                    have he := he h_34 eh_34
                    refine lv_goto (tgt := 404) hx hb0 dL_due_385 (by decide) ?_
                    refine lv_iload hx hb0 dL_due_404 (lv_at hl 0 rfl) ?_
                    exact gx_iret hx hb0 hr hlocks hK hP hD hS he dL_due_406
              · have he := he.1 c_7
                refine lv_aload hx hb0 dL_due_269 (lv_at hl 6 rfl) ?_
                refine lv_bipush (v := (7 : Int32)) hx hb0 dL_due_271 (by decide) ?_
                refine lv_iload_n hx hb0 dL_due_273 rfl (lv_at hl 1 rfl) ?_
                refine lv_imul hx hb0 dL_due_274 ?_
                refine lv_bipush (v := (6 : Int32)) hx hb0 dL_due_275 (by decide) ?_
                refine lv_iadd hx hb0 dL_due_277 ?_
                obtain ⟨v_36, he⟩ := he
                refine gx_iald hx hb0 hK hP 160 0 (by decide) cE_t160 rfl v_36 dL_due_278 ?_
                refine lv_topi (fun x_37 ex_37 => ?_)
                have he := he x_37 ex_37
                refine lv_istore (lv' := [(8, .int x_37), (0, .int x0), (1, .int x1), (2, .int x2), (3, .int x3), (4, .ref (ad 158)), (5, .ref (ad 159)), (6, .ref (ad 160)), (7, .ref (ad 161))]) hx hb0 dL_due_279 hl (by decide) rfl (fun ls hl => ?_)
                refine lv_aload hx hb0 dL_due_281 (lv_at hl 7 rfl) ?_
                refine lv_bipush (v := (7 : Int32)) hx hb0 dL_due_283 (by decide) ?_
                refine lv_iload_n hx hb0 dL_due_285 rfl (lv_at hl 2 rfl) ?_
                refine lv_imul hx hb0 dL_due_286 ?_
                refine lv_bipush (v := (6 : Int32)) hx hb0 dL_due_287 (by decide) ?_
                refine lv_iadd hx hb0 dL_due_289 ?_
                refine lv_iload hx hb0 dL_due_290 (lv_at hl 0 rfl) ?_
                refine lv_iconst (v := (2 : Int32)) hx hb0 dL_due_292 (by decide) ?_
                refine lv_icmp_ne (tgt := 300) hx hb0 dL_due_293 (by decide) (fun c_38 => ?_) (fun c_38 => ?_)
                · have he := he.2 c_38
                  refine lv_iconst (v := (1 : Int32)) hx hb0 dL_due_300 (by decide) ?_
                  refine lv_iload hx hb0 dL_due_301 (lv_at hl 0 rfl) ?_
                  refine lv_isub hx hb0 dL_due_303 ?_
                  obtain ⟨v_40, he⟩ := he
                  refine gx_iast hx hb0 hK hP hD hS 160 0 (by decide) cE_t160 rfl v_40 dL_due_304 (fun h_39 eh_39 H locs hP hD hS => ?_)
                  have he := he h_39 eh_39
                  refine lv_iload hx hb0 dL_due_305 (lv_at hl 0 rfl) ?_
                  refine lv_iconst (v := (2 : Int32)) hx hb0 dL_due_307 (by decide) ?_
                  refine lv_icmp_ne (tgt := 316) hx hb0 dL_due_308 (by decide) (fun c_41 => ?_) (fun c_41 => ?_)
                  · have he := he.2 c_41
                    refine lv_iconst (v := (1 : Int32)) hx hb0 dL_due_316 (by decide) ?_
                    refine lv_iload hx hb0 dL_due_317 (lv_at hl 0 rfl) ?_
                    refine lv_isub hx hb0 dL_due_319 ?_
                    exact gx_iret hx hb0 hr hlocks hK hP hD hS he dL_due_320
                  · have he := he.1 c_41
                    refine lv_bipush (v := (-5 : Int32)) hx hb0 dL_due_311 (by decide) ?_
                    refine lv_goto (tgt := 320) hx hb0 dL_due_313 (by decide) ?_
                    exact gx_iret hx hb0 hr hlocks hK hP hD hS he dL_due_320
                · have he := he.1 c_38
                  refine lv_iconst (v := (2 : Int32)) hx hb0 dL_due_296 (by decide) ?_
                  refine lv_goto (tgt := 304) hx hb0 dL_due_297 (by decide) ?_
                  obtain ⟨v_43, he⟩ := he
                  refine gx_iast hx hb0 hK hP hD hS 160 0 (by decide) cE_t160 rfl v_43 dL_due_304 (fun h_42 eh_42 H locs hP hD hS => ?_)
                  have he := he h_42 eh_42
                  refine lv_iload hx hb0 dL_due_305 (lv_at hl 0 rfl) ?_
                  refine lv_iconst (v := (2 : Int32)) hx hb0 dL_due_307 (by decide) ?_
                  refine lv_icmp_ne (tgt := 316) hx hb0 dL_due_308 (by decide) (fun c_44 => ?_) (fun c_44 => ?_)
                  · have he := he.2 c_44
                    refine lv_iconst (v := (1 : Int32)) hx hb0 dL_due_316 (by decide) ?_
                    refine lv_iload hx hb0 dL_due_317 (lv_at hl 0 rfl) ?_
                    refine lv_isub hx hb0 dL_due_319 ?_
                    exact gx_iret hx hb0 hr hlocks hK hP hD hS he dL_due_320
                  · have he := he.1 c_44
                    refine lv_bipush (v := (-5 : Int32)) hx hb0 dL_due_311 (by decide) ?_
                    refine lv_goto (tgt := 320) hx hb0 dL_due_313 (by decide) ?_
                    exact gx_iret hx hb0 hr hlocks hK hP hD hS he dL_due_320
            · have he := he.1 c_6
              refine lv_iload_n hx hb0 dL_due_210 rfl (lv_at hl 2 rfl) ?_
              refine lv_aload hx hb0 dL_due_211 (lv_at hl 4 rfl) ?_
              refine lv_bipush (v := (12 : Int32)) hx hb0 dL_due_213 (by decide) ?_
              refine gx_ialdK hx hb0 hK hP 158 0 (by decide) cE_t158 rfl (vp_lit (12 : Int32) (by decide) (by decide)) 12 rfl dL_due_215 ?_
              refine lv_icmp_lt (tgt := 221) hx hb0 dL_due_216 (by decide) (fun c_45 => ?_) (fun c_45 => ?_)
              · have he := he.1 c_45
                refine lv_aload hx hb0 dL_due_221 (lv_at hl 5 rfl) ?_
                refine lv_iload_n hx hb0 dL_due_223 rfl (lv_at hl 2 rfl) ?_
                refine lv_dup2_11 hx hb0 dL_due_224 rfl rfl ?_
                obtain ⟨v_46, he⟩ := he
                refine gx_iald hx hb0 hK hP 159 0 (by decide) cE_t159 rfl v_46 dL_due_225 ?_
                refine lv_aload hx hb0 dL_due_226 (lv_at hl 5 rfl) ?_
                refine lv_iload_n hx hb0 dL_due_228 rfl (lv_at hl 2 rfl) ?_
                obtain ⟨v_47, he⟩ := he
                refine gx_iald hx hb0 hK hP 159 0 (by decide) cE_t159 rfl v_47 dL_due_229 ?_
                refine lv_sipush (v := (9000 : Int32)) hx hb0 dL_due_230 (by decide) ?_
                refine lv_icmp_le (tgt := 242) hx hb0 dL_due_233 (by decide) (fun c_48 => ?_) (fun c_48 => ?_)
                · have he := he.1 c_48
                  refine lv_sipush (v := (20000 : Int32)) hx hb0 dL_due_242 (by decide) ?_
                  refine lv_iadd hx hb0 dL_due_245 ?_
                  obtain ⟨v_50, he⟩ := he
                  refine gx_iast hx hb0 hK hP hD hS 159 0 (by decide) cE_t159 rfl v_50 dL_due_246 (fun h_49 eh_49 H locs hP hD hS => ?_)
                  have he := he h_49 eh_49
                  refine lv_aload hx hb0 dL_due_247 (lv_at hl 5 rfl) ?_
                  refine lv_iload_n hx hb0 dL_due_249 rfl (lv_at hl 2 rfl) ?_
                  obtain ⟨v_51, he⟩ := he
                  refine gx_iald hx hb0 hK hP 159 0 (by decide) cE_t159 rfl v_51 dL_due_250 ?_
                  refine lv_sipush (v := (9000 : Int32)) hx hb0 dL_due_251 (by decide) ?_
                  refine lv_icmp_le (tgt := 261) hx hb0 dL_due_254 (by decide) (fun c_52 => ?_) (fun c_52 => ?_)
                  · have he := he.1 c_52
                    refine lv_iconst (v := (0 : Int32)) hx hb0 dL_due_261 (by decide) ?_
                    exact gx_iret hx hb0 hr hlocks hK hP hD hS he dL_due_262
                  · have he := he.2 c_52
                    refine lv_iconst (v := (1 : Int32)) hx hb0 dL_due_257 (by decide) ?_
                    refine lv_goto (tgt := 262) hx hb0 dL_due_258 (by decide) ?_
                    exact gx_iret hx hb0 hr hlocks hK hP hD hS he dL_due_262
                · have he := he.2 c_48
                  refine lv_sipush (v := (-20000 : Int32)) hx hb0 dL_due_236 (by decide) ?_
                  refine lv_goto (tgt := 245) hx hb0 dL_due_239 (by decide) ?_
                  refine lv_iadd hx hb0 dL_due_245 ?_
                  obtain ⟨v_54, he⟩ := he
                  refine gx_iast hx hb0 hK hP hD hS 159 0 (by decide) cE_t159 rfl v_54 dL_due_246 (fun h_53 eh_53 H locs hP hD hS => ?_)
                  have he := he h_53 eh_53
                  refine lv_aload hx hb0 dL_due_247 (lv_at hl 5 rfl) ?_
                  refine lv_iload_n hx hb0 dL_due_249 rfl (lv_at hl 2 rfl) ?_
                  obtain ⟨v_55, he⟩ := he
                  refine gx_iald hx hb0 hK hP 159 0 (by decide) cE_t159 rfl v_55 dL_due_250 ?_
                  refine lv_sipush (v := (9000 : Int32)) hx hb0 dL_due_251 (by decide) ?_
                  refine lv_icmp_le (tgt := 261) hx hb0 dL_due_254 (by decide) (fun c_56 => ?_) (fun c_56 => ?_)
                  · have he := he.1 c_56
                    refine lv_iconst (v := (0 : Int32)) hx hb0 dL_due_261 (by decide) ?_
                    exact gx_iret hx hb0 hr hlocks hK hP hD hS he dL_due_262
                  · have he := he.2 c_56
                    refine lv_iconst (v := (1 : Int32)) hx hb0 dL_due_257 (by decide) ?_
                    refine lv_goto (tgt := 262) hx hb0 dL_due_258 (by decide) ?_
                    exact gx_iret hx hb0 hr hlocks hK hP hD hS he dL_due_262
              · have he := he.2 c_45
                refine lv_iconst (v := (-1 : Int32)) hx hb0 dL_due_219 (by decide) ?_
                exact gx_iret hx hb0 hr hlocks hK hP hD hS he dL_due_220
          · have he := he.1 c_5
            refine lv_aload hx hb0 dL_due_166 (lv_at hl 4 rfl) ?_
            refine lv_bipush (v := (12 : Int32)) hx hb0 dL_due_168 (by decide) ?_
            refine gx_ialdK hx hb0 hK hP 158 0 (by decide) cE_t158 rfl (vp_lit (12 : Int32) (by decide) (by decide)) 12 rfl dL_due_170 ?_
            refine lv_bipush (v := (8 : Int32)) hx hb0 dL_due_171 (by decide) ?_
            refine lv_icmp_ne (tgt := 179) hx hb0 dL_due_173 (by decide) (fun c_57 => ?_) (fun c_57 => ?_)
            · have he := he.2 c_57
              refine lv_aload hx hb0 dL_due_179 (lv_at hl 5 rfl) ?_
              refine lv_aload hx hb0 dL_due_181 (lv_at hl 4 rfl) ?_
              refine lv_bipush (v := (12 : Int32)) hx hb0 dL_due_183 (by decide) ?_
              refine gx_ialdK hx hb0 hK hP 158 0 (by decide) cE_t158 rfl (vp_lit (12 : Int32) (by decide) (by decide)) 12 rfl dL_due_185 ?_
              refine lv_iload_n hx hb0 dL_due_186 rfl (lv_at hl 3 rfl) ?_
              obtain ⟨v_59, he⟩ := he
              refine gx_iast hx hb0 hK hP hD hS 159 0 (by decide) cE_t159 rfl v_59 dL_due_187 (fun h_58 eh_58 H locs hP hD hS => ?_)
              have he := he h_58 eh_58
              refine lv_aload hx hb0 dL_due_188 (lv_at hl 4 rfl) ?_
              refine lv_bipush (v := (12 : Int32)) hx hb0 dL_due_190 (by decide) ?_
              refine lv_dup2_11 hx hb0 dL_due_192 rfl rfl ?_
              refine gx_ialdK hx hb0 hK hP 158 0 (by decide) cE_t158 rfl (vp_lit (12 : Int32) (by decide) (by decide)) 12 rfl dL_due_193 ?_
              refine lv_iconst (v := (1 : Int32)) hx hb0 dL_due_194 (by decide) ?_
              refine lv_iadd hx hb0 dL_due_195 ?_
              refine gx_iastK hx hb0 hK hP hD hS 158 0 (by decide) cE_t158 rfl (vp_lit (12 : Int32) (by decide) (by decide)) 12 rfl dL_due_196 (fun h_60 eh_60 H locs hP hD hS => ?_)
              have he := he h_60 eh_60
              refine lv_aload hx hb0 dL_due_197 (lv_at hl 4 rfl) ?_
              refine lv_bipush (v := (12 : Int32)) hx hb0 dL_due_199 (by decide) ?_
              refine gx_ialdK hx hb0 hK hP 158 0 (by decide) cE_t158 rfl (vp_lit (12 : Int32) (by decide) (by decide)) 12 rfl dL_due_201 ?_
              refine lv_iconst (v := (1 : Int32)) hx hb0 dL_due_202 (by decide) ?_
              refine lv_isub hx hb0 dL_due_203 ?_
              exact gx_iret hx hb0 hr hlocks hK hP hD hS he dL_due_204
            · have he := he.1 c_57
              refine lv_bipush (v := (-4 : Int32)) hx hb0 dL_due_176 (by decide) ?_
              exact gx_iret hx hb0 hr hlocks hK hP hD hS he dL_due_178
        · have he := he.1 c_4
          refine lv_aload hx hb0 dL_due_151 (lv_at hl 4 rfl) ?_
          refine lv_aload hx hb0 dL_due_153 (lv_at hl 6 rfl) ?_
          refine lv_aload hx hb0 dL_due_155 (lv_at hl 7 rfl) ?_
          refine gx_si ⟨hx, hb0, hml, hown, hts⟩ (gKC_keep _ _) hk hK hP hD hS [.ref (ad 158), .ref (ad 160), .ref (ad 161)] [] (c_L_ends l dC dI P ad tb  h0 _ he) gm_L_ends st_yL_ends ml_RL_87 rfl rfl ⟨Nat.le_of_ble_eq_true rfl, Nat.le_of_ble_eq_true rfl⟩ rfl hl.1 rfl (Nat.le_of_ble_eq_true rfl) dL_due_157 ⟨Nat.zero_le _, Nat.zero_le _⟩ (fun r_61 h_62 he H locs hP hD hS => ?_)
          exact gx_iret hx hb0 hr hlocks hK hP hD hS he dL_due_160
      · have he := he.1 c_3
        refine lv_iconst (v := (0 : Int32)) hx hb0 dL_due_117 (by decide) ?_
        refine lv_istore (lv' := [(8, .int (0 : Int32)), (0, .int x0), (1, .int x1), (2, .int x2), (3, .int x3), (4, .ref (ad 158)), (5, .ref (ad 159)), (6, .ref (ad 160)), (7, .ref (ad 161))]) hx hb0 dL_due_118 hl (by decide) rfl (fun ls hl => ?_)
        obtain ⟨n_67, he⟩ := he
        exact l_L_due_120 l dC dI P ad tb  hx hb0 hr hlocks hml hown hts hK hk Q n_67 x0 x1 x2 x3 (0 : Int32) h0 he _ _ ls hP hD hS (lv_sub hl [1, 2, 3, 4, 5, 6, 7, 8, 0] rfl)
    · have he := he.1 c_2
      refine lv_aload hx hb0 dL_due_104 (lv_at hl 4 rfl) ?_
      refine lv_aload hx hb0 dL_due_106 (lv_at hl 6 rfl) ?_
      refine gx_si ⟨hx, hb0, hml, hown, hts⟩ (gKC_keep _ _) hk hK hP hD hS [.ref (ad 158), .ref (ad 160)] [] (c_L_agrees l dC dI P ad tb  h0 _ he) gm_L_agrees st_yL_agrees ml_RL_79 rfl rfl ⟨Nat.le_of_ble_eq_true rfl, Nat.le_of_ble_eq_true rfl⟩ rfl hl.1 rfl (Nat.le_of_ble_eq_true rfl) dL_due_108 ⟨Nat.zero_le _, Nat.zero_le _⟩ (fun r_68 h_69 he H locs hP hD hS => ?_)
      exact gx_iret hx hb0 hr hlocks hK hP hD hS he dL_due_111
  · have he := he.1 c_1
    refine lv_iload_n hx hb0 dL_due_4 rfl (lv_at hl 2 rfl) ?_
    refine lv_aload hx hb0 dL_due_5 (lv_at hl 4 rfl) ?_
    refine lv_bipush (v := (12 : Int32)) hx hb0 dL_due_7 (by decide) ?_
    refine gx_ialdK hx hb0 hK hP 158 0 (by decide) cE_t158 rfl (vp_lit (12 : Int32) (by decide) (by decide)) 12 rfl dL_due_9 ?_
    refine lv_icmp_ge (tgt := 27) hx hb0 dL_due_10 (by decide) (fun c_70 => ?_) (fun c_70 => ?_)
    · have he := he.1 c_70
      refine lv_iload_n hx hb0 dL_due_27 rfl (lv_at hl 2 rfl) ?_
      refine lv_aload hx hb0 dL_due_28 (lv_at hl 4 rfl) ?_
      refine lv_bipush (v := (12 : Int32)) hx hb0 dL_due_30 (by decide) ?_
      refine gx_ialdK hx hb0 hK hP 158 0 (by decide) cE_t158 rfl (vp_lit (12 : Int32) (by decide) (by decide)) 12 rfl dL_due_32 ?_
      refine lv_icmp_lt (tgt := 40) hx hb0 dL_due_33 (by decide) (fun c_71 => ?_) (fun c_71 => ?_)
      · have he := he.1 c_71
        refine lv_bipush (v := (-5 : Int32)) hx hb0 dL_due_40 (by decide) ?_
        exact gx_iret hx hb0 hr hlocks hK hP hD hS he dL_due_42
      · have he := he.2 c_71
        refine lv_iconst (v := (-1 : Int32)) hx hb0 dL_due_36 (by decide) ?_
        refine lv_goto (tgt := 42) hx hb0 dL_due_37 (by decide) ?_
        exact gx_iret hx hb0 hr hlocks hK hP hD hS he dL_due_42
    · have he := he.2 c_70
      refine lv_iload_n hx hb0 dL_due_13 rfl (lv_at hl 1 rfl) ?_
      refine lv_iload_n hx hb0 dL_due_14 rfl (lv_at hl 2 rfl) ?_
      refine lv_aload hx hb0 dL_due_15 (lv_at hl 4 rfl) ?_
      refine lv_aload hx hb0 dL_due_17 (lv_at hl 5 rfl) ?_
      refine lv_aload hx hb0 dL_due_19 (lv_at hl 6 rfl) ?_
      refine gx_si ⟨hx, hb0, hml, hown, hts⟩ (gKC_keep _ _) hk hK hP hD hS [.int x1, .int x2, .ref (ad 158), .ref (ad 159), .ref (ad 160)] [] (c_L_why l dC dI P ad tb x1 x2 h0 _ he) gm_L_why st_yL_why ml_RL_72 rfl rfl ⟨Nat.le_of_ble_eq_true rfl, Nat.le_of_ble_eq_true rfl⟩ rfl hl.1 rfl (Nat.le_of_ble_eq_true rfl) dL_due_21 ⟨Nat.zero_le _, Nat.zero_le _⟩ (fun r_72 h_73 he H locs hP hD hS => ?_)
      refine lv_if_eq (tgt := 43) hx hb0 dL_due_24 (by decide) (fun c_74 => ?_) (fun c_74 => ?_)
      · have he := he.1 c_74
        refine lv_aload hx hb0 dL_due_43 (lv_at hl 6 rfl) ?_
        refine lv_bipush (v := (7 : Int32)) hx hb0 dL_due_45 (by decide) ?_
        refine lv_iload_n hx hb0 dL_due_47 rfl (lv_at hl 1 rfl) ?_
        refine lv_imul hx hb0 dL_due_48 ?_
        refine lv_iconst (v := (5 : Int32)) hx hb0 dL_due_49 (by decide) ?_
        refine lv_iadd hx hb0 dL_due_50 ?_
        refine lv_iload_n hx hb0 dL_due_51 rfl (lv_at hl 1 rfl) ?_
        refine lv_iload_n hx hb0 dL_due_52 rfl (lv_at hl 2 rfl) ?_
        refine lv_aload hx hb0 dL_due_53 (lv_at hl 4 rfl) ?_
        refine lv_aload hx hb0 dL_due_55 (lv_at hl 5 rfl) ?_
        refine lv_aload hx hb0 dL_due_57 (lv_at hl 6 rfl) ?_
        refine gx_si ⟨hx, hb0, hml, hown, hts⟩ (gKC_keep _ _) hk hK hP hD hS [.int x1, .int x2, .ref (ad 158), .ref (ad 159), .ref (ad 160)] [.int (((7 : Int32) * x1) + (5 : Int32)), .ref (ad 160)] (c_L_would l dC dI P ad tb x1 x2 h_73 _ he) gm_L_would st_yL_would ml_RL_76 rfl rfl ⟨Nat.le_of_ble_eq_true rfl, Nat.le_of_ble_eq_true rfl⟩ rfl hl.1 rfl (Nat.le_of_ble_eq_true rfl) dL_due_59 ⟨Nat.zero_le _, Nat.zero_le _⟩ (fun r_75 h_76 he H locs hP hD hS => ?_)
        obtain ⟨v_78, he⟩ := he
        refine gx_iast hx hb0 hK hP hD hS 160 0 (by decide) cE_t160 rfl v_78 dL_due_62 (fun h_77 eh_77 H locs hP hD hS => ?_)
        have he := he h_77 eh_77
        refine lv_aload hx hb0 dL_due_63 (lv_at hl 6 rfl) ?_
        refine lv_bipush (v := (7 : Int32)) hx hb0 dL_due_65 (by decide) ?_
        refine lv_iload_n hx hb0 dL_due_67 rfl (lv_at hl 1 rfl) ?_
        refine lv_imul hx hb0 dL_due_68 ?_
        refine lv_iconst (v := (4 : Int32)) hx hb0 dL_due_69 (by decide) ?_
        refine lv_iadd hx hb0 dL_due_70 ?_
        refine lv_dup2_11 hx hb0 dL_due_71 rfl rfl ?_
        obtain ⟨v_79, he⟩ := he
        refine gx_iald hx hb0 hK hP 160 0 (by decide) cE_t160 rfl v_79 dL_due_72 ?_
        refine lv_iconst (v := (1 : Int32)) hx hb0 dL_due_73 (by decide) ?_
        refine lv_iadd hx hb0 dL_due_74 ?_
        obtain ⟨v_81, he⟩ := he
        refine gx_iast hx hb0 hK hP hD hS 160 0 (by decide) cE_t160 rfl v_81 dL_due_75 (fun h_80 eh_80 H locs hP hD hS => ?_)
        have he := he h_80 eh_80
        refine lv_aload hx hb0 dL_due_76 (lv_at hl 4 rfl) ?_
        refine lv_bipush (v := (9 : Int32)) hx hb0 dL_due_78 (by decide) ?_
        refine lv_dup2_11 hx hb0 dL_due_80 rfl rfl ?_
        refine gx_ialdK hx hb0 hK hP 158 0 (by decide) cE_t158 rfl (vp_lit (9 : Int32) (by decide) (by decide)) 9 rfl dL_due_81 ?_
        refine lv_iconst (v := (1 : Int32)) hx hb0 dL_due_82 (by decide) ?_
        refine lv_iadd hx hb0 dL_due_83 ?_
        refine gx_iastK hx hb0 hK hP hD hS 158 0 (by decide) cE_t158 rfl (vp_lit (9 : Int32) (by decide) (by decide)) 9 rfl dL_due_84 (fun h_82 eh_82 H locs hP hD hS => ?_)
        have he := he h_82 eh_82
        refine lv_aload hx hb0 dL_due_85 (lv_at hl 6 rfl) ?_
        refine lv_bipush (v := (7 : Int32)) hx hb0 dL_due_87 (by decide) ?_
        refine lv_iload_n hx hb0 dL_due_89 rfl (lv_at hl 1 rfl) ?_
        refine lv_imul hx hb0 dL_due_90 ?_
        refine lv_iconst (v := (5 : Int32)) hx hb0 dL_due_91 (by decide) ?_
        refine lv_iadd hx hb0 dL_due_92 ?_
        obtain ⟨v_83, he⟩ := he
        refine gx_iald hx hb0 hK hP 160 0 (by decide) cE_t160 rfl v_83 dL_due_93 ?_
        refine lv_sipush (v := (5400 : Int32)) hx hb0 dL_due_94 (by decide) ?_
        refine lv_iadd hx hb0 dL_due_97 ?_
        exact gx_iret hx hb0 hr hlocks hK hP hD hS he dL_due_98
      · have he := he.2 c_74
        refine lv_iload_n hx hb0 dL_due_27 rfl (lv_at hl 2 rfl) ?_
        refine lv_aload hx hb0 dL_due_28 (lv_at hl 4 rfl) ?_
        refine lv_bipush (v := (12 : Int32)) hx hb0 dL_due_30 (by decide) ?_
        refine gx_ialdK hx hb0 hK hP 158 0 (by decide) cE_t158 rfl (vp_lit (12 : Int32) (by decide) (by decide)) 12 rfl dL_due_32 ?_
        refine lv_icmp_lt (tgt := 40) hx hb0 dL_due_33 (by decide) (fun c_84 => ?_) (fun c_84 => ?_)
        · have he := he.1 c_84
          refine lv_bipush (v := (-5 : Int32)) hx hb0 dL_due_40 (by decide) ?_
          exact gx_iret hx hb0 hr hlocks hK hP hD hS he dL_due_42
        · have he := he.2 c_84
          refine lv_iconst (v := (-1 : Int32)) hx hb0 dL_due_36 (by decide) ?_
          refine lv_goto (tgt := 42) hx hb0 dL_due_37 (by decide) ?_
          exact gx_iret hx hb0 hr hlocks hK hP hD hS he dL_due_42
theorem gm_L_due : gMeth yL_due cL_due 9 (some .int) 8 := ⟨⟨by decide, by decide, by decide +kernel⟩, ini_RL, co_yL_due⟩
