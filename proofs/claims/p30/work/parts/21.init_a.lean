
def gKI (tb : Nat → Nat) (A : Nat → Prop) (U : State) : Prop := gKC tb A U ∧ va_AO RX6 U
theorem gKI_keep (tb : Nat → Nat) (A : Nat → Prop) : gKeep A (gKI tb A) :=
  ⟨fun U g mk a h => ⟨(gKC_keep tb A).1 U g mk a h.1, va_AO.moved (u := U) (U := U.calling g mk a) (Vm.Alike.refl U.vm) h.2⟩, fun s U h hW hq => ⟨(gKC_keep tb A).2 s U h.1 hW hq, va_AO.moved hW.alike h.2⟩⟩
theorem gKI_narrow {tb : Nat → Nat} {A B : Nat → Prop} {U : State} (hAB : ∀ q, B q → A q) (h : gKI tb A U) : gKI tb B U := ⟨gKC_narrow hAB h.1, h.2⟩
def r7 (x : Int32) : Nat → Int32 := upd (upd (upd (upd (upd (upd (upd (fun _ => 0) 0 x) 1 x) 2 x) 3 x) 4 x) 5 x) 6 x
def dCrs (_ : gP) (_ : Nat → Nat) (j : Nat) : va_E := match j with
  | _ => .inr (0, [.int 0, .int 9999, .int 0, .int 0])
def dCrew (P : gP) (b : Nat → Nat) (j : Nat) : va_E := match j with
  | 0 => .inr (1, [.ref (b 1), .ref (b 2), .ref (b 3), .ref (b 4), .ref (b 5), .ref (b 6), .ref (b 7)])
  | 1 => .inl (P.1, 7, .inl (r7 5))
  | 3 => .inl (P.1, 7, .inl (r7 1))
  | 6 => .inl (P.1, 7, .inl (r7 9999))
  | _ => .inl (P.1, 7, .inl (fun _ => 0))
def dLog (P : gP) (b : Nat → Nat) (j : Nat) : va_E := match j with
  | 0 => .inr (3, [.ref (b 1)])
  | _ => .inl (P.1, 32, .inl (fun _ => 0))
def dPad (P : gP) (b : Nat → Nat) (j : Nat) : va_E := match j with
  | 0 => .inr (4, [.ref (b 1), .int 0, .int 0, .int 0, .int 0, .int 0])
  | _ => .inl (P.2.1, 80, .inl (fun _ => 0))
def dSky (P : gP) (b : Nat → Nat) (j : Nat) : va_E := match j with
  | 0 => .inr (5, [.int 0, .int 0, .ref (b 1)])
  | _ => .inl (P.1, 8, .inl (fun _ => 0))
/-- the rows of a new voyage -/
def rV (j : Nat) : Nat → Int32 := match j with
  | 1 => va_cpy stFS (fun _ => 0) 0 0 4
  | 5 => r7 5
  | 7 => r7 1
  | 10 => r7 9999
  | 12 => fun i => match i with | 1 => 9999 | _ => 0
  | _ => fun _ => 0
def dV (P : gP) (b : Nat → Nat) (j : Nat) : va_E := cV P b 0 j (rV j)
def hpl (b : Nat → Nat) : Nat → Option Nat := va_up (va_up (va_up (va_up (va_up (va_up (va_up (fun _ => none) 0 (some (b 2))) 1 (some (b 17))) 2 (some (b 32))) 3 (some (b 47))) 4 (some (b 62))) 5 (some (b 77))) 6 (some (b 92))
def dH (P : gP) (b : Nat → Nat) (j : Nat) : va_E := match j with
  | 0 => .inr (2, [.ref (b 1), .int 0, .int 0])
  | 1 => .inl (P.2.2.2, 7, .inr (.inr (.inr (.inr (hpl b)))))
  | n + 2 => dV P (fun i => b (2 + 15 * (n / 15) + i)) (n % 15)
def spl (b : Nat → Nat) : Nat → Option Nat := va_up (va_up (fun _ => none) 0 (some (b 128))) 1 (some (b 143))
def dX (P : gP) (b : Nat → Nat) (j : Nat) : va_E :=
  if j < 1 then .inr (7, [.ref (b 1), .ref (b 16), .ref (b 123), .ref (b 125), .ref (b 126), .ref (b 127)])
  else if j < 16 then dV P (fun i => b (1 + i)) (j - 1)
  else if j < 123 then dH P (fun i => b (16 + i)) (j - 16)
  else if j < 125 then dPad P (fun i => b (123 + i)) (j - 123)
  else if j < 126 then .inl (P.2.2.2, 2, .inr (.inr (.inr (.inr (spl b)))))
  else if j < 127 then .inl (P.2.2.1, 2, .inl (fun _ => 0))
  else if j < 128 then dCrs P (fun i => b (127 + i)) (j - 127)
  else if j < 143 then dV P (fun i => b (128 + i)) (j - 128)
  else dV P (fun i => b (143 + i)) (j - 143)
abbrev rm_X0_init : Room := { frames := 1, cells := 0, slots := 0, locals := 12 }
set_option maxHeartbeats 8000000 in
set_option maxRecDepth 200000 in
theorem c_X0_init (l : Launch) (dC : Nat → ClassId) (dI : Nat → Nat → Nat) (P : gP) (tb : Nat → Nat) (X : va_W) (r sz : Nat) : Met l yX0_init (Cond.code yX0_init cX0_init 1 none :: TB) rm_X0_init (glPc (dC, dI) vwCl (tyC P) (gKI tb) X (.inr (0, [.int 0, .int 0, .int 0, .int 0])) r sz) (glQv (dC, dI) vwCl X (.inr (0, [.int 0, .int 0, .int 0, .int 0])) r sz 1 (dCrs P)) 0 0 (va_A (X ++ [(r, (.inr (0, [.int 0, .int 0, .int 0, .int 0])))]) sz) := by
  refine gl_start (by decide) rfl (by decide) (fun p e s m below meth c ls hx hb0 hr hlocks hml hown hin hts hK hk hP hD hS hA hl => ?_)
  have hown : s.vm.findClass RX0 = some m.cls := hown
  refine lv_aload_n hx hb0 dX0_init_0 rfl (lv_at hl 0 rfl) ?_
  refine W.objInit hx hb0 hown (hts _ ml_RX0_3) (hts _ im_Lib_objectInit) (hts _ co_Lib_objectInit) rfl (by rw [hml]; exact hl.1) rfl dX0_init_1 (Nat.le_of_ble_eq_true rfl) (Nat.le_of_ble_eq_true rfl) ?_
  refine W.eq (g2 := F0 m 4 ls []) rfl ?_
  refine lv_aload_n hx hb0 dX0_init_4 rfl (lv_at hl 0 rfl) ?_
  refine lv_iconst (v := 0) hx hb0 dX0_init_5 (by decide) ?_
  refine gl_put hx hb0 hts in_RX0 tyX0 tyX0_ok nmX0 hown hK hP hD hS 0 (by decide) rfl rfl rfl 0 (by decide) fl_RX0_9 rfl rfl rfl (Nat.le_of_ble_eq_true rfl) (fs' := [.int (0 : Int32), .int 0, .int 0, .int 0]) rfl dX0_init_6 (fun H locs hP hD hS => ?_)
  refine lv_aload_n hx hb0 dX0_init_9 rfl (lv_at hl 0 rfl) ?_
  refine lv_sipush (v := 9999) hx hb0 dX0_init_10 (by decide) ?_
  refine gl_put hx hb0 hts in_RX0 tyX0 tyX0_ok nmX0 hown hK hP hD hS 0 (by decide) rfl rfl rfl 1 (by decide) fl_RX0_15 rfl rfl rfl (Nat.le_of_ble_eq_true rfl) (fs' := [.int (0 : Int32), .int (9999 : Int32), .int 0, .int 0]) rfl dX0_init_13 (fun H locs hP hD hS => ?_)
  refine lv_aload_n hx hb0 dX0_init_16 rfl (lv_at hl 0 rfl) ?_
  refine lv_iconst (v := 0) hx hb0 dX0_init_17 (by decide) ?_
  refine gl_put hx hb0 hts in_RX0 tyX0 tyX0_ok nmX0 hown hK hP hD hS 0 (by decide) rfl rfl rfl 2 (by decide) fl_RX0_18 rfl rfl rfl (Nat.le_of_ble_eq_true rfl) (fs' := [.int (0 : Int32), .int (9999 : Int32), .int (0 : Int32), .int 0]) rfl dX0_init_18 (fun H locs hP hD hS => ?_)
  refine lv_aload_n hx hb0 dX0_init_21 rfl (lv_at hl 0 rfl) ?_
  refine lv_iconst (v := 0) hx hb0 dX0_init_22 (by decide) ?_
  refine gl_put hx hb0 hts in_RX0 tyX0 tyX0_ok nmX0 hown hK hP hD hS 0 (by decide) rfl rfl rfl 3 (by decide) fl_RX0_21 rfl rfl rfl (Nat.le_of_ble_eq_true rfl) (fs' := [.int (0 : Int32), .int (9999 : Int32), .int (0 : Int32), .int (0 : Int32)]) rfl dX0_init_23 (fun H locs hP hD hS => ?_)
  refine W.widen (k := 0) (n := 0) (Nat.le_of_ble_eq_true rfl) (Nat.le_of_ble_eq_true rfl) ?_
  exact gl_ret hx hb0 hr hlocks hP hD hS rfl (lt_s lt_0 rfl) dX0_init_26
abbrev rm_X1_init : Room := { frames := 1, cells := 7, slots := 49, locals := 12 }
set_option maxHeartbeats 8000000 in
set_option maxRecDepth 200000 in
theorem c_X1_init (l : Launch) (dC : Nat → ClassId) (dI : Nat → Nat → Nat) (P : gP) (tb : Nat → Nat) (X : va_W) (r sz : Nat) : Met l yX1_init (Cond.code yX1_init cX1_init 2 none :: TB) rm_X1_init (glPc (dC, dI) vwCl (tyC P) (gKI tb) X (.inr (1, [.null, .null, .null, .null, .null, .null, .null])) r sz) (glQv (dC, dI) vwCl X (.inr (1, [.null, .null, .null, .null, .null, .null, .null])) r sz 8 (dCrew P)) 7 49 (va_A (X ++ [(r, (.inr (1, [.null, .null, .null, .null, .null, .null, .null])))]) sz) := by
  refine gl_start (by decide) rfl (by decide) (fun p e s m below meth c ls hx hb0 hr hlocks hml hown hin hts hK hk hP hD hS hA hl => ?_)
  have hown : s.vm.findClass RX1 = some m.cls := hown
  refine lv_aload_n hx hb0 dX1_init_0 rfl (lv_at hl 0 rfl) ?_
  refine W.objInit hx hb0 hown (hts _ ml_RX1_3) (hts _ im_Lib_objectInit) (hts _ co_Lib_objectInit) rfl (by rw [hml]; exact hl.1) rfl dX1_init_1 (Nat.le_of_ble_eq_true rfl) (Nat.le_of_ble_eq_true rfl) ?_
  refine W.eq (g2 := F0 m 4 ls []) rfl ?_
  refine lv_aload_n hx hb0 dX1_init_4 rfl (lv_at hl 0 rfl) ?_
  refine lv_bipush (v := 7) hx hb0 dX1_init_5 (by decide) ?_
  refine gl_newa (atype := .int) hx hb0 hts ac_int hK hP hD hS hA 0 rfl rfl 7 (by decide) (by decide) (Nat.le_of_ble_eq_true rfl) (Nat.le_of_ble_eq_true rfl) (Nat.le_of_ble_eq_true rfl) dX1_init_7 (fun q0 H hP hD hS => ?_)
  refine gl_putF hx hb0 hts in_RX1 tyX1 tyX1_ok nmX1 hown hK hP hD hS 0 (by decide) rfl rfl rfl 0 (by decide) fl_RX1_9 rfl hin rfl rfl rfl (Nat.le_of_ble_eq_true rfl) (fs' := [.ref q0, .null, .null, .null, .null, .null, .null]) rfl dX1_init_9 (fun H locs hP hD hS => ?_)
  refine lv_aload_n hx hb0 dX1_init_12 rfl (lv_at hl 0 rfl) ?_
  refine lv_bipush (v := 7) hx hb0 dX1_init_13 (by decide) ?_
  refine gl_newa (atype := .int) hx hb0 hts ac_int hK hP hD hS hA 0 rfl rfl 7 (by decide) (by decide) (Nat.le_of_ble_eq_true rfl) (Nat.le_of_ble_eq_true rfl) (Nat.le_of_ble_eq_true rfl) dX1_init_15 (fun q1 H hP hD hS => ?_)
  refine gl_putF hx hb0 hts in_RX1 tyX1 tyX1_ok nmX1 hown hK hP hD hS 0 (by decide) rfl rfl rfl 1 (by decide) fl_RX1_15 rfl hin rfl rfl rfl (Nat.le_of_ble_eq_true rfl) (fs' := [.ref q0, .ref q1, .null, .null, .null, .null, .null]) rfl dX1_init_17 (fun H locs hP hD hS => ?_)
  refine lv_aload_n hx hb0 dX1_init_20 rfl (lv_at hl 0 rfl) ?_
  refine lv_bipush (v := 7) hx hb0 dX1_init_21 (by decide) ?_
  refine gl_newa (atype := .int) hx hb0 hts ac_int hK hP hD hS hA 0 rfl rfl 7 (by decide) (by decide) (Nat.le_of_ble_eq_true rfl) (Nat.le_of_ble_eq_true rfl) (Nat.le_of_ble_eq_true rfl) dX1_init_23 (fun q2 H hP hD hS => ?_)
  refine gl_putF hx hb0 hts in_RX1 tyX1 tyX1_ok nmX1 hown hK hP hD hS 0 (by decide) rfl rfl rfl 2 (by decide) fl_RX1_18 rfl hin rfl rfl rfl (Nat.le_of_ble_eq_true rfl) (fs' := [.ref q0, .ref q1, .ref q2, .null, .null, .null, .null]) rfl dX1_init_25 (fun H locs hP hD hS => ?_)
  refine lv_aload_n hx hb0 dX1_init_28 rfl (lv_at hl 0 rfl) ?_
  refine lv_bipush (v := 7) hx hb0 dX1_init_29 (by decide) ?_
  refine gl_newa (atype := .int) hx hb0 hts ac_int hK hP hD hS hA 0 rfl rfl 7 (by decide) (by decide) (Nat.le_of_ble_eq_true rfl) (Nat.le_of_ble_eq_true rfl) (Nat.le_of_ble_eq_true rfl) dX1_init_31 (fun q3 H hP hD hS => ?_)
  refine gl_putF hx hb0 hts in_RX1 tyX1 tyX1_ok nmX1 hown hK hP hD hS 0 (by decide) rfl rfl rfl 3 (by decide) fl_RX1_21 rfl hin rfl rfl rfl (Nat.le_of_ble_eq_true rfl) (fs' := [.ref q0, .ref q1, .ref q2, .ref q3, .null, .null, .null]) rfl dX1_init_33 (fun H locs hP hD hS => ?_)
  refine lv_aload_n hx hb0 dX1_init_36 rfl (lv_at hl 0 rfl) ?_
  refine lv_bipush (v := 7) hx hb0 dX1_init_37 (by decide) ?_
  refine gl_newa (atype := .int) hx hb0 hts ac_int hK hP hD hS hA 0 rfl rfl 7 (by decide) (by decide) (Nat.le_of_ble_eq_true rfl) (Nat.le_of_ble_eq_true rfl) (Nat.le_of_ble_eq_true rfl) dX1_init_39 (fun q4 H hP hD hS => ?_)
  refine gl_putF hx hb0 hts in_RX1 tyX1 tyX1_ok nmX1 hown hK hP hD hS 0 (by decide) rfl rfl rfl 4 (by decide) fl_RX1_24 rfl hin rfl rfl rfl (Nat.le_of_ble_eq_true rfl) (fs' := [.ref q0, .ref q1, .ref q2, .ref q3, .ref q4, .null, .null]) rfl dX1_init_41 (fun H locs hP hD hS => ?_)
  refine lv_aload_n hx hb0 dX1_init_44 rfl (lv_at hl 0 rfl) ?_
  refine lv_bipush (v := 7) hx hb0 dX1_init_45 (by decide) ?_
  refine gl_newa (atype := .int) hx hb0 hts ac_int hK hP hD hS hA 0 rfl rfl 7 (by decide) (by decide) (Nat.le_of_ble_eq_true rfl) (Nat.le_of_ble_eq_true rfl) (Nat.le_of_ble_eq_true rfl) dX1_init_47 (fun q5 H hP hD hS => ?_)
  refine gl_putF hx hb0 hts in_RX1 tyX1 tyX1_ok nmX1 hown hK hP hD hS 0 (by decide) rfl rfl rfl 5 (by decide) fl_RX1_27 rfl hin rfl rfl rfl (Nat.le_of_ble_eq_true rfl) (fs' := [.ref q0, .ref q1, .ref q2, .ref q3, .ref q4, .ref q5, .null]) rfl dX1_init_49 (fun H locs hP hD hS => ?_)
  refine lv_aload_n hx hb0 dX1_init_52 rfl (lv_at hl 0 rfl) ?_
  refine lv_bipush (v := 7) hx hb0 dX1_init_53 (by decide) ?_
  refine gl_newa (atype := .int) hx hb0 hts ac_int hK hP hD hS hA 0 rfl rfl 7 (by decide) (by decide) (Nat.le_of_ble_eq_true rfl) (Nat.le_of_ble_eq_true rfl) (Nat.le_of_ble_eq_true rfl) dX1_init_55 (fun q6 H hP hD hS => ?_)
  refine gl_putF hx hb0 hts in_RX1 tyX1 tyX1_ok nmX1 hown hK hP hD hS 0 (by decide) rfl rfl rfl 6 (by decide) fl_RX1_30 rfl hin rfl rfl rfl (Nat.le_of_ble_eq_true rfl) (fs' := [.ref q0, .ref q1, .ref q2, .ref q3, .ref q4, .ref q5, .ref q6]) rfl dX1_init_57 (fun H locs hP hD hS => ?_)
  refine lv_iconst (v := 0) hx hb0 dX1_init_60 (by decide) ?_
  refine lv_istore_n (lv' := [(1, .int (0 : Int32)), (0, .ref r)]) hx hb0 dX1_init_61 rfl hl (by decide) rfl (fun ls hl => ?_)
  refine lv_iload_n hx hb0 dX1_init_62 rfl (lv_at hl 0 rfl) ?_
  refine lv_bipush (v := 7) hx hb0 dX1_init_63 (by decide) ?_
  refine lv_icmp_ge (tgt := 97) hx hb0 dX1_init_65 (by decide) (fun c9 => absurd c9 (by decide)) (fun c9 => ?_)
  refine lv_aload_n hx hb0 dX1_init_68 rfl (lv_at hl 1 rfl) ?_
  refine gl_get hx hb0 hts in_RX1 hown hK hP 0 (by decide) rfl rfl rfl 0 (by decide) fl_RX1_9 rfl dX1_init_69 ?_
  refine lv_iload_n hx hb0 dX1_init_72 rfl (lv_at hl 0 rfl) ?_
  refine lv_iconst (v := 5) hx hb0 dX1_init_73 (by decide) ?_
  refine gl_iast hx hb0 hK hP hD hS 1 0 (by decide) rfl rfl rfl (vp_lit 0 (by decide) (by decide)) 0 rfl dX1_init_74 (fun H locs hP hD hS => ?_)
  refine lv_aload_n hx hb0 dX1_init_75 rfl (lv_at hl 1 rfl) ?_
  refine gl_get hx hb0 hts in_RX1 hown hK hP 0 (by decide) rfl rfl rfl 2 (by decide) fl_RX1_18 rfl dX1_init_76 ?_
  refine lv_iload_n hx hb0 dX1_init_79 rfl (lv_at hl 0 rfl) ?_
  refine lv_iconst (v := 1) hx hb0 dX1_init_80 (by decide) ?_
  refine gl_iast hx hb0 hK hP hD hS 3 0 (by decide) rfl rfl rfl (vp_lit 0 (by decide) (by decide)) 0 rfl dX1_init_81 (fun H locs hP hD hS => ?_)
  refine lv_aload_n hx hb0 dX1_init_82 rfl (lv_at hl 1 rfl) ?_
  refine gl_get hx hb0 hts in_RX1 hown hK hP 0 (by decide) rfl rfl rfl 5 (by decide) fl_RX1_27 rfl dX1_init_83 ?_
  refine lv_iload_n hx hb0 dX1_init_86 rfl (lv_at hl 0 rfl) ?_
  refine lv_sipush (v := 9999) hx hb0 dX1_init_87 (by decide) ?_
  refine gl_iast hx hb0 hK hP hD hS 6 0 (by decide) rfl rfl rfl (vp_lit 0 (by decide) (by decide)) 0 rfl dX1_init_90 (fun H locs hP hD hS => ?_)
  refine lv_iinc (v := 1) (lv' := [(1, .int (1 : Int32)), (0, .ref r)]) hx hb0 dX1_init_91 hl (k := 0) rfl (by decide) (by decide) rfl (fun ls hl => ?_)
  refine lv_goto (tgt := 62) hx hb0 dX1_init_94 (by decide) ?_
  refine lv_iload_n hx hb0 dX1_init_62 rfl (lv_at hl 0 rfl) ?_
  refine lv_bipush (v := 7) hx hb0 dX1_init_63 (by decide) ?_
  refine lv_icmp_ge (tgt := 97) hx hb0 dX1_init_65 (by decide) (fun c9 => absurd c9 (by decide)) (fun c9 => ?_)
  refine lv_aload_n hx hb0 dX1_init_68 rfl (lv_at hl 1 rfl) ?_
  refine gl_get hx hb0 hts in_RX1 hown hK hP 0 (by decide) rfl rfl rfl 0 (by decide) fl_RX1_9 rfl dX1_init_69 ?_
  refine lv_iload_n hx hb0 dX1_init_72 rfl (lv_at hl 0 rfl) ?_
  refine lv_iconst (v := 5) hx hb0 dX1_init_73 (by decide) ?_
  refine gl_iast hx hb0 hK hP hD hS 1 0 (by decide) rfl rfl rfl (vp_lit 1 (by decide) (by decide)) 1 rfl dX1_init_74 (fun H locs hP hD hS => ?_)
  refine lv_aload_n hx hb0 dX1_init_75 rfl (lv_at hl 1 rfl) ?_
  refine gl_get hx hb0 hts in_RX1 hown hK hP 0 (by decide) rfl rfl rfl 2 (by decide) fl_RX1_18 rfl dX1_init_76 ?_
  refine lv_iload_n hx hb0 dX1_init_79 rfl (lv_at hl 0 rfl) ?_
  refine lv_iconst (v := 1) hx hb0 dX1_init_80 (by decide) ?_
  refine gl_iast hx hb0 hK hP hD hS 3 0 (by decide) rfl rfl rfl (vp_lit 1 (by decide) (by decide)) 1 rfl dX1_init_81 (fun H locs hP hD hS => ?_)
  refine lv_aload_n hx hb0 dX1_init_82 rfl (lv_at hl 1 rfl) ?_
  refine gl_get hx hb0 hts in_RX1 hown hK hP 0 (by decide) rfl rfl rfl 5 (by decide) fl_RX1_27 rfl dX1_init_83 ?_
  refine lv_iload_n hx hb0 dX1_init_86 rfl (lv_at hl 0 rfl) ?_
  refine lv_sipush (v := 9999) hx hb0 dX1_init_87 (by decide) ?_
  refine gl_iast hx hb0 hK hP hD hS 6 0 (by decide) rfl rfl rfl (vp_lit 1 (by decide) (by decide)) 1 rfl dX1_init_90 (fun H locs hP hD hS => ?_)
  refine lv_iinc (v := 2) (lv' := [(1, .int (2 : Int32)), (0, .ref r)]) hx hb0 dX1_init_91 hl (k := 0) rfl (by decide) (by decide) rfl (fun ls hl => ?_)
  refine lv_goto (tgt := 62) hx hb0 dX1_init_94 (by decide) ?_
  refine lv_iload_n hx hb0 dX1_init_62 rfl (lv_at hl 0 rfl) ?_
  refine lv_bipush (v := 7) hx hb0 dX1_init_63 (by decide) ?_
  refine lv_icmp_ge (tgt := 97) hx hb0 dX1_init_65 (by decide) (fun c9 => absurd c9 (by decide)) (fun c9 => ?_)
  refine lv_aload_n hx hb0 dX1_init_68 rfl (lv_at hl 1 rfl) ?_
  refine gl_get hx hb0 hts in_RX1 hown hK hP 0 (by decide) rfl rfl rfl 0 (by decide) fl_RX1_9 rfl dX1_init_69 ?_
  refine lv_iload_n hx hb0 dX1_init_72 rfl (lv_at hl 0 rfl) ?_
  refine lv_iconst (v := 5) hx hb0 dX1_init_73 (by decide) ?_
  refine gl_iast hx hb0 hK hP hD hS 1 0 (by decide) rfl rfl rfl (vp_lit 2 (by decide) (by decide)) 2 rfl dX1_init_74 (fun H locs hP hD hS => ?_)
  refine lv_aload_n hx hb0 dX1_init_75 rfl (lv_at hl 1 rfl) ?_
  refine gl_get hx hb0 hts in_RX1 hown hK hP 0 (by decide) rfl rfl rfl 2 (by decide) fl_RX1_18 rfl dX1_init_76 ?_
  refine lv_iload_n hx hb0 dX1_init_79 rfl (lv_at hl 0 rfl) ?_
  refine lv_iconst (v := 1) hx hb0 dX1_init_80 (by decide) ?_
  refine gl_iast hx hb0 hK hP hD hS 3 0 (by decide) rfl rfl rfl (vp_lit 2 (by decide) (by decide)) 2 rfl dX1_init_81 (fun H locs hP hD hS => ?_)
  refine lv_aload_n hx hb0 dX1_init_82 rfl (lv_at hl 1 rfl) ?_
  refine gl_get hx hb0 hts in_RX1 hown hK hP 0 (by decide) rfl rfl rfl 5 (by decide) fl_RX1_27 rfl dX1_init_83 ?_
  refine lv_iload_n hx hb0 dX1_init_86 rfl (lv_at hl 0 rfl) ?_
  refine lv_sipush (v := 9999) hx hb0 dX1_init_87 (by decide) ?_
  refine gl_iast hx hb0 hK hP hD hS 6 0 (by decide) rfl rfl rfl (vp_lit 2 (by decide) (by decide)) 2 rfl dX1_init_90 (fun H locs hP hD hS => ?_)
  refine lv_iinc (v := 3) (lv' := [(1, .int (3 : Int32)), (0, .ref r)]) hx hb0 dX1_init_91 hl (k := 0) rfl (by decide) (by decide) rfl (fun ls hl => ?_)
  refine lv_goto (tgt := 62) hx hb0 dX1_init_94 (by decide) ?_
  refine lv_iload_n hx hb0 dX1_init_62 rfl (lv_at hl 0 rfl) ?_
  refine lv_bipush (v := 7) hx hb0 dX1_init_63 (by decide) ?_
  refine lv_icmp_ge (tgt := 97) hx hb0 dX1_init_65 (by decide) (fun c9 => absurd c9 (by decide)) (fun c9 => ?_)
  refine lv_aload_n hx hb0 dX1_init_68 rfl (lv_at hl 1 rfl) ?_
  refine gl_get hx hb0 hts in_RX1 hown hK hP 0 (by decide) rfl rfl rfl 0 (by decide) fl_RX1_9 rfl dX1_init_69 ?_
  refine lv_iload_n hx hb0 dX1_init_72 rfl (lv_at hl 0 rfl) ?_
  refine lv_iconst (v := 5) hx hb0 dX1_init_73 (by decide) ?_
  refine gl_iast hx hb0 hK hP hD hS 1 0 (by decide) rfl rfl rfl (vp_lit 3 (by decide) (by decide)) 3 rfl dX1_init_74 (fun H locs hP hD hS => ?_)
  refine lv_aload_n hx hb0 dX1_init_75 rfl (lv_at hl 1 rfl) ?_
  refine gl_get hx hb0 hts in_RX1 hown hK hP 0 (by decide) rfl rfl rfl 2 (by decide) fl_RX1_18 rfl dX1_init_76 ?_
  refine lv_iload_n hx hb0 dX1_init_79 rfl (lv_at hl 0 rfl) ?_
  refine lv_iconst (v := 1) hx hb0 dX1_init_80 (by decide) ?_
  refine gl_iast hx hb0 hK hP hD hS 3 0 (by decide) rfl rfl rfl (vp_lit 3 (by decide) (by decide)) 3 rfl dX1_init_81 (fun H locs hP hD hS => ?_)
  refine lv_aload_n hx hb0 dX1_init_82 rfl (lv_at hl 1 rfl) ?_
  refine gl_get hx hb0 hts in_RX1 hown hK hP 0 (by decide) rfl rfl rfl 5 (by decide) fl_RX1_27 rfl dX1_init_83 ?_
  refine lv_iload_n hx hb0 dX1_init_86 rfl (lv_at hl 0 rfl) ?_
  refine lv_sipush (v := 9999) hx hb0 dX1_init_87 (by decide) ?_
  refine gl_iast hx hb0 hK hP hD hS 6 0 (by decide) rfl rfl rfl (vp_lit 3 (by decide) (by decide)) 3 rfl dX1_init_90 (fun H locs hP hD hS => ?_)
  refine lv_iinc (v := 4) (lv' := [(1, .int (4 : Int32)), (0, .ref r)]) hx hb0 dX1_init_91 hl (k := 0) rfl (by decide) (by decide) rfl (fun ls hl => ?_)
  refine lv_goto (tgt := 62) hx hb0 dX1_init_94 (by decide) ?_
  refine lv_iload_n hx hb0 dX1_init_62 rfl (lv_at hl 0 rfl) ?_
  refine lv_bipush (v := 7) hx hb0 dX1_init_63 (by decide) ?_
  refine lv_icmp_ge (tgt := 97) hx hb0 dX1_init_65 (by decide) (fun c9 => absurd c9 (by decide)) (fun c9 => ?_)
  refine lv_aload_n hx hb0 dX1_init_68 rfl (lv_at hl 1 rfl) ?_
  refine gl_get hx hb0 hts in_RX1 hown hK hP 0 (by decide) rfl rfl rfl 0 (by decide) fl_RX1_9 rfl dX1_init_69 ?_
  refine lv_iload_n hx hb0 dX1_init_72 rfl (lv_at hl 0 rfl) ?_
  refine lv_iconst (v := 5) hx hb0 dX1_init_73 (by decide) ?_
  refine gl_iast hx hb0 hK hP hD hS 1 0 (by decide) rfl rfl rfl (vp_lit 4 (by decide) (by decide)) 4 rfl dX1_init_74 (fun H locs hP hD hS => ?_)
  refine lv_aload_n hx hb0 dX1_init_75 rfl (lv_at hl 1 rfl) ?_
  refine gl_get hx hb0 hts in_RX1 hown hK hP 0 (by decide) rfl rfl rfl 2 (by decide) fl_RX1_18 rfl dX1_init_76 ?_
  refine lv_iload_n hx hb0 dX1_init_79 rfl (lv_at hl 0 rfl) ?_
  refine lv_iconst (v := 1) hx hb0 dX1_init_80 (by decide) ?_
  refine gl_iast hx hb0 hK hP hD hS 3 0 (by decide) rfl rfl rfl (vp_lit 4 (by decide) (by decide)) 4 rfl dX1_init_81 (fun H locs hP hD hS => ?_)
  refine lv_aload_n hx hb0 dX1_init_82 rfl (lv_at hl 1 rfl) ?_
  refine gl_get hx hb0 hts in_RX1 hown hK hP 0 (by decide) rfl rfl rfl 5 (by decide) fl_RX1_27 rfl dX1_init_83 ?_
  refine lv_iload_n hx hb0 dX1_init_86 rfl (lv_at hl 0 rfl) ?_
  refine lv_sipush (v := 9999) hx hb0 dX1_init_87 (by decide) ?_
  refine gl_iast hx hb0 hK hP hD hS 6 0 (by decide) rfl rfl rfl (vp_lit 4 (by decide) (by decide)) 4 rfl dX1_init_90 (fun H locs hP hD hS => ?_)
  refine lv_iinc (v := 5) (lv' := [(1, .int (5 : Int32)), (0, .ref r)]) hx hb0 dX1_init_91 hl (k := 0) rfl (by decide) (by decide) rfl (fun ls hl => ?_)
  refine lv_goto (tgt := 62) hx hb0 dX1_init_94 (by decide) ?_
  refine lv_iload_n hx hb0 dX1_init_62 rfl (lv_at hl 0 rfl) ?_
  refine lv_bipush (v := 7) hx hb0 dX1_init_63 (by decide) ?_
  refine lv_icmp_ge (tgt := 97) hx hb0 dX1_init_65 (by decide) (fun c9 => absurd c9 (by decide)) (fun c9 => ?_)
  refine lv_aload_n hx hb0 dX1_init_68 rfl (lv_at hl 1 rfl) ?_
  refine gl_get hx hb0 hts in_RX1 hown hK hP 0 (by decide) rfl rfl rfl 0 (by decide) fl_RX1_9 rfl dX1_init_69 ?_
  refine lv_iload_n hx hb0 dX1_init_72 rfl (lv_at hl 0 rfl) ?_
  refine lv_iconst (v := 5) hx hb0 dX1_init_73 (by decide) ?_
  refine gl_iast hx hb0 hK hP hD hS 1 0 (by decide) rfl rfl rfl (vp_lit 5 (by decide) (by decide)) 5 rfl dX1_init_74 (fun H locs hP hD hS => ?_)
  refine lv_aload_n hx hb0 dX1_init_75 rfl (lv_at hl 1 rfl) ?_
  refine gl_get hx hb0 hts in_RX1 hown hK hP 0 (by decide) rfl rfl rfl 2 (by decide) fl_RX1_18 rfl dX1_init_76 ?_
  refine lv_iload_n hx hb0 dX1_init_79 rfl (lv_at hl 0 rfl) ?_
  refine lv_iconst (v := 1) hx hb0 dX1_init_80 (by decide) ?_
  refine gl_iast hx hb0 hK hP hD hS 3 0 (by decide) rfl rfl rfl (vp_lit 5 (by decide) (by decide)) 5 rfl dX1_init_81 (fun H locs hP hD hS => ?_)
  refine lv_aload_n hx hb0 dX1_init_82 rfl (lv_at hl 1 rfl) ?_
  refine gl_get hx hb0 hts in_RX1 hown hK hP 0 (by decide) rfl rfl rfl 5 (by decide) fl_RX1_27 rfl dX1_init_83 ?_
  refine lv_iload_n hx hb0 dX1_init_86 rfl (lv_at hl 0 rfl) ?_
  refine lv_sipush (v := 9999) hx hb0 dX1_init_87 (by decide) ?_
  refine gl_iast hx hb0 hK hP hD hS 6 0 (by decide) rfl rfl rfl (vp_lit 5 (by decide) (by decide)) 5 rfl dX1_init_90 (fun H locs hP hD hS => ?_)
  refine lv_iinc (v := 6) (lv' := [(1, .int (6 : Int32)), (0, .ref r)]) hx hb0 dX1_init_91 hl (k := 0) rfl (by decide) (by decide) rfl (fun ls hl => ?_)
  refine lv_goto (tgt := 62) hx hb0 dX1_init_94 (by decide) ?_
  refine lv_iload_n hx hb0 dX1_init_62 rfl (lv_at hl 0 rfl) ?_
  refine lv_bipush (v := 7) hx hb0 dX1_init_63 (by decide) ?_
  refine lv_icmp_ge (tgt := 97) hx hb0 dX1_init_65 (by decide) (fun c9 => absurd c9 (by decide)) (fun c9 => ?_)
  refine lv_aload_n hx hb0 dX1_init_68 rfl (lv_at hl 1 rfl) ?_
  refine gl_get hx hb0 hts in_RX1 hown hK hP 0 (by decide) rfl rfl rfl 0 (by decide) fl_RX1_9 rfl dX1_init_69 ?_
  refine lv_iload_n hx hb0 dX1_init_72 rfl (lv_at hl 0 rfl) ?_
  refine lv_iconst (v := 5) hx hb0 dX1_init_73 (by decide) ?_
  refine gl_iast hx hb0 hK hP hD hS 1 0 (by decide) rfl rfl rfl (vp_lit 6 (by decide) (by decide)) 6 rfl dX1_init_74 (fun H locs hP hD hS => ?_)
  refine lv_aload_n hx hb0 dX1_init_75 rfl (lv_at hl 1 rfl) ?_
  refine gl_get hx hb0 hts in_RX1 hown hK hP 0 (by decide) rfl rfl rfl 2 (by decide) fl_RX1_18 rfl dX1_init_76 ?_
  refine lv_iload_n hx hb0 dX1_init_79 rfl (lv_at hl 0 rfl) ?_
  refine lv_iconst (v := 1) hx hb0 dX1_init_80 (by decide) ?_
  refine gl_iast hx hb0 hK hP hD hS 3 0 (by decide) rfl rfl rfl (vp_lit 6 (by decide) (by decide)) 6 rfl dX1_init_81 (fun H locs hP hD hS => ?_)
  refine lv_aload_n hx hb0 dX1_init_82 rfl (lv_at hl 1 rfl) ?_
  refine gl_get hx hb0 hts in_RX1 hown hK hP 0 (by decide) rfl rfl rfl 5 (by decide) fl_RX1_27 rfl dX1_init_83 ?_
  refine lv_iload_n hx hb0 dX1_init_86 rfl (lv_at hl 0 rfl) ?_
  refine lv_sipush (v := 9999) hx hb0 dX1_init_87 (by decide) ?_
  refine gl_iast hx hb0 hK hP hD hS 6 0 (by decide) rfl rfl rfl (vp_lit 6 (by decide) (by decide)) 6 rfl dX1_init_90 (fun H locs hP hD hS => ?_)
  refine lv_iinc (v := 7) (lv' := [(1, .int (7 : Int32)), (0, .ref r)]) hx hb0 dX1_init_91 hl (k := 0) rfl (by decide) (by decide) rfl (fun ls hl => ?_)
  refine lv_goto (tgt := 62) hx hb0 dX1_init_94 (by decide) ?_
  refine lv_iload_n hx hb0 dX1_init_62 rfl (lv_at hl 0 rfl) ?_
  refine lv_bipush (v := 7) hx hb0 dX1_init_63 (by decide) ?_
  refine lv_icmp_ge (tgt := 97) hx hb0 dX1_init_65 (by decide) (fun c9 => ?_) (fun c9 => absurd (by decide) c9)
  refine W.widen (k := 7) (n := 49) (Nat.le_of_ble_eq_true rfl) (Nat.le_of_ble_eq_true rfl) ?_
  exact gl_ret hx hb0 hr hlocks hP hD hS rfl (lt_s (lt_s (lt_s (lt_s (lt_s (lt_s (lt_s (lt_s lt_0 rfl) rfl) rfl) rfl) rfl) rfl) rfl) rfl) dX1_init_97
abbrev rm_X3_init : Room := { frames := 1, cells := 1, slots := 32, locals := 12 }
set_option maxHeartbeats 8000000 in
set_option maxRecDepth 200000 in
theorem c_X3_init (l : Launch) (dC : Nat → ClassId) (dI : Nat → Nat → Nat) (P : gP) (tb : Nat → Nat) (X : va_W) (r sz : Nat) : Met l yX3_init (Cond.code yX3_init cX3_init 1 none :: TB) rm_X3_init (glPc (dC, dI) vwCl (tyC P) (gKI tb) X (.inr (3, [.null])) r sz) (glQv (dC, dI) vwCl X (.inr (3, [.null])) r sz 2 (dLog P)) 1 32 (va_A (X ++ [(r, (.inr (3, [.null])))]) sz) := by
  refine gl_start (by decide) rfl (by decide) (fun p e s m below meth c ls hx hb0 hr hlocks hml hown hin hts hK hk hP hD hS hA hl => ?_)
  have hown : s.vm.findClass RX3 = some m.cls := hown
  refine lv_aload_n hx hb0 dX3_init_0 rfl (lv_at hl 0 rfl) ?_
  refine W.objInit hx hb0 hown (hts _ ml_RX3_1) (hts _ im_Lib_objectInit) (hts _ co_Lib_objectInit) rfl (by rw [hml]; exact hl.1) rfl dX3_init_1 (Nat.le_of_ble_eq_true rfl) (Nat.le_of_ble_eq_true rfl) ?_
  refine W.eq (g2 := F0 m 4 ls []) rfl ?_
  refine lv_aload_n hx hb0 dX3_init_4 rfl (lv_at hl 0 rfl) ?_
  refine lv_bipush (v := 32) hx hb0 dX3_init_5 (by decide) ?_
  refine gl_newa (atype := .int) hx hb0 hts ac_int hK hP hD hS hA 0 rfl rfl 32 (by decide) (by decide) (Nat.le_of_ble_eq_true rfl) (Nat.le_of_ble_eq_true rfl) (Nat.le_of_ble_eq_true rfl) dX3_init_7 (fun q0 H hP hD hS => ?_)
  refine gl_putF hx hb0 hts in_RX3 tyX3 tyX3_ok nmX3 hown hK hP hD hS 0 (by decide) rfl rfl rfl 0 (by decide) fl_RX3_9 rfl hin rfl rfl rfl (Nat.le_of_ble_eq_true rfl) (fs' := [.ref q0]) rfl dX3_init_9 (fun H locs hP hD hS => ?_)
  refine W.widen (k := 1) (n := 32) (Nat.le_of_ble_eq_true rfl) (Nat.le_of_ble_eq_true rfl) ?_
  exact gl_ret hx hb0 hr hlocks hP hD hS rfl (lt_s (lt_s lt_0 rfl) rfl) dX3_init_12
abbrev rm_X4_init : Room := { frames := 1, cells := 1, slots := 80, locals := 12 }
set_option maxHeartbeats 8000000 in
set_option maxRecDepth 200000 in
theorem c_X4_init (l : Launch) (dC : Nat → ClassId) (dI : Nat → Nat → Nat) (P : gP) (tb : Nat → Nat) (X : va_W) (r sz : Nat) : Met l yX4_init (Cond.code yX4_init cX4_init 1 none :: TB) rm_X4_init (glPc (dC, dI) vwCl (tyC P) (gKI tb) X (.inr (4, [.null, .int 0, .int 0, .int 0, .int 0, .int 0])) r sz) (glQv (dC, dI) vwCl X (.inr (4, [.null, .int 0, .int 0, .int 0, .int 0, .int 0])) r sz 2 (dPad P)) 1 80 (va_A (X ++ [(r, (.inr (4, [.null, .int 0, .int 0, .int 0, .int 0, .int 0])))]) sz) := by
  refine gl_start (by decide) rfl (by decide) (fun p e s m below meth c ls hx hb0 hr hlocks hml hown hin hts hK hk hP hD hS hA hl => ?_)
  have hown : s.vm.findClass RX4 = some m.cls := hown
  refine lv_aload_n hx hb0 dX4_init_0 rfl (lv_at hl 0 rfl) ?_
  refine W.objInit hx hb0 hown (hts _ ml_RX4_3) (hts _ im_Lib_objectInit) (hts _ co_Lib_objectInit) rfl (by rw [hml]; exact hl.1) rfl dX4_init_1 (Nat.le_of_ble_eq_true rfl) (Nat.le_of_ble_eq_true rfl) ?_
  refine W.eq (g2 := F0 m 4 ls []) rfl ?_
  refine lv_aload_n hx hb0 dX4_init_4 rfl (lv_at hl 0 rfl) ?_
  refine lv_bipush (v := 80) hx hb0 dX4_init_5 (by decide) ?_
  refine gl_newa (atype := .char) hx hb0 hts ac_char hK hP hD hS hA 1 rfl rfl 80 (by decide) (by decide) (Nat.le_of_ble_eq_true rfl) (Nat.le_of_ble_eq_true rfl) (Nat.le_of_ble_eq_true rfl) dX4_init_7 (fun q0 H hP hD hS => ?_)
  refine gl_putF hx hb0 hts in_RX4 tyX4 tyX4_ok nmX4 hown hK hP hD hS 0 (by decide) rfl rfl rfl 0 (by decide) fl_RX4_11 rfl hin rfl rfl rfl (Nat.le_of_ble_eq_true rfl) (fs' := [.ref q0, .int 0, .int 0, .int 0, .int 0, .int 0]) rfl dX4_init_9 (fun H locs hP hD hS => ?_)
  refine lv_aload_n hx hb0 dX4_init_12 rfl (lv_at hl 0 rfl) ?_
  refine lv_iconst (v := 0) hx hb0 dX4_init_13 (by decide) ?_
  refine gl_put hx hb0 hts in_RX4 tyX4 tyX4_ok nmX4 hown hK hP hD hS 0 (by decide) rfl rfl rfl 1 (by decide) fl_RX4_15 rfl rfl rfl (Nat.le_of_ble_eq_true rfl) (fs' := [.ref q0, .int (0 : Int32), .int 0, .int 0, .int 0, .int 0]) rfl dX4_init_14 (fun H locs hP hD hS => ?_)
  refine lv_aload_n hx hb0 dX4_init_17 rfl (lv_at hl 0 rfl) ?_
  refine lv_iconst (v := 0) hx hb0 dX4_init_18 (by decide) ?_
  refine gl_put hx hb0 hts in_RX4 tyX4 tyX4_ok nmX4 hown hK hP hD hS 0 (by decide) rfl rfl rfl 2 (by decide) fl_RX4_19 rfl rfl rfl (Nat.le_of_ble_eq_true rfl) (fs' := [.ref q0, .int (0 : Int32), .int (0 : Int32), .int 0, .int 0, .int 0]) rfl dX4_init_19 (fun H locs hP hD hS => ?_)
  refine lv_aload_n hx hb0 dX4_init_22 rfl (lv_at hl 0 rfl) ?_
  refine lv_iconst (v := 0) hx hb0 dX4_init_23 (by decide) ?_
  refine gl_put hx hb0 hts in_RX4 tyX4 tyX4_ok nmX4 hown hK hP hD hS 0 (by decide) rfl rfl rfl 3 (by decide) fl_RX4_22 rfl rfl rfl (Nat.le_of_ble_eq_true rfl) (fs' := [.ref q0, .int (0 : Int32), .int (0 : Int32), .int (0 : Int32), .int 0, .int 0]) rfl dX4_init_24 (fun H locs hP hD hS => ?_)
  refine lv_aload_n hx hb0 dX4_init_27 rfl (lv_at hl 0 rfl) ?_
  refine lv_iconst (v := 0) hx hb0 dX4_init_28 (by decide) ?_
  refine gl_put hx hb0 hts in_RX4 tyX4 tyX4_ok nmX4 hown hK hP hD hS 0 (by decide) rfl rfl rfl 4 (by decide) fl_RX4_25 rfl rfl rfl (Nat.le_of_ble_eq_true rfl) (fs' := [.ref q0, .int (0 : Int32), .int (0 : Int32), .int (0 : Int32), .int (0 : Int32), .int 0]) rfl dX4_init_29 (fun H locs hP hD hS => ?_)
  refine lv_aload_n hx hb0 dX4_init_32 rfl (lv_at hl 0 rfl) ?_
  refine lv_iconst (v := 0) hx hb0 dX4_init_33 (by decide) ?_
  refine gl_put hx hb0 hts in_RX4 tyX4 tyX4_ok nmX4 hown hK hP hD hS 0 (by decide) rfl rfl rfl 5 (by decide) fl_RX4_28 rfl rfl rfl (Nat.le_of_ble_eq_true rfl) (fs' := [.ref q0, .int (0 : Int32), .int (0 : Int32), .int (0 : Int32), .int (0 : Int32), .int (0 : Int32)]) rfl dX4_init_34 (fun H locs hP hD hS => ?_)
  refine W.widen (k := 1) (n := 80) (Nat.le_of_ble_eq_true rfl) (Nat.le_of_ble_eq_true rfl) ?_
  exact gl_ret hx hb0 hr hlocks hP hD hS rfl (lt_s (lt_s lt_0 rfl) rfl) dX4_init_37
abbrev rm_X5_init : Room := { frames := 1, cells := 1, slots := 8, locals := 12 }
set_option maxHeartbeats 8000000 in
set_option maxRecDepth 200000 in
theorem c_X5_init (l : Launch) (dC : Nat → ClassId) (dI : Nat → Nat → Nat) (P : gP) (tb : Nat → Nat) (X : va_W) (r sz : Nat) : Met l yX5_init (Cond.code yX5_init cX5_init 1 none :: TB) rm_X5_init (glPc (dC, dI) vwCl (tyC P) (gKI tb) X (.inr (5, [.int 0, .int 0, .null])) r sz) (glQv (dC, dI) vwCl X (.inr (5, [.int 0, .int 0, .null])) r sz 2 (dSky P)) 1 8 (va_A (X ++ [(r, (.inr (5, [.int 0, .int 0, .null])))]) sz) := by
  refine gl_start (by decide) rfl (by decide) (fun p e s m below meth c ls hx hb0 hr hlocks hml hown hin hts hK hk hP hD hS hA hl => ?_)
  have hown : s.vm.findClass RX5 = some m.cls := hown
  refine lv_aload_n hx hb0 dX5_init_0 rfl (lv_at hl 0 rfl) ?_
  refine W.objInit hx hb0 hown (hts _ ml_RX5_3) (hts _ im_Lib_objectInit) (hts _ co_Lib_objectInit) rfl (by rw [hml]; exact hl.1) rfl dX5_init_1 (Nat.le_of_ble_eq_true rfl) (Nat.le_of_ble_eq_true rfl) ?_
  refine W.eq (g2 := F0 m 4 ls []) rfl ?_
  refine lv_aload_n hx hb0 dX5_init_4 rfl (lv_at hl 0 rfl) ?_
  refine lv_iconst (v := 0) hx hb0 dX5_init_5 (by decide) ?_
  refine gl_put hx hb0 hts in_RX5 tyX5 tyX5_ok nmX5 hown hK hP hD hS 0 (by decide) rfl rfl rfl 0 (by decide) fl_RX5_9 rfl rfl rfl (Nat.le_of_ble_eq_true rfl) (fs' := [.int (0 : Int32), .int 0, .null]) rfl dX5_init_6 (fun H locs hP hD hS => ?_)
  refine lv_aload_n hx hb0 dX5_init_9 rfl (lv_at hl 0 rfl) ?_
  refine lv_iconst (v := 0) hx hb0 dX5_init_10 (by decide) ?_
  refine gl_put hx hb0 hts in_RX5 tyX5 tyX5_ok nmX5 hown hK hP hD hS 0 (by decide) rfl rfl rfl 1 (by decide) fl_RX5_15 rfl rfl rfl (Nat.le_of_ble_eq_true rfl) (fs' := [.int (0 : Int32), .int (0 : Int32), .null]) rfl dX5_init_11 (fun H locs hP hD hS => ?_)
  refine lv_aload_n hx hb0 dX5_init_14 rfl (lv_at hl 0 rfl) ?_
  refine lv_bipush (v := 8) hx hb0 dX5_init_15 (by decide) ?_
  refine gl_newa (atype := .int) hx hb0 hts ac_int hK hP hD hS hA 0 rfl rfl 8 (by decide) (by decide) (Nat.le_of_ble_eq_true rfl) (Nat.le_of_ble_eq_true rfl) (Nat.le_of_ble_eq_true rfl) dX5_init_17 (fun q0 H hP hD hS => ?_)
  refine gl_putF hx hb0 hts in_RX5 tyX5 tyX5_ok nmX5 hown hK hP hD hS 0 (by decide) rfl rfl rfl 2 (by decide) fl_RX5_18 rfl hin rfl rfl rfl (Nat.le_of_ble_eq_true rfl) (fs' := [.int (0 : Int32), .int (0 : Int32), .ref q0]) rfl dX5_init_19 (fun H locs hP hD hS => ?_)
  refine W.widen (k := 1) (n := 8) (Nat.le_of_ble_eq_true rfl) (Nat.le_of_ble_eq_true rfl) ?_
  exact gl_ret hx hb0 hr hlocks hP hD hS rfl (lt_s (lt_s lt_0 rfl) rfl) dX5_init_22
