def hz0 : Hp := fun _ _ => 0
def hz1 : Hp := up1 hz0 1 (upd (hz0 1) 0 4)
def hz2 : Hp := up1 hz1 1 (upd (hz1 1) 1 6)
def hz3 : Hp := up1 hz2 1 (upd (hz2 1) 2 60)
def hz4 : Hp := up1 hz3 1 (upd (hz3 1) 3 300)
def hz5 : Hp := up1 hz4 1 (upd (hz4 1) 31 5)
def hz6 : Hp := up1 hz5 1 (upd (hz5 1) 33 1)
def hz7 : Hp := up1 hz6 1 (upd (hz6 1) 39 5)
def hz8 : Hp := up1 hz7 1 (upd (hz7 1) 41 1)
def hz9 : Hp := up1 hz8 1 (upd (hz8 1) 47 5)
def hz10 : Hp := up1 hz9 1 (upd (hz9 1) 49 1)
def hz11 : Hp := up1 hz10 1 (upd (hz10 1) 55 5)
def hz12 : Hp := up1 hz11 1 (upd (hz11 1) 57 1)
def hz13 : Hp := up1 hz12 1 (upd (hz12 1) 63 5)
def hz14 : Hp := up1 hz13 1 (upd (hz13 1) 65 1)
def hz15 : Hp := up1 hz14 1 (upd (hz14 1) 71 5)
def hz16 : Hp := up1 hz15 1 (upd (hz15 1) 73 1)
def hz17 : Hp := up1 hz16 1 (upd (hz16 1) 79 5)
def hz18 : Hp := up1 hz17 1 (upd (hz17 1) 81 1)
abbrev mInit : Hp := hz18
abbrev rm_X8_init : Room := { frames := 1, cells := 6, slots := 1272, locals := 23 }
def gQm (D : va_G) (cl : List vw_C) (P : gP) (r sz : Nat) : Array Value → State → Outcome → State → Prop := va_Qv (fun b : Nat → Nat => b 0 = r) (fun b t => va_P D cl (gW 7 (mE P b) b mInit) t.heap ∧ va_D (va_A ([] ++ [(r, (.inr (8, [.null, .null, .null, .int 0, .null, .null, .null, .int 0, .int 0, .int 0, .int 0, .int 0])))]) sz) (gW 7 (mE P b) b mInit)) (va_A ([] ++ [(r, (.inr (8, [.null, .null, .null, .int 0, .null, .null, .null, .int 0, .int 0, .int 0, .int 0, .int 0])))]) sz)
theorem gm_start {l : Launch} {y : MethodName} {rm : Room} {D : va_G} {cl : List vw_C} {tys : List (ClassId × FieldType)} {x : va_E} {r sz mc ms : Nat} {cc : ByteArray} {maxL : Nat} {Qc : Array Value → State → Outcome → State → Prop} (hy : plainName y.cls = true) (hyn : y.name = "<init>") (hl0 : 1 ≤ maxL)
    (body : ∀ (p : Program) (e : Env) (s : State) (m : MethodId) (below : List Frame) (meth : Method) (c : Code) (ls : Array Slot), p.tables.exec = Jvm.exec → c.code = cc → meth.sig.returnType = none → meth.locks = false → c.maxLocals = maxL → s.vm.findClass y.cls = some m.cls → meth.name = "<init>" → (∀ w ∈ TB, w.before #[Value.ref r] s = true) → va_K D cl tys s → va_P D cl ([] ++ gL 1 (fun _ => r) (fun _ => x)) s.heap → va_D (va_A ([] ++ [(r, x)]) sz) ([] ++ gL 1 (fun _ => r) (fun _ => x)) → va_S (va_A ([] ++ [(r, x)]) sz) s.heap s.heap [] → (∀ q, s.heap.size ≤ q → va_A ([] ++ [(r, x)]) sz q) → lv_has ls maxL [(0, .ref r)] →
      W p l e rm s m #[Value.ref r] below meth c s.heap [] 0 0 (MQ below Qc #[Value.ref r] s mc ms (va_A ([] ++ [(r, x)]) sz)) (F0 m 0 ls [])) : Met l y (Cond.code y cc maxL none :: TB) rm (glPc D cl tys (fun _ => gKM) [] x r sz) Qc mc ms (va_A ([] ++ [(r, x)]) sz) := by
  refine Met.ofW (cc := cc) (maxL := maxL) (ret := none) hy rfl ?_
  intro p e s m args below meth c s₁ B hml hv
  obtain ⟨rfl, hsz, hP, hK, hD, hk⟩ := hv
  have hts := atoms_spec (ws := Cond.code y cc maxL none :: TB) B.pre
  have hown : s.vm.findClass y.cls = some m.cls := findClass_of_methodNamed B.named
  have hl := lv_entry [.ref r] (n := maxL) hl0
  have hin : meth.name = "<init>" := ((name_of_methodNamed B.named B.method).1).trans hyn
  have e1 : gL 1 (fun _ => r) (fun _ => x) = [(r, x)] := rfl
  rw [lg_entry_eq]
  exact body p e s m below meth c _ B.exec B.bytes B.returns B.notSynchronized hml hown hin (fun w hw => hts w (List.mem_cons_of_mem _ hw)) hK (by rw [e1]; exact hP) (by rw [e1]; exact hD.self) va_S.rf (fun q h => Or.inr (by rw [← hsz]; exact h)) hl
set_option maxHeartbeats 8000000 in
set_option maxRecDepth 200000 in
theorem c_X8_init (l : Launch) (dC : Nat → ClassId) (dI : Nat → Nat → Nat) (P : gP) (r sz : Nat) : Met l yX8_init (Cond.code yX8_init cX8_init 2 none :: TB) rm_X8_init (glPc (dC, dI) vwCl (tyC P) (fun _ => gKM) [] (.inr (8, [.null, .null, .null, .int 0, .null, .null, .null, .int 0, .int 0, .int 0, .int 0, .int 0])) r sz) (gQm (dC, dI) vwCl P r sz) 6 1272 (va_A ([] ++ [(r, (.inr (8, [.null, .null, .null, .int 0, .null, .null, .null, .int 0, .int 0, .int 0, .int 0, .int 0])))]) sz) := by
  refine gm_start (by decide) rfl (by decide) (fun p e s m below meth c ls hx hb0 hr hlocks hml hown hin hts hK hP hD hS hA hl => ?_)
  have hown : s.vm.findClass RX8 = some m.cls := hown
  refine lv_aload_n hx hb0 dX8_init_0 rfl (lv_at hl 0 rfl) ?_
  refine W.objInit hx hb0 hown (hts _ ml_RX8_1) (hts _ im_Lib_objectInit) (hts _ co_Lib_objectInit) rfl (by rw [hml]; exact hl.1) rfl dX8_init_1 (Nat.le_of_ble_eq_true rfl) (Nat.le_of_ble_eq_true rfl) ?_
  refine W.eq (g2 := F0 m 4 ls []) rfl ?_
  refine lv_aload_n hx hb0 dX8_init_4 rfl (lv_at hl 0 rfl) ?_
  refine lv_bipush (v := 119) hx hb0 dX8_init_5 (by decide) ?_
  refine gl_newa (atype := .int) hx hb0 hts ac_int hK hP hD hS hA 0 rfl rfl 119 (by decide) (by decide) (Nat.le_of_ble_eq_true rfl) (Nat.le_of_ble_eq_true rfl) (Nat.le_of_ble_eq_true rfl) dX8_init_7 (fun q0 H hP hD hS => ?_)
  refine gl_putF hx hb0 hts in_RX8 tyX8 tyX8_ok nmX8 hown hK hP hD hS 0 (by decide) rfl rfl rfl 0 (by decide) fl_RX8_7 rfl hin rfl rfl rfl (Nat.le_of_ble_eq_true rfl) (fs' := [.ref q0, .null, .null, .int 0, .null, .null, .null, .int 0, .int 0, .int 0, .int 0, .int 0]) rfl dX8_init_9 (fun H locs hP hD hS => ?_)
  refine lv_aload_n hx hb0 dX8_init_12 rfl (lv_at hl 0 rfl) ?_
  refine lv_bipush (v := 119) hx hb0 dX8_init_13 (by decide) ?_
  refine gl_newa (atype := .int) hx hb0 hts ac_int hK hP hD hS hA 0 rfl rfl 119 (by decide) (by decide) (Nat.le_of_ble_eq_true rfl) (Nat.le_of_ble_eq_true rfl) (Nat.le_of_ble_eq_true rfl) dX8_init_15 (fun q1 H hP hD hS => ?_)
  refine gl_putF hx hb0 hts in_RX8 tyX8 tyX8_ok nmX8 hown hK hP hD hS 0 (by decide) rfl rfl rfl 1 (by decide) fl_RX8_13 rfl hin rfl rfl rfl (Nat.le_of_ble_eq_true rfl) (fs' := [.ref q0, .ref q1, .null, .int 0, .null, .null, .null, .int 0, .int 0, .int 0, .int 0, .int 0]) rfl dX8_init_17 (fun H locs hP hD hS => ?_)
  refine lv_aload_n hx hb0 dX8_init_20 rfl (lv_at hl 0 rfl) ?_
  refine lv_sipush (v := 714) hx hb0 dX8_init_21 (by decide) ?_
  refine gl_newa (atype := .int) hx hb0 hts ac_int hK hP hD hS hA 0 rfl rfl 714 (by decide) (by decide) (Nat.le_of_ble_eq_true rfl) (Nat.le_of_ble_eq_true rfl) (Nat.le_of_ble_eq_true rfl) dX8_init_24 (fun q2 H hP hD hS => ?_)
  refine gl_putF hx hb0 hts in_RX8 tyX8 tyX8_ok nmX8 hown hK hP hD hS 0 (by decide) rfl rfl rfl 2 (by decide) fl_RX8_16 rfl hin rfl rfl rfl (Nat.le_of_ble_eq_true rfl) (fs' := [.ref q0, .ref q1, .ref q2, .int 0, .null, .null, .null, .int 0, .int 0, .int 0, .int 0, .int 0]) rfl dX8_init_26 (fun H locs hP hD hS => ?_)
  refine lv_aload_n hx hb0 dX8_init_29 rfl (lv_at hl 0 rfl) ?_
  refine lv_sipush (v := 238) hx hb0 dX8_init_30 (by decide) ?_
  refine gl_newa (atype := .int) hx hb0 hts ac_int hK hP hD hS hA 0 rfl rfl 238 (by decide) (by decide) (Nat.le_of_ble_eq_true rfl) (Nat.le_of_ble_eq_true rfl) (Nat.le_of_ble_eq_true rfl) dX8_init_33 (fun q3 H hP hD hS => ?_)
  refine gl_putF hx hb0 hts in_RX8 tyX8 tyX8_ok nmX8 hown hK hP hD hS 0 (by decide) rfl rfl rfl 4 (by decide) fl_RX8_19 rfl hin rfl rfl rfl (Nat.le_of_ble_eq_true rfl) (fs' := [.ref q0, .ref q1, .ref q2, .int 0, .ref q3, .null, .null, .int 0, .int 0, .int 0, .int 0, .int 0]) rfl dX8_init_35 (fun H locs hP hD hS => ?_)
  refine lv_aload_n hx hb0 dX8_init_38 rfl (lv_at hl 0 rfl) ?_
  refine lv_iconst (v := 2) hx hb0 dX8_init_39 (by decide) ?_
  refine gl_newa (atype := .int) hx hb0 hts ac_int hK hP hD hS hA 0 rfl rfl 2 (by decide) (by decide) (Nat.le_of_ble_eq_true rfl) (Nat.le_of_ble_eq_true rfl) (Nat.le_of_ble_eq_true rfl) dX8_init_40 (fun q4 H hP hD hS => ?_)
  refine gl_putF hx hb0 hts in_RX8 tyX8 tyX8_ok nmX8 hown hK hP hD hS 0 (by decide) rfl rfl rfl 5 (by decide) fl_RX8_22 rfl hin rfl rfl rfl (Nat.le_of_ble_eq_true rfl) (fs' := [.ref q0, .ref q1, .ref q2, .int 0, .ref q3, .ref q4, .null, .int 0, .int 0, .int 0, .int 0, .int 0]) rfl dX8_init_42 (fun H locs hP hD hS => ?_)
  refine lv_aload_n hx hb0 dX8_init_45 rfl (lv_at hl 0 rfl) ?_
  refine lv_bipush (v := 80) hx hb0 dX8_init_46 (by decide) ?_
  refine gl_newa (atype := .int) hx hb0 hts ac_int hK hP hD hS hA 0 rfl rfl 80 (by decide) (by decide) (Nat.le_of_ble_eq_true rfl) (Nat.le_of_ble_eq_true rfl) (Nat.le_of_ble_eq_true rfl) dX8_init_48 (fun q5 H hP hD hS => ?_)
  refine gl_putF hx hb0 hts in_RX8 tyX8 tyX8_ok nmX8 hown hK hP hD hS 0 (by decide) rfl rfl rfl 6 (by decide) fl_RX8_25 rfl hin rfl rfl rfl (Nat.le_of_ble_eq_true rfl) (fs' := [.ref q0, .ref q1, .ref q2, .int 0, .ref q3, .ref q4, .ref q5, .int 0, .int 0, .int 0, .int 0, .int 0]) rfl dX8_init_50 (fun H locs hP hD hS => ?_)
  obtain ⟨ad, e0, hP1, hD1⟩ := gl_toW (E := fun ad => mE P ad) (h := hz0) rfl hP hD (lt_s (lt_s (lt_s (lt_s (lt_s (lt_s (lt_s lt_0 rfl) rfl) rfl) rfl) rfl) rfl) rfl)
  subst e0
  have hP := hP1
  have hD := hD1
  clear hP1 hD1
  refine lv_aload_n hx hb0 dX8_init_53 rfl (lv_at hl 0 rfl) ?_
  refine gx_get hx hb0 hts in_RX8 hown hK hP 0 (by decide) (mE_0 _) rfl 0 (by decide) fl_RX8_7 rfl dX8_init_54 ?_
  refine lv_iconst (v := 0) hx hb0 dX8_init_57 (by decide) ?_
  refine lv_iconst (v := 4) hx hb0 dX8_init_58 (by decide) ?_
  refine gx_iastK hx hb0 hK hP hD hS 1 0 (by decide) mE_1 rfl (vp_lit 0 (by decide) (by decide)) 0 rfl dX8_init_59 (fun h9 e9 H locs hP9 hD9 hS => ?_)
  have hP := hP9
  rw [show h9 = hz1 from e9] at hP
  have hD := hD9
  rw [show h9 = hz1 from e9] at hD
  refine lv_aload_n hx hb0 dX8_init_60 rfl (lv_at hl 0 rfl) ?_
  refine gx_get hx hb0 hts in_RX8 hown hK hP 0 (by decide) (mE_0 _) rfl 0 (by decide) fl_RX8_7 rfl dX8_init_61 ?_
  refine lv_iconst (v := 1) hx hb0 dX8_init_64 (by decide) ?_
  refine lv_bipush (v := 6) hx hb0 dX8_init_65 (by decide) ?_
  refine gx_iastK hx hb0 hK hP hD hS 1 0 (by decide) mE_1 rfl (vp_lit 1 (by decide) (by decide)) 1 rfl dX8_init_67 (fun h9 e9 H locs hP9 hD9 hS => ?_)
  have hP := hP9
  rw [show h9 = hz2 from e9] at hP
  have hD := hD9
  rw [show h9 = hz2 from e9] at hD
  refine lv_aload_n hx hb0 dX8_init_68 rfl (lv_at hl 0 rfl) ?_
  refine gx_get hx hb0 hts in_RX8 hown hK hP 0 (by decide) (mE_0 _) rfl 0 (by decide) fl_RX8_7 rfl dX8_init_69 ?_
  refine lv_iconst (v := 2) hx hb0 dX8_init_72 (by decide) ?_
  refine lv_bipush (v := 60) hx hb0 dX8_init_73 (by decide) ?_
  refine gx_iastK hx hb0 hK hP hD hS 1 0 (by decide) mE_1 rfl (vp_lit 2 (by decide) (by decide)) 2 rfl dX8_init_75 (fun h9 e9 H locs hP9 hD9 hS => ?_)
  have hP := hP9
  rw [show h9 = hz3 from e9] at hP
  have hD := hD9
  rw [show h9 = hz3 from e9] at hD
  refine lv_aload_n hx hb0 dX8_init_76 rfl (lv_at hl 0 rfl) ?_
  refine gx_get hx hb0 hts in_RX8 hown hK hP 0 (by decide) (mE_0 _) rfl 0 (by decide) fl_RX8_7 rfl dX8_init_77 ?_
  refine lv_iconst (v := 3) hx hb0 dX8_init_80 (by decide) ?_
  refine lv_sipush (v := 300) hx hb0 dX8_init_81 (by decide) ?_
  refine gx_iastK hx hb0 hK hP hD hS 1 0 (by decide) mE_1 rfl (vp_lit 3 (by decide) (by decide)) 3 rfl dX8_init_84 (fun h9 e9 H locs hP9 hD9 hS => ?_)
  have hP := hP9
  rw [show h9 = hz4 from e9] at hP
  have hD := hD9
  rw [show h9 = hz4 from e9] at hD
  refine lv_iconst (v := 0) hx hb0 dX8_init_85 (by decide) ?_
  refine lv_istore_n (lv' := [(1, .int (0 : Int32)), (0, .ref (ad 0))]) hx hb0 dX8_init_86 rfl hl (by decide) rfl (fun ls hl => ?_)
  refine lv_iload_n hx hb0 dX8_init_87 rfl (lv_at hl 0 rfl) ?_
  refine lv_bipush (v := 7) hx hb0 dX8_init_88 (by decide) ?_
  refine lv_icmp_ge (tgt := 113) hx hb0 dX8_init_90 (by decide) (fun c9 => absurd c9 (by decide)) (fun c9 => ?_)
  refine lv_aload_n hx hb0 dX8_init_93 rfl (lv_at hl 1 rfl) ?_
  refine lv_iload_n hx hb0 dX8_init_94 rfl (lv_at hl 0 rfl) ?_
  refine lv_iconst (v := 0) hx hb0 dX8_init_95 (by decide) ?_
  refine lv_iconst (v := 5) hx hb0 dX8_init_96 (by decide) ?_
  refine ga_vv ⟨hx, hb0, hml, hown, hts⟩ (gKM_keep _) (fun _ _ _ => trivial) hK hP hD hS 0 [.int (0 : Int32), .int (0 : Int32), .int (5 : Int32)] [] (c_X8_setOf l dC dI P ad 0 0 5 hz4 (fun h9 => h9 = hz5) ⟨vp_lit _ (by decide) (by decide), fun _ e9 => e9⟩) gm_X8_setOf im_yX8_setOf se_yX8_setOf ml_RX8_28 (by decide) (mE_0 _) rfl rfl rfl ⟨Nat.le_of_ble_eq_true rfl, Nat.le_of_ble_eq_true rfl⟩ rfl hl.1 rfl (Nat.le_of_ble_eq_true rfl) dX8_init_97 ⟨Nat.le_of_ble_eq_true rfl, Nat.le_of_ble_eq_true rfl⟩ (fun h9 e9 H locs hP hD hS => ?_)
  subst e9
  refine lv_aload_n hx hb0 dX8_init_100 rfl (lv_at hl 1 rfl) ?_
  refine lv_iload_n hx hb0 dX8_init_101 rfl (lv_at hl 0 rfl) ?_
  refine lv_iconst (v := 2) hx hb0 dX8_init_102 (by decide) ?_
  refine lv_iconst (v := 1) hx hb0 dX8_init_103 (by decide) ?_
  refine ga_vv ⟨hx, hb0, hml, hown, hts⟩ (gKM_keep _) (fun _ _ _ => trivial) hK hP hD hS 0 [.int (0 : Int32), .int (2 : Int32), .int (1 : Int32)] [] (c_X8_setOf l dC dI P ad 0 2 1 hz5 (fun h9 => h9 = hz6) ⟨vp_lit _ (by decide) (by decide), fun _ e9 => e9⟩) gm_X8_setOf im_yX8_setOf se_yX8_setOf ml_RX8_28 (by decide) (mE_0 _) rfl rfl rfl ⟨Nat.le_of_ble_eq_true rfl, Nat.le_of_ble_eq_true rfl⟩ rfl hl.1 rfl (Nat.le_of_ble_eq_true rfl) dX8_init_104 ⟨Nat.le_of_ble_eq_true rfl, Nat.le_of_ble_eq_true rfl⟩ (fun h9 e9 H locs hP hD hS => ?_)
  subst e9
  refine lv_iinc (v := 1) (lv' := [(1, .int (1 : Int32)), (0, .ref (ad 0))]) hx hb0 dX8_init_107 hl (k := 0) rfl (by decide) (by decide) rfl (fun ls hl => ?_)
  refine lv_goto (tgt := 87) hx hb0 dX8_init_110 (by decide) ?_
  refine lv_iload_n hx hb0 dX8_init_87 rfl (lv_at hl 0 rfl) ?_
  refine lv_bipush (v := 7) hx hb0 dX8_init_88 (by decide) ?_
  refine lv_icmp_ge (tgt := 113) hx hb0 dX8_init_90 (by decide) (fun c9 => absurd c9 (by decide)) (fun c9 => ?_)
  refine lv_aload_n hx hb0 dX8_init_93 rfl (lv_at hl 1 rfl) ?_
  refine lv_iload_n hx hb0 dX8_init_94 rfl (lv_at hl 0 rfl) ?_
  refine lv_iconst (v := 0) hx hb0 dX8_init_95 (by decide) ?_
  refine lv_iconst (v := 5) hx hb0 dX8_init_96 (by decide) ?_
  refine ga_vv ⟨hx, hb0, hml, hown, hts⟩ (gKM_keep _) (fun _ _ _ => trivial) hK hP hD hS 0 [.int (1 : Int32), .int (0 : Int32), .int (5 : Int32)] [] (c_X8_setOf l dC dI P ad 1 0 5 hz6 (fun h9 => h9 = hz7) ⟨vp_lit _ (by decide) (by decide), fun _ e9 => e9⟩) gm_X8_setOf im_yX8_setOf se_yX8_setOf ml_RX8_28 (by decide) (mE_0 _) rfl rfl rfl ⟨Nat.le_of_ble_eq_true rfl, Nat.le_of_ble_eq_true rfl⟩ rfl hl.1 rfl (Nat.le_of_ble_eq_true rfl) dX8_init_97 ⟨Nat.le_of_ble_eq_true rfl, Nat.le_of_ble_eq_true rfl⟩ (fun h9 e9 H locs hP hD hS => ?_)
  subst e9
  refine lv_aload_n hx hb0 dX8_init_100 rfl (lv_at hl 1 rfl) ?_
  refine lv_iload_n hx hb0 dX8_init_101 rfl (lv_at hl 0 rfl) ?_
  refine lv_iconst (v := 2) hx hb0 dX8_init_102 (by decide) ?_
  refine lv_iconst (v := 1) hx hb0 dX8_init_103 (by decide) ?_
  refine ga_vv ⟨hx, hb0, hml, hown, hts⟩ (gKM_keep _) (fun _ _ _ => trivial) hK hP hD hS 0 [.int (1 : Int32), .int (2 : Int32), .int (1 : Int32)] [] (c_X8_setOf l dC dI P ad 1 2 1 hz7 (fun h9 => h9 = hz8) ⟨vp_lit _ (by decide) (by decide), fun _ e9 => e9⟩) gm_X8_setOf im_yX8_setOf se_yX8_setOf ml_RX8_28 (by decide) (mE_0 _) rfl rfl rfl ⟨Nat.le_of_ble_eq_true rfl, Nat.le_of_ble_eq_true rfl⟩ rfl hl.1 rfl (Nat.le_of_ble_eq_true rfl) dX8_init_104 ⟨Nat.le_of_ble_eq_true rfl, Nat.le_of_ble_eq_true rfl⟩ (fun h9 e9 H locs hP hD hS => ?_)
  subst e9
  refine lv_iinc (v := 2) (lv' := [(1, .int (2 : Int32)), (0, .ref (ad 0))]) hx hb0 dX8_init_107 hl (k := 0) rfl (by decide) (by decide) rfl (fun ls hl => ?_)
  refine lv_goto (tgt := 87) hx hb0 dX8_init_110 (by decide) ?_
  refine lv_iload_n hx hb0 dX8_init_87 rfl (lv_at hl 0 rfl) ?_
  refine lv_bipush (v := 7) hx hb0 dX8_init_88 (by decide) ?_
  refine lv_icmp_ge (tgt := 113) hx hb0 dX8_init_90 (by decide) (fun c9 => absurd c9 (by decide)) (fun c9 => ?_)
  refine lv_aload_n hx hb0 dX8_init_93 rfl (lv_at hl 1 rfl) ?_
  refine lv_iload_n hx hb0 dX8_init_94 rfl (lv_at hl 0 rfl) ?_
  refine lv_iconst (v := 0) hx hb0 dX8_init_95 (by decide) ?_
  refine lv_iconst (v := 5) hx hb0 dX8_init_96 (by decide) ?_
  refine ga_vv ⟨hx, hb0, hml, hown, hts⟩ (gKM_keep _) (fun _ _ _ => trivial) hK hP hD hS 0 [.int (2 : Int32), .int (0 : Int32), .int (5 : Int32)] [] (c_X8_setOf l dC dI P ad 2 0 5 hz8 (fun h9 => h9 = hz9) ⟨vp_lit _ (by decide) (by decide), fun _ e9 => e9⟩) gm_X8_setOf im_yX8_setOf se_yX8_setOf ml_RX8_28 (by decide) (mE_0 _) rfl rfl rfl ⟨Nat.le_of_ble_eq_true rfl, Nat.le_of_ble_eq_true rfl⟩ rfl hl.1 rfl (Nat.le_of_ble_eq_true rfl) dX8_init_97 ⟨Nat.le_of_ble_eq_true rfl, Nat.le_of_ble_eq_true rfl⟩ (fun h9 e9 H locs hP hD hS => ?_)
  subst e9
  refine lv_aload_n hx hb0 dX8_init_100 rfl (lv_at hl 1 rfl) ?_
  refine lv_iload_n hx hb0 dX8_init_101 rfl (lv_at hl 0 rfl) ?_
  refine lv_iconst (v := 2) hx hb0 dX8_init_102 (by decide) ?_
  refine lv_iconst (v := 1) hx hb0 dX8_init_103 (by decide) ?_
  refine ga_vv ⟨hx, hb0, hml, hown, hts⟩ (gKM_keep _) (fun _ _ _ => trivial) hK hP hD hS 0 [.int (2 : Int32), .int (2 : Int32), .int (1 : Int32)] [] (c_X8_setOf l dC dI P ad 2 2 1 hz9 (fun h9 => h9 = hz10) ⟨vp_lit _ (by decide) (by decide), fun _ e9 => e9⟩) gm_X8_setOf im_yX8_setOf se_yX8_setOf ml_RX8_28 (by decide) (mE_0 _) rfl rfl rfl ⟨Nat.le_of_ble_eq_true rfl, Nat.le_of_ble_eq_true rfl⟩ rfl hl.1 rfl (Nat.le_of_ble_eq_true rfl) dX8_init_104 ⟨Nat.le_of_ble_eq_true rfl, Nat.le_of_ble_eq_true rfl⟩ (fun h9 e9 H locs hP hD hS => ?_)
  subst e9
  refine lv_iinc (v := 3) (lv' := [(1, .int (3 : Int32)), (0, .ref (ad 0))]) hx hb0 dX8_init_107 hl (k := 0) rfl (by decide) (by decide) rfl (fun ls hl => ?_)
  refine lv_goto (tgt := 87) hx hb0 dX8_init_110 (by decide) ?_
  refine lv_iload_n hx hb0 dX8_init_87 rfl (lv_at hl 0 rfl) ?_
  refine lv_bipush (v := 7) hx hb0 dX8_init_88 (by decide) ?_
  refine lv_icmp_ge (tgt := 113) hx hb0 dX8_init_90 (by decide) (fun c9 => absurd c9 (by decide)) (fun c9 => ?_)
  refine lv_aload_n hx hb0 dX8_init_93 rfl (lv_at hl 1 rfl) ?_
  refine lv_iload_n hx hb0 dX8_init_94 rfl (lv_at hl 0 rfl) ?_
  refine lv_iconst (v := 0) hx hb0 dX8_init_95 (by decide) ?_
  refine lv_iconst (v := 5) hx hb0 dX8_init_96 (by decide) ?_
  refine ga_vv ⟨hx, hb0, hml, hown, hts⟩ (gKM_keep _) (fun _ _ _ => trivial) hK hP hD hS 0 [.int (3 : Int32), .int (0 : Int32), .int (5 : Int32)] [] (c_X8_setOf l dC dI P ad 3 0 5 hz10 (fun h9 => h9 = hz11) ⟨vp_lit _ (by decide) (by decide), fun _ e9 => e9⟩) gm_X8_setOf im_yX8_setOf se_yX8_setOf ml_RX8_28 (by decide) (mE_0 _) rfl rfl rfl ⟨Nat.le_of_ble_eq_true rfl, Nat.le_of_ble_eq_true rfl⟩ rfl hl.1 rfl (Nat.le_of_ble_eq_true rfl) dX8_init_97 ⟨Nat.le_of_ble_eq_true rfl, Nat.le_of_ble_eq_true rfl⟩ (fun h9 e9 H locs hP hD hS => ?_)
  subst e9
  refine lv_aload_n hx hb0 dX8_init_100 rfl (lv_at hl 1 rfl) ?_
  refine lv_iload_n hx hb0 dX8_init_101 rfl (lv_at hl 0 rfl) ?_
  refine lv_iconst (v := 2) hx hb0 dX8_init_102 (by decide) ?_
  refine lv_iconst (v := 1) hx hb0 dX8_init_103 (by decide) ?_
  refine ga_vv ⟨hx, hb0, hml, hown, hts⟩ (gKM_keep _) (fun _ _ _ => trivial) hK hP hD hS 0 [.int (3 : Int32), .int (2 : Int32), .int (1 : Int32)] [] (c_X8_setOf l dC dI P ad 3 2 1 hz11 (fun h9 => h9 = hz12) ⟨vp_lit _ (by decide) (by decide), fun _ e9 => e9⟩) gm_X8_setOf im_yX8_setOf se_yX8_setOf ml_RX8_28 (by decide) (mE_0 _) rfl rfl rfl ⟨Nat.le_of_ble_eq_true rfl, Nat.le_of_ble_eq_true rfl⟩ rfl hl.1 rfl (Nat.le_of_ble_eq_true rfl) dX8_init_104 ⟨Nat.le_of_ble_eq_true rfl, Nat.le_of_ble_eq_true rfl⟩ (fun h9 e9 H locs hP hD hS => ?_)
  subst e9
  refine lv_iinc (v := 4) (lv' := [(1, .int (4 : Int32)), (0, .ref (ad 0))]) hx hb0 dX8_init_107 hl (k := 0) rfl (by decide) (by decide) rfl (fun ls hl => ?_)
  refine lv_goto (tgt := 87) hx hb0 dX8_init_110 (by decide) ?_
  refine lv_iload_n hx hb0 dX8_init_87 rfl (lv_at hl 0 rfl) ?_
  refine lv_bipush (v := 7) hx hb0 dX8_init_88 (by decide) ?_
  refine lv_icmp_ge (tgt := 113) hx hb0 dX8_init_90 (by decide) (fun c9 => absurd c9 (by decide)) (fun c9 => ?_)
  refine lv_aload_n hx hb0 dX8_init_93 rfl (lv_at hl 1 rfl) ?_
  refine lv_iload_n hx hb0 dX8_init_94 rfl (lv_at hl 0 rfl) ?_
  refine lv_iconst (v := 0) hx hb0 dX8_init_95 (by decide) ?_
  refine lv_iconst (v := 5) hx hb0 dX8_init_96 (by decide) ?_
  refine ga_vv ⟨hx, hb0, hml, hown, hts⟩ (gKM_keep _) (fun _ _ _ => trivial) hK hP hD hS 0 [.int (4 : Int32), .int (0 : Int32), .int (5 : Int32)] [] (c_X8_setOf l dC dI P ad 4 0 5 hz12 (fun h9 => h9 = hz13) ⟨vp_lit _ (by decide) (by decide), fun _ e9 => e9⟩) gm_X8_setOf im_yX8_setOf se_yX8_setOf ml_RX8_28 (by decide) (mE_0 _) rfl rfl rfl ⟨Nat.le_of_ble_eq_true rfl, Nat.le_of_ble_eq_true rfl⟩ rfl hl.1 rfl (Nat.le_of_ble_eq_true rfl) dX8_init_97 ⟨Nat.le_of_ble_eq_true rfl, Nat.le_of_ble_eq_true rfl⟩ (fun h9 e9 H locs hP hD hS => ?_)
  subst e9
  refine lv_aload_n hx hb0 dX8_init_100 rfl (lv_at hl 1 rfl) ?_
  refine lv_iload_n hx hb0 dX8_init_101 rfl (lv_at hl 0 rfl) ?_
  refine lv_iconst (v := 2) hx hb0 dX8_init_102 (by decide) ?_
  refine lv_iconst (v := 1) hx hb0 dX8_init_103 (by decide) ?_
  refine ga_vv ⟨hx, hb0, hml, hown, hts⟩ (gKM_keep _) (fun _ _ _ => trivial) hK hP hD hS 0 [.int (4 : Int32), .int (2 : Int32), .int (1 : Int32)] [] (c_X8_setOf l dC dI P ad 4 2 1 hz13 (fun h9 => h9 = hz14) ⟨vp_lit _ (by decide) (by decide), fun _ e9 => e9⟩) gm_X8_setOf im_yX8_setOf se_yX8_setOf ml_RX8_28 (by decide) (mE_0 _) rfl rfl rfl ⟨Nat.le_of_ble_eq_true rfl, Nat.le_of_ble_eq_true rfl⟩ rfl hl.1 rfl (Nat.le_of_ble_eq_true rfl) dX8_init_104 ⟨Nat.le_of_ble_eq_true rfl, Nat.le_of_ble_eq_true rfl⟩ (fun h9 e9 H locs hP hD hS => ?_)
  subst e9
  refine lv_iinc (v := 5) (lv' := [(1, .int (5 : Int32)), (0, .ref (ad 0))]) hx hb0 dX8_init_107 hl (k := 0) rfl (by decide) (by decide) rfl (fun ls hl => ?_)
  refine lv_goto (tgt := 87) hx hb0 dX8_init_110 (by decide) ?_
  refine lv_iload_n hx hb0 dX8_init_87 rfl (lv_at hl 0 rfl) ?_
  refine lv_bipush (v := 7) hx hb0 dX8_init_88 (by decide) ?_
  refine lv_icmp_ge (tgt := 113) hx hb0 dX8_init_90 (by decide) (fun c9 => absurd c9 (by decide)) (fun c9 => ?_)
  refine lv_aload_n hx hb0 dX8_init_93 rfl (lv_at hl 1 rfl) ?_
  refine lv_iload_n hx hb0 dX8_init_94 rfl (lv_at hl 0 rfl) ?_
  refine lv_iconst (v := 0) hx hb0 dX8_init_95 (by decide) ?_
  refine lv_iconst (v := 5) hx hb0 dX8_init_96 (by decide) ?_
  refine ga_vv ⟨hx, hb0, hml, hown, hts⟩ (gKM_keep _) (fun _ _ _ => trivial) hK hP hD hS 0 [.int (5 : Int32), .int (0 : Int32), .int (5 : Int32)] [] (c_X8_setOf l dC dI P ad 5 0 5 hz14 (fun h9 => h9 = hz15) ⟨vp_lit _ (by decide) (by decide), fun _ e9 => e9⟩) gm_X8_setOf im_yX8_setOf se_yX8_setOf ml_RX8_28 (by decide) (mE_0 _) rfl rfl rfl ⟨Nat.le_of_ble_eq_true rfl, Nat.le_of_ble_eq_true rfl⟩ rfl hl.1 rfl (Nat.le_of_ble_eq_true rfl) dX8_init_97 ⟨Nat.le_of_ble_eq_true rfl, Nat.le_of_ble_eq_true rfl⟩ (fun h9 e9 H locs hP hD hS => ?_)
  subst e9
  refine lv_aload_n hx hb0 dX8_init_100 rfl (lv_at hl 1 rfl) ?_
  refine lv_iload_n hx hb0 dX8_init_101 rfl (lv_at hl 0 rfl) ?_
  refine lv_iconst (v := 2) hx hb0 dX8_init_102 (by decide) ?_
  refine lv_iconst (v := 1) hx hb0 dX8_init_103 (by decide) ?_
  refine ga_vv ⟨hx, hb0, hml, hown, hts⟩ (gKM_keep _) (fun _ _ _ => trivial) hK hP hD hS 0 [.int (5 : Int32), .int (2 : Int32), .int (1 : Int32)] [] (c_X8_setOf l dC dI P ad 5 2 1 hz15 (fun h9 => h9 = hz16) ⟨vp_lit _ (by decide) (by decide), fun _ e9 => e9⟩) gm_X8_setOf im_yX8_setOf se_yX8_setOf ml_RX8_28 (by decide) (mE_0 _) rfl rfl rfl ⟨Nat.le_of_ble_eq_true rfl, Nat.le_of_ble_eq_true rfl⟩ rfl hl.1 rfl (Nat.le_of_ble_eq_true rfl) dX8_init_104 ⟨Nat.le_of_ble_eq_true rfl, Nat.le_of_ble_eq_true rfl⟩ (fun h9 e9 H locs hP hD hS => ?_)
  subst e9
  refine lv_iinc (v := 6) (lv' := [(1, .int (6 : Int32)), (0, .ref (ad 0))]) hx hb0 dX8_init_107 hl (k := 0) rfl (by decide) (by decide) rfl (fun ls hl => ?_)
  refine lv_goto (tgt := 87) hx hb0 dX8_init_110 (by decide) ?_
  refine lv_iload_n hx hb0 dX8_init_87 rfl (lv_at hl 0 rfl) ?_
  refine lv_bipush (v := 7) hx hb0 dX8_init_88 (by decide) ?_
  refine lv_icmp_ge (tgt := 113) hx hb0 dX8_init_90 (by decide) (fun c9 => absurd c9 (by decide)) (fun c9 => ?_)
  refine lv_aload_n hx hb0 dX8_init_93 rfl (lv_at hl 1 rfl) ?_
  refine lv_iload_n hx hb0 dX8_init_94 rfl (lv_at hl 0 rfl) ?_
  refine lv_iconst (v := 0) hx hb0 dX8_init_95 (by decide) ?_
  refine lv_iconst (v := 5) hx hb0 dX8_init_96 (by decide) ?_
  refine ga_vv ⟨hx, hb0, hml, hown, hts⟩ (gKM_keep _) (fun _ _ _ => trivial) hK hP hD hS 0 [.int (6 : Int32), .int (0 : Int32), .int (5 : Int32)] [] (c_X8_setOf l dC dI P ad 6 0 5 hz16 (fun h9 => h9 = hz17) ⟨vp_lit _ (by decide) (by decide), fun _ e9 => e9⟩) gm_X8_setOf im_yX8_setOf se_yX8_setOf ml_RX8_28 (by decide) (mE_0 _) rfl rfl rfl ⟨Nat.le_of_ble_eq_true rfl, Nat.le_of_ble_eq_true rfl⟩ rfl hl.1 rfl (Nat.le_of_ble_eq_true rfl) dX8_init_97 ⟨Nat.le_of_ble_eq_true rfl, Nat.le_of_ble_eq_true rfl⟩ (fun h9 e9 H locs hP hD hS => ?_)
  subst e9
  refine lv_aload_n hx hb0 dX8_init_100 rfl (lv_at hl 1 rfl) ?_
  refine lv_iload_n hx hb0 dX8_init_101 rfl (lv_at hl 0 rfl) ?_
  refine lv_iconst (v := 2) hx hb0 dX8_init_102 (by decide) ?_
  refine lv_iconst (v := 1) hx hb0 dX8_init_103 (by decide) ?_
  refine ga_vv ⟨hx, hb0, hml, hown, hts⟩ (gKM_keep _) (fun _ _ _ => trivial) hK hP hD hS 0 [.int (6 : Int32), .int (2 : Int32), .int (1 : Int32)] [] (c_X8_setOf l dC dI P ad 6 2 1 hz17 (fun h9 => h9 = hz18) ⟨vp_lit _ (by decide) (by decide), fun _ e9 => e9⟩) gm_X8_setOf im_yX8_setOf se_yX8_setOf ml_RX8_28 (by decide) (mE_0 _) rfl rfl rfl ⟨Nat.le_of_ble_eq_true rfl, Nat.le_of_ble_eq_true rfl⟩ rfl hl.1 rfl (Nat.le_of_ble_eq_true rfl) dX8_init_104 ⟨Nat.le_of_ble_eq_true rfl, Nat.le_of_ble_eq_true rfl⟩ (fun h9 e9 H locs hP hD hS => ?_)
  subst e9
  refine lv_iinc (v := 7) (lv' := [(1, .int (7 : Int32)), (0, .ref (ad 0))]) hx hb0 dX8_init_107 hl (k := 0) rfl (by decide) (by decide) rfl (fun ls hl => ?_)
  refine lv_goto (tgt := 87) hx hb0 dX8_init_110 (by decide) ?_
  refine lv_iload_n hx hb0 dX8_init_87 rfl (lv_at hl 0 rfl) ?_
  refine lv_bipush (v := 7) hx hb0 dX8_init_88 (by decide) ?_
  refine lv_icmp_ge (tgt := 113) hx hb0 dX8_init_90 (by decide) (fun c9 => ?_) (fun c9 => absurd (by decide) c9)
  refine W.widen (k := 6) (n := 1272) (Nat.le_of_ble_eq_true rfl) (Nat.le_of_ble_eq_true rfl) ?_
  exact W.vret hx hb0 hr (fun t ht hW => ⟨⟨ad, rfl, rfl, by rw [ht]; exact hP, hD⟩, hS.F ht⟩) hS.2.2 dX8_init_113 hlocks
