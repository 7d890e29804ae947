section
variable {p : Program} {l : Launch} {e : Env} {s : State} {m : MethodId} {args : Array Value} {below : List Frame} {meth : Method} {c : Code} {Q : State → Prop} {A : Nat → Prop} {D : va_G} {cI cB cL cK : ClassId}
/-! X0 clear()V -/
abbrev rmX0_clear : Room := { frames := 1, cells := 0, slots := 0, locals := 20 }
theorem hdX0_clear : yX0_clear.cls = RX0 ∧ yX0_clear.cls ≠ "java/lang/invoke/MethodHandle" ∧ yX0_clear.cls ≠ "java/lang/invoke/VarHandle" ∧ (parseMethodDescriptor yX0_clear.desc).map (fun d => d.parameters.length) = some 0 := by decide +kernel
theorem inX0_clear_X0 : ∀ w ∈ u_ws RX0 TX0 7, w ∈ wsX0_clear := by decide +kernel
theorem cwX0_clear_X3_clear {s : State} {args : Array Value} (hts : ∀ w ∈ wsX0_clear, w.before args s = true) : CallW rmX0_clear s args RX0 RX3 33 yX3_clear cX3_clear 1 none wsX3_clear rmX3_clear 0 0 0 := cwV 0 hts gX0_clear_X3_clear rfl rfl rfl hdX3_clear ⟨Nat.le_of_ble_eq_true rfl, Nat.le_of_ble_eq_true rfl⟩
theorem flX0_clear_14 : Fl wsX0_clear RX0 14 0 0 := ⟨_, _, _, rfl, by decide, inX0_clear_X0, by decide +kernel⟩
theorem flX0_clear_20 : Fl wsX0_clear RX0 20 0 1 := ⟨_, _, _, rfl, by decide, inX0_clear_X0, by decide +kernel⟩
theorem flX0_clear_23 : Fl wsX0_clear RX0 23 0 2 := ⟨_, _, _, rfl, by decide, inX0_clear_X0, by decide +kernel⟩
theorem flX0_clear_26 : Fl wsX0_clear RX0 26 0 3 := ⟨_, _, _, rfl, by decide, inX0_clear_X0, by decide +kernel⟩
theorem fpX0_clear_29 : Fp wsX0_clear RX0 29 0 4 false .int := ⟨_, _, _, tyX0, rfl, by decide, inX0_clear_X0, by decide +kernel, tyX0_ok, nmX0, rfl, rfl, by decide +kernel⟩
theorem fpX0_clear_36 : Fp wsX0_clear RX0 36 0 5 false .int := ⟨_, _, _, tyX0, rfl, by decide, inX0_clear_X0, by decide +kernel, tyX0_ok, nmX0, rfl, rfl, by decide +kernel⟩
theorem fpX0_clear_39 : Fp wsX0_clear RX0 39 0 6 false .int := ⟨_, _, _, tyX0, rfl, by decide, inX0_clear_X0, by decide +kernel, tyX0_ok, nmX0, rfl, rfl, by decide +kernel⟩
set_option maxRecDepth 100000 in
set_option maxHeartbeats 4000000 in
theorem kX0_clear {l : Launch} {D : va_G} {cI cB cL cK : ClassId} {ad : Nat → Nat} {ho : Int32} {td : Int32} {pd : Int32} {sr : Int32} {dr : Int32} {ir : Int32} {qr : Int32} {sf : Nat → Int32} {df : Nat → Int32} {jf : Nat → Int32} {qf : Nat → Int32}  {ho' : Int32} {td' : Int32} {pd' : Int32} {sr' : Int32} {dr' : Int32} {ir' : Int32} {qr' : Int32} (hm : mX0_clear ho td pd sr dr ir qr = some (ho', td', pd', sr', dr', ir', qr')) : Mu l D cI cB cL cK yX0_clear wsX0_clear rmX0_clear [.ref (ad 0)] (wB cI ad ho td pd sr dr ir qr sf df jf qf) (wB cI ad ho' td' pd' sr' dr' ir' qr' sf df jf qf) none 0 0 := by
  refine Mu.ofv (cc := cX0_clear) (own := RX0) (by decide) rfl rfl (Nat.le_of_ble_eq_true rfl) (fun p e s m below meth c ls Q A C _ hA hP hD hS hl hret => ?_)
  obtain ⟨hx, hb, hr, hml, hown, hts, hlk, hK⟩ := id C
  have hcf : CallFix p m c cX0_clear 1 s _ wsX0_clear RX0 := ⟨hx, hb, hml, hown, hts⟩
  have hl : lv_has ls 1 [(0, .ref (ad 0))] := hl
  unfold mX0_clear at hm
  refine lv_aload_n hx hb dX0_clear_0 rfl (lv_at hl 0 rfl) ?_
  refine gf (q0 := 0) hx hb hts hown hK flX0_clear_14 hP rfl rfl dX0_clear_1 ?_
  obtain ⟨sr1, h_2, hm⟩ := b1_s hm
  refine mu_vv hcf (kX3_clear h_2) (cwX0_clear_X3_clear hts) hK hP hD hS hA jB_s (ci := 3) (q0 := 1) rfl rfl rfl hl.1 rfl (Nat.le_of_ble_eq_true rfl) dX0_clear_4 ⟨Nat.zero_le _, Nat.zero_le _⟩ (fun H locs hP hD hS => ?_)
  refine lv_aload_n hx hb dX0_clear_7 rfl (lv_at hl 0 rfl) ?_
  refine gf (q0 := 0) hx hb hts hown hK flX0_clear_20 hP rfl rfl dX0_clear_8 ?_
  obtain ⟨dr3, h_4, hm⟩ := b1_s hm
  refine mu_vv hcf (kX3_clear h_4) (cwX0_clear_X3_clear hts) hK hP hD hS hA jB_d (ci := 3) (q0 := 3) rfl rfl rfl hl.1 rfl (Nat.le_of_ble_eq_true rfl) dX0_clear_11 ⟨Nat.zero_le _, Nat.zero_le _⟩ (fun H locs hP hD hS => ?_)
  refine lv_aload_n hx hb dX0_clear_14 rfl (lv_at hl 0 rfl) ?_
  refine gf (q0 := 0) hx hb hts hown hK flX0_clear_23 hP rfl rfl dX0_clear_15 ?_
  obtain ⟨ir5, h_6, hm⟩ := b1_s hm
  refine mu_vv hcf (kX3_clear h_6) (cwX0_clear_X3_clear hts) hK hP hD hS hA jB_j (ci := 3) (q0 := 5) rfl rfl rfl hl.1 rfl (Nat.le_of_ble_eq_true rfl) dX0_clear_18 ⟨Nat.zero_le _, Nat.zero_le _⟩ (fun H locs hP hD hS => ?_)
  refine lv_aload_n hx hb dX0_clear_21 rfl (lv_at hl 0 rfl) ?_
  refine gf (q0 := 0) hx hb hts hown hK flX0_clear_26 hP rfl rfl dX0_clear_22 ?_
  obtain ⟨qr7, h_8, hm⟩ := b1_s hm
  refine mu_vv hcf (kX3_clear h_8) (cwX0_clear_X3_clear hts) hK hP hD hS hA jB_q (ci := 3) (q0 := 7) rfl rfl rfl hl.1 rfl (Nat.le_of_ble_eq_true rfl) dX0_clear_25 ⟨Nat.zero_le _, Nat.zero_le _⟩ (fun H locs hP hD hS => ?_)
  refine lv_aload_n hx hb dX0_clear_28 rfl (lv_at hl 0 rfl) ?_
  refine lv_iconst (v := 1) hx hb dX0_clear_29 (by decide) ?_
  refine pf (q0 := 0) (X' := (wB cI ad 1 td pd sr1 dr3 ir5 qr7 sf df jf qf)) hx hb hts hown hK fpX0_clear_29 hP hD hS rfl rfl rfl (Nat.le_of_ble_eq_true rfl) rfl dX0_clear_30 (fun H locs hP hD hS => ?_)
  refine lv_aload_n hx hb dX0_clear_33 rfl (lv_at hl 0 rfl) ?_
  refine lv_iconst (v := 0) hx hb dX0_clear_34 (by decide) ?_
  refine pf (q0 := 0) (X' := (wB cI ad 1 0 pd sr1 dr3 ir5 qr7 sf df jf qf)) hx hb hts hown hK fpX0_clear_36 hP hD hS rfl rfl rfl (Nat.le_of_ble_eq_true rfl) rfl dX0_clear_35 (fun H locs hP hD hS => ?_)
  refine lv_aload_n hx hb dX0_clear_38 rfl (lv_at hl 0 rfl) ?_
  refine lv_iconst (v := 0) hx hb dX0_clear_39 (by decide) ?_
  refine pf (q0 := 0) (X' := (wB cI ad 1 0 0 sr1 dr3 ir5 qr7 sf df jf qf)) hx hb hts hown hK fpX0_clear_39 hP hD hS rfl rfl rfl (Nat.le_of_ble_eq_true rfl) rfl dX0_clear_40 (fun H locs hP hD hS => ?_)
  cases hm
  exact hret _ _ _ _ dX0_clear_43 hP hD hS
/-! X0 copyFrom(LDunningHouse$Book;)V -/
abbrev rmX0_copyFrom : Room := { frames := 2, cells := 0, slots := 0, locals := 82 }
theorem hdX0_copyFrom : yX0_copyFrom.cls = RX0 ∧ yX0_copyFrom.cls ≠ "java/lang/invoke/MethodHandle" ∧ yX0_copyFrom.cls ≠ "java/lang/invoke/VarHandle" ∧ (parseMethodDescriptor yX0_copyFrom.desc).map (fun d => d.parameters.length) = some 1 := by decide +kernel
theorem inX0_copyFrom_X0 : ∀ w ∈ u_ws RX0 TX0 7, w ∈ wsX0_copyFrom := by decide +kernel
theorem cwX0_copyFrom_X3_copyFrom {s : State} {args : Array Value} (hts : ∀ w ∈ wsX0_copyFrom, w.before args s = true) : CallW rmX0_copyFrom s args RX0 RX3 42 yX3_copyFrom cX3_copyFrom 3 none wsX3_copyFrom rmX3_copyFrom 0 0 1 := cwV 1 hts gX0_copyFrom_X3_copyFrom rfl rfl rfl hdX3_copyFrom ⟨Nat.le_of_ble_eq_true rfl, Nat.le_of_ble_eq_true rfl⟩
theorem flX0_copyFrom_14 : Fl wsX0_copyFrom RX0 14 0 0 := ⟨_, _, _, rfl, by decide, inX0_copyFrom_X0, by decide +kernel⟩
theorem flX0_copyFrom_20 : Fl wsX0_copyFrom RX0 20 0 1 := ⟨_, _, _, rfl, by decide, inX0_copyFrom_X0, by decide +kernel⟩
theorem flX0_copyFrom_23 : Fl wsX0_copyFrom RX0 23 0 2 := ⟨_, _, _, rfl, by decide, inX0_copyFrom_X0, by decide +kernel⟩
theorem flX0_copyFrom_26 : Fl wsX0_copyFrom RX0 26 0 3 := ⟨_, _, _, rfl, by decide, inX0_copyFrom_X0, by decide +kernel⟩
theorem flX0_copyFrom_29 : Fl wsX0_copyFrom RX0 29 0 4 := ⟨_, _, _, rfl, by decide, inX0_copyFrom_X0, by decide +kernel⟩
theorem flX0_copyFrom_36 : Fl wsX0_copyFrom RX0 36 0 5 := ⟨_, _, _, rfl, by decide, inX0_copyFrom_X0, by decide +kernel⟩
theorem flX0_copyFrom_39 : Fl wsX0_copyFrom RX0 39 0 6 := ⟨_, _, _, rfl, by decide, inX0_copyFrom_X0, by decide +kernel⟩
theorem fpX0_copyFrom_29 : Fp wsX0_copyFrom RX0 29 0 4 false .int := ⟨_, _, _, tyX0, rfl, by decide, inX0_copyFrom_X0, by decide +kernel, tyX0_ok, nmX0, rfl, rfl, by decide +kernel⟩
theorem fpX0_copyFrom_36 : Fp wsX0_copyFrom RX0 36 0 5 false .int := ⟨_, _, _, tyX0, rfl, by decide, inX0_copyFrom_X0, by decide +kernel, tyX0_ok, nmX0, rfl, rfl, by decide +kernel⟩
theorem fpX0_copyFrom_39 : Fp wsX0_copyFrom RX0 39 0 6 false .int := ⟨_, _, _, tyX0, rfl, by decide, inX0_copyFrom_X0, by decide +kernel, tyX0_ok, nmX0, rfl, rfl, by decide +kernel⟩
set_option maxRecDepth 100000 in
set_option maxHeartbeats 4000000 in
theorem kX0_copyFrom {l : Launch} {D : va_G} {cI cB cL cK : ClassId} {ad : Nat → Nat} {ae : Nat → Nat} {ho : Int32} {td : Int32} {pd : Int32} {sr : Int32} {dr : Int32} {ir : Int32} {qr : Int32} {sf : Nat → Int32} {df : Nat → Int32} {jf : Nat → Int32} {qf : Nat → Int32} {oho : Int32} {otd : Int32} {opd : Int32} {osr : Int32} {odr : Int32} {oir : Int32} {oqr : Int32} {osf : Nat → Int32} {odf : Nat → Int32} {ojf : Nat → Int32} {oqf : Nat → Int32}  {ho' : Int32} {td' : Int32} {pd' : Int32} {sr' : Int32} {dr' : Int32} {ir' : Int32} {qr' : Int32} {sf' : Nat → Int32} {df' : Nat → Int32} {jf' : Nat → Int32} {qf' : Nat → Int32} (hm : mX0_copyFrom ho td pd sr dr ir qr sf df jf qf oho otd opd osr odr oir oqr osf odf ojf oqf = some (ho', td', pd', sr', dr', ir', qr', sf', df', jf', qf')) : Mu l D cI cB cL cK yX0_copyFrom wsX0_copyFrom rmX0_copyFrom [.ref (ad 0), .ref (ae 0)] (wBB cI ad ae ho td pd sr dr ir qr sf df jf qf oho otd opd osr odr oir oqr osf odf ojf oqf) (wBB cI ad ae ho' td' pd' sr' dr' ir' qr' sf' df' jf' qf' oho otd opd osr odr oir oqr osf odf ojf oqf) none 0 0 := by
  refine Mu.ofv (cc := cX0_copyFrom) (own := RX0) (by decide) rfl rfl (Nat.le_of_ble_eq_true rfl) (fun p e s m below meth c ls Q A C _ hA hP hD hS hl hret => ?_)
  obtain ⟨hx, hb, hr, hml, hown, hts, hlk, hK⟩ := id C
  have hcf : CallFix p m c cX0_copyFrom 2 s _ wsX0_copyFrom RX0 := ⟨hx, hb, hml, hown, hts⟩
  have hl : lv_has ls 2 [(0, .ref (ad 0)), (1, .ref (ae 0))] := hl
  unfold mX0_copyFrom at hm
  refine lv_aload_n hx hb dX0_copyFrom_0 rfl (lv_at hl 0 rfl) ?_
  refine gf (q0 := 0) hx hb hts hown hK flX0_copyFrom_14 hP rfl rfl dX0_copyFrom_1 ?_
  refine lv_aload_n hx hb dX0_copyFrom_4 rfl (lv_at hl 1 rfl) ?_
  refine gf (q0 := 9) hx hb hts hown hK flX0_copyFrom_14 hP rfl rfl dX0_copyFrom_5 ?_
  obtain ⟨sr1, sf2, h_3, hm⟩ := b2_s hm
  refine mu_vv hcf (kX3_copyFrom h_3) (cwX0_copyFrom_X3_copyFrom hts) hK hP hD hS hA jBB_s (ci := 3) (q0 := 1) rfl rfl rfl hl.1 rfl (Nat.le_of_ble_eq_true rfl) dX0_copyFrom_8 ⟨Nat.zero_le _, Nat.zero_le _⟩ (fun H locs hP hD hS => ?_)
  refine lv_aload_n hx hb dX0_copyFrom_11 rfl (lv_at hl 0 rfl) ?_
  refine gf (q0 := 0) hx hb hts hown hK flX0_copyFrom_20 hP rfl rfl dX0_copyFrom_12 ?_
  refine lv_aload_n hx hb dX0_copyFrom_15 rfl (lv_at hl 1 rfl) ?_
  refine gf (q0 := 9) hx hb hts hown hK flX0_copyFrom_20 hP rfl rfl dX0_copyFrom_16 ?_
  obtain ⟨dr4, df5, h_6, hm⟩ := b2_s hm
  refine mu_vv hcf (kX3_copyFrom h_6) (cwX0_copyFrom_X3_copyFrom hts) hK hP hD hS hA jBB_d (ci := 3) (q0 := 3) rfl rfl rfl hl.1 rfl (Nat.le_of_ble_eq_true rfl) dX0_copyFrom_19 ⟨Nat.zero_le _, Nat.zero_le _⟩ (fun H locs hP hD hS => ?_)
  refine lv_aload_n hx hb dX0_copyFrom_22 rfl (lv_at hl 0 rfl) ?_
  refine gf (q0 := 0) hx hb hts hown hK flX0_copyFrom_23 hP rfl rfl dX0_copyFrom_23 ?_
  refine lv_aload_n hx hb dX0_copyFrom_26 rfl (lv_at hl 1 rfl) ?_
  refine gf (q0 := 9) hx hb hts hown hK flX0_copyFrom_23 hP rfl rfl dX0_copyFrom_27 ?_
  obtain ⟨ir7, jf8, h_9, hm⟩ := b2_s hm
  refine mu_vv hcf (kX3_copyFrom h_9) (cwX0_copyFrom_X3_copyFrom hts) hK hP hD hS hA jBB_j (ci := 3) (q0 := 5) rfl rfl rfl hl.1 rfl (Nat.le_of_ble_eq_true rfl) dX0_copyFrom_30 ⟨Nat.zero_le _, Nat.zero_le _⟩ (fun H locs hP hD hS => ?_)
  refine lv_aload_n hx hb dX0_copyFrom_33 rfl (lv_at hl 0 rfl) ?_
  refine gf (q0 := 0) hx hb hts hown hK flX0_copyFrom_26 hP rfl rfl dX0_copyFrom_34 ?_
  refine lv_aload_n hx hb dX0_copyFrom_37 rfl (lv_at hl 1 rfl) ?_
  refine gf (q0 := 9) hx hb hts hown hK flX0_copyFrom_26 hP rfl rfl dX0_copyFrom_38 ?_
  obtain ⟨qr10, qf11, h_12, hm⟩ := b2_s hm
  refine mu_vv hcf (kX3_copyFrom h_12) (cwX0_copyFrom_X3_copyFrom hts) hK hP hD hS hA jBB_q (ci := 3) (q0 := 7) rfl rfl rfl hl.1 rfl (Nat.le_of_ble_eq_true rfl) dX0_copyFrom_41 ⟨Nat.zero_le _, Nat.zero_le _⟩ (fun H locs hP hD hS => ?_)
  refine lv_aload_n hx hb dX0_copyFrom_44 rfl (lv_at hl 0 rfl) ?_
  refine lv_aload_n hx hb dX0_copyFrom_45 rfl (lv_at hl 1 rfl) ?_
  refine gf (q0 := 9) hx hb hts hown hK flX0_copyFrom_29 hP rfl rfl dX0_copyFrom_46 ?_
  refine pf (q0 := 0) (X' := (wBB cI ad ae oho td pd sr1 dr4 ir7 qr10 sf2 df5 jf8 qf11 oho otd opd osr odr oir oqr osf odf ojf oqf)) hx hb hts hown hK fpX0_copyFrom_29 hP hD hS rfl rfl rfl (Nat.le_of_ble_eq_true rfl) rfl dX0_copyFrom_49 (fun H locs hP hD hS => ?_)
  refine lv_aload_n hx hb dX0_copyFrom_52 rfl (lv_at hl 0 rfl) ?_
  refine lv_aload_n hx hb dX0_copyFrom_53 rfl (lv_at hl 1 rfl) ?_
  refine gf (q0 := 9) hx hb hts hown hK flX0_copyFrom_36 hP rfl rfl dX0_copyFrom_54 ?_
  refine pf (q0 := 0) (X' := (wBB cI ad ae oho otd pd sr1 dr4 ir7 qr10 sf2 df5 jf8 qf11 oho otd opd osr odr oir oqr osf odf ojf oqf)) hx hb hts hown hK fpX0_copyFrom_36 hP hD hS rfl rfl rfl (Nat.le_of_ble_eq_true rfl) rfl dX0_copyFrom_57 (fun H locs hP hD hS => ?_)
  refine lv_aload_n hx hb dX0_copyFrom_60 rfl (lv_at hl 0 rfl) ?_
  refine lv_aload_n hx hb dX0_copyFrom_61 rfl (lv_at hl 1 rfl) ?_
  refine gf (q0 := 9) hx hb hts hown hK flX0_copyFrom_39 hP rfl rfl dX0_copyFrom_62 ?_
  refine pf (q0 := 0) (X' := (wBB cI ad ae oho otd opd sr1 dr4 ir7 qr10 sf2 df5 jf8 qf11 oho otd opd osr odr oir oqr osf odf ojf oqf)) hx hb hts hown hK fpX0_copyFrom_39 hP hD hS rfl rfl rfl (Nat.le_of_ble_eq_true rfl) rfl dX0_copyFrom_65 (fun H locs hP hD hS => ?_)
  cases hm
  exact hret _ _ _ _ dX0_copyFrom_68 hP hD hS
/-! X0 addStep(III)V -/
abbrev rmX0_addStep : Room := { frames := 2, cells := 0, slots := 0, locals := 46 }
theorem hdX0_addStep : yX0_addStep.cls = RX0 ∧ yX0_addStep.cls ≠ "java/lang/invoke/MethodHandle" ∧ yX0_addStep.cls ≠ "java/lang/invoke/VarHandle" ∧ (parseMethodDescriptor yX0_addStep.desc).map (fun d => d.parameters.length) = some 3 := by decide +kernel
theorem inX0_addStep_X0 : ∀ w ∈ u_ws RX0 TX0 7, w ∈ wsX0_addStep := by decide +kernel
theorem cwX0_addStep_X3_add {s : State} {args : Array Value} (hts : ∀ w ∈ wsX0_addStep, w.before args s = true) : CallW rmX0_addStep s args RX0 RX3 46 yX3_add cX3_add 3 (some .int) wsX3_add rmX3_add 0 0 0 := cwV 0 hts gX0_addStep_X3_add rfl rfl rfl hdX3_add ⟨Nat.le_of_ble_eq_true rfl, Nat.le_of_ble_eq_true rfl⟩
theorem cwX0_addStep_X3_set {s : State} {args : Array Value} (hts : ∀ w ∈ wsX0_addStep, w.before args s = true) : CallW rmX0_addStep s args RX0 RX3 50 yX3_set cX3_set 5 none wsX3_set rmX3_set 0 0 3 := cwV 3 hts gX0_addStep_X3_set rfl rfl rfl hdX3_set ⟨Nat.le_of_ble_eq_true rfl, Nat.le_of_ble_eq_true rfl⟩
theorem flX0_addStep_14 : Fl wsX0_addStep RX0 14 0 0 := ⟨_, _, _, rfl, by decide, inX0_addStep_X0, by decide +kernel⟩
set_option maxRecDepth 100000 in
set_option maxHeartbeats 4000000 in
theorem kX0_addStep {l : Launch} {D : va_G} {cI cB cL cK : ClassId} {ad : Nat → Nat} {ho : Int32} {td : Int32} {pd : Int32} {sr : Int32} {dr : Int32} {ir : Int32} {qr : Int32} {sf : Nat → Int32} {df : Nat → Int32} {jf : Nat → Int32} {qf : Nat → Int32} {p1 : Int32} {p2 : Int32} {p3 : Int32} {sr' : Int32} {sf' : Nat → Int32} (hm : mX0_addStep sr sf p1 p2 p3 = some (sr', sf')) : Mu l D cI cB cL cK yX0_addStep wsX0_addStep rmX0_addStep [.ref (ad 0), .int p1, .int p2, .int p3] (wB cI ad ho td pd sr dr ir qr sf df jf qf) (wB cI ad ho td pd sr' dr ir qr sf' df jf qf) none 0 0 := by
  refine Mu.ofv (cc := cX0_addStep) (own := RX0) (by decide) rfl rfl (Nat.le_of_ble_eq_true rfl) (fun p e s m below meth c ls Q A C _ hA hP hD hS hl hret => ?_)
  obtain ⟨hx, hb, hr, hml, hown, hts, hlk, hK⟩ := id C
  have hcf : CallFix p m c cX0_addStep 5 s _ wsX0_addStep RX0 := ⟨hx, hb, hml, hown, hts⟩
  have hl : lv_has ls 5 [(0, .ref (ad 0)), (1, .int p1), (2, .int p2), (3, .int p3)] := hl
  unfold mX0_addStep at hm
  refine lv_aload_n hx hb dX0_addStep_0 rfl (lv_at hl 0 rfl) ?_
  refine gf (q0 := 0) hx hb hts hown hK flX0_addStep_14 hP rfl rfl dX0_addStep_1 ?_
  obtain ⟨v1, sr2, sf3, h_4, hm⟩ := b3_s hm
  refine mu_vi hcf (kX3_add h_4) (cwX0_addStep_X3_add hts) hK hP hD hS hA jB_s (ci := 3) (q0 := 1) rfl rfl rfl hl.1 rfl (Nat.le_of_ble_eq_true rfl) dX0_addStep_4 ⟨Nat.zero_le _, Nat.zero_le _⟩ (fun H locs hP hD hS => ?_)
  refine lv_istore (lv' := [(4, .int v1), (0, .ref (ad 0)), (1, .int p1), (2, .int p2), (3, .int p3)]) hx hb dX0_addStep_7 hl (by decide) rfl (fun ls hl => ?_)
  refine lv_aload_n hx hb dX0_addStep_9 rfl (lv_at hl 1 rfl) ?_
  refine gf (q0 := 0) hx hb hts hown hK flX0_addStep_14 hP rfl rfl dX0_addStep_10 ?_
  refine lv_iload hx hb dX0_addStep_13 (lv_at hl 0 rfl) ?_
  refine lv_iconst (v := 0) hx hb dX0_addStep_15 (by decide) ?_
  refine lv_iload_n hx hb dX0_addStep_16 rfl (lv_at hl 2 rfl) ?_
  obtain ⟨sf5, h_6, hm⟩ := b1_s hm
  refine mu_vv hcf (kX3_set h_6) (cwX0_addStep_X3_set hts) hK hP hD hS hA jB_s (ci := 3) (q0 := 1) rfl rfl rfl hl.1 rfl (Nat.le_of_ble_eq_true rfl) dX0_addStep_17 ⟨Nat.zero_le _, Nat.zero_le _⟩ (fun H locs hP hD hS => ?_)
  refine lv_aload_n hx hb dX0_addStep_20 rfl (lv_at hl 1 rfl) ?_
  refine gf (q0 := 0) hx hb hts hown hK flX0_addStep_14 hP rfl rfl dX0_addStep_21 ?_
  refine lv_iload hx hb dX0_addStep_24 (lv_at hl 0 rfl) ?_
  refine lv_iconst (v := 1) hx hb dX0_addStep_26 (by decide) ?_
  refine lv_iload_n hx hb dX0_addStep_27 rfl (lv_at hl 3 rfl) ?_
  obtain ⟨sf7, h_8, hm⟩ := b1_s hm
  refine mu_vv hcf (kX3_set h_8) (cwX0_addStep_X3_set hts) hK hP hD hS hA jB_s (ci := 3) (q0 := 1) rfl rfl rfl hl.1 rfl (Nat.le_of_ble_eq_true rfl) dX0_addStep_28 ⟨Nat.zero_le _, Nat.zero_le _⟩ (fun H locs hP hD hS => ?_)
  refine lv_aload_n hx hb dX0_addStep_31 rfl (lv_at hl 1 rfl) ?_
  refine gf (q0 := 0) hx hb hts hown hK flX0_addStep_14 hP rfl rfl dX0_addStep_32 ?_
  refine lv_iload hx hb dX0_addStep_35 (lv_at hl 0 rfl) ?_
  refine lv_iconst (v := 2) hx hb dX0_addStep_37 (by decide) ?_
  refine lv_iload_n hx hb dX0_addStep_38 rfl (lv_at hl 4 rfl) ?_
  obtain ⟨sf9, h_10, hm⟩ := b1_s hm
  refine mu_vv hcf (kX3_set h_10) (cwX0_addStep_X3_set hts) hK hP hD hS hA jB_s (ci := 3) (q0 := 1) rfl rfl rfl hl.1 rfl (Nat.le_of_ble_eq_true rfl) dX0_addStep_39 ⟨Nat.zero_le _, Nat.zero_le _⟩ (fun H locs hP hD hS => ?_)
  cases hm
  exact hret _ _ _ _ dX0_addStep_42 hP hD hS
/-! X0 addDebtor(II)V -/
abbrev rmX0_addDebtor : Room := { frames := 2, cells := 0, slots := 0, locals := 46 }
theorem hdX0_addDebtor : yX0_addDebtor.cls = RX0 ∧ yX0_addDebtor.cls ≠ "java/lang/invoke/MethodHandle" ∧ yX0_addDebtor.cls ≠ "java/lang/invoke/VarHandle" ∧ (parseMethodDescriptor yX0_addDebtor.desc).map (fun d => d.parameters.length) = some 2 := by decide +kernel
theorem inX0_addDebtor_X0 : ∀ w ∈ u_ws RX0 TX0 7, w ∈ wsX0_addDebtor := by decide +kernel
theorem cwX0_addDebtor_X3_add {s : State} {args : Array Value} (hts : ∀ w ∈ wsX0_addDebtor, w.before args s = true) : CallW rmX0_addDebtor s args RX0 RX3 46 yX3_add cX3_add 3 (some .int) wsX3_add rmX3_add 0 0 0 := cwV 0 hts gX0_addDebtor_X3_add rfl rfl rfl hdX3_add ⟨Nat.le_of_ble_eq_true rfl, Nat.le_of_ble_eq_true rfl⟩
theorem cwX0_addDebtor_X3_set {s : State} {args : Array Value} (hts : ∀ w ∈ wsX0_addDebtor, w.before args s = true) : CallW rmX0_addDebtor s args RX0 RX3 50 yX3_set cX3_set 5 none wsX3_set rmX3_set 0 0 3 := cwV 3 hts gX0_addDebtor_X3_set rfl rfl rfl hdX3_set ⟨Nat.le_of_ble_eq_true rfl, Nat.le_of_ble_eq_true rfl⟩
theorem flX0_addDebtor_20 : Fl wsX0_addDebtor RX0 20 0 1 := ⟨_, _, _, rfl, by decide, inX0_addDebtor_X0, by decide +kernel⟩
set_option maxRecDepth 100000 in
set_option maxHeartbeats 4000000 in
theorem kX0_addDebtor {l : Launch} {D : va_G} {cI cB cL cK : ClassId} {ad : Nat → Nat} {ho : Int32} {td : Int32} {pd : Int32} {sr : Int32} {dr : Int32} {ir : Int32} {qr : Int32} {sf : Nat → Int32} {df : Nat → Int32} {jf : Nat → Int32} {qf : Nat → Int32} {p1 : Int32} {p2 : Int32} {dr' : Int32} {df' : Nat → Int32} (hm : mX0_addDebtor dr df p1 p2 = some (dr', df')) : Mu l D cI cB cL cK yX0_addDebtor wsX0_addDebtor rmX0_addDebtor [.ref (ad 0), .int p1, .int p2] (wB cI ad ho td pd sr dr ir qr sf df jf qf) (wB cI ad ho td pd sr dr' ir qr sf df' jf qf) none 0 0 := by
  refine Mu.ofv (cc := cX0_addDebtor) (own := RX0) (by decide) rfl rfl (Nat.le_of_ble_eq_true rfl) (fun p e s m below meth c ls Q A C _ hA hP hD hS hl hret => ?_)
  obtain ⟨hx, hb, hr, hml, hown, hts, hlk, hK⟩ := id C
  have hcf : CallFix p m c cX0_addDebtor 4 s _ wsX0_addDebtor RX0 := ⟨hx, hb, hml, hown, hts⟩
  have hl : lv_has ls 4 [(0, .ref (ad 0)), (1, .int p1), (2, .int p2)] := hl
  unfold mX0_addDebtor at hm
  refine lv_aload_n hx hb dX0_addDebtor_0 rfl (lv_at hl 0 rfl) ?_
  refine gf (q0 := 0) hx hb hts hown hK flX0_addDebtor_20 hP rfl rfl dX0_addDebtor_1 ?_
  obtain ⟨v1, dr2, df3, h_4, hm⟩ := b3_s hm
  refine mu_vi hcf (kX3_add h_4) (cwX0_addDebtor_X3_add hts) hK hP hD hS hA jB_d (ci := 3) (q0 := 3) rfl rfl rfl hl.1 rfl (Nat.le_of_ble_eq_true rfl) dX0_addDebtor_4 ⟨Nat.zero_le _, Nat.zero_le _⟩ (fun H locs hP hD hS => ?_)
  refine lv_istore_n (lv' := [(3, .int v1), (0, .ref (ad 0)), (1, .int p1), (2, .int p2)]) hx hb dX0_addDebtor_7 rfl hl (by decide) rfl (fun ls hl => ?_)
  refine lv_aload_n hx hb dX0_addDebtor_8 rfl (lv_at hl 1 rfl) ?_
  refine gf (q0 := 0) hx hb hts hown hK flX0_addDebtor_20 hP rfl rfl dX0_addDebtor_9 ?_
  refine lv_iload_n hx hb dX0_addDebtor_12 rfl (lv_at hl 0 rfl) ?_
  refine lv_iconst (v := 0) hx hb dX0_addDebtor_13 (by decide) ?_
  refine lv_iload_n hx hb dX0_addDebtor_14 rfl (lv_at hl 2 rfl) ?_
  obtain ⟨df5, h_6, hm⟩ := b1_s hm
  refine mu_vv hcf (kX3_set h_6) (cwX0_addDebtor_X3_set hts) hK hP hD hS hA jB_d (ci := 3) (q0 := 3) rfl rfl rfl hl.1 rfl (Nat.le_of_ble_eq_true rfl) dX0_addDebtor_15 ⟨Nat.zero_le _, Nat.zero_le _⟩ (fun H locs hP hD hS => ?_)
  refine lv_aload_n hx hb dX0_addDebtor_18 rfl (lv_at hl 1 rfl) ?_
  refine gf (q0 := 0) hx hb hts hown hK flX0_addDebtor_20 hP rfl rfl dX0_addDebtor_19 ?_
  refine lv_iload_n hx hb dX0_addDebtor_22 rfl (lv_at hl 0 rfl) ?_
  refine lv_iconst (v := 1) hx hb dX0_addDebtor_23 (by decide) ?_
  refine lv_iload_n hx hb dX0_addDebtor_24 rfl (lv_at hl 3 rfl) ?_
  obtain ⟨df7, h_8, hm⟩ := b1_s hm
  refine mu_vv hcf (kX3_set h_8) (cwX0_addDebtor_X3_set hts) hK hP hD hS hA jB_d (ci := 3) (q0 := 3) rfl rfl rfl hl.1 rfl (Nat.le_of_ble_eq_true rfl) dX0_addDebtor_25 ⟨Nat.zero_le _, Nat.zero_le _⟩ (fun H locs hP hD hS => ?_)
  cases hm
  exact hret _ _ _ _ dX0_addDebtor_28 hP hD hS
/-! X0 addInvoice(IIII)I -/
abbrev rmX0_addInvoice : Room := { frames := 2, cells := 0, slots := 0, locals := 46 }
theorem hdX0_addInvoice : yX0_addInvoice.cls = RX0 ∧ yX0_addInvoice.cls ≠ "java/lang/invoke/MethodHandle" ∧ yX0_addInvoice.cls ≠ "java/lang/invoke/VarHandle" ∧ (parseMethodDescriptor yX0_addInvoice.desc).map (fun d => d.parameters.length) = some 4 := by decide +kernel
theorem inX0_addInvoice_X0 : ∀ w ∈ u_ws RX0 TX0 7, w ∈ wsX0_addInvoice := by decide +kernel
theorem cwX0_addInvoice_X3_add {s : State} {args : Array Value} (hts : ∀ w ∈ wsX0_addInvoice, w.before args s = true) : CallW rmX0_addInvoice s args RX0 RX3 46 yX3_add cX3_add 3 (some .int) wsX3_add rmX3_add 0 0 0 := cwV 0 hts gX0_addInvoice_X3_add rfl rfl rfl hdX3_add ⟨Nat.le_of_ble_eq_true rfl, Nat.le_of_ble_eq_true rfl⟩
theorem cwX0_addInvoice_X3_set {s : State} {args : Array Value} (hts : ∀ w ∈ wsX0_addInvoice, w.before args s = true) : CallW rmX0_addInvoice s args RX0 RX3 50 yX3_set cX3_set 5 none wsX3_set rmX3_set 0 0 3 := cwV 3 hts gX0_addInvoice_X3_set rfl rfl rfl hdX3_set ⟨Nat.le_of_ble_eq_true rfl, Nat.le_of_ble_eq_true rfl⟩
theorem flX0_addInvoice_23 : Fl wsX0_addInvoice RX0 23 0 2 := ⟨_, _, _, rfl, by decide, inX0_addInvoice_X0, by decide +kernel⟩
set_option maxRecDepth 100000 in
set_option maxHeartbeats 4000000 in
theorem kX0_addInvoice {l : Launch} {D : va_G} {cI cB cL cK : ClassId} {ad : Nat → Nat} {ho : Int32} {td : Int32} {pd : Int32} {sr : Int32} {dr : Int32} {ir : Int32} {qr : Int32} {sf : Nat → Int32} {df : Nat → Int32} {jf : Nat → Int32} {qf : Nat → Int32} {p1 : Int32} {p2 : Int32} {p3 : Int32} {p4 : Int32} {res : Int32} {ir' : Int32} {jf' : Nat → Int32} (hm : mX0_addInvoice ir jf p1 p2 p3 p4 = some (res, ir', jf')) : Mu l D cI cB cL cK yX0_addInvoice wsX0_addInvoice rmX0_addInvoice [.ref (ad 0), .int p1, .int p2, .int p3, .int p4] (wB cI ad ho td pd sr dr ir qr sf df jf qf) (wB cI ad ho td pd sr dr ir' qr sf df jf' qf) (some (.int res)) 0 0 := by
  refine Mu.ofi (cc := cX0_addInvoice) (own := RX0) (by decide) rfl rfl (Nat.le_of_ble_eq_true rfl) (fun p e s m below meth c ls Q A C hA hP hD hS hl hret => ?_)
  obtain ⟨hx, hb, hr, hml, hown, hts, hlk, hK⟩ := id C
  have hcf : CallFix p m c cX0_addInvoice 6 s _ wsX0_addInvoice RX0 := ⟨hx, hb, hml, hown, hts⟩
  have hl : lv_has ls 6 [(0, .ref (ad 0)), (1, .int p1), (2, .int p2), (3, .int p3), (4, .int p4)] := hl
  unfold mX0_addInvoice at hm
  refine lv_aload_n hx hb dX0_addInvoice_0 rfl (lv_at hl 0 rfl) ?_
  refine gf (q0 := 0) hx hb hts hown hK flX0_addInvoice_23 hP rfl rfl dX0_addInvoice_1 ?_
  obtain ⟨v1, ir2, jf3, h_4, hm⟩ := b3_s hm
  refine mu_vi hcf (kX3_add h_4) (cwX0_addInvoice_X3_add hts) hK hP hD hS hA jB_j (ci := 3) (q0 := 5) rfl rfl rfl hl.1 rfl (Nat.le_of_ble_eq_true rfl) dX0_addInvoice_4 ⟨Nat.zero_le _, Nat.zero_le _⟩ (fun H locs hP hD hS => ?_)
  refine lv_istore (lv' := [(5, .int v1), (0, .ref (ad 0)), (1, .int p1), (2, .int p2), (3, .int p3), (4, .int p4)]) hx hb dX0_addInvoice_7 hl (by decide) rfl (fun ls hl => ?_)
  refine lv_aload_n hx hb dX0_addInvoice_9 rfl (lv_at hl 1 rfl) ?_
  refine gf (q0 := 0) hx hb hts hown hK flX0_addInvoice_23 hP rfl rfl dX0_addInvoice_10 ?_
  refine lv_iload hx hb dX0_addInvoice_13 (lv_at hl 0 rfl) ?_
  refine lv_iconst (v := 0) hx hb dX0_addInvoice_15 (by decide) ?_
  refine lv_iload_n hx hb dX0_addInvoice_16 rfl (lv_at hl 2 rfl) ?_
  obtain ⟨jf5, h_6, hm⟩ := b1_s hm
  refine mu_vv hcf (kX3_set h_6) (cwX0_addInvoice_X3_set hts) hK hP hD hS hA jB_j (ci := 3) (q0 := 5) rfl rfl rfl hl.1 rfl (Nat.le_of_ble_eq_true rfl) dX0_addInvoice_17 ⟨Nat.zero_le _, Nat.zero_le _⟩ (fun H locs hP hD hS => ?_)
  refine lv_aload_n hx hb dX0_addInvoice_20 rfl (lv_at hl 1 rfl) ?_
  refine gf (q0 := 0) hx hb hts hown hK flX0_addInvoice_23 hP rfl rfl dX0_addInvoice_21 ?_
  refine lv_iload hx hb dX0_addInvoice_24 (lv_at hl 0 rfl) ?_
  refine lv_iconst (v := 1) hx hb dX0_addInvoice_26 (by decide) ?_
  refine lv_iload_n hx hb dX0_addInvoice_27 rfl (lv_at hl 3 rfl) ?_
  obtain ⟨jf7, h_8, hm⟩ := b1_s hm
  refine mu_vv hcf (kX3_set h_8) (cwX0_addInvoice_X3_set hts) hK hP hD hS hA jB_j (ci := 3) (q0 := 5) rfl rfl rfl hl.1 rfl (Nat.le_of_ble_eq_true rfl) dX0_addInvoice_28 ⟨Nat.zero_le _, Nat.zero_le _⟩ (fun H locs hP hD hS => ?_)
  refine lv_aload_n hx hb dX0_addInvoice_31 rfl (lv_at hl 1 rfl) ?_
  refine gf (q0 := 0) hx hb hts hown hK flX0_addInvoice_23 hP rfl rfl dX0_addInvoice_32 ?_
  refine lv_iload hx hb dX0_addInvoice_35 (lv_at hl 0 rfl) ?_
  refine lv_iconst (v := 2) hx hb dX0_addInvoice_37 (by decide) ?_
  refine lv_iload_n hx hb dX0_addInvoice_38 rfl (lv_at hl 3 rfl) ?_
  obtain ⟨jf9, h_10, hm⟩ := b1_s hm
  refine mu_vv hcf (kX3_set h_10) (cwX0_addInvoice_X3_set hts) hK hP hD hS hA jB_j (ci := 3) (q0 := 5) rfl rfl rfl hl.1 rfl (Nat.le_of_ble_eq_true rfl) dX0_addInvoice_39 ⟨Nat.zero_le _, Nat.zero_le _⟩ (fun H locs hP hD hS => ?_)
  refine lv_aload_n hx hb dX0_addInvoice_42 rfl (lv_at hl 1 rfl) ?_
  refine gf (q0 := 0) hx hb hts hown hK flX0_addInvoice_23 hP rfl rfl dX0_addInvoice_43 ?_
  refine lv_iload hx hb dX0_addInvoice_46 (lv_at hl 0 rfl) ?_
  refine lv_iconst (v := 3) hx hb dX0_addInvoice_48 (by decide) ?_
  refine lv_iload_n hx hb dX0_addInvoice_49 rfl (lv_at hl 4 rfl) ?_
  obtain ⟨jf11, h_12, hm⟩ := b1_s hm
  refine mu_vv hcf (kX3_set h_12) (cwX0_addInvoice_X3_set hts) hK hP hD hS hA jB_j (ci := 3) (q0 := 5) rfl rfl rfl hl.1 rfl (Nat.le_of_ble_eq_true rfl) dX0_addInvoice_50 ⟨Nat.zero_le _, Nat.zero_le _⟩ (fun H locs hP hD hS => ?_)
  refine lv_aload_n hx hb dX0_addInvoice_53 rfl (lv_at hl 1 rfl) ?_
  refine gf (q0 := 0) hx hb hts hown hK flX0_addInvoice_23 hP rfl rfl dX0_addInvoice_54 ?_
  refine lv_iload hx hb dX0_addInvoice_57 (lv_at hl 0 rfl) ?_
  refine lv_bipush (v := 6) hx hb dX0_addInvoice_59 (by decide) ?_
  refine lv_iload hx hb dX0_addInvoice_61 (lv_at hl 5 rfl) ?_
  obtain ⟨jf13, h_14, hm⟩ := b1_s hm
  refine mu_vv hcf (kX3_set h_14) (cwX0_addInvoice_X3_set hts) hK hP hD hS hA jB_j (ci := 3) (q0 := 5) rfl rfl rfl hl.1 rfl (Nat.le_of_ble_eq_true rfl) dX0_addInvoice_63 ⟨Nat.zero_le _, Nat.zero_le _⟩ (fun H locs hP hD hS => ?_)
  refine lv_iload hx hb dX0_addInvoice_66 (lv_at hl 0 rfl) ?_
  cases hm
  exact hret _ _ _ _ dX0_addInvoice_68 rfl hP hD hS
/-! X0 owes(I)I -/
abbrev rmX0_owes : Room := { frames := 1, cells := 0, slots := 0, locals := 23 }
theorem hdX0_owes : yX0_owes.cls = RX0 ∧ yX0_owes.cls ≠ "java/lang/invoke/MethodHandle" ∧ yX0_owes.cls ≠ "java/lang/invoke/VarHandle" ∧ (parseMethodDescriptor yX0_owes.desc).map (fun d => d.parameters.length) = some 1 := by decide +kernel
theorem inX0_owes_X0 : ∀ w ∈ u_ws RX0 TX0 7, w ∈ wsX0_owes := by decide +kernel
theorem cwX0_owes_X3_get {s : State} {args : Array Value} (hts : ∀ w ∈ wsX0_owes, w.before args s = true) : CallW rmX0_owes s args RX0 RX3 58 yX3_get cX3_get 4 (some .int) wsX3_get rmX3_get 0 0 2 := cwV 2 hts gX0_owes_X3_get rfl rfl rfl hdX3_get ⟨Nat.le_of_ble_eq_true rfl, Nat.le_of_ble_eq_true rfl⟩
theorem cwX0_owes_X3_size {s : State} {args : Array Value} (hts : ∀ w ∈ wsX0_owes, w.before args s = true) : CallW rmX0_owes s args RX0 RX3 83 yX3_size cX3_size 1 (some .int) wsX3_size rmX3_size 0 0 0 := cwV 0 hts gX0_owes_X3_size rfl rfl rfl hdX3_size ⟨Nat.le_of_ble_eq_true rfl, Nat.le_of_ble_eq_true rfl⟩
theorem flX0_owes_23 : Fl wsX0_owes RX0 23 0 2 := ⟨_, _, _, rfl, by decide, inX0_owes_X0, by decide +kernel⟩
set_option maxRecDepth 100000 in
set_option maxHeartbeats 4000000 in
theorem tX0_owes_L4 {ad : Nat → Nat} {ho : Int32} {td : Int32} {pd : Int32} {sr : Int32} {dr : Int32} {ir : Int32} {qr : Int32} {sf : Nat → Int32} {df : Nat → Int32} {jf : Nat → Int32} {qf : Nat → Int32} {res : Int32} (C : Cx p s m args meth c cX0_owes (some .int) 4 wsX0_owes RX0 D cI cB cL cK) (hP : va_P D vwCl (wB cI ad ho td pd sr dr ir qr sf df jf qf) s.heap) (hret : ∀ (pc : Nat) (ls : Array Slot), decode cX0_owes pc = .ok (.ireturn, 1) → narrow .int (.int res) = .int res → W p l e rmX0_owes s m args below meth c s.heap [] 0 0 Q (F0 m pc ls [.int res])) : ∀ (n9 : Nat) (x1 : Int32) (x2 : Int32) (x3 : Int32), mX0_owes_L4 n9 ir jf x1 x2 x3 = some res → ∀ (ls : Array Slot), lv_has ls 4 [(0, .ref (ad 0)), (1, .int x1), (2, .int x2), (3, .int x3)] → W p l e rmX0_owes s m args below meth c s.heap [] 0 0 Q (F0 m 4 ls []) := by
  obtain ⟨hx, hb, hr, hml, hown, hts, hlk, hK⟩ := id C
  have hcf : CallFix p m c cX0_owes 4 s args wsX0_owes RX0 := ⟨hx, hb, hml, hown, hts⟩
  intro n9
  induction n9 with
  | zero => intro x1 x2 x3 hm; cases hm
  | succ k ih =>
    intro x1 x2 x3 hm ls hl
    rw [mX0_owes_L4.eq_2] at hm
    refine lv_iload_n hx hb dX0_owes_4 rfl (lv_at hl 3 rfl) ?_
    refine lv_aload_n hx hb dX0_owes_5 rfl (lv_at hl 0 rfl) ?_
    refine gf (q0 := 0) hx hb hts hown hK flX0_owes_23 hP rfl rfl dX0_owes_6 ?_
    obtain ⟨v1, h_2, hm⟩ := b1_s hm
    refine rd_v hcf (kX3_size h_2) (cwX0_owes_X3_size hts) hK hP sB_j (ci := 3) (q0 := 5) rfl rfl rfl hl.1 rfl (Nat.le_of_ble_eq_true rfl) dX0_owes_9 ⟨Nat.zero_le _, Nat.zero_le _⟩ ?_
    refine lv_icmp_ge (tgt := 46) hx hb dX0_owes_12 (by decide) (fun c_3 => ?_) (fun c_3 => ?_)
    · replace hm := br_p hm c_3
      refine lv_iload_n hx hb dX0_owes_46 rfl (lv_at hl 2 rfl) ?_
      cases hm
      exact hret _ _ dX0_owes_47 rfl
    · replace hm := br_n hm c_3
      refine lv_aload_n hx hb dX0_owes_15 rfl (lv_at hl 0 rfl) ?_
      refine gf (q0 := 0) hx hb hts hown hK flX0_owes_23 hP rfl rfl dX0_owes_16 ?_
      refine lv_iload_n hx hb dX0_owes_19 rfl (lv_at hl 3 rfl) ?_
      refine lv_iconst (v := 0) hx hb dX0_owes_20 (by decide) ?_
      obtain ⟨v4, h_5, hm⟩ := b1_s hm
      refine rd_v hcf (kX3_get h_5) (cwX0_owes_X3_get hts) hK hP sB_j (ci := 3) (q0 := 5) rfl rfl rfl hl.1 rfl (Nat.le_of_ble_eq_true rfl) dX0_owes_21 ⟨Nat.zero_le _, Nat.zero_le _⟩ ?_
      refine lv_iload_n hx hb dX0_owes_24 rfl (lv_at hl 1 rfl) ?_
      refine lv_icmp_ne (tgt := 40) hx hb dX0_owes_25 (by decide) (fun c_6 => ?_) (fun c_6 => ?_)
      · replace hm := br_n hm c_6
        refine lv_iinc (v := (x3 + 1)) (lv' := [(3, .int (x3 + 1)), (0, .ref (ad 0)), (1, .int x1), (2, .int x2)]) hx hb dX0_owes_40 hl (k := 3) rfl rfl (by decide) rfl (fun ls hl => ?_)
        refine lv_goto (tgt := 4) hx hb dX0_owes_43 (by decide) ?_
        exact ih _ _ _ hm _ (lv_sub hl [1, 2, 3, 0] rfl)
      · replace hm := br_p hm c_6
        refine lv_iload_n hx hb dX0_owes_28 rfl (lv_at hl 2 rfl) ?_
        refine lv_aload_n hx hb dX0_owes_29 rfl (lv_at hl 0 rfl) ?_
        refine gf (q0 := 0) hx hb hts hown hK flX0_owes_23 hP rfl rfl dX0_owes_30 ?_
        refine lv_iload_n hx hb dX0_owes_33 rfl (lv_at hl 3 rfl) ?_
        refine lv_iconst (v := 2) hx hb dX0_owes_34 (by decide) ?_
        obtain ⟨v7, h_8, hm⟩ := b1_s hm
        refine rd_v hcf (kX3_get h_8) (cwX0_owes_X3_get hts) hK hP sB_j (ci := 3) (q0 := 5) rfl rfl rfl hl.1 rfl (Nat.le_of_ble_eq_true rfl) dX0_owes_35 ⟨Nat.zero_le _, Nat.zero_le _⟩ ?_
        refine lv_iadd hx hb dX0_owes_38 ?_
        refine lv_istore_n (lv' := [(2, .int (x2 + v7)), (0, .ref (ad 0)), (1, .int x1), (3, .int x3)]) hx hb dX0_owes_39 rfl hl (by decide) rfl (fun ls hl => ?_)
        refine lv_iinc (v := (x3 + 1)) (lv' := [(3, .int (x3 + 1)), (2, .int (x2 + v7)), (0, .ref (ad 0)), (1, .int x1)]) hx hb dX0_owes_40 hl (k := 3) rfl rfl (by decide) rfl (fun ls hl => ?_)
        refine lv_goto (tgt := 4) hx hb dX0_owes_43 (by decide) ?_
        exact ih _ _ _ hm _ (lv_sub hl [2, 3, 1, 0] rfl)
set_option maxRecDepth 100000 in
set_option maxHeartbeats 4000000 in
theorem kX0_owes {l : Launch} {D : va_G} {cI cB cL cK : ClassId} {ad : Nat → Nat} {ho : Int32} {td : Int32} {pd : Int32} {sr : Int32} {dr : Int32} {ir : Int32} {qr : Int32} {sf : Nat → Int32} {df : Nat → Int32} {jf : Nat → Int32} {qf : Nat → Int32} {p1 : Int32} {res : Int32} (hm : mX0_owes ir jf p1 = some res) : Rd l D cI cB cL cK yX0_owes wsX0_owes rmX0_owes [.ref (ad 0), .int p1] (wB cI ad ho td pd sr dr ir qr sf df jf qf) res := by
  refine Rd.of (cc := cX0_owes) (own := RX0) (by decide) rfl rfl (Nat.le_of_ble_eq_true rfl) (fun p e s m below meth c ls Q C hP hl hret => ?_)
  obtain ⟨hx, hb, hr, hml, hown, hts, hlk, hK⟩ := id C
  have hcf : CallFix p m c cX0_owes 4 s _ wsX0_owes RX0 := ⟨hx, hb, hml, hown, hts⟩
  have hl : lv_has ls 4 [(0, .ref (ad 0)), (1, .int p1)] := hl
  unfold mX0_owes at hm
  refine lv_iconst (v := 0) hx hb dX0_owes_0 (by decide) ?_
  refine lv_istore_n (lv' := [(2, .int 0), (0, .ref (ad 0)), (1, .int p1)]) hx hb dX0_owes_1 rfl hl (by decide) rfl (fun ls hl => ?_)
  refine lv_iconst (v := 0) hx hb dX0_owes_2 (by decide) ?_
  refine lv_istore_n (lv' := [(3, .int 0), (2, .int 0), (0, .ref (ad 0)), (1, .int p1)]) hx hb dX0_owes_3 rfl hl (by decide) rfl (fun ls hl => ?_)
  exact tX0_owes_L4 C hP hret _ _ _ _ hm _ (lv_sub hl [2, 3, 1, 0] rfl)
/-! X0 risk(I)I -/
abbrev rmX0_risk : Room := { frames := 2, cells := 0, slots := 0, locals := 46 }
theorem hdX0_risk : yX0_risk.cls = RX0 ∧ yX0_risk.cls ≠ "java/lang/invoke/MethodHandle" ∧ yX0_risk.cls ≠ "java/lang/invoke/VarHandle" ∧ (parseMethodDescriptor yX0_risk.desc).map (fun d => d.parameters.length) = some 1 := by decide +kernel
theorem inX0_risk_X0 : ∀ w ∈ u_ws RX0 TX0 7, w ∈ wsX0_risk := by decide +kernel
theorem cwX0_risk_X0_owes {s : State} {args : Array Value} (hts : ∀ w ∈ wsX0_risk, w.before args s = true) : CallW rmX0_risk s args RX0 RX0 95 yX0_owes cX0_owes 4 (some .int) wsX0_owes rmX0_owes 0 0 1 := cwV 1 hts gX0_risk_X0_owes rfl rfl rfl hdX0_owes ⟨Nat.le_of_ble_eq_true rfl, Nat.le_of_ble_eq_true rfl⟩
theorem cwX0_risk_X3_get {s : State} {args : Array Value} (hts : ∀ w ∈ wsX0_risk, w.before args s = true) : CallW rmX0_risk s args RX0 RX3 58 yX3_get cX3_get 4 (some .int) wsX3_get rmX3_get 0 0 2 := cwV 2 hts gX0_risk_X3_get rfl rfl rfl hdX3_get ⟨Nat.le_of_ble_eq_true rfl, Nat.le_of_ble_eq_true rfl⟩
theorem cwX0_risk_X3_size {s : State} {args : Array Value} (hts : ∀ w ∈ wsX0_risk, w.before args s = true) : CallW rmX0_risk s args RX0 RX3 83 yX3_size cX3_size 1 (some .int) wsX3_size rmX3_size 0 0 0 := cwV 0 hts gX0_risk_X3_size rfl rfl rfl hdX3_size ⟨Nat.le_of_ble_eq_true rfl, Nat.le_of_ble_eq_true rfl⟩
theorem flX0_risk_20 : Fl wsX0_risk RX0 20 0 1 := ⟨_, _, _, rfl, by decide, inX0_risk_X0, by decide +kernel⟩
theorem flX0_risk_26 : Fl wsX0_risk RX0 26 0 3 := ⟨_, _, _, rfl, by decide, inX0_risk_X0, by decide +kernel⟩
set_option maxRecDepth 100000 in
set_option maxHeartbeats 4000000 in
theorem tX0_risk_L18 {ad : Nat → Nat} {ho : Int32} {td : Int32} {pd : Int32} {sr : Int32} {dr : Int32} {ir : Int32} {qr : Int32} {sf : Nat → Int32} {df : Nat → Int32} {jf : Nat → Int32} {qf : Nat → Int32} {res : Int32} (C : Cx p s m args meth c cX0_risk (some .int) 4 wsX0_risk RX0 D cI cB cL cK) (hP : va_P D vwCl (wB cI ad ho td pd sr dr ir qr sf df jf qf) s.heap) (hret : ∀ (pc : Nat) (ls : Array Slot), decode cX0_risk pc = .ok (.ireturn, 1) → narrow .int (.int res) = .int res → W p l e rmX0_risk s m args below meth c s.heap [] 0 0 Q (F0 m pc ls [.int res])) : ∀ (n9 : Nat) (x1 : Int32) (x2 : Int32) (x3 : Int32), mX0_risk_L18 n9 dr ir qr df jf qf x1 x2 x3 = some res → ∀ (ls : Array Slot), lv_has ls 4 [(0, .ref (ad 0)), (1, .int x1), (2, .int x2), (3, .int x3)] → W p l e rmX0_risk s m args below meth c s.heap [] 0 0 Q (F0 m 18 ls []) := by
  obtain ⟨hx, hb, hr, hml, hown, hts, hlk, hK⟩ := id C
  have hcf : CallFix p m c cX0_risk 4 s args wsX0_risk RX0 := ⟨hx, hb, hml, hown, hts⟩
  intro n9
  induction n9 with
  | zero => intro x1 x2 x3 hm; cases hm
  | succ k ih =>
    intro x1 x2 x3 hm ls hl
    rw [mX0_risk_L18.eq_2] at hm
    refine lv_iload_n hx hb dX0_risk_18 rfl (lv_at hl 3 rfl) ?_
    refine lv_aload_n hx hb dX0_risk_19 rfl (lv_at hl 0 rfl) ?_
    refine gf (q0 := 0) hx hb hts hown hK flX0_risk_26 hP rfl rfl dX0_risk_20 ?_
    obtain ⟨v5, h_6, hm⟩ := b1_s hm
    refine rd_v hcf (kX3_size h_6) (cwX0_risk_X3_size hts) hK hP sB_q (ci := 3) (q0 := 7) rfl rfl rfl hl.1 rfl (Nat.le_of_ble_eq_true rfl) dX0_risk_23 ⟨Nat.zero_le _, Nat.zero_le _⟩ ?_
    refine lv_icmp_ge (tgt := 73) hx hb dX0_risk_26 (by decide) (fun c_7 => ?_) (fun c_7 => ?_)
    · replace hm := br_p hm c_7
      refine lv_iload_n hx hb dX0_risk_73 rfl (lv_at hl 2 rfl) ?_
      cases hm
      exact hret _ _ dX0_risk_74 rfl
    · replace hm := br_n hm c_7
      refine lv_aload_n hx hb dX0_risk_29 rfl (lv_at hl 0 rfl) ?_
      refine gf (q0 := 0) hx hb hts hown hK flX0_risk_26 hP rfl rfl dX0_risk_30 ?_
      refine lv_iload_n hx hb dX0_risk_33 rfl (lv_at hl 3 rfl) ?_
      refine lv_iconst (v := 0) hx hb dX0_risk_34 (by decide) ?_
      obtain ⟨v8, h_9, hm⟩ := b1_s hm
      refine rd_v hcf (kX3_get h_9) (cwX0_risk_X3_get hts) hK hP sB_q (ci := 3) (q0 := 7) rfl rfl rfl hl.1 rfl (Nat.le_of_ble_eq_true rfl) dX0_risk_35 ⟨Nat.zero_le _, Nat.zero_le _⟩ ?_
      refine lv_iload_n hx hb dX0_risk_38 rfl (lv_at hl 1 rfl) ?_
      refine lv_icmp_ne (tgt := 67) hx hb dX0_risk_39 (by decide) (fun c_10 => ?_) (fun c_10 => ?_)
      · replace hm := br_n hm c_10
        refine lv_iinc (v := (x3 + 1)) (lv' := [(3, .int (x3 + 1)), (0, .ref (ad 0)), (1, .int x1), (2, .int x2)]) hx hb dX0_risk_67 hl (k := 3) rfl rfl (by decide) rfl (fun ls hl => ?_)
        refine lv_goto (tgt := 18) hx hb dX0_risk_70 (by decide) ?_
        exact ih _ _ _ hm _ (lv_sub hl [1, 2, 3, 0] rfl)
      · replace hm := br_p hm c_10
        refine lv_aload_n hx hb dX0_risk_42 rfl (lv_at hl 0 rfl) ?_
        refine gf (q0 := 0) hx hb hts hown hK flX0_risk_26 hP rfl rfl dX0_risk_43 ?_
        refine lv_iload_n hx hb dX0_risk_46 rfl (lv_at hl 3 rfl) ?_
        refine lv_iconst (v := 2) hx hb dX0_risk_47 (by decide) ?_
        obtain ⟨v11, h_12, hm⟩ := b1_s hm
        refine rd_v hcf (kX3_get h_12) (cwX0_risk_X3_get hts) hK hP sB_q (ci := 3) (q0 := 7) rfl rfl rfl hl.1 rfl (Nat.le_of_ble_eq_true rfl) dX0_risk_48 ⟨Nat.zero_le _, Nat.zero_le _⟩ ?_
        refine lv_iconst (v := 1) hx hb dX0_risk_51 (by decide) ?_
        refine lv_icmp_ne (tgt := 67) hx hb dX0_risk_52 (by decide) (fun c_13 => ?_) (fun c_13 => ?_)
        · replace hm := br_n hm c_13
          refine lv_iinc (v := (x3 + 1)) (lv' := [(3, .int (x3 + 1)), (0, .ref (ad 0)), (1, .int x1), (2, .int x2)]) hx hb dX0_risk_67 hl (k := 3) rfl rfl (by decide) rfl (fun ls hl => ?_)
          refine lv_goto (tgt := 18) hx hb dX0_risk_70 (by decide) ?_
          exact ih _ _ _ hm _ (lv_sub hl [1, 2, 3, 0] rfl)
        · replace hm := br_p hm c_13
          refine lv_iload_n hx hb dX0_risk_55 rfl (lv_at hl 2 rfl) ?_
          refine lv_aload_n hx hb dX0_risk_56 rfl (lv_at hl 0 rfl) ?_
          refine gf (q0 := 0) hx hb hts hown hK flX0_risk_26 hP rfl rfl dX0_risk_57 ?_
          refine lv_iload_n hx hb dX0_risk_60 rfl (lv_at hl 3 rfl) ?_
          refine lv_iconst (v := 1) hx hb dX0_risk_61 (by decide) ?_
          obtain ⟨v14, h_15, hm⟩ := b1_s hm
          refine rd_v hcf (kX3_get h_15) (cwX0_risk_X3_get hts) hK hP sB_q (ci := 3) (q0 := 7) rfl rfl rfl hl.1 rfl (Nat.le_of_ble_eq_true rfl) dX0_risk_62 ⟨Nat.zero_le _, Nat.zero_le _⟩ ?_
          refine lv_iadd hx hb dX0_risk_65 ?_
          refine lv_istore_n (lv' := [(2, .int (x2 + v14)), (0, .ref (ad 0)), (1, .int x1), (3, .int x3)]) hx hb dX0_risk_66 rfl hl (by decide) rfl (fun ls hl => ?_)
          refine lv_iinc (v := (x3 + 1)) (lv' := [(3, .int (x3 + 1)), (2, .int (x2 + v14)), (0, .ref (ad 0)), (1, .int x1)]) hx hb dX0_risk_67 hl (k := 3) rfl rfl (by decide) rfl (fun ls hl => ?_)
          refine lv_goto (tgt := 18) hx hb dX0_risk_70 (by decide) ?_
          exact ih _ _ _ hm _ (lv_sub hl [2, 3, 1, 0] rfl)
set_option maxRecDepth 100000 in
set_option maxHeartbeats 4000000 in
theorem kX0_risk {l : Launch} {D : va_G} {cI cB cL cK : ClassId} {ad : Nat → Nat} {ho : Int32} {td : Int32} {pd : Int32} {sr : Int32} {dr : Int32} {ir : Int32} {qr : Int32} {sf : Nat → Int32} {df : Nat → Int32} {jf : Nat → Int32} {qf : Nat → Int32} {p1 : Int32} {res : Int32} (hm : mX0_risk dr ir qr df jf qf p1 = some res) : Rd l D cI cB cL cK yX0_risk wsX0_risk rmX0_risk [.ref (ad 0), .int p1] (wB cI ad ho td pd sr dr ir qr sf df jf qf) res := by
  refine Rd.of (cc := cX0_risk) (own := RX0) (by decide) rfl rfl (Nat.le_of_ble_eq_true rfl) (fun p e s m below meth c ls Q C hP hl hret => ?_)
  obtain ⟨hx, hb, hr, hml, hown, hts, hlk, hK⟩ := id C
  have hcf : CallFix p m c cX0_risk 4 s _ wsX0_risk RX0 := ⟨hx, hb, hml, hown, hts⟩
  have hl : lv_has ls 4 [(0, .ref (ad 0)), (1, .int p1)] := hl
  unfold mX0_risk at hm
  refine lv_aload_n hx hb dX0_risk_0 rfl (lv_at hl 0 rfl) ?_
  refine lv_iload_n hx hb dX0_risk_1 rfl (lv_at hl 1 rfl) ?_
  obtain ⟨v1, h_2, hm⟩ := b1_s hm
  refine rd_v hcf (kX0_owes h_2) (cwX0_risk_X0_owes hts) hK hP Sb.rf (ci := 0) (q0 := 0) rfl rfl rfl hl.1 rfl (Nat.le_of_ble_eq_true rfl) dX0_risk_2 ⟨Nat.zero_le _, Nat.zero_le _⟩ ?_
  refine lv_aload_n hx hb dX0_risk_5 rfl (lv_at hl 0 rfl) ?_
  refine gf (q0 := 0) hx hb hts hown hK flX0_risk_20 hP rfl rfl dX0_risk_6 ?_
  refine lv_iload_n hx hb dX0_risk_9 rfl (lv_at hl 1 rfl) ?_
  refine lv_iconst (v := 2) hx hb dX0_risk_10 (by decide) ?_
  obtain ⟨v3, h_4, hm⟩ := b1_s hm
  refine rd_v hcf (kX3_get h_4) (cwX0_risk_X3_get hts) hK hP sB_d (ci := 3) (q0 := 3) rfl rfl rfl hl.1 rfl (Nat.le_of_ble_eq_true rfl) dX0_risk_11 ⟨Nat.zero_le _, Nat.zero_le _⟩ ?_
  refine lv_isub hx hb dX0_risk_14 ?_
  refine lv_istore_n (lv' := [(2, .int (v1 - v3)), (0, .ref (ad 0)), (1, .int p1)]) hx hb dX0_risk_15 rfl hl (by decide) rfl (fun ls hl => ?_)
  refine lv_iconst (v := 0) hx hb dX0_risk_16 (by decide) ?_
  refine lv_istore_n (lv' := [(3, .int 0), (2, .int (v1 - v3)), (0, .ref (ad 0)), (1, .int p1)]) hx hb dX0_risk_17 rfl hl (by decide) rfl (fun ls hl => ?_)
  exact tX0_risk_L18 C hP hret _ _ _ _ hm _ (lv_sub hl [2, 3, 1, 0] rfl)
/-! X0 mayRelease(II)Z -/
abbrev rmX0_mayRelease : Room := { frames := 3, cells := 0, slots := 0, locals := 69 }
theorem hdX0_mayRelease : yX0_mayRelease.cls = RX0 ∧ yX0_mayRelease.cls ≠ "java/lang/invoke/MethodHandle" ∧ yX0_mayRelease.cls ≠ "java/lang/invoke/VarHandle" ∧ (parseMethodDescriptor yX0_mayRelease.desc).map (fun d => d.parameters.length) = some 2 := by decide +kernel
theorem inX0_mayRelease_X0 : ∀ w ∈ u_ws RX0 TX0 7, w ∈ wsX0_mayRelease := by decide +kernel
theorem cwX0_mayRelease_X0_risk {s : State} {args : Array Value} (hts : ∀ w ∈ wsX0_mayRelease, w.before args s = true) : CallW rmX0_mayRelease s args RX0 RX0 116 yX0_risk cX0_risk 4 (some .int) wsX0_risk rmX0_risk 0 0 1 := cwV 1 hts gX0_mayRelease_X0_risk rfl rfl rfl hdX0_risk ⟨Nat.le_of_ble_eq_true rfl, Nat.le_of_ble_eq_true rfl⟩
theorem cwX0_mayRelease_X3_get {s : State} {args : Array Value} (hts : ∀ w ∈ wsX0_mayRelease, w.before args s = true) : CallW rmX0_mayRelease s args RX0 RX3 58 yX3_get cX3_get 4 (some .int) wsX3_get rmX3_get 0 0 2 := cwV 2 hts gX0_mayRelease_X3_get rfl rfl rfl hdX3_get ⟨Nat.le_of_ble_eq_true rfl, Nat.le_of_ble_eq_true rfl⟩
theorem flX0_mayRelease_20 : Fl wsX0_mayRelease RX0 20 0 1 := ⟨_, _, _, rfl, by decide, inX0_mayRelease_X0, by decide +kernel⟩
theorem flX0_mayRelease_26 : Fl wsX0_mayRelease RX0 26 0 3 := ⟨_, _, _, rfl, by decide, inX0_mayRelease_X0, by decide +kernel⟩
theorem flX0_mayRelease_29 : Fl wsX0_mayRelease RX0 29 0 4 := ⟨_, _, _, rfl, by decide, inX0_mayRelease_X0, by decide +kernel⟩
set_option maxRecDepth 100000 in
set_option maxHeartbeats 4000000 in
theorem kX0_mayRelease {l : Launch} {D : va_G} {cI cB cL cK : ClassId} {ad : Nat → Nat} {ho : Int32} {td : Int32} {pd : Int32} {sr : Int32} {dr : Int32} {ir : Int32} {qr : Int32} {sf : Nat → Int32} {df : Nat → Int32} {jf : Nat → Int32} {qf : Nat → Int32} {p1 : Int32} {p2 : Int32} {res : Int32} (hm : mX0_mayRelease ho dr ir qr df jf qf p1 p2 = some res) : Rd l D cI cB cL cK yX0_mayRelease wsX0_mayRelease rmX0_mayRelease [.ref (ad 0), .int p1, .int p2] (wB cI ad ho td pd sr dr ir qr sf df jf qf) res := by
  refine Rd.of (cc := cX0_mayRelease) (own := RX0) (by decide) rfl rfl (Nat.le_of_ble_eq_true rfl) (fun p e s m below meth c ls Q C hP hl hret => ?_)
  obtain ⟨hx, hb, hr, hml, hown, hts, hlk, hK⟩ := id C
  have hcf : CallFix p m c cX0_mayRelease 3 s _ wsX0_mayRelease RX0 := ⟨hx, hb, hml, hown, hts⟩
  have hl : lv_has ls 3 [(0, .ref (ad 0)), (1, .int p1), (2, .int p2)] := hl
  unfold mX0_mayRelease at hm
  refine lv_aload_n hx hb dX0_mayRelease_0 rfl (lv_at hl 0 rfl) ?_
  refine gf (q0 := 0) hx hb hts hown hK flX0_mayRelease_20 hP rfl rfl dX0_mayRelease_1 ?_
  refine lv_iload_n hx hb dX0_mayRelease_4 rfl (lv_at hl 2 rfl) ?_
  refine lv_iconst (v := 3) hx hb dX0_mayRelease_5 (by decide) ?_
  obtain ⟨v1, h_2, hm⟩ := b1_s hm
  refine rd_v hcf (kX3_get h_2) (cwX0_mayRelease_X3_get hts) hK hP sB_d (ci := 3) (q0 := 3) rfl rfl rfl hl.1 rfl (Nat.le_of_ble_eq_true rfl) dX0_mayRelease_6 ⟨Nat.zero_le _, Nat.zero_le _⟩ ?_
  refine lv_aload_n hx hb dX0_mayRelease_9 rfl (lv_at hl 0 rfl) ?_
  refine gf (q0 := 0) hx hb hts hown hK flX0_mayRelease_29 hP rfl rfl dX0_mayRelease_10 ?_
  refine lv_icmp_ge (tgt := 47) hx hb dX0_mayRelease_13 (by decide) (fun c_3 => ?_) (fun c_3 => ?_)
  · replace hm := br_p hm c_3
    refine lv_iconst (v := 0) hx hb dX0_mayRelease_47 (by decide) ?_
    cases hm
    exact hret _ _ dX0_mayRelease_48 rfl
  · replace hm := br_n hm c_3
    refine lv_aload_n hx hb dX0_mayRelease_16 rfl (lv_at hl 0 rfl) ?_
    refine lv_iload_n hx hb dX0_mayRelease_17 rfl (lv_at hl 2 rfl) ?_
    obtain ⟨v4, h_5, hm⟩ := b1_s hm
    refine rd_v hcf (kX0_risk h_5) (cwX0_mayRelease_X0_risk hts) hK hP Sb.rf (ci := 0) (q0 := 0) rfl rfl rfl hl.1 rfl (Nat.le_of_ble_eq_true rfl) dX0_mayRelease_18 ⟨Nat.zero_le _, Nat.zero_le _⟩ ?_
    refine lv_aload_n hx hb dX0_mayRelease_21 rfl (lv_at hl 0 rfl) ?_
    refine gf (q0 := 0) hx hb hts hown hK flX0_mayRelease_26 hP rfl rfl dX0_mayRelease_22 ?_
    refine lv_iload_n hx hb dX0_mayRelease_25 rfl (lv_at hl 1 rfl) ?_
    refine lv_iconst (v := 1) hx hb dX0_mayRelease_26 (by decide) ?_
    obtain ⟨v6, h_7, hm⟩ := b1_s hm
    refine rd_v hcf (kX3_get h_7) (cwX0_mayRelease_X3_get hts) hK hP sB_q (ci := 3) (q0 := 7) rfl rfl rfl hl.1 rfl (Nat.le_of_ble_eq_true rfl) dX0_mayRelease_27 ⟨Nat.zero_le _, Nat.zero_le _⟩ ?_
    refine lv_iadd hx hb dX0_mayRelease_30 ?_
    refine lv_aload_n hx hb dX0_mayRelease_31 rfl (lv_at hl 0 rfl) ?_
    refine gf (q0 := 0) hx hb hts hown hK flX0_mayRelease_20 hP rfl rfl dX0_mayRelease_32 ?_
    refine lv_iload_n hx hb dX0_mayRelease_35 rfl (lv_at hl 2 rfl) ?_
    refine lv_iconst (v := 0) hx hb dX0_mayRelease_36 (by decide) ?_
    obtain ⟨v8, h_9, hm⟩ := b1_s hm
    refine rd_v hcf (kX3_get h_9) (cwX0_mayRelease_X3_get hts) hK hP sB_d (ci := 3) (q0 := 3) rfl rfl rfl hl.1 rfl (Nat.le_of_ble_eq_true rfl) dX0_mayRelease_37 ⟨Nat.zero_le _, Nat.zero_le _⟩ ?_
    refine lv_icmp_gt (tgt := 47) hx hb dX0_mayRelease_40 (by decide) (fun c_10 => ?_) (fun c_10 => ?_)
    · replace hm := br_p hm c_10
      refine lv_iconst (v := 0) hx hb dX0_mayRelease_47 (by decide) ?_
      cases hm
      exact hret _ _ dX0_mayRelease_48 rfl
    · replace hm := br_n hm c_10
      refine lv_iconst (v := 1) hx hb dX0_mayRelease_43 (by decide) ?_
      refine lv_goto (tgt := 48) hx hb dX0_mayRelease_44 (by decide) ?_
      cases hm
      exact hret _ _ dX0_mayRelease_48 rfl
/-! X0 release(I)I -/
abbrev rmX0_release : Room := { frames := 4, cells := 0, slots := 0, locals := 91 }
theorem hdX0_release : yX0_release.cls = RX0 ∧ yX0_release.cls ≠ "java/lang/invoke/MethodHandle" ∧ yX0_release.cls ≠ "java/lang/invoke/VarHandle" ∧ (parseMethodDescriptor yX0_release.desc).map (fun d => d.parameters.length) = some 1 := by decide +kernel
theorem inX0_release_X0 : ∀ w ∈ u_ws RX0 TX0 7, w ∈ wsX0_release := by decide +kernel
theorem cwX0_release_X0_mayRelease {s : State} {args : Array Value} (hts : ∀ w ∈ wsX0_release, w.before args s = true) : CallW rmX0_release s args RX0 RX0 113 yX0_mayRelease cX0_mayRelease 3 (some .boolean) wsX0_mayRelease rmX0_mayRelease 0 0 2 := cwV 2 hts gX0_release_X0_mayRelease rfl rfl rfl hdX0_mayRelease ⟨Nat.le_of_ble_eq_true rfl, Nat.le_of_ble_eq_true rfl⟩
theorem cwX0_release_X3_get {s : State} {args : Array Value} (hts : ∀ w ∈ wsX0_release, w.before args s = true) : CallW rmX0_release s args RX0 RX3 58 yX3_get cX3_get 4 (some .int) wsX3_get rmX3_get 0 0 2 := cwV 2 hts gX0_release_X3_get rfl rfl rfl hdX3_get ⟨Nat.le_of_ble_eq_true rfl, Nat.le_of_ble_eq_true rfl⟩
theorem cwX0_release_X3_set {s : State} {args : Array Value} (hts : ∀ w ∈ wsX0_release, w.before args s = true) : CallW rmX0_release s args RX0 RX3 50 yX3_set cX3_set 5 none wsX3_set rmX3_set 0 0 3 := cwV 3 hts gX0_release_X3_set rfl rfl rfl hdX3_set ⟨Nat.le_of_ble_eq_true rfl, Nat.le_of_ble_eq_true rfl⟩
theorem cwX0_release_X3_size {s : State} {args : Array Value} (hts : ∀ w ∈ wsX0_release, w.before args s = true) : CallW rmX0_release s args RX0 RX3 83 yX3_size cX3_size 1 (some .int) wsX3_size rmX3_size 0 0 0 := cwV 0 hts gX0_release_X3_size rfl rfl rfl hdX3_size ⟨Nat.le_of_ble_eq_true rfl, Nat.le_of_ble_eq_true rfl⟩
theorem flX0_release_26 : Fl wsX0_release RX0 26 0 3 := ⟨_, _, _, rfl, by decide, inX0_release_X0, by decide +kernel⟩
set_option maxRecDepth 100000 in
set_option maxHeartbeats 4000000 in
theorem tX0_release_L4 {ad : Nat → Nat} {ho : Int32} {td : Int32} {pd : Int32} {sr : Int32} {dr : Int32} {ir : Int32} {qr : Int32} {sf : Nat → Int32} {df : Nat → Int32} {jf : Nat → Int32} {res : Int32} {qf' : Nat → Int32} (C : Cx p s m args meth c cX0_release (some .int) 4 wsX0_release RX0 D cI cB cL cK) (hA : ∀ q : Nat, s.heap.size ≤ q → A q) (hret : ∀ (pc : Nat) (ls : Array Slot) (H : Heap) (locs : List Loc), decode cX0_release pc = .ok (.ireturn, 1) → narrow .int (.int res) = .int res → va_P D vwCl (wB cI ad ho td pd sr dr ir qr sf df jf qf') H → va_D A (wB cI ad ho td pd sr dr ir qr sf df jf qf') → va_S A s.heap H locs → W p l e rmX0_release s m args below meth c H locs 0 0 Q (F0 m pc ls [.int res])) : ∀ (n9 : Nat) (x1 : Int32) (x2 : Int32) (x3 : Int32) (qf : Nat → Int32), mX0_release_L4 n9 ho dr ir qr df jf x1 x2 x3 qf = some (res, qf') → ∀ (H : Heap) (locs : List Loc) (ls : Array Slot), va_P D vwCl (wB cI ad ho td pd sr dr ir qr sf df jf qf) H → va_D A (wB cI ad ho td pd sr dr ir qr sf df jf qf) → va_S A s.heap H locs → lv_has ls 4 [(0, .ref (ad 0)), (1, .int x1), (2, .int x2), (3, .int x3)] → W p l e rmX0_release s m args below meth c H locs 0 0 Q (F0 m 4 ls []) := by
  obtain ⟨hx, hb, hr, hml, hown, hts, hlk, hK⟩ := id C
  have hcf : CallFix p m c cX0_release 4 s args wsX0_release RX0 := ⟨hx, hb, hml, hown, hts⟩
  intro n9
  induction n9 with
  | zero => intro x1 x2 x3 qf hm; cases hm
  | succ k ih =>
    intro x1 x2 x3 qf hm H locs ls hP hD hS hl
    rw [mX0_release_L4.eq_2] at hm
    refine lv_iload_n hx hb dX0_release_4 rfl (lv_at hl 3 rfl) ?_
    refine lv_aload_n hx hb dX0_release_5 rfl (lv_at hl 0 rfl) ?_
    refine gf (q0 := 0) hx hb hts hown hK flX0_release_26 hP rfl rfl dX0_release_6 ?_
    obtain ⟨v1, h_2, hm⟩ := b1_s hm
    refine rd_v hcf (kX3_size h_2) (cwX0_release_X3_size hts) hK hP sB_q (ci := 3) (q0 := 7) rfl rfl rfl hl.1 rfl (Nat.le_of_ble_eq_true rfl) dX0_release_9 ⟨Nat.zero_le _, Nat.zero_le _⟩ ?_
    refine lv_icmp_ge (tgt := 70) hx hb dX0_release_12 (by decide) (fun c_3 => ?_) (fun c_3 => ?_)
    · replace hm := br_p hm c_3
      refine lv_iload_n hx hb dX0_release_70 rfl (lv_at hl 2 rfl) ?_
      cases hm
      exact hret _ _ _ _ dX0_release_71 rfl hP hD hS
    · replace hm := br_n hm c_3
      refine lv_aload_n hx hb dX0_release_15 rfl (lv_at hl 0 rfl) ?_
      refine gf (q0 := 0) hx hb hts hown hK flX0_release_26 hP rfl rfl dX0_release_16 ?_
      refine lv_iload_n hx hb dX0_release_19 rfl (lv_at hl 3 rfl) ?_
      refine lv_iconst (v := 0) hx hb dX0_release_20 (by decide) ?_
      obtain ⟨v4, h_5, hm⟩ := b1_s hm
      refine rd_v hcf (kX3_get h_5) (cwX0_release_X3_get hts) hK hP sB_q (ci := 3) (q0 := 7) rfl rfl rfl hl.1 rfl (Nat.le_of_ble_eq_true rfl) dX0_release_21 ⟨Nat.zero_le _, Nat.zero_le _⟩ ?_
      refine lv_iload_n hx hb dX0_release_24 rfl (lv_at hl 1 rfl) ?_
      refine lv_icmp_ne (tgt := 64) hx hb dX0_release_25 (by decide) (fun c_6 => ?_) (fun c_6 => ?_)
      · replace hm := br_n hm c_6
        refine lv_iinc (v := (x3 + 1)) (lv' := [(3, .int (x3 + 1)), (0, .ref (ad 0)), (1, .int x1), (2, .int x2)]) hx hb dX0_release_64 hl (k := 3) rfl rfl (by decide) rfl (fun ls hl => ?_)
        refine lv_goto (tgt := 4) hx hb dX0_release_67 (by decide) ?_
        exact ih _ _ _ _ hm _ _ _ hP hD hS (lv_sub hl [1, 2, 3, 0] rfl)
      · replace hm := br_p hm c_6
        refine lv_aload_n hx hb dX0_release_28 rfl (lv_at hl 0 rfl) ?_
        refine gf (q0 := 0) hx hb hts hown hK flX0_release_26 hP rfl rfl dX0_release_29 ?_
        refine lv_iload_n hx hb dX0_release_32 rfl (lv_at hl 3 rfl) ?_
        refine lv_iconst (v := 2) hx hb dX0_release_33 (by decide) ?_
        obtain ⟨v7, h_8, hm⟩ := b1_s hm
        refine rd_v hcf (kX3_get h_8) (cwX0_release_X3_get hts) hK hP sB_q (ci := 3) (q0 := 7) rfl rfl rfl hl.1 rfl (Nat.le_of_ble_eq_true rfl) dX0_release_34 ⟨Nat.zero_le _, Nat.zero_le _⟩ ?_
        refine lv_if_ne (tgt := 64) hx hb dX0_release_37 (by decide) (fun c_9 => ?_) (fun c_9 => ?_)
        · replace hm := br_n hm c_9
          refine lv_iinc (v := (x3 + 1)) (lv' := [(3, .int (x3 + 1)), (0, .ref (ad 0)), (1, .int x1), (2, .int x2)]) hx hb dX0_release_64 hl (k := 3) rfl rfl (by decide) rfl (fun ls hl => ?_)
          refine lv_goto (tgt := 4) hx hb dX0_release_67 (by decide) ?_
          exact ih _ _ _ _ hm _ _ _ hP hD hS (lv_sub hl [1, 2, 3, 0] rfl)
        · replace hm := br_p hm c_9
          refine lv_aload_n hx hb dX0_release_40 rfl (lv_at hl 0 rfl) ?_
          refine lv_iload_n hx hb dX0_release_41 rfl (lv_at hl 3 rfl) ?_
          refine lv_iload_n hx hb dX0_release_42 rfl (lv_at hl 1 rfl) ?_
          obtain ⟨v10, h_11, hm⟩ := b1_s hm
          refine rd_v hcf (kX0_mayRelease h_11) (cwX0_release_X0_mayRelease hts) hK hP Sb.rf (ci := 0) (q0 := 0) rfl rfl rfl hl.1 rfl (Nat.le_of_ble_eq_true rfl) dX0_release_43 ⟨Nat.zero_le _, Nat.zero_le _⟩ ?_
          refine lv_if_ne (tgt := 51) hx hb dX0_release_46 (by decide) (fun c_12 => ?_) (fun c_12 => ?_)
          · replace hm := br_n hm c_12
            refine lv_aload_n hx hb dX0_release_51 rfl (lv_at hl 0 rfl) ?_
            refine gf (q0 := 0) hx hb hts hown hK flX0_release_26 hP rfl rfl dX0_release_52 ?_
            refine lv_iload_n hx hb dX0_release_55 rfl (lv_at hl 3 rfl) ?_
            refine lv_iconst (v := 2) hx hb dX0_release_56 (by decide) ?_
            refine lv_iconst (v := 1) hx hb dX0_release_57 (by decide) ?_
            obtain ⟨qf13, h_14, hm⟩ := b1_s hm
            refine mu_vv hcf (kX3_set h_14) (cwX0_release_X3_set hts) hK hP hD hS hA jB_q (ci := 3) (q0 := 7) rfl rfl rfl hl.1 rfl (Nat.le_of_ble_eq_true rfl) dX0_release_58 ⟨Nat.zero_le _, Nat.zero_le _⟩ (fun H locs hP hD hS => ?_)
            refine lv_iinc (v := (x2 + 1)) (lv' := [(2, .int (x2 + 1)), (0, .ref (ad 0)), (1, .int x1), (3, .int x3)]) hx hb dX0_release_61 hl (k := 2) rfl rfl (by decide) rfl (fun ls hl => ?_)
            refine lv_iinc (v := (x3 + 1)) (lv' := [(3, .int (x3 + 1)), (2, .int (x2 + 1)), (0, .ref (ad 0)), (1, .int x1)]) hx hb dX0_release_64 hl (k := 3) rfl rfl (by decide) rfl (fun ls hl => ?_)
            refine lv_goto (tgt := 4) hx hb dX0_release_67 (by decide) ?_
            exact ih _ _ _ _ hm _ _ _ hP hD hS (lv_sub hl [2, 3, 1, 0] rfl)
          · replace hm := br_p hm c_12
            refine lv_iload_n hx hb dX0_release_49 rfl (lv_at hl 2 rfl) ?_
            cases hm
            exact hret _ _ _ _ dX0_release_50 rfl hP hD hS
set_option maxRecDepth 100000 in
set_option maxHeartbeats 4000000 in
theorem kX0_release {l : Launch} {D : va_G} {cI cB cL cK : ClassId} {ad : Nat → Nat} {ho : Int32} {td : Int32} {pd : Int32} {sr : Int32} {dr : Int32} {ir : Int32} {qr : Int32} {sf : Nat → Int32} {df : Nat → Int32} {jf : Nat → Int32} {qf : Nat → Int32} {p1 : Int32} {res : Int32} {qf' : Nat → Int32} (hm : mX0_release ho dr ir qr df jf qf p1 = some (res, qf')) : Mu l D cI cB cL cK yX0_release wsX0_release rmX0_release [.ref (ad 0), .int p1] (wB cI ad ho td pd sr dr ir qr sf df jf qf) (wB cI ad ho td pd sr dr ir qr sf df jf qf') (some (.int res)) 0 0 := by
  refine Mu.ofi (cc := cX0_release) (own := RX0) (by decide) rfl rfl (Nat.le_of_ble_eq_true rfl) (fun p e s m below meth c ls Q A C hA hP hD hS hl hret => ?_)
  obtain ⟨hx, hb, hr, hml, hown, hts, hlk, hK⟩ := id C
  have hcf : CallFix p m c cX0_release 4 s _ wsX0_release RX0 := ⟨hx, hb, hml, hown, hts⟩
  have hl : lv_has ls 4 [(0, .ref (ad 0)), (1, .int p1)] := hl
  unfold mX0_release at hm
  refine lv_iconst (v := 0) hx hb dX0_release_0 (by decide) ?_
  refine lv_istore_n (lv' := [(2, .int 0), (0, .ref (ad 0)), (1, .int p1)]) hx hb dX0_release_1 rfl hl (by decide) rfl (fun ls hl => ?_)
  refine lv_iconst (v := 0) hx hb dX0_release_2 (by decide) ?_
  refine lv_istore_n (lv' := [(3, .int 0), (2, .int 0), (0, .ref (ad 0)), (1, .int p1)]) hx hb dX0_release_3 rfl hl (by decide) rfl (fun ls hl => ?_)
  exact tX0_release_L4 C hA hret _ _ _ _ _ hm _ _ _ hP hD hS (lv_sub hl [2, 3, 1, 0] rfl)
/-! X0 addOrder(II)I -/
abbrev rmX0_addOrder : Room := { frames := 5, cells := 0, slots := 0, locals := 114 }
theorem hdX0_addOrder : yX0_addOrder.cls = RX0 ∧ yX0_addOrder.cls ≠ "java/lang/invoke/MethodHandle" ∧ yX0_addOrder.cls ≠ "java/lang/invoke/VarHandle" ∧ (parseMethodDescriptor yX0_addOrder.desc).map (fun d => d.parameters.length) = some 2 := by decide +kernel
theorem inX0_addOrder_X0 : ∀ w ∈ u_ws RX0 TX0 7, w ∈ wsX0_addOrder := by decide +kernel
theorem cwX0_addOrder_X0_release {s : State} {args : Array Value} (hts : ∀ w ∈ wsX0_addOrder, w.before args s = true) : CallW rmX0_addOrder s args RX0 RX0 54 yX0_release cX0_release 4 (some .int) wsX0_release rmX0_release 0 0 1 := cwV 1 hts gX0_addOrder_X0_release rfl rfl rfl hdX0_release ⟨Nat.le_of_ble_eq_true rfl, Nat.le_of_ble_eq_true rfl⟩
theorem cwX0_addOrder_X3_add {s : State} {args : Array Value} (hts : ∀ w ∈ wsX0_addOrder, w.before args s = true) : CallW rmX0_addOrder s args RX0 RX3 46 yX3_add cX3_add 3 (some .int) wsX3_add rmX3_add 0 0 0 := cwV 0 hts gX0_addOrder_X3_add rfl rfl rfl hdX3_add ⟨Nat.le_of_ble_eq_true rfl, Nat.le_of_ble_eq_true rfl⟩
theorem cwX0_addOrder_X3_set {s : State} {args : Array Value} (hts : ∀ w ∈ wsX0_addOrder, w.before args s = true) : CallW rmX0_addOrder s args RX0 RX3 50 yX3_set cX3_set 5 none wsX3_set rmX3_set 0 0 3 := cwV 3 hts gX0_addOrder_X3_set rfl rfl rfl hdX3_set ⟨Nat.le_of_ble_eq_true rfl, Nat.le_of_ble_eq_true rfl⟩
theorem flX0_addOrder_26 : Fl wsX0_addOrder RX0 26 0 3 := ⟨_, _, _, rfl, by decide, inX0_addOrder_X0, by decide +kernel⟩
set_option maxRecDepth 100000 in
set_option maxHeartbeats 4000000 in
theorem kX0_addOrder {l : Launch} {D : va_G} {cI cB cL cK : ClassId} {ad : Nat → Nat} {ho : Int32} {td : Int32} {pd : Int32} {sr : Int32} {dr : Int32} {ir : Int32} {qr : Int32} {sf : Nat → Int32} {df : Nat → Int32} {jf : Nat → Int32} {qf : Nat → Int32} {p1 : Int32} {p2 : Int32} {res : Int32} {qr' : Int32} {qf' : Nat → Int32} (hm : mX0_addOrder ho dr ir qr df jf qf p1 p2 = some (res, qr', qf')) : Mu l D cI cB cL cK yX0_addOrder wsX0_addOrder rmX0_addOrder [.ref (ad 0), .int p1, .int p2] (wB cI ad ho td pd sr dr ir qr sf df jf qf) (wB cI ad ho td pd sr dr ir qr' sf df jf qf') (some (.int res)) 0 0 := by
  refine Mu.ofi (cc := cX0_addOrder) (own := RX0) (by decide) rfl rfl (Nat.le_of_ble_eq_true rfl) (fun p e s m below meth c ls Q A C hA hP hD hS hl hret => ?_)
  obtain ⟨hx, hb, hr, hml, hown, hts, hlk, hK⟩ := id C
  have hcf : CallFix p m c cX0_addOrder 4 s _ wsX0_addOrder RX0 := ⟨hx, hb, hml, hown, hts⟩
  have hl : lv_has ls 4 [(0, .ref (ad 0)), (1, .int p1), (2, .int p2)] := hl
  unfold mX0_addOrder at hm
  refine lv_aload_n hx hb dX0_addOrder_0 rfl (lv_at hl 0 rfl) ?_
  refine gf (q0 := 0) hx hb hts hown hK flX0_addOrder_26 hP rfl rfl dX0_addOrder_1 ?_
  obtain ⟨v1, qr2, qf3, h_4, hm⟩ := b3_s hm
  refine mu_vi hcf (kX3_add h_4) (cwX0_addOrder_X3_add hts) hK hP hD hS hA jB_q (ci := 3) (q0 := 7) rfl rfl rfl hl.1 rfl (Nat.le_of_ble_eq_true rfl) dX0_addOrder_4 ⟨Nat.zero_le _, Nat.zero_le _⟩ (fun H locs hP hD hS => ?_)
  refine lv_istore_n (lv' := [(3, .int v1), (0, .ref (ad 0)), (1, .int p1), (2, .int p2)]) hx hb dX0_addOrder_7 rfl hl (by decide) rfl (fun ls hl => ?_)
  refine lv_aload_n hx hb dX0_addOrder_8 rfl (lv_at hl 1 rfl) ?_
  refine gf (q0 := 0) hx hb hts hown hK flX0_addOrder_26 hP rfl rfl dX0_addOrder_9 ?_
  refine lv_iload_n hx hb dX0_addOrder_12 rfl (lv_at hl 0 rfl) ?_
  refine lv_iconst (v := 0) hx hb dX0_addOrder_13 (by decide) ?_
  refine lv_iload_n hx hb dX0_addOrder_14 rfl (lv_at hl 2 rfl) ?_
  obtain ⟨qf5, h_6, hm⟩ := b1_s hm
  refine mu_vv hcf (kX3_set h_6) (cwX0_addOrder_X3_set hts) hK hP hD hS hA jB_q (ci := 3) (q0 := 7) rfl rfl rfl hl.1 rfl (Nat.le_of_ble_eq_true rfl) dX0_addOrder_15 ⟨Nat.zero_le _, Nat.zero_le _⟩ (fun H locs hP hD hS => ?_)
  refine lv_aload_n hx hb dX0_addOrder_18 rfl (lv_at hl 1 rfl) ?_
  refine gf (q0 := 0) hx hb hts hown hK flX0_addOrder_26 hP rfl rfl dX0_addOrder_19 ?_
  refine lv_iload_n hx hb dX0_addOrder_22 rfl (lv_at hl 0 rfl) ?_
  refine lv_iconst (v := 1) hx hb dX0_addOrder_23 (by decide) ?_
  refine lv_iload_n hx hb dX0_addOrder_24 rfl (lv_at hl 3 rfl) ?_
  obtain ⟨qf7, h_8, hm⟩ := b1_s hm
  refine mu_vv hcf (kX3_set h_8) (cwX0_addOrder_X3_set hts) hK hP hD hS hA jB_q (ci := 3) (q0 := 7) rfl rfl rfl hl.1 rfl (Nat.le_of_ble_eq_true rfl) dX0_addOrder_25 ⟨Nat.zero_le _, Nat.zero_le _⟩ (fun H locs hP hD hS => ?_)
  refine lv_aload_n hx hb dX0_addOrder_28 rfl (lv_at hl 1 rfl) ?_
  refine gf (q0 := 0) hx hb hts hown hK flX0_addOrder_26 hP rfl rfl dX0_addOrder_29 ?_
  refine lv_iload_n hx hb dX0_addOrder_32 rfl (lv_at hl 0 rfl) ?_
  refine lv_iconst (v := 2) hx hb dX0_addOrder_33 (by decide) ?_
  refine lv_iconst (v := 0) hx hb dX0_addOrder_34 (by decide) ?_
  obtain ⟨qf9, h_10, hm⟩ := b1_s hm
  refine mu_vv hcf (kX3_set h_10) (cwX0_addOrder_X3_set hts) hK hP hD hS hA jB_q (ci := 3) (q0 := 7) rfl rfl rfl hl.1 rfl (Nat.le_of_ble_eq_true rfl) dX0_addOrder_35 ⟨Nat.zero_le _, Nat.zero_le _⟩ (fun H locs hP hD hS => ?_)
  refine lv_aload_n hx hb dX0_addOrder_38 rfl (lv_at hl 1 rfl) ?_
  refine gf (q0 := 0) hx hb hts hown hK flX0_addOrder_26 hP rfl rfl dX0_addOrder_39 ?_
  refine lv_iload_n hx hb dX0_addOrder_42 rfl (lv_at hl 0 rfl) ?_
  refine lv_iconst (v := 3) hx hb dX0_addOrder_43 (by decide) ?_
  refine lv_iconst (v := (-1)) hx hb dX0_addOrder_44 (by decide) ?_
  obtain ⟨qf11, h_12, hm⟩ := b1_s hm
  refine mu_vv hcf (kX3_set h_12) (cwX0_addOrder_X3_set hts) hK hP hD hS hA jB_q (ci := 3) (q0 := 7) rfl rfl rfl hl.1 rfl (Nat.le_of_ble_eq_true rfl) dX0_addOrder_45 ⟨Nat.zero_le _, Nat.zero_le _⟩ (fun H locs hP hD hS => ?_)
  refine lv_aload_n hx hb dX0_addOrder_48 rfl (lv_at hl 1 rfl) ?_
  refine lv_iload_n hx hb dX0_addOrder_49 rfl (lv_at hl 2 rfl) ?_
  obtain ⟨v13, qf14, h_15, hm⟩ := b2_s hm
  refine mu_vi hcf (kX0_release h_15) (cwX0_addOrder_X0_release hts) hK hP hD hS hA Jn.rf (ci := 0) (q0 := 0) rfl rfl rfl hl.1 rfl (Nat.le_of_ble_eq_true rfl) dX0_addOrder_50 ⟨Nat.zero_le _, Nat.zero_le _⟩ (fun H locs hP hD hS => ?_)
  refine lv_pop hx hb dX0_addOrder_53 rfl ?_
  refine lv_iload_n hx hb dX0_addOrder_54 rfl (lv_at hl 0 rfl) ?_
  cases hm
  exact hret _ _ _ _ dX0_addOrder_55 rfl hP hD hS
/-! X0 isClaim(II)Z -/
abbrev rmX0_isClaim : Room := { frames := 1, cells := 0, slots := 0, locals := 23 }
theorem hdX0_isClaim : yX0_isClaim.cls = RX0 ∧ yX0_isClaim.cls ≠ "java/lang/invoke/MethodHandle" ∧ yX0_isClaim.cls ≠ "java/lang/invoke/VarHandle" ∧ (parseMethodDescriptor yX0_isClaim.desc).map (fun d => d.parameters.length) = some 2 := by decide +kernel
theorem inX0_isClaim_X0 : ∀ w ∈ u_ws RX0 TX0 7, w ∈ wsX0_isClaim := by decide +kernel
theorem cwX0_isClaim_X3_get {s : State} {args : Array Value} (hts : ∀ w ∈ wsX0_isClaim, w.before args s = true) : CallW rmX0_isClaim s args RX0 RX3 58 yX3_get cX3_get 4 (some .int) wsX3_get rmX3_get 0 0 2 := cwV 2 hts gX0_isClaim_X3_get rfl rfl rfl hdX3_get ⟨Nat.le_of_ble_eq_true rfl, Nat.le_of_ble_eq_true rfl⟩
theorem flX0_isClaim_23 : Fl wsX0_isClaim RX0 23 0 2 := ⟨_, _, _, rfl, by decide, inX0_isClaim_X0, by decide +kernel⟩
set_option maxRecDepth 100000 in
set_option maxHeartbeats 4000000 in
theorem kX0_isClaim {l : Launch} {D : va_G} {cI cB cL cK : ClassId} {ad : Nat → Nat} {ho : Int32} {td : Int32} {pd : Int32} {sr : Int32} {dr : Int32} {ir : Int32} {qr : Int32} {sf : Nat → Int32} {df : Nat → Int32} {jf : Nat → Int32} {qf : Nat → Int32} {p1 : Int32} {p2 : Int32} {res : Int32} (hm : mX0_isClaim ir jf p1 p2 = some res) : Rd l D cI cB cL cK yX0_isClaim wsX0_isClaim rmX0_isClaim [.ref (ad 0), .int p1, .int p2] (wB cI ad ho td pd sr dr ir qr sf df jf qf) res := by
  refine Rd.of (cc := cX0_isClaim) (own := RX0) (by decide) rfl rfl (Nat.le_of_ble_eq_true rfl) (fun p e s m below meth c ls Q C hP hl hret => ?_)
  obtain ⟨hx, hb, hr, hml, hown, hts, hlk, hK⟩ := id C
  have hcf : CallFix p m c cX0_isClaim 3 s _ wsX0_isClaim RX0 := ⟨hx, hb, hml, hown, hts⟩
  have hl : lv_has ls 3 [(0, .ref (ad 0)), (1, .int p1), (2, .int p2)] := hl
  unfold mX0_isClaim at hm
  refine lv_aload_n hx hb dX0_isClaim_0 rfl (lv_at hl 0 rfl) ?_
  refine gf (q0 := 0) hx hb hts hown hK flX0_isClaim_23 hP rfl rfl dX0_isClaim_1 ?_
  refine lv_iload_n hx hb dX0_isClaim_4 rfl (lv_at hl 1 rfl) ?_
  refine lv_iconst (v := 0) hx hb dX0_isClaim_5 (by decide) ?_
  obtain ⟨v1, h_2, hm⟩ := b1_s hm
  refine rd_v hcf (kX3_get h_2) (cwX0_isClaim_X3_get hts) hK hP sB_j (ci := 3) (q0 := 5) rfl rfl rfl hl.1 rfl (Nat.le_of_ble_eq_true rfl) dX0_isClaim_6 ⟨Nat.zero_le _, Nat.zero_le _⟩ ?_
  refine lv_iload_n hx hb dX0_isClaim_9 rfl (lv_at hl 2 rfl) ?_
  refine lv_icmp_ne (tgt := 41) hx hb dX0_isClaim_10 (by decide) (fun c_3 => ?_) (fun c_3 => ?_)
  · replace hm := br_n hm c_3
    refine lv_iconst (v := 0) hx hb dX0_isClaim_41 (by decide) ?_
    cases hm
    exact hret _ _ dX0_isClaim_42 rfl
  · replace hm := br_p hm c_3
    refine lv_aload_n hx hb dX0_isClaim_13 rfl (lv_at hl 0 rfl) ?_
    refine gf (q0 := 0) hx hb hts hown hK flX0_isClaim_23 hP rfl rfl dX0_isClaim_14 ?_
    refine lv_iload_n hx hb dX0_isClaim_17 rfl (lv_at hl 1 rfl) ?_
    refine lv_iconst (v := 2) hx hb dX0_isClaim_18 (by decide) ?_
    obtain ⟨v4, h_5, hm⟩ := b1_s hm
    refine rd_v hcf (kX3_get h_5) (cwX0_isClaim_X3_get hts) hK hP sB_j (ci := 3) (q0 := 5) rfl rfl rfl hl.1 rfl (Nat.le_of_ble_eq_true rfl) dX0_isClaim_19 ⟨Nat.zero_le _, Nat.zero_le _⟩ ?_
    refine lv_if_le (tgt := 41) hx hb dX0_isClaim_22 (by decide) (fun c_6 => ?_) (fun c_6 => ?_)
    · replace hm := br_p hm c_6
      refine lv_iconst (v := 0) hx hb dX0_isClaim_41 (by decide) ?_
      cases hm
      exact hret _ _ dX0_isClaim_42 rfl
    · replace hm := br_n hm c_6
      refine lv_aload_n hx hb dX0_isClaim_25 rfl (lv_at hl 0 rfl) ?_
      refine gf (q0 := 0) hx hb hts hown hK flX0_isClaim_23 hP rfl rfl dX0_isClaim_26 ?_
      refine lv_iload_n hx hb dX0_isClaim_29 rfl (lv_at hl 1 rfl) ?_
      refine lv_iconst (v := 5) hx hb dX0_isClaim_30 (by decide) ?_
      obtain ⟨v7, h_8, hm⟩ := b1_s hm
      refine rd_v hcf (kX3_get h_8) (cwX0_isClaim_X3_get hts) hK hP sB_j (ci := 3) (q0 := 5) rfl rfl rfl hl.1 rfl (Nat.le_of_ble_eq_true rfl) dX0_isClaim_31 ⟨Nat.zero_le _, Nat.zero_le _⟩ ?_
      refine lv_if_ne (tgt := 41) hx hb dX0_isClaim_34 (by decide) (fun c_9 => ?_) (fun c_9 => ?_)
      · replace hm := br_n hm c_9
        refine lv_iconst (v := 0) hx hb dX0_isClaim_41 (by decide) ?_
        cases hm
        exact hret _ _ dX0_isClaim_42 rfl
      · replace hm := br_p hm c_9
        refine lv_iconst (v := 1) hx hb dX0_isClaim_37 (by decide) ?_
        refine lv_goto (tgt := 42) hx hb dX0_isClaim_38 (by decide) ?_
        cases hm
        exact hret _ _ dX0_isClaim_42 rfl
/-! X0 eldestClaim(I)I -/
abbrev rmX0_eldestClaim : Room := { frames := 2, cells := 0, slots := 0, locals := 45 }
theorem hdX0_eldestClaim : yX0_eldestClaim.cls = RX0 ∧ yX0_eldestClaim.cls ≠ "java/lang/invoke/MethodHandle" ∧ yX0_eldestClaim.cls ≠ "java/lang/invoke/VarHandle" ∧ (parseMethodDescriptor yX0_eldestClaim.desc).map (fun d => d.parameters.length) = some 1 := by decide +kernel
theorem inX0_eldestClaim_X0 : ∀ w ∈ u_ws RX0 TX0 7, w ∈ wsX0_eldestClaim := by decide +kernel
theorem cwX0_eldestClaim_X0_isClaim {s : State} {args : Array Value} (hts : ∀ w ∈ wsX0_eldestClaim, w.before args s = true) : CallW rmX0_eldestClaim s args RX0 RX0 86 yX0_isClaim cX0_isClaim 3 (some .boolean) wsX0_isClaim rmX0_isClaim 0 0 2 := cwV 2 hts gX0_eldestClaim_X0_isClaim rfl rfl rfl hdX0_isClaim ⟨Nat.le_of_ble_eq_true rfl, Nat.le_of_ble_eq_true rfl⟩
theorem cwX0_eldestClaim_X3_get {s : State} {args : Array Value} (hts : ∀ w ∈ wsX0_eldestClaim, w.before args s = true) : CallW rmX0_eldestClaim s args RX0 RX3 58 yX3_get cX3_get 4 (some .int) wsX3_get rmX3_get 0 0 2 := cwV 2 hts gX0_eldestClaim_X3_get rfl rfl rfl hdX3_get ⟨Nat.le_of_ble_eq_true rfl, Nat.le_of_ble_eq_true rfl⟩
theorem cwX0_eldestClaim_X3_size {s : State} {args : Array Value} (hts : ∀ w ∈ wsX0_eldestClaim, w.before args s = true) : CallW rmX0_eldestClaim s args RX0 RX3 83 yX3_size cX3_size 1 (some .int) wsX3_size rmX3_size 0 0 0 := cwV 0 hts gX0_eldestClaim_X3_size rfl rfl rfl hdX3_size ⟨Nat.le_of_ble_eq_true rfl, Nat.le_of_ble_eq_true rfl⟩
theorem flX0_eldestClaim_23 : Fl wsX0_eldestClaim RX0 23 0 2 := ⟨_, _, _, rfl, by decide, inX0_eldestClaim_X0, by decide +kernel⟩
set_option maxRecDepth 100000 in
set_option maxHeartbeats 4000000 in
theorem tX0_eldestClaim_L4 {ad : Nat → Nat} {ho : Int32} {td : Int32} {pd : Int32} {sr : Int32} {dr : Int32} {ir : Int32} {qr : Int32} {sf : Nat → Int32} {df : Nat → Int32} {jf : Nat → Int32} {qf : Nat → Int32} {res : Int32} (C : Cx p s m args meth c cX0_eldestClaim (some .int) 4 wsX0_eldestClaim RX0 D cI cB cL cK) (hP : va_P D vwCl (wB cI ad ho td pd sr dr ir qr sf df jf qf) s.heap) (hret : ∀ (pc : Nat) (ls : Array Slot), decode cX0_eldestClaim pc = .ok (.ireturn, 1) → narrow .int (.int res) = .int res → W p l e rmX0_eldestClaim s m args below meth c s.heap [] 0 0 Q (F0 m pc ls [.int res])) : ∀ (n9 : Nat) (x1 : Int32) (x2 : Int32) (x3 : Int32), mX0_eldestClaim_L4 n9 ir jf x1 x2 x3 = some res → ∀ (ls : Array Slot), lv_has ls 4 [(0, .ref (ad 0)), (1, .int x1), (2, .int x2), (3, .int x3)] → W p l e rmX0_eldestClaim s m args below meth c s.heap [] 0 0 Q (F0 m 4 ls []) := by
  obtain ⟨hx, hb, hr, hml, hown, hts, hlk, hK⟩ := id C
  have hcf : CallFix p m c cX0_eldestClaim 4 s args wsX0_eldestClaim RX0 := ⟨hx, hb, hml, hown, hts⟩
  intro n9
  induction n9 with
  | zero => intro x1 x2 x3 hm; cases hm
  | succ k ih =>
    intro x1 x2 x3 hm ls hl
    rw [mX0_eldestClaim_L4.eq_2] at hm
    refine lv_iload_n hx hb dX0_eldestClaim_4 rfl (lv_at hl 3 rfl) ?_
    refine lv_aload_n hx hb dX0_eldestClaim_5 rfl (lv_at hl 0 rfl) ?_
    refine gf (q0 := 0) hx hb hts hown hK flX0_eldestClaim_23 hP rfl rfl dX0_eldestClaim_6 ?_
    obtain ⟨v1, h_2, hm⟩ := b1_s hm
    refine rd_v hcf (kX3_size h_2) (cwX0_eldestClaim_X3_size hts) hK hP sB_j (ci := 3) (q0 := 5) rfl rfl rfl hl.1 rfl (Nat.le_of_ble_eq_true rfl) dX0_eldestClaim_9 ⟨Nat.zero_le _, Nat.zero_le _⟩ ?_
    refine lv_icmp_ge (tgt := 58) hx hb dX0_eldestClaim_12 (by decide) (fun c_3 => ?_) (fun c_3 => ?_)
    · replace hm := br_p hm c_3
      refine lv_iload_n hx hb dX0_eldestClaim_58 rfl (lv_at hl 2 rfl) ?_
      cases hm
      exact hret _ _ dX0_eldestClaim_59 rfl
    · replace hm := br_n hm c_3
      refine lv_aload_n hx hb dX0_eldestClaim_15 rfl (lv_at hl 0 rfl) ?_
      refine lv_iload_n hx hb dX0_eldestClaim_16 rfl (lv_at hl 3 rfl) ?_
      refine lv_iload_n hx hb dX0_eldestClaim_17 rfl (lv_at hl 1 rfl) ?_
      obtain ⟨v4, h_5, hm⟩ := b1_s hm
      refine rd_v hcf (kX0_isClaim h_5) (cwX0_eldestClaim_X0_isClaim hts) hK hP Sb.rf (ci := 0) (q0 := 0) rfl rfl rfl hl.1 rfl (Nat.le_of_ble_eq_true rfl) dX0_eldestClaim_18 ⟨Nat.zero_le _, Nat.zero_le _⟩ ?_
      refine lv_if_eq (tgt := 52) hx hb dX0_eldestClaim_21 (by decide) (fun c_6 => ?_) (fun c_6 => ?_)
      · replace hm := br_p hm c_6
        refine lv_iinc (v := (x3 + 1)) (lv' := [(3, .int (x3 + 1)), (0, .ref (ad 0)), (1, .int x1), (2, .int x2)]) hx hb dX0_eldestClaim_52 hl (k := 3) rfl rfl (by decide) rfl (fun ls hl => ?_)
        refine lv_goto (tgt := 4) hx hb dX0_eldestClaim_55 (by decide) ?_
        exact ih _ _ _ hm _ (lv_sub hl [1, 2, 3, 0] rfl)
      · replace hm := br_n hm c_6
        refine lv_iload_n hx hb dX0_eldestClaim_24 rfl (lv_at hl 2 rfl) ?_
        refine lv_iconst (v := (-1)) hx hb dX0_eldestClaim_25 (by decide) ?_
        refine lv_icmp_eq (tgt := 50) hx hb dX0_eldestClaim_26 (by decide) (fun c_7 => ?_) (fun c_7 => ?_)
        · replace hm := br_p hm c_7
          refine lv_iload_n hx hb dX0_eldestClaim_50 rfl (lv_at hl 3 rfl) ?_
          refine lv_istore_n (lv' := [(2, .int x3), (0, .ref (ad 0)), (1, .int x1), (3, .int x3)]) hx hb dX0_eldestClaim_51 rfl hl (by decide) rfl (fun ls hl => ?_)
          refine lv_iinc (v := (x3 + 1)) (lv' := [(3, .int (x3 + 1)), (2, .int x3), (0, .ref (ad 0)), (1, .int x1)]) hx hb dX0_eldestClaim_52 hl (k := 3) rfl rfl (by decide) rfl (fun ls hl => ?_)
          refine lv_goto (tgt := 4) hx hb dX0_eldestClaim_55 (by decide) ?_
          exact ih _ _ _ hm _ (lv_sub hl [2, 3, 1, 0] rfl)
        · replace hm := br_n hm c_7
          refine lv_aload_n hx hb dX0_eldestClaim_29 rfl (lv_at hl 0 rfl) ?_
          refine gf (q0 := 0) hx hb hts hown hK flX0_eldestClaim_23 hP rfl rfl dX0_eldestClaim_30 ?_
          refine lv_iload_n hx hb dX0_eldestClaim_33 rfl (lv_at hl 3 rfl) ?_
          refine lv_iconst (v := 3) hx hb dX0_eldestClaim_34 (by decide) ?_
          obtain ⟨v8, h_9, hm⟩ := b1_s hm
          refine rd_v hcf (kX3_get h_9) (cwX0_eldestClaim_X3_get hts) hK hP sB_j (ci := 3) (q0 := 5) rfl rfl rfl hl.1 rfl (Nat.le_of_ble_eq_true rfl) dX0_eldestClaim_35 ⟨Nat.zero_le _, Nat.zero_le _⟩ ?_
          refine lv_aload_n hx hb dX0_eldestClaim_38 rfl (lv_at hl 0 rfl) ?_
          refine gf (q0 := 0) hx hb hts hown hK flX0_eldestClaim_23 hP rfl rfl dX0_eldestClaim_39 ?_
          refine lv_iload_n hx hb dX0_eldestClaim_42 rfl (lv_at hl 2 rfl) ?_
          refine lv_iconst (v := 3) hx hb dX0_eldestClaim_43 (by decide) ?_
          obtain ⟨v10, h_11, hm⟩ := b1_s hm
          refine rd_v hcf (kX3_get h_11) (cwX0_eldestClaim_X3_get hts) hK hP sB_j (ci := 3) (q0 := 5) rfl rfl rfl hl.1 rfl (Nat.le_of_ble_eq_true rfl) dX0_eldestClaim_44 ⟨Nat.zero_le _, Nat.zero_le _⟩ ?_
          refine lv_icmp_ge (tgt := 52) hx hb dX0_eldestClaim_47 (by decide) (fun c_12 => ?_) (fun c_12 => ?_)
          · replace hm := br_p hm c_12
            refine lv_iinc (v := (x3 + 1)) (lv' := [(3, .int (x3 + 1)), (0, .ref (ad 0)), (1, .int x1), (2, .int x2)]) hx hb dX0_eldestClaim_52 hl (k := 3) rfl rfl (by decide) rfl (fun ls hl => ?_)
            refine lv_goto (tgt := 4) hx hb dX0_eldestClaim_55 (by decide) ?_
            exact ih _ _ _ hm _ (lv_sub hl [1, 2, 3, 0] rfl)
          · replace hm := br_n hm c_12
            refine lv_iload_n hx hb dX0_eldestClaim_50 rfl (lv_at hl 3 rfl) ?_
            refine lv_istore_n (lv' := [(2, .int x3), (0, .ref (ad 0)), (1, .int x1), (3, .int x3)]) hx hb dX0_eldestClaim_51 rfl hl (by decide) rfl (fun ls hl => ?_)
            refine lv_iinc (v := (x3 + 1)) (lv' := [(3, .int (x3 + 1)), (2, .int x3), (0, .ref (ad 0)), (1, .int x1)]) hx hb dX0_eldestClaim_52 hl (k := 3) rfl rfl (by decide) rfl (fun ls hl => ?_)
            refine lv_goto (tgt := 4) hx hb dX0_eldestClaim_55 (by decide) ?_
            exact ih _ _ _ hm _ (lv_sub hl [2, 3, 1, 0] rfl)
set_option maxRecDepth 100000 in
set_option maxHeartbeats 4000000 in
theorem kX0_eldestClaim {l : Launch} {D : va_G} {cI cB cL cK : ClassId} {ad : Nat → Nat} {ho : Int32} {td : Int32} {pd : Int32} {sr : Int32} {dr : Int32} {ir : Int32} {qr : Int32} {sf : Nat → Int32} {df : Nat → Int32} {jf : Nat → Int32} {qf : Nat → Int32} {p1 : Int32} {res : Int32} (hm : mX0_eldestClaim ir jf p1 = some res) : Rd l D cI cB cL cK yX0_eldestClaim wsX0_eldestClaim rmX0_eldestClaim [.ref (ad 0), .int p1] (wB cI ad ho td pd sr dr ir qr sf df jf qf) res := by
  refine Rd.of (cc := cX0_eldestClaim) (own := RX0) (by decide) rfl rfl (Nat.le_of_ble_eq_true rfl) (fun p e s m below meth c ls Q C hP hl hret => ?_)
  obtain ⟨hx, hb, hr, hml, hown, hts, hlk, hK⟩ := id C
  have hcf : CallFix p m c cX0_eldestClaim 4 s _ wsX0_eldestClaim RX0 := ⟨hx, hb, hml, hown, hts⟩
  have hl : lv_has ls 4 [(0, .ref (ad 0)), (1, .int p1)] := hl
  unfold mX0_eldestClaim at hm
  refine lv_iconst (v := (-1)) hx hb dX0_eldestClaim_0 (by decide) ?_
  refine lv_istore_n (lv' := [(2, .int (-1)), (0, .ref (ad 0)), (1, .int p1)]) hx hb dX0_eldestClaim_1 rfl hl (by decide) rfl (fun ls hl => ?_)
  refine lv_iconst (v := 0) hx hb dX0_eldestClaim_2 (by decide) ?_
  refine lv_istore_n (lv' := [(3, .int 0), (2, .int (-1)), (0, .ref (ad 0)), (1, .int p1)]) hx hb dX0_eldestClaim_3 rfl hl (by decide) rfl (fun ls hl => ?_)
  exact tX0_eldestClaim_L4 C hP hret _ _ _ _ hm _ (lv_sub hl [2, 3, 1, 0] rfl)
/-! X0 placeCash(I)V -/
abbrev rmX0_placeCash : Room := { frames := 3, cells := 0, slots := 0, locals := 68 }
theorem hdX0_placeCash : yX0_placeCash.cls = RX0 ∧ yX0_placeCash.cls ≠ "java/lang/invoke/MethodHandle" ∧ yX0_placeCash.cls ≠ "java/lang/invoke/VarHandle" ∧ (parseMethodDescriptor yX0_placeCash.desc).map (fun d => d.parameters.length) = some 1 := by decide +kernel
theorem inX0_placeCash_X0 : ∀ w ∈ u_ws RX0 TX0 7, w ∈ wsX0_placeCash := by decide +kernel
theorem cwX0_placeCash_X0_eldestClaim {s : State} {args : Array Value} (hts : ∀ w ∈ wsX0_placeCash, w.before args s = true) : CallW rmX0_placeCash s args RX0 RX0 110 yX0_eldestClaim cX0_eldestClaim 4 (some .int) wsX0_eldestClaim rmX0_eldestClaim 0 0 1 := cwV 1 hts gX0_placeCash_X0_eldestClaim rfl rfl rfl hdX0_eldestClaim ⟨Nat.le_of_ble_eq_true rfl, Nat.le_of_ble_eq_true rfl⟩
theorem cwX0_placeCash_X3_get {s : State} {args : Array Value} (hts : ∀ w ∈ wsX0_placeCash, w.before args s = true) : CallW rmX0_placeCash s args RX0 RX3 58 yX3_get cX3_get 4 (some .int) wsX3_get rmX3_get 0 0 2 := cwV 2 hts gX0_placeCash_X3_get rfl rfl rfl hdX3_get ⟨Nat.le_of_ble_eq_true rfl, Nat.le_of_ble_eq_true rfl⟩
theorem cwX0_placeCash_X3_increase {s : State} {args : Array Value} (hts : ∀ w ∈ wsX0_placeCash, w.before args s = true) : CallW rmX0_placeCash s args RX0 RX3 70 yX3_increase cX3_increase 4 none wsX3_increase rmX3_increase 0 0 3 := cwV 3 hts gX0_placeCash_X3_increase rfl rfl rfl hdX3_increase ⟨Nat.le_of_ble_eq_true rfl, Nat.le_of_ble_eq_true rfl⟩
theorem flX0_placeCash_20 : Fl wsX0_placeCash RX0 20 0 1 := ⟨_, _, _, rfl, by decide, inX0_placeCash_X0, by decide +kernel⟩
theorem flX0_placeCash_23 : Fl wsX0_placeCash RX0 23 0 2 := ⟨_, _, _, rfl, by decide, inX0_placeCash_X0, by decide +kernel⟩
theorem mfX0_placeCash_min_cd : Cond.code Lib.Math.min.name Lib.Math.min.code 2 (some .int) ∈ wsX0_placeCash := by decide +kernel
theorem mfX0_placeCash_min_in : Cond.initialized "java/lang/Math" ∈ wsX0_placeCash := by decide +kernel
theorem mfX0_placeCash_min_ml : Cond.methodLink RX0 101 Lib.Math.min.name ∈ wsX0_placeCash := by decide +kernel
theorem mfX0_placeCash_min_st : Cond.static Lib.Math.min.name ∈ wsX0_placeCash := by decide +kernel
set_option maxRecDepth 100000 in
set_option maxHeartbeats 4000000 in
theorem tX0_placeCash_b31 {ad : Nat → Nat} {ho : Int32} {td : Int32} {pd : Int32} {sr : Int32} {dr : Int32} {ir : Int32} {qr : Int32} {sf : Nat → Int32} {qf : Nat → Int32} {df' : Nat → Int32} {jf' : Nat → Int32} {rec2 : Int32 → Int32 → (Nat → Int32) → (Nat → Int32) → Option ((Nat → Int32) × (Nat → Int32))} (C : Cx p s m args meth c cX0_placeCash none 6 wsX0_placeCash RX0 D cI cB cL cK) (hA : ∀ q : Nat, s.heap.size ≤ q → A q) (hret : ∀ (pc : Nat) (ls : Array Slot) (H : Heap) (locs : List Loc), decode cX0_placeCash pc = .ok (.return_, 1) → va_P D vwCl (wB cI ad ho td pd sr dr ir qr sf df' jf' qf) H → va_D A (wB cI ad ho td pd sr dr ir qr sf df' jf' qf) → va_S A s.heap H locs → W p l e rmX0_placeCash s m args below meth c H locs 0 0 Q (F0 m pc ls [])) (hrec2 : ∀ (x1 : Int32) (x2 : Int32) (df : Nat → Int32) (jf : Nat → Int32), rec2 x1 x2 df jf = some (df', jf') → ∀ (H : Heap) (locs : List Loc) (ls : Array Slot), va_P D vwCl (wB cI ad ho td pd sr dr ir qr sf df jf qf) H → va_D A (wB cI ad ho td pd sr dr ir qr sf df jf qf) → va_S A s.heap H locs → lv_has ls 6 [(0, .ref (ad 0)), (1, .int x1), (2, .int x2)] → W p l e rmX0_placeCash s m args below meth c H locs 0 0 Q (F0 m 2 ls [])) : ∀ (x1 : Int32) (x2 : Int32) (x3 : Int32) (k0 : Int32) (df : Nat → Int32) (jf : Nat → Int32), mX0_placeCash_b31 rec2 dr ir x1 x2 x3 k0 df jf = some (df', jf') → ∀ (H : Heap) (locs : List Loc) (ls : Array Slot), va_P D vwCl (wB cI ad ho td pd sr dr ir qr sf df jf qf) H → va_D A (wB cI ad ho td pd sr dr ir qr sf df jf qf) → va_S A s.heap H locs → lv_has ls 6 [(0, .ref (ad 0)), (1, .int x1), (2, .int x2), (3, .int x3)] → W p l e rmX0_placeCash s m args below meth c H locs 0 0 Q (F0 m 31 ls [.int k0]) := by
  obtain ⟨hx, hb, hr, hml, hown, hts, hlk, hK⟩ := id C
  have hcf : CallFix p m c cX0_placeCash 6 s args wsX0_placeCash RX0 := ⟨hx, hb, hml, hown, hts⟩
  intro x1 x2 x3 k0 df jf hm H locs ls hP hD hS hl
  unfold mX0_placeCash_b31 at hm
  refine lv_istore (lv' := [(4, .int k0), (0, .ref (ad 0)), (1, .int x1), (2, .int x2), (3, .int x3)]) hx hb dX0_placeCash_31 hl (by decide) rfl (fun ls hl => ?_)
  refine lv_iload hx hb dX0_placeCash_33 (lv_at hl 0 rfl) ?_
  refine lv_iconst (v := (-1)) hx hb dX0_placeCash_35 (by decide) ?_
  refine lv_icmp_ne (tgt := 40) hx hb dX0_placeCash_36 (by decide) (fun c_7 => ?_) (fun c_7 => ?_)
  · replace hm := br_n hm c_7
    refine lv_iload_n hx hb dX0_placeCash_40 rfl (lv_at hl 4 rfl) ?_
    refine lv_aload_n hx hb dX0_placeCash_41 rfl (lv_at hl 1 rfl) ?_
    refine gf (q0 := 0) hx hb hts hown hK flX0_placeCash_23 hP rfl rfl dX0_placeCash_42 ?_
    refine lv_iload hx hb dX0_placeCash_45 (lv_at hl 0 rfl) ?_
    refine lv_iconst (v := 2) hx hb dX0_placeCash_47 (by decide) ?_
    obtain ⟨v8, h_9, hm⟩ := b1_s hm
    refine rd_v hcf (kX3_get h_9) (cwX0_placeCash_X3_get hts) hK hP sB_j (ci := 3) (q0 := 5) rfl rfl rfl hl.1 rfl (Nat.le_of_ble_eq_true rfl) dX0_placeCash_48 ⟨Nat.zero_le _, Nat.zero_le _⟩ ?_
    refine va_mmin hx hb (hml.trans hl.1.symm) hown (hts _ mfX0_placeCash_min_ml) (hts _ mfX0_placeCash_min_st) (hts _ mfX0_placeCash_min_in) (hts _ mfX0_placeCash_min_cd) (Nat.le_of_ble_eq_true rfl) (Nat.le_of_ble_eq_true rfl) (Nat.zero_le _) (Nat.zero_le _) dX0_placeCash_51 ?_
    refine lv_istore (lv' := [(5, .int (mnI x3 v8)), (4, .int k0), (0, .ref (ad 0)), (1, .int x1), (2, .int x2), (3, .int x3)]) hx hb dX0_placeCash_54 hl (by decide) rfl (fun ls hl => ?_)
    refine lv_aload_n hx hb dX0_placeCash_56 rfl (lv_at hl 2 rfl) ?_
    refine gf (q0 := 0) hx hb hts hown hK flX0_placeCash_23 hP rfl rfl dX0_placeCash_57 ?_
    refine lv_iload hx hb dX0_placeCash_60 (lv_at hl 1 rfl) ?_
    refine lv_iconst (v := 2) hx hb dX0_placeCash_62 (by decide) ?_
    refine lv_iload hx hb dX0_placeCash_63 (lv_at hl 0 rfl) ?_
    refine lv_ineg hx hb dX0_placeCash_65 ?_
    obtain ⟨jf10, h_11, hm⟩ := b1_s hm
    refine mu_vv hcf (kX3_increase h_11) (cwX0_placeCash_X3_increase hts) hK hP hD hS hA jB_j (ci := 3) (q0 := 5) rfl rfl rfl hl.1 rfl (Nat.le_of_ble_eq_true rfl) dX0_placeCash_66 ⟨Nat.zero_le _, Nat.zero_le _⟩ (fun H locs hP hD hS => ?_)
    refine lv_aload_n hx hb dX0_placeCash_69 rfl (lv_at hl 2 rfl) ?_
    refine gf (q0 := 0) hx hb hts hown hK flX0_placeCash_20 hP rfl rfl dX0_placeCash_70 ?_
    refine lv_iload_n hx hb dX0_placeCash_73 rfl (lv_at hl 3 rfl) ?_
    refine lv_iconst (v := 2) hx hb dX0_placeCash_74 (by decide) ?_
    refine lv_iload hx hb dX0_placeCash_75 (lv_at hl 0 rfl) ?_
    refine lv_ineg hx hb dX0_placeCash_77 ?_
    obtain ⟨df12, h_13, hm⟩ := b1_s hm
    refine mu_vv hcf (kX3_increase h_13) (cwX0_placeCash_X3_increase hts) hK hP hD hS hA jB_d (ci := 3) (q0 := 3) rfl rfl rfl hl.1 rfl (Nat.le_of_ble_eq_true rfl) dX0_placeCash_78 ⟨Nat.zero_le _, Nat.zero_le _⟩ (fun H locs hP hD hS => ?_)
    refine lv_iinc (v := (x2 + 1)) (lv' := [(2, .int (x2 + 1)), (5, .int (mnI x3 v8)), (4, .int k0), (0, .ref (ad 0)), (1, .int x1), (3, .int x3)]) hx hb dX0_placeCash_81 hl (k := 4) rfl rfl (by decide) rfl (fun ls hl => ?_)
    refine lv_goto (tgt := 2) hx hb dX0_placeCash_84 (by decide) ?_
    exact hrec2 _ _ _ _ hm _ _ _ hP hD hS (lv_sub hl [3, 4, 0] rfl)
  · replace hm := br_p hm c_7
    cases hm
    exact hret _ _ _ _ dX0_placeCash_39 hP hD hS
set_option maxRecDepth 100000 in
set_option maxHeartbeats 4000000 in
theorem tX0_placeCash_L2 {ad : Nat → Nat} {ho : Int32} {td : Int32} {pd : Int32} {sr : Int32} {dr : Int32} {ir : Int32} {qr : Int32} {sf : Nat → Int32} {qf : Nat → Int32} {df' : Nat → Int32} {jf' : Nat → Int32} (C : Cx p s m args meth c cX0_placeCash none 6 wsX0_placeCash RX0 D cI cB cL cK) (hA : ∀ q : Nat, s.heap.size ≤ q → A q) (hret : ∀ (pc : Nat) (ls : Array Slot) (H : Heap) (locs : List Loc), decode cX0_placeCash pc = .ok (.return_, 1) → va_P D vwCl (wB cI ad ho td pd sr dr ir qr sf df' jf' qf) H → va_D A (wB cI ad ho td pd sr dr ir qr sf df' jf' qf) → va_S A s.heap H locs → W p l e rmX0_placeCash s m args below meth c H locs 0 0 Q (F0 m pc ls [])) : ∀ (n9 : Nat) (x1 : Int32) (x2 : Int32) (df : Nat → Int32) (jf : Nat → Int32), mX0_placeCash_L2 n9 dr ir x1 x2 df jf = some (df', jf') → ∀ (H : Heap) (locs : List Loc) (ls : Array Slot), va_P D vwCl (wB cI ad ho td pd sr dr ir qr sf df jf qf) H → va_D A (wB cI ad ho td pd sr dr ir qr sf df jf qf) → va_S A s.heap H locs → lv_has ls 6 [(0, .ref (ad 0)), (1, .int x1), (2, .int x2)] → W p l e rmX0_placeCash s m args below meth c H locs 0 0 Q (F0 m 2 ls []) := by
  obtain ⟨hx, hb, hr, hml, hown, hts, hlk, hK⟩ := id C
  have hcf : CallFix p m c cX0_placeCash 6 s args wsX0_placeCash RX0 := ⟨hx, hb, hml, hown, hts⟩
  intro n9
  induction n9 with
  | zero => intro x1 x2 df jf hm; cases hm
  | succ k ih =>
    intro x1 x2 df jf hm H locs ls hP hD hS hl
    rw [mX0_placeCash_L2.eq_2] at hm
    refine lv_iload_n hx hb dX0_placeCash_2 rfl (lv_at hl 2 rfl) ?_
    refine lv_bipush (v := 60) hx hb dX0_placeCash_3 (by decide) ?_
    refine lv_icmp_ge (tgt := 87) hx hb dX0_placeCash_5 (by decide) (fun c_1 => ?_) (fun c_1 => ?_)
    · replace hm := br_p hm c_1
      cases hm
      exact hret _ _ _ _ dX0_placeCash_87 hP hD hS
    · replace hm := br_n hm c_1
      refine lv_aload_n hx hb dX0_placeCash_8 rfl (lv_at hl 0 rfl) ?_
      refine gf (q0 := 0) hx hb hts hown hK flX0_placeCash_20 hP rfl rfl dX0_placeCash_9 ?_
      refine lv_iload_n hx hb dX0_placeCash_12 rfl (lv_at hl 1 rfl) ?_
      refine lv_iconst (v := 2) hx hb dX0_placeCash_13 (by decide) ?_
      obtain ⟨v2, h_3, hm⟩ := b1_s hm
      refine rd_v hcf (kX3_get h_3) (cwX0_placeCash_X3_get hts) hK hP sB_d (ci := 3) (q0 := 3) rfl rfl rfl hl.1 rfl (Nat.le_of_ble_eq_true rfl) dX0_placeCash_14 ⟨Nat.zero_le _, Nat.zero_le _⟩ ?_
      refine lv_istore_n (lv' := [(3, .int v2), (0, .ref (ad 0)), (1, .int x1), (2, .int x2)]) hx hb dX0_placeCash_17 rfl hl (by decide) rfl (fun ls hl => ?_)
      refine lv_iload_n hx hb dX0_placeCash_18 rfl (lv_at hl 0 rfl) ?_
      refine lv_if_le (tgt := 30) hx hb dX0_placeCash_19 (by decide) (fun c_4 => ?_) (fun c_4 => ?_)
      · replace hm := br_p hm c_4
        refine lv_iconst (v := (-1)) hx hb dX0_placeCash_30 (by decide) ?_
        exact tX0_placeCash_b31 C hA hret ih _ _ _ _ _ _ hm _ _ _ hP hD hS (lv_sub hl [1, 2, 3, 0] rfl)
      · replace hm := br_n hm c_4
        refine lv_aload_n hx hb dX0_placeCash_22 rfl (lv_at hl 1 rfl) ?_
        refine lv_iload_n hx hb dX0_placeCash_23 rfl (lv_at hl 2 rfl) ?_
        obtain ⟨v5, h_6, hm⟩ := b1_s hm
        refine rd_v hcf (kX0_eldestClaim h_6) (cwX0_placeCash_X0_eldestClaim hts) hK hP Sb.rf (ci := 0) (q0 := 0) rfl rfl rfl hl.1 rfl (Nat.le_of_ble_eq_true rfl) dX0_placeCash_24 ⟨Nat.zero_le _, Nat.zero_le _⟩ ?_
        refine lv_goto (tgt := 31) hx hb dX0_placeCash_27 (by decide) ?_
        exact tX0_placeCash_b31 C hA hret ih _ _ _ _ _ _ hm _ _ _ hP hD hS (lv_sub hl [1, 2, 3, 0] rfl)
set_option maxRecDepth 100000 in
set_option maxHeartbeats 4000000 in
theorem kX0_placeCash {l : Launch} {D : va_G} {cI cB cL cK : ClassId} {ad : Nat → Nat} {ho : Int32} {td : Int32} {pd : Int32} {sr : Int32} {dr : Int32} {ir : Int32} {qr : Int32} {sf : Nat → Int32} {df : Nat → Int32} {jf : Nat → Int32} {qf : Nat → Int32} {p1 : Int32} {df' : Nat → Int32} {jf' : Nat → Int32} (hm : mX0_placeCash dr ir df jf p1 = some (df', jf')) : Mu l D cI cB cL cK yX0_placeCash wsX0_placeCash rmX0_placeCash [.ref (ad 0), .int p1] (wB cI ad ho td pd sr dr ir qr sf df jf qf) (wB cI ad ho td pd sr dr ir qr sf df' jf' qf) none 0 0 := by
  refine Mu.ofv (cc := cX0_placeCash) (own := RX0) (by decide) rfl rfl (Nat.le_of_ble_eq_true rfl) (fun p e s m below meth c ls Q A C _ hA hP hD hS hl hret => ?_)
  obtain ⟨hx, hb, hr, hml, hown, hts, hlk, hK⟩ := id C
  have hcf : CallFix p m c cX0_placeCash 6 s _ wsX0_placeCash RX0 := ⟨hx, hb, hml, hown, hts⟩
  have hl : lv_has ls 6 [(0, .ref (ad 0)), (1, .int p1)] := hl
  unfold mX0_placeCash at hm
  refine lv_iconst (v := 0) hx hb dX0_placeCash_0 (by decide) ?_
  refine lv_istore_n (lv' := [(2, .int 0), (0, .ref (ad 0)), (1, .int p1)]) hx hb dX0_placeCash_1 rfl hl (by decide) rfl (fun ls hl => ?_)
  exact tX0_placeCash_L2 C hA hret _ _ _ _ _ hm _ _ _ hP hD hS (lv_sub hl [1, 2, 0] rfl)
/-! X0 billOrder(I)I -/
abbrev rmX0_billOrder : Room := { frames := 4, cells := 0, slots := 0, locals := 93 }
theorem hdX0_billOrder : yX0_billOrder.cls = RX0 ∧ yX0_billOrder.cls ≠ "java/lang/invoke/MethodHandle" ∧ yX0_billOrder.cls ≠ "java/lang/invoke/VarHandle" ∧ (parseMethodDescriptor yX0_billOrder.desc).map (fun d => d.parameters.length) = some 1 := by decide +kernel
theorem inX0_billOrder_X0 : ∀ w ∈ u_ws RX0 TX0 7, w ∈ wsX0_billOrder := by decide +kernel
theorem cwX0_billOrder_X0_addInvoice {s : State} {args : Array Value} (hts : ∀ w ∈ wsX0_billOrder, w.before args s = true) : CallW rmX0_billOrder s args RX0 RX0 62 yX0_addInvoice cX0_addInvoice 6 (some .int) wsX0_addInvoice rmX0_addInvoice 0 0 4 := cwV 4 hts gX0_billOrder_X0_addInvoice rfl rfl rfl hdX0_addInvoice ⟨Nat.le_of_ble_eq_true rfl, Nat.le_of_ble_eq_true rfl⟩
theorem cwX0_billOrder_X0_placeCash {s : State} {args : Array Value} (hts : ∀ w ∈ wsX0_billOrder, w.before args s = true) : CallW rmX0_billOrder s args RX0 RX0 66 yX0_placeCash cX0_placeCash 6 none wsX0_placeCash rmX0_placeCash 0 0 1 := cwV 1 hts gX0_billOrder_X0_placeCash rfl rfl rfl hdX0_placeCash ⟨Nat.le_of_ble_eq_true rfl, Nat.le_of_ble_eq_true rfl⟩
theorem cwX0_billOrder_X3_get {s : State} {args : Array Value} (hts : ∀ w ∈ wsX0_billOrder, w.before args s = true) : CallW rmX0_billOrder s args RX0 RX3 58 yX3_get cX3_get 4 (some .int) wsX3_get rmX3_get 0 0 2 := cwV 2 hts gX0_billOrder_X3_get rfl rfl rfl hdX3_get ⟨Nat.le_of_ble_eq_true rfl, Nat.le_of_ble_eq_true rfl⟩
theorem cwX0_billOrder_X3_set {s : State} {args : Array Value} (hts : ∀ w ∈ wsX0_billOrder, w.before args s = true) : CallW rmX0_billOrder s args RX0 RX3 50 yX3_set cX3_set 5 none wsX3_set rmX3_set 0 0 3 := cwV 3 hts gX0_billOrder_X3_set rfl rfl rfl hdX3_set ⟨Nat.le_of_ble_eq_true rfl, Nat.le_of_ble_eq_true rfl⟩
theorem flX0_billOrder_20 : Fl wsX0_billOrder RX0 20 0 1 := ⟨_, _, _, rfl, by decide, inX0_billOrder_X0, by decide +kernel⟩
theorem flX0_billOrder_26 : Fl wsX0_billOrder RX0 26 0 3 := ⟨_, _, _, rfl, by decide, inX0_billOrder_X0, by decide +kernel⟩
theorem flX0_billOrder_36 : Fl wsX0_billOrder RX0 36 0 5 := ⟨_, _, _, rfl, by decide, inX0_billOrder_X0, by decide +kernel⟩
set_option maxRecDepth 100000 in
set_option maxHeartbeats 4000000 in
theorem kX0_billOrder {l : Launch} {D : va_G} {cI cB cL cK : ClassId} {ad : Nat → Nat} {ho : Int32} {td : Int32} {pd : Int32} {sr : Int32} {dr : Int32} {ir : Int32} {qr : Int32} {sf : Nat → Int32} {df : Nat → Int32} {jf : Nat → Int32} {qf : Nat → Int32} {p1 : Int32} {res : Int32} {ir' : Int32} {df' : Nat → Int32} {jf' : Nat → Int32} {qf' : Nat → Int32} (hm : mX0_billOrder td dr ir qr df jf qf p1 = some (res, ir', df', jf', qf')) : Mu l D cI cB cL cK yX0_billOrder wsX0_billOrder rmX0_billOrder [.ref (ad 0), .int p1] (wB cI ad ho td pd sr dr ir qr sf df jf qf) (wB cI ad ho td pd sr dr ir' qr sf df' jf' qf') (some (.int res)) 0 0 := by
  refine Mu.ofi (cc := cX0_billOrder) (own := RX0) (by decide) rfl rfl (Nat.le_of_ble_eq_true rfl) (fun p e s m below meth c ls Q A C hA hP hD hS hl hret => ?_)
  obtain ⟨hx, hb, hr, hml, hown, hts, hlk, hK⟩ := id C
  have hcf : CallFix p m c cX0_billOrder 5 s _ wsX0_billOrder RX0 := ⟨hx, hb, hml, hown, hts⟩
  have hl : lv_has ls 5 [(0, .ref (ad 0)), (1, .int p1)] := hl
  unfold mX0_billOrder at hm
  refine lv_aload_n hx hb dX0_billOrder_0 rfl (lv_at hl 0 rfl) ?_
  refine gf (q0 := 0) hx hb hts hown hK flX0_billOrder_26 hP rfl rfl dX0_billOrder_1 ?_
  refine lv_iload_n hx hb dX0_billOrder_4 rfl (lv_at hl 1 rfl) ?_
  refine lv_iconst (v := 0) hx hb dX0_billOrder_5 (by decide) ?_
  obtain ⟨v1, h_2, hm⟩ := b1_s hm
  refine rd_v hcf (kX3_get h_2) (cwX0_billOrder_X3_get hts) hK hP sB_q (ci := 3) (q0 := 7) rfl rfl rfl hl.1 rfl (Nat.le_of_ble_eq_true rfl) dX0_billOrder_6 ⟨Nat.zero_le _, Nat.zero_le _⟩ ?_
  refine lv_istore_n (lv' := [(2, .int v1), (0, .ref (ad 0)), (1, .int p1)]) hx hb dX0_billOrder_9 rfl hl (by decide) rfl (fun ls hl => ?_)
  refine lv_aload_n hx hb dX0_billOrder_10 rfl (lv_at hl 1 rfl) ?_
  refine gf (q0 := 0) hx hb hts hown hK flX0_billOrder_36 hP rfl rfl dX0_billOrder_11 ?_
  refine lv_aload_n hx hb dX0_billOrder_14 rfl (lv_at hl 1 rfl) ?_
  refine gf (q0 := 0) hx hb hts hown hK flX0_billOrder_20 hP rfl rfl dX0_billOrder_15 ?_
  refine lv_iload_n hx hb dX0_billOrder_18 rfl (lv_at hl 0 rfl) ?_
  refine lv_iconst (v := 1) hx hb dX0_billOrder_19 (by decide) ?_
  obtain ⟨v3, h_4, hm⟩ := b1_s hm
  refine rd_v hcf (kX3_get h_4) (cwX0_billOrder_X3_get hts) hK hP sB_d (ci := 3) (q0 := 3) rfl rfl rfl hl.1 rfl (Nat.le_of_ble_eq_true rfl) dX0_billOrder_20 ⟨Nat.zero_le _, Nat.zero_le _⟩ ?_
  refine lv_iadd hx hb dX0_billOrder_23 ?_
  refine lv_istore_n (lv' := [(3, .int (td + v3)), (2, .int v1), (0, .ref (ad 0)), (1, .int p1)]) hx hb dX0_billOrder_24 rfl hl (by decide) rfl (fun ls hl => ?_)
  refine lv_aload_n hx hb dX0_billOrder_25 rfl (lv_at hl 2 rfl) ?_
  refine lv_iload_n hx hb dX0_billOrder_26 rfl (lv_at hl 1 rfl) ?_
  refine lv_aload_n hx hb dX0_billOrder_27 rfl (lv_at hl 2 rfl) ?_
  refine gf (q0 := 0) hx hb hts hown hK flX0_billOrder_26 hP rfl rfl dX0_billOrder_28 ?_
  refine lv_iload_n hx hb dX0_billOrder_31 rfl (lv_at hl 3 rfl) ?_
  refine lv_iconst (v := 1) hx hb dX0_billOrder_32 (by decide) ?_
  obtain ⟨v5, h_6, hm⟩ := b1_s hm
  refine rd_v hcf (kX3_get h_6) (cwX0_billOrder_X3_get hts) hK hP sB_q (ci := 3) (q0 := 7) rfl rfl rfl hl.1 rfl (Nat.le_of_ble_eq_true rfl) dX0_billOrder_33 ⟨Nat.zero_le _, Nat.zero_le _⟩ ?_
  refine lv_iload_n hx hb dX0_billOrder_36 rfl (lv_at hl 0 rfl) ?_
  refine lv_iconst (v := 0) hx hb dX0_billOrder_37 (by decide) ?_
  obtain ⟨v7, ir8, jf9, h_10, hm⟩ := b3_s hm
  refine mu_vi hcf (kX0_addInvoice h_10) (cwX0_billOrder_X0_addInvoice hts) hK hP hD hS hA Jn.rf (ci := 0) (q0 := 0) rfl rfl rfl hl.1 rfl (Nat.le_of_ble_eq_true rfl) dX0_billOrder_38 ⟨Nat.zero_le _, Nat.zero_le _⟩ (fun H locs hP hD hS => ?_)
  refine lv_istore (lv' := [(4, .int v7), (3, .int (td + v3)), (2, .int v1), (0, .ref (ad 0)), (1, .int p1)]) hx hb dX0_billOrder_41 hl (by decide) rfl (fun ls hl => ?_)
  refine lv_aload_n hx hb dX0_billOrder_43 rfl (lv_at hl 3 rfl) ?_
  refine gf (q0 := 0) hx hb hts hown hK flX0_billOrder_26 hP rfl rfl dX0_billOrder_44 ?_
  refine lv_iload_n hx hb dX0_billOrder_47 rfl (lv_at hl 4 rfl) ?_
  refine lv_iconst (v := 2) hx hb dX0_billOrder_48 (by decide) ?_
  refine lv_iconst (v := 2) hx hb dX0_billOrder_49 (by decide) ?_
  obtain ⟨qf11, h_12, hm⟩ := b1_s hm
  refine mu_vv hcf (kX3_set h_12) (cwX0_billOrder_X3_set hts) hK hP hD hS hA jB_q (ci := 3) (q0 := 7) rfl rfl rfl hl.1 rfl (Nat.le_of_ble_eq_true rfl) dX0_billOrder_50 ⟨Nat.zero_le _, Nat.zero_le _⟩ (fun H locs hP hD hS => ?_)
  refine lv_aload_n hx hb dX0_billOrder_53 rfl (lv_at hl 3 rfl) ?_
  refine gf (q0 := 0) hx hb hts hown hK flX0_billOrder_26 hP rfl rfl dX0_billOrder_54 ?_
  refine lv_iload_n hx hb dX0_billOrder_57 rfl (lv_at hl 4 rfl) ?_
  refine lv_iconst (v := 3) hx hb dX0_billOrder_58 (by decide) ?_
  refine lv_iload hx hb dX0_billOrder_59 (lv_at hl 0 rfl) ?_
  obtain ⟨qf13, h_14, hm⟩ := b1_s hm
  refine mu_vv hcf (kX3_set h_14) (cwX0_billOrder_X3_set hts) hK hP hD hS hA jB_q (ci := 3) (q0 := 7) rfl rfl rfl hl.1 rfl (Nat.le_of_ble_eq_true rfl) dX0_billOrder_61 ⟨Nat.zero_le _, Nat.zero_le _⟩ (fun H locs hP hD hS => ?_)
  refine lv_aload_n hx hb dX0_billOrder_64 rfl (lv_at hl 3 rfl) ?_
  refine lv_iload_n hx hb dX0_billOrder_65 rfl (lv_at hl 2 rfl) ?_
  obtain ⟨df15, jf16, h_17, hm⟩ := b2_s hm
  refine mu_vv hcf (kX0_placeCash h_17) (cwX0_billOrder_X0_placeCash hts) hK hP hD hS hA Jn.rf (ci := 0) (q0 := 0) rfl rfl rfl hl.1 rfl (Nat.le_of_ble_eq_true rfl) dX0_billOrder_66 ⟨Nat.zero_le _, Nat.zero_le _⟩ (fun H locs hP hD hS => ?_)
  refine lv_iload hx hb dX0_billOrder_69 (lv_at hl 0 rfl) ?_
  cases hm
  exact hret _ _ _ _ dX0_billOrder_71 rfl hP hD hS
/-! X0 receive(II)I -/
abbrev rmX0_receive : Room := { frames := 5, cells := 0, slots := 0, locals := 114 }
theorem hdX0_receive : yX0_receive.cls = RX0 ∧ yX0_receive.cls ≠ "java/lang/invoke/MethodHandle" ∧ yX0_receive.cls ≠ "java/lang/invoke/VarHandle" ∧ (parseMethodDescriptor yX0_receive.desc).map (fun d => d.parameters.length) = some 2 := by decide +kernel
theorem inX0_receive_X0 : ∀ w ∈ u_ws RX0 TX0 7, w ∈ wsX0_receive := by decide +kernel
theorem cwX0_receive_X0_placeCash {s : State} {args : Array Value} (hts : ∀ w ∈ wsX0_receive, w.before args s = true) : CallW rmX0_receive s args RX0 RX0 66 yX0_placeCash cX0_placeCash 6 none wsX0_placeCash rmX0_placeCash 0 0 1 := cwV 1 hts gX0_receive_X0_placeCash rfl rfl rfl hdX0_placeCash ⟨Nat.le_of_ble_eq_true rfl, Nat.le_of_ble_eq_true rfl⟩
theorem cwX0_receive_X0_release {s : State} {args : Array Value} (hts : ∀ w ∈ wsX0_receive, w.before args s = true) : CallW rmX0_receive s args RX0 RX0 54 yX0_release cX0_release 4 (some .int) wsX0_release rmX0_release 0 0 1 := cwV 1 hts gX0_receive_X0_release rfl rfl rfl hdX0_release ⟨Nat.le_of_ble_eq_true rfl, Nat.le_of_ble_eq_true rfl⟩
theorem cwX0_receive_X3_increase {s : State} {args : Array Value} (hts : ∀ w ∈ wsX0_receive, w.before args s = true) : CallW rmX0_receive s args RX0 RX3 70 yX3_increase cX3_increase 4 none wsX3_increase rmX3_increase 0 0 3 := cwV 3 hts gX0_receive_X3_increase rfl rfl rfl hdX3_increase ⟨Nat.le_of_ble_eq_true rfl, Nat.le_of_ble_eq_true rfl⟩
theorem flX0_receive_20 : Fl wsX0_receive RX0 20 0 1 := ⟨_, _, _, rfl, by decide, inX0_receive_X0, by decide +kernel⟩
theorem flX0_receive_39 : Fl wsX0_receive RX0 39 0 6 := ⟨_, _, _, rfl, by decide, inX0_receive_X0, by decide +kernel⟩
theorem fpX0_receive_39 : Fp wsX0_receive RX0 39 0 6 false .int := ⟨_, _, _, tyX0, rfl, by decide, inX0_receive_X0, by decide +kernel, tyX0_ok, nmX0, rfl, rfl, by decide +kernel⟩
set_option maxRecDepth 100000 in
set_option maxHeartbeats 4000000 in
theorem kX0_receive {l : Launch} {D : va_G} {cI cB cL cK : ClassId} {ad : Nat → Nat} {ho : Int32} {td : Int32} {pd : Int32} {sr : Int32} {dr : Int32} {ir : Int32} {qr : Int32} {sf : Nat → Int32} {df : Nat → Int32} {jf : Nat → Int32} {qf : Nat → Int32} {p1 : Int32} {p2 : Int32} {res : Int32} {pd' : Int32} {df' : Nat → Int32} {jf' : Nat → Int32} {qf' : Nat → Int32} (hm : mX0_receive ho pd dr ir qr df jf qf p1 p2 = some (res, pd', df', jf', qf')) : Mu l D cI cB cL cK yX0_receive wsX0_receive rmX0_receive [.ref (ad 0), .int p1, .int p2] (wB cI ad ho td pd sr dr ir qr sf df jf qf) (wB cI ad ho td pd' sr dr ir qr sf df' jf' qf') (some (.int res)) 0 0 := by
  refine Mu.ofi (cc := cX0_receive) (own := RX0) (by decide) rfl rfl (Nat.le_of_ble_eq_true rfl) (fun p e s m below meth c ls Q A C hA hP hD hS hl hret => ?_)
  obtain ⟨hx, hb, hr, hml, hown, hts, hlk, hK⟩ := id C
  have hcf : CallFix p m c cX0_receive 3 s _ wsX0_receive RX0 := ⟨hx, hb, hml, hown, hts⟩
  have hl : lv_has ls 3 [(0, .ref (ad 0)), (1, .int p1), (2, .int p2)] := hl
  unfold mX0_receive at hm
  refine lv_aload_n hx hb dX0_receive_0 rfl (lv_at hl 0 rfl) ?_
  refine lv_dup hx hb dX0_receive_1 rfl ?_
  refine gf (q0 := 0) hx hb hts hown hK flX0_receive_39 hP rfl rfl dX0_receive_2 ?_
  refine lv_iload_n hx hb dX0_receive_5 rfl (lv_at hl 2 rfl) ?_
  refine lv_iadd hx hb dX0_receive_6 ?_
  refine pf (q0 := 0) (X' := (wB cI ad ho td (pd + p2) sr dr ir qr sf df jf qf)) hx hb hts hown hK fpX0_receive_39 hP hD hS rfl rfl rfl (Nat.le_of_ble_eq_true rfl) rfl dX0_receive_7 (fun H locs hP hD hS => ?_)
  refine lv_aload_n hx hb dX0_receive_10 rfl (lv_at hl 0 rfl) ?_
  refine gf (q0 := 0) hx hb hts hown hK flX0_receive_20 hP rfl rfl dX0_receive_11 ?_
  refine lv_iload_n hx hb dX0_receive_14 rfl (lv_at hl 1 rfl) ?_
  refine lv_iconst (v := 2) hx hb dX0_receive_15 (by decide) ?_
  refine lv_iload_n hx hb dX0_receive_16 rfl (lv_at hl 2 rfl) ?_
  obtain ⟨df1, h_2, hm⟩ := b1_s hm
  refine mu_vv hcf (kX3_increase h_2) (cwX0_receive_X3_increase hts) hK hP hD hS hA jB_d (ci := 3) (q0 := 3) rfl rfl rfl hl.1 rfl (Nat.le_of_ble_eq_true rfl) dX0_receive_17 ⟨Nat.zero_le _, Nat.zero_le _⟩ (fun H locs hP hD hS => ?_)
  refine lv_aload_n hx hb dX0_receive_20 rfl (lv_at hl 0 rfl) ?_
  refine gf (q0 := 0) hx hb hts hown hK flX0_receive_20 hP rfl rfl dX0_receive_21 ?_
  refine lv_iload_n hx hb dX0_receive_24 rfl (lv_at hl 1 rfl) ?_
  refine lv_bipush (v := 12) hx hb dX0_receive_25 (by decide) ?_
  refine lv_iload_n hx hb dX0_receive_27 rfl (lv_at hl 2 rfl) ?_
  obtain ⟨df3, h_4, hm⟩ := b1_s hm
  refine mu_vv hcf (kX3_increase h_4) (cwX0_receive_X3_increase hts) hK hP hD hS hA jB_d (ci := 3) (q0 := 3) rfl rfl rfl hl.1 rfl (Nat.le_of_ble_eq_true rfl) dX0_receive_28 ⟨Nat.zero_le _, Nat.zero_le _⟩ (fun H locs hP hD hS => ?_)
  refine lv_aload_n hx hb dX0_receive_31 rfl (lv_at hl 0 rfl) ?_
  refine lv_iload_n hx hb dX0_receive_32 rfl (lv_at hl 1 rfl) ?_
  obtain ⟨df5, jf6, h_7, hm⟩ := b2_s hm
  refine mu_vv hcf (kX0_placeCash h_7) (cwX0_receive_X0_placeCash hts) hK hP hD hS hA Jn.rf (ci := 0) (q0 := 0) rfl rfl rfl hl.1 rfl (Nat.le_of_ble_eq_true rfl) dX0_receive_33 ⟨Nat.zero_le _, Nat.zero_le _⟩ (fun H locs hP hD hS => ?_)
  refine lv_aload_n hx hb dX0_receive_36 rfl (lv_at hl 0 rfl) ?_
  refine lv_iload_n hx hb dX0_receive_37 rfl (lv_at hl 1 rfl) ?_
  obtain ⟨v8, qf9, h_10, hm⟩ := b2_s hm
  refine mu_vi hcf (kX0_release h_10) (cwX0_receive_X0_release hts) hK hP hD hS hA Jn.rf (ci := 0) (q0 := 0) rfl rfl rfl hl.1 rfl (Nat.le_of_ble_eq_true rfl) dX0_receive_38 ⟨Nat.zero_le _, Nat.zero_le _⟩ (fun H locs hP hD hS => ?_)
  cases hm
  exact hret _ _ _ _ dX0_receive_41 rfl hP hD hS
/-! X0 takeOff(II)V -/
abbrev rmX0_takeOff : Room := { frames := 5, cells := 0, slots := 0, locals := 114 }
theorem hdX0_takeOff : yX0_takeOff.cls = RX0 ∧ yX0_takeOff.cls ≠ "java/lang/invoke/MethodHandle" ∧ yX0_takeOff.cls ≠ "java/lang/invoke/VarHandle" ∧ (parseMethodDescriptor yX0_takeOff.desc).map (fun d => d.parameters.length) = some 2 := by decide +kernel
theorem inX0_takeOff_X0 : ∀ w ∈ u_ws RX0 TX0 7, w ∈ wsX0_takeOff := by decide +kernel
theorem cwX0_takeOff_X0_placeCash {s : State} {args : Array Value} (hts : ∀ w ∈ wsX0_takeOff, w.before args s = true) : CallW rmX0_takeOff s args RX0 RX0 66 yX0_placeCash cX0_placeCash 6 none wsX0_placeCash rmX0_placeCash 0 0 1 := cwV 1 hts gX0_takeOff_X0_placeCash rfl rfl rfl hdX0_placeCash ⟨Nat.le_of_ble_eq_true rfl, Nat.le_of_ble_eq_true rfl⟩
theorem cwX0_takeOff_X0_release {s : State} {args : Array Value} (hts : ∀ w ∈ wsX0_takeOff, w.before args s = true) : CallW rmX0_takeOff s args RX0 RX0 54 yX0_release cX0_release 4 (some .int) wsX0_release rmX0_release 0 0 1 := cwV 1 hts gX0_takeOff_X0_release rfl rfl rfl hdX0_release ⟨Nat.le_of_ble_eq_true rfl, Nat.le_of_ble_eq_true rfl⟩
theorem cwX0_takeOff_X3_get {s : State} {args : Array Value} (hts : ∀ w ∈ wsX0_takeOff, w.before args s = true) : CallW rmX0_takeOff s args RX0 RX3 58 yX3_get cX3_get 4 (some .int) wsX3_get rmX3_get 0 0 2 := cwV 2 hts gX0_takeOff_X3_get rfl rfl rfl hdX3_get ⟨Nat.le_of_ble_eq_true rfl, Nat.le_of_ble_eq_true rfl⟩
theorem cwX0_takeOff_X3_increase {s : State} {args : Array Value} (hts : ∀ w ∈ wsX0_takeOff, w.before args s = true) : CallW rmX0_takeOff s args RX0 RX3 70 yX3_increase cX3_increase 4 none wsX3_increase rmX3_increase 0 0 3 := cwV 3 hts gX0_takeOff_X3_increase rfl rfl rfl hdX3_increase ⟨Nat.le_of_ble_eq_true rfl, Nat.le_of_ble_eq_true rfl⟩
theorem cwX0_takeOff_X3_set {s : State} {args : Array Value} (hts : ∀ w ∈ wsX0_takeOff, w.before args s = true) : CallW rmX0_takeOff s args RX0 RX3 50 yX3_set cX3_set 5 none wsX3_set rmX3_set 0 0 3 := cwV 3 hts gX0_takeOff_X3_set rfl rfl rfl hdX3_set ⟨Nat.le_of_ble_eq_true rfl, Nat.le_of_ble_eq_true rfl⟩
theorem flX0_takeOff_23 : Fl wsX0_takeOff RX0 23 0 2 := ⟨_, _, _, rfl, by decide, inX0_takeOff_X0, by decide +kernel⟩
set_option maxRecDepth 100000 in
set_option maxHeartbeats 4000000 in
theorem kX0_takeOff {l : Launch} {D : va_G} {cI cB cL cK : ClassId} {ad : Nat → Nat} {ho : Int32} {td : Int32} {pd : Int32} {sr : Int32} {dr : Int32} {ir : Int32} {qr : Int32} {sf : Nat → Int32} {df : Nat → Int32} {jf : Nat → Int32} {qf : Nat → Int32} {p1 : Int32} {p2 : Int32} {df' : Nat → Int32} {jf' : Nat → Int32} {qf' : Nat → Int32} (hm : mX0_takeOff ho dr ir qr df jf qf p1 p2 = some (df', jf', qf')) : Mu l D cI cB cL cK yX0_takeOff wsX0_takeOff rmX0_takeOff [.ref (ad 0), .int p1, .int p2] (wB cI ad ho td pd sr dr ir qr sf df jf qf) (wB cI ad ho td pd sr dr ir qr sf df' jf' qf') none 0 0 := by
  refine Mu.ofv (cc := cX0_takeOff) (own := RX0) (by decide) rfl rfl (Nat.le_of_ble_eq_true rfl) (fun p e s m below meth c ls Q A C _ hA hP hD hS hl hret => ?_)
  obtain ⟨hx, hb, hr, hml, hown, hts, hlk, hK⟩ := id C
  have hcf : CallFix p m c cX0_takeOff 4 s _ wsX0_takeOff RX0 := ⟨hx, hb, hml, hown, hts⟩
  have hl : lv_has ls 4 [(0, .ref (ad 0)), (1, .int p1), (2, .int p2)] := hl
  unfold mX0_takeOff at hm
  refine lv_aload_n hx hb dX0_takeOff_0 rfl (lv_at hl 0 rfl) ?_
  refine gf (q0 := 0) hx hb hts hown hK flX0_takeOff_23 hP rfl rfl dX0_takeOff_1 ?_
  refine lv_iload_n hx hb dX0_takeOff_4 rfl (lv_at hl 1 rfl) ?_
  refine lv_iconst (v := 0) hx hb dX0_takeOff_5 (by decide) ?_
  obtain ⟨v1, h_2, hm⟩ := b1_s hm
  refine rd_v hcf (kX3_get h_2) (cwX0_takeOff_X3_get hts) hK hP sB_j (ci := 3) (q0 := 5) rfl rfl rfl hl.1 rfl (Nat.le_of_ble_eq_true rfl) dX0_takeOff_6 ⟨Nat.zero_le _, Nat.zero_le _⟩ ?_
  refine lv_istore_n (lv' := [(3, .int v1), (0, .ref (ad 0)), (1, .int p1), (2, .int p2)]) hx hb dX0_takeOff_9 rfl hl (by decide) rfl (fun ls hl => ?_)
  refine lv_aload_n hx hb dX0_takeOff_10 rfl (lv_at hl 1 rfl) ?_
  refine gf (q0 := 0) hx hb hts hown hK flX0_takeOff_23 hP rfl rfl dX0_takeOff_11 ?_
  refine lv_iload_n hx hb dX0_takeOff_14 rfl (lv_at hl 2 rfl) ?_
  refine lv_iconst (v := 2) hx hb dX0_takeOff_15 (by decide) ?_
  refine lv_iload_n hx hb dX0_takeOff_16 rfl (lv_at hl 3 rfl) ?_
  refine lv_ineg hx hb dX0_takeOff_17 ?_
  obtain ⟨jf3, h_4, hm⟩ := b1_s hm
  refine mu_vv hcf (kX3_increase h_4) (cwX0_takeOff_X3_increase hts) hK hP hD hS hA jB_j (ci := 3) (q0 := 5) rfl rfl rfl hl.1 rfl (Nat.le_of_ble_eq_true rfl) dX0_takeOff_18 ⟨Nat.zero_le _, Nat.zero_le _⟩ (fun H locs hP hD hS => ?_)
  refine lv_aload_n hx hb dX0_takeOff_21 rfl (lv_at hl 1 rfl) ?_
  refine gf (q0 := 0) hx hb hts hown hK flX0_takeOff_23 hP rfl rfl dX0_takeOff_22 ?_
  refine lv_iload_n hx hb dX0_takeOff_25 rfl (lv_at hl 2 rfl) ?_
  refine lv_iconst (v := 5) hx hb dX0_takeOff_26 (by decide) ?_
  refine lv_iconst (v := 0) hx hb dX0_takeOff_27 (by decide) ?_
  obtain ⟨jf5, h_6, hm⟩ := b1_s hm
  refine mu_vv hcf (kX3_set h_6) (cwX0_takeOff_X3_set hts) hK hP hD hS hA jB_j (ci := 3) (q0 := 5) rfl rfl rfl hl.1 rfl (Nat.le_of_ble_eq_true rfl) dX0_takeOff_28 ⟨Nat.zero_le _, Nat.zero_le _⟩ (fun H locs hP hD hS => ?_)
  refine lv_aload_n hx hb dX0_takeOff_31 rfl (lv_at hl 1 rfl) ?_
  refine lv_iload_n hx hb dX0_takeOff_32 rfl (lv_at hl 0 rfl) ?_
  obtain ⟨df7, jf8, h_9, hm⟩ := b2_s hm
  refine mu_vv hcf (kX0_placeCash h_9) (cwX0_takeOff_X0_placeCash hts) hK hP hD hS hA Jn.rf (ci := 0) (q0 := 0) rfl rfl rfl hl.1 rfl (Nat.le_of_ble_eq_true rfl) dX0_takeOff_33 ⟨Nat.zero_le _, Nat.zero_le _⟩ (fun H locs hP hD hS => ?_)
  refine lv_aload_n hx hb dX0_takeOff_36 rfl (lv_at hl 1 rfl) ?_
  refine lv_iload_n hx hb dX0_takeOff_37 rfl (lv_at hl 0 rfl) ?_
  obtain ⟨v10, qf11, h_12, hm⟩ := b2_s hm
  refine mu_vi hcf (kX0_release h_12) (cwX0_takeOff_X0_release hts) hK hP hD hS hA Jn.rf (ci := 0) (q0 := 0) rfl rfl rfl hl.1 rfl (Nat.le_of_ble_eq_true rfl) dX0_takeOff_38 ⟨Nat.zero_le _, Nat.zero_le _⟩ (fun H locs hP hD hS => ?_)
  refine lv_pop hx hb dX0_takeOff_41 rfl ?_
  cases hm
  exact hret _ _ _ _ dX0_takeOff_42 hP hD hS
/-! X0 agreePromise(III)V -/
abbrev rmX0_agreePromise : Room := { frames := 1, cells := 0, slots := 0, locals := 24 }
theorem hdX0_agreePromise : yX0_agreePromise.cls = RX0 ∧ yX0_agreePromise.cls ≠ "java/lang/invoke/MethodHandle" ∧ yX0_agreePromise.cls ≠ "java/lang/invoke/VarHandle" ∧ (parseMethodDescriptor yX0_agreePromise.desc).map (fun d => d.parameters.length) = some 3 := by decide +kernel
theorem inX0_agreePromise_X0 : ∀ w ∈ u_ws RX0 TX0 7, w ∈ wsX0_agreePromise := by decide +kernel
theorem cwX0_agreePromise_X3_set {s : State} {args : Array Value} (hts : ∀ w ∈ wsX0_agreePromise, w.before args s = true) : CallW rmX0_agreePromise s args RX0 RX3 50 yX3_set cX3_set 5 none wsX3_set rmX3_set 0 0 3 := cwV 3 hts gX0_agreePromise_X3_set rfl rfl rfl hdX3_set ⟨Nat.le_of_ble_eq_true rfl, Nat.le_of_ble_eq_true rfl⟩
theorem flX0_agreePromise_20 : Fl wsX0_agreePromise RX0 20 0 1 := ⟨_, _, _, rfl, by decide, inX0_agreePromise_X0, by decide +kernel⟩
set_option maxRecDepth 100000 in
set_option maxHeartbeats 4000000 in
theorem kX0_agreePromise {l : Launch} {D : va_G} {cI cB cL cK : ClassId} {ad : Nat → Nat} {ho : Int32} {td : Int32} {pd : Int32} {sr : Int32} {dr : Int32} {ir : Int32} {qr : Int32} {sf : Nat → Int32} {df : Nat → Int32} {jf : Nat → Int32} {qf : Nat → Int32} {p1 : Int32} {p2 : Int32} {p3 : Int32} {df' : Nat → Int32} (hm : mX0_agreePromise dr df p1 p2 p3 = some df') : Mu l D cI cB cL cK yX0_agreePromise wsX0_agreePromise rmX0_agreePromise [.ref (ad 0), .int p1, .int p2, .int p3] (wB cI ad ho td pd sr dr ir qr sf df jf qf) (wB cI ad ho td pd sr dr ir qr sf df' jf qf) none 0 0 := by
  refine Mu.ofv (cc := cX0_agreePromise) (own := RX0) (by decide) rfl rfl (Nat.le_of_ble_eq_true rfl) (fun p e s m below meth c ls Q A C _ hA hP hD hS hl hret => ?_)
  obtain ⟨hx, hb, hr, hml, hown, hts, hlk, hK⟩ := id C
  have hcf : CallFix p m c cX0_agreePromise 4 s _ wsX0_agreePromise RX0 := ⟨hx, hb, hml, hown, hts⟩
  have hl : lv_has ls 4 [(0, .ref (ad 0)), (1, .int p1), (2, .int p2), (3, .int p3)] := hl
  unfold mX0_agreePromise at hm
  refine lv_aload_n hx hb dX0_agreePromise_0 rfl (lv_at hl 0 rfl) ?_
  refine gf (q0 := 0) hx hb hts hown hK flX0_agreePromise_20 hP rfl rfl dX0_agreePromise_1 ?_
  refine lv_iload_n hx hb dX0_agreePromise_4 rfl (lv_at hl 1 rfl) ?_
  refine lv_bipush (v := 6) hx hb dX0_agreePromise_5 (by decide) ?_
  refine lv_iload_n hx hb dX0_agreePromise_7 rfl (lv_at hl 2 rfl) ?_
  obtain ⟨df1, h_2, hm⟩ := b1_s hm
  refine mu_vv hcf (kX3_set h_2) (cwX0_agreePromise_X3_set hts) hK hP hD hS hA jB_d (ci := 3) (q0 := 3) rfl rfl rfl hl.1 rfl (Nat.le_of_ble_eq_true rfl) dX0_agreePromise_8 ⟨Nat.zero_le _, Nat.zero_le _⟩ (fun H locs hP hD hS => ?_)
  refine lv_aload_n hx hb dX0_agreePromise_11 rfl (lv_at hl 0 rfl) ?_
  refine gf (q0 := 0) hx hb hts hown hK flX0_agreePromise_20 hP rfl rfl dX0_agreePromise_12 ?_
  refine lv_iload_n hx hb dX0_agreePromise_15 rfl (lv_at hl 1 rfl) ?_
  refine lv_bipush (v := 7) hx hb dX0_agreePromise_16 (by decide) ?_
  refine lv_iload_n hx hb dX0_agreePromise_18 rfl (lv_at hl 3 rfl) ?_
  obtain ⟨df3, h_4, hm⟩ := b1_s hm
  refine mu_vv hcf (kX3_set h_4) (cwX0_agreePromise_X3_set hts) hK hP hD hS hA jB_d (ci := 3) (q0 := 3) rfl rfl rfl hl.1 rfl (Nat.le_of_ble_eq_true rfl) dX0_agreePromise_19 ⟨Nat.zero_le _, Nat.zero_le _⟩ (fun H locs hP hD hS => ?_)
  refine lv_aload_n hx hb dX0_agreePromise_22 rfl (lv_at hl 0 rfl) ?_
  refine gf (q0 := 0) hx hb hts hown hK flX0_agreePromise_20 hP rfl rfl dX0_agreePromise_23 ?_
  refine lv_iload_n hx hb dX0_agreePromise_26 rfl (lv_at hl 1 rfl) ?_
  refine lv_bipush (v := 12) hx hb dX0_agreePromise_27 (by decide) ?_
  refine lv_iconst (v := 0) hx hb dX0_agreePromise_29 (by decide) ?_
  obtain ⟨df5, h_6, hm⟩ := b1_s hm
  refine mu_vv hcf (kX3_set h_6) (cwX0_agreePromise_X3_set hts) hK hP hD hS hA jB_d (ci := 3) (q0 := 3) rfl rfl rfl hl.1 rfl (Nat.le_of_ble_eq_true rfl) dX0_agreePromise_30 ⟨Nat.zero_le _, Nat.zero_le _⟩ (fun H locs hP hD hS => ?_)
  cases hm
  exact hret _ _ _ _ dX0_agreePromise_33 hP hD hS
/-! X0 debt(I)I -/
abbrev rmX0_debt : Room := { frames := 2, cells := 0, slots := 0, locals := 45 }
theorem hdX0_debt : yX0_debt.cls = RX0 ∧ yX0_debt.cls ≠ "java/lang/invoke/MethodHandle" ∧ yX0_debt.cls ≠ "java/lang/invoke/VarHandle" ∧ (parseMethodDescriptor yX0_debt.desc).map (fun d => d.parameters.length) = some 1 := by decide +kernel
theorem inX0_debt_X0 : ∀ w ∈ u_ws RX0 TX0 7, w ∈ wsX0_debt := by decide +kernel
theorem cwX0_debt_X0_isClaim {s : State} {args : Array Value} (hts : ∀ w ∈ wsX0_debt, w.before args s = true) : CallW rmX0_debt s args RX0 RX0 86 yX0_isClaim cX0_isClaim 3 (some .boolean) wsX0_isClaim rmX0_isClaim 0 0 2 := cwV 2 hts gX0_debt_X0_isClaim rfl rfl rfl hdX0_isClaim ⟨Nat.le_of_ble_eq_true rfl, Nat.le_of_ble_eq_true rfl⟩
theorem cwX0_debt_X3_get {s : State} {args : Array Value} (hts : ∀ w ∈ wsX0_debt, w.before args s = true) : CallW rmX0_debt s args RX0 RX3 58 yX3_get cX3_get 4 (some .int) wsX3_get rmX3_get 0 0 2 := cwV 2 hts gX0_debt_X3_get rfl rfl rfl hdX3_get ⟨Nat.le_of_ble_eq_true rfl, Nat.le_of_ble_eq_true rfl⟩
theorem cwX0_debt_X3_size {s : State} {args : Array Value} (hts : ∀ w ∈ wsX0_debt, w.before args s = true) : CallW rmX0_debt s args RX0 RX3 83 yX3_size cX3_size 1 (some .int) wsX3_size rmX3_size 0 0 0 := cwV 0 hts gX0_debt_X3_size rfl rfl rfl hdX3_size ⟨Nat.le_of_ble_eq_true rfl, Nat.le_of_ble_eq_true rfl⟩
theorem flX0_debt_23 : Fl wsX0_debt RX0 23 0 2 := ⟨_, _, _, rfl, by decide, inX0_debt_X0, by decide +kernel⟩
set_option maxRecDepth 100000 in
set_option maxHeartbeats 4000000 in
theorem tX0_debt_L4 {ad : Nat → Nat} {ho : Int32} {td : Int32} {pd : Int32} {sr : Int32} {dr : Int32} {ir : Int32} {qr : Int32} {sf : Nat → Int32} {df : Nat → Int32} {jf : Nat → Int32} {qf : Nat → Int32} {res : Int32} (C : Cx p s m args meth c cX0_debt (some .int) 4 wsX0_debt RX0 D cI cB cL cK) (hP : va_P D vwCl (wB cI ad ho td pd sr dr ir qr sf df jf qf) s.heap) (hret : ∀ (pc : Nat) (ls : Array Slot), decode cX0_debt pc = .ok (.ireturn, 1) → narrow .int (.int res) = .int res → W p l e rmX0_debt s m args below meth c s.heap [] 0 0 Q (F0 m pc ls [.int res])) : ∀ (n9 : Nat) (x1 : Int32) (x2 : Int32) (x3 : Int32), mX0_debt_L4 n9 ir jf x1 x2 x3 = some res → ∀ (ls : Array Slot), lv_has ls 4 [(0, .ref (ad 0)), (1, .int x1), (2, .int x2), (3, .int x3)] → W p l e rmX0_debt s m args below meth c s.heap [] 0 0 Q (F0 m 4 ls []) := by
  obtain ⟨hx, hb, hr, hml, hown, hts, hlk, hK⟩ := id C
  have hcf : CallFix p m c cX0_debt 4 s args wsX0_debt RX0 := ⟨hx, hb, hml, hown, hts⟩
  intro n9
  induction n9 with
  | zero => intro x1 x2 x3 hm; cases hm
  | succ k ih =>
    intro x1 x2 x3 hm ls hl
    rw [mX0_debt_L4.eq_2] at hm
    refine lv_iload_n hx hb dX0_debt_4 rfl (lv_at hl 3 rfl) ?_
    refine lv_aload_n hx hb dX0_debt_5 rfl (lv_at hl 0 rfl) ?_
    refine gf (q0 := 0) hx hb hts hown hK flX0_debt_23 hP rfl rfl dX0_debt_6 ?_
    obtain ⟨v1, h_2, hm⟩ := b1_s hm
    refine rd_v hcf (kX3_size h_2) (cwX0_debt_X3_size hts) hK hP sB_j (ci := 3) (q0 := 5) rfl rfl rfl hl.1 rfl (Nat.le_of_ble_eq_true rfl) dX0_debt_9 ⟨Nat.zero_le _, Nat.zero_le _⟩ ?_
    refine lv_icmp_ge (tgt := 42) hx hb dX0_debt_12 (by decide) (fun c_3 => ?_) (fun c_3 => ?_)
    · replace hm := br_p hm c_3
      refine lv_iload_n hx hb dX0_debt_42 rfl (lv_at hl 2 rfl) ?_
      cases hm
      exact hret _ _ dX0_debt_43 rfl
    · replace hm := br_n hm c_3
      refine lv_aload_n hx hb dX0_debt_15 rfl (lv_at hl 0 rfl) ?_
      refine lv_iload_n hx hb dX0_debt_16 rfl (lv_at hl 3 rfl) ?_
      refine lv_iload_n hx hb dX0_debt_17 rfl (lv_at hl 1 rfl) ?_
      obtain ⟨v4, h_5, hm⟩ := b1_s hm
      refine rd_v hcf (kX0_isClaim h_5) (cwX0_debt_X0_isClaim hts) hK hP Sb.rf (ci := 0) (q0 := 0) rfl rfl rfl hl.1 rfl (Nat.le_of_ble_eq_true rfl) dX0_debt_18 ⟨Nat.zero_le _, Nat.zero_le _⟩ ?_
      refine lv_if_eq (tgt := 36) hx hb dX0_debt_21 (by decide) (fun c_6 => ?_) (fun c_6 => ?_)
      · replace hm := br_p hm c_6
        refine lv_iinc (v := (x3 + 1)) (lv' := [(3, .int (x3 + 1)), (0, .ref (ad 0)), (1, .int x1), (2, .int x2)]) hx hb dX0_debt_36 hl (k := 3) rfl rfl (by decide) rfl (fun ls hl => ?_)
        refine lv_goto (tgt := 4) hx hb dX0_debt_39 (by decide) ?_
        exact ih _ _ _ hm _ (lv_sub hl [1, 2, 3, 0] rfl)
      · replace hm := br_n hm c_6
        refine lv_iload_n hx hb dX0_debt_24 rfl (lv_at hl 2 rfl) ?_
        refine lv_aload_n hx hb dX0_debt_25 rfl (lv_at hl 0 rfl) ?_
        refine gf (q0 := 0) hx hb hts hown hK flX0_debt_23 hP rfl rfl dX0_debt_26 ?_
        refine lv_iload_n hx hb dX0_debt_29 rfl (lv_at hl 3 rfl) ?_
        refine lv_iconst (v := 2) hx hb dX0_debt_30 (by decide) ?_
        obtain ⟨v7, h_8, hm⟩ := b1_s hm
        refine rd_v hcf (kX3_get h_8) (cwX0_debt_X3_get hts) hK hP sB_j (ci := 3) (q0 := 5) rfl rfl rfl hl.1 rfl (Nat.le_of_ble_eq_true rfl) dX0_debt_31 ⟨Nat.zero_le _, Nat.zero_le _⟩ ?_
        refine lv_iadd hx hb dX0_debt_34 ?_
        refine lv_istore_n (lv' := [(2, .int (x2 + v7)), (0, .ref (ad 0)), (1, .int x1), (3, .int x3)]) hx hb dX0_debt_35 rfl hl (by decide) rfl (fun ls hl => ?_)
        refine lv_iinc (v := (x3 + 1)) (lv' := [(3, .int (x3 + 1)), (2, .int (x2 + v7)), (0, .ref (ad 0)), (1, .int x1)]) hx hb dX0_debt_36 hl (k := 3) rfl rfl (by decide) rfl (fun ls hl => ?_)
        refine lv_goto (tgt := 4) hx hb dX0_debt_39 (by decide) ?_
        exact ih _ _ _ hm _ (lv_sub hl [2, 3, 1, 0] rfl)
set_option maxRecDepth 100000 in
set_option maxHeartbeats 4000000 in
theorem kX0_debt {l : Launch} {D : va_G} {cI cB cL cK : ClassId} {ad : Nat → Nat} {ho : Int32} {td : Int32} {pd : Int32} {sr : Int32} {dr : Int32} {ir : Int32} {qr : Int32} {sf : Nat → Int32} {df : Nat → Int32} {jf : Nat → Int32} {qf : Nat → Int32} {p1 : Int32} {res : Int32} (hm : mX0_debt ir jf p1 = some res) : Rd l D cI cB cL cK yX0_debt wsX0_debt rmX0_debt [.ref (ad 0), .int p1] (wB cI ad ho td pd sr dr ir qr sf df jf qf) res := by
  refine Rd.of (cc := cX0_debt) (own := RX0) (by decide) rfl rfl (Nat.le_of_ble_eq_true rfl) (fun p e s m below meth c ls Q C hP hl hret => ?_)
  obtain ⟨hx, hb, hr, hml, hown, hts, hlk, hK⟩ := id C
  have hcf : CallFix p m c cX0_debt 4 s _ wsX0_debt RX0 := ⟨hx, hb, hml, hown, hts⟩
  have hl : lv_has ls 4 [(0, .ref (ad 0)), (1, .int p1)] := hl
  unfold mX0_debt at hm
  refine lv_iconst (v := 0) hx hb dX0_debt_0 (by decide) ?_
  refine lv_istore_n (lv' := [(2, .int 0), (0, .ref (ad 0)), (1, .int p1)]) hx hb dX0_debt_1 rfl hl (by decide) rfl (fun ls hl => ?_)
  refine lv_iconst (v := 0) hx hb dX0_debt_2 (by decide) ?_
  refine lv_istore_n (lv' := [(3, .int 0), (2, .int 0), (0, .ref (ad 0)), (1, .int p1)]) hx hb dX0_debt_3 rfl hl (by decide) rfl (fun ls hl => ?_)
  exact tX0_debt_L4 C hP hret _ _ _ _ hm _ (lv_sub hl [2, 3, 1, 0] rfl)
end
