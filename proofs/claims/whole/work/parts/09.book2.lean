section
variable {p : Program} {l : Launch} {e : Env} {s : State} {m : MethodId} {args : Array Value} {below : List Frame} {meth : Method} {c : Code} {Q : State → Prop} {A : Nat → Prop} {D : va_G} {cI cB cL cK : ClassId}
/-! X0 agreePlan(III)V -/
abbrev rmX0_agreePlan : Room := { frames := 3, cells := 0, slots := 0, locals := 68 }
theorem hdX0_agreePlan : yX0_agreePlan.cls = RX0 ∧ yX0_agreePlan.cls ≠ "java/lang/invoke/MethodHandle" ∧ yX0_agreePlan.cls ≠ "java/lang/invoke/VarHandle" ∧ (parseMethodDescriptor yX0_agreePlan.desc).map (fun d => d.parameters.length) = some 3 := by decide +kernel
theorem inX0_agreePlan_X0 : ∀ w ∈ u_ws RX0 TX0 7, w ∈ wsX0_agreePlan := by decide +kernel
theorem cwX0_agreePlan_X0_debt {s : State} {args : Array Value} (hts : ∀ w ∈ wsX0_agreePlan, w.before args s = true) : CallW rmX0_agreePlan s args RX0 RX0 73 yX0_debt cX0_debt 4 (some .int) wsX0_debt rmX0_debt 0 0 1 := cwV 1 hts gX0_agreePlan_X0_debt rfl rfl rfl hdX0_debt ⟨Nat.le_of_ble_eq_true rfl, Nat.le_of_ble_eq_true rfl⟩
theorem cwX0_agreePlan_X3_set {s : State} {args : Array Value} (hts : ∀ w ∈ wsX0_agreePlan, w.before args s = true) : CallW rmX0_agreePlan s args RX0 RX3 50 yX3_set cX3_set 5 none wsX3_set rmX3_set 0 0 3 := cwV 3 hts gX0_agreePlan_X3_set rfl rfl rfl hdX3_set ⟨Nat.le_of_ble_eq_true rfl, Nat.le_of_ble_eq_true rfl⟩
theorem flX0_agreePlan_20 : Fl wsX0_agreePlan RX0 20 0 1 := ⟨_, _, _, rfl, by decide, inX0_agreePlan_X0, by decide +kernel⟩
theorem flX0_agreePlan_36 : Fl wsX0_agreePlan RX0 36 0 5 := ⟨_, _, _, rfl, by decide, inX0_agreePlan_X0, by decide +kernel⟩
set_option maxRecDepth 100000 in
set_option maxHeartbeats 4000000 in
theorem kX0_agreePlan {l : Launch} {D : va_G} {cI cB cL cK : ClassId} {ad : Nat → Nat} {ho : Int32} {td : Int32} {pd : Int32} {sr : Int32} {dr : Int32} {ir : Int32} {qr : Int32} {sf : Nat → Int32} {df : Nat → Int32} {jf : Nat → Int32} {qf : Nat → Int32} {p1 : Int32} {p2 : Int32} {p3 : Int32} {df' : Nat → Int32} (hm : mX0_agreePlan td dr ir df jf p1 p2 p3 = some df') : Mu l D cI cB cL cK yX0_agreePlan wsX0_agreePlan rmX0_agreePlan [.ref (ad 0), .int p1, .int p2, .int p3] (wB cI ad ho td pd sr dr ir qr sf df jf qf) (wB cI ad ho td pd sr dr ir qr sf df' jf qf) none 0 0 := by
  refine Mu.ofv (cc := cX0_agreePlan) (own := RX0) (by decide) rfl rfl (Nat.le_of_ble_eq_true rfl) (fun p e s m below meth c ls Q A C _ hA hP hD hS hl hret => ?_)
  obtain ⟨hx, hb, hr, hml, hown, hts, hlk, hK⟩ := id C
  have hcf : CallFix p m c cX0_agreePlan 4 s _ wsX0_agreePlan RX0 := ⟨hx, hb, hml, hown, hts⟩
  have hl : lv_has ls 4 [(0, .ref (ad 0)), (1, .int p1), (2, .int p2), (3, .int p3)] := hl
  unfold mX0_agreePlan at hm
  refine lv_aload_n hx hb dX0_agreePlan_0 rfl (lv_at hl 0 rfl) ?_
  refine gf (q0 := 0) hx hb hts hown hK flX0_agreePlan_20 hP rfl rfl dX0_agreePlan_1 ?_
  refine lv_iload_n hx hb dX0_agreePlan_4 rfl (lv_at hl 1 rfl) ?_
  refine lv_bipush (v := 6) hx hb dX0_agreePlan_5 (by decide) ?_
  refine lv_iconst (v := 0) hx hb dX0_agreePlan_7 (by decide) ?_
  obtain ⟨df1, h_2, hm⟩ := b1_s hm
  refine mu_vv hcf (kX3_set h_2) (cwX0_agreePlan_X3_set hts) hK hP hD hS hA jB_d (ci := 3) (q0 := 3) rfl rfl rfl hl.1 rfl (Nat.le_of_ble_eq_true rfl) dX0_agreePlan_8 ⟨Nat.zero_le _, Nat.zero_le _⟩ (fun H locs hP hD hS => ?_)
  refine lv_aload_n hx hb dX0_agreePlan_11 rfl (lv_at hl 0 rfl) ?_
  refine gf (q0 := 0) hx hb hts hown hK flX0_agreePlan_20 hP rfl rfl dX0_agreePlan_12 ?_
  refine lv_iload_n hx hb dX0_agreePlan_15 rfl (lv_at hl 1 rfl) ?_
  refine lv_bipush (v := 8) hx hb dX0_agreePlan_16 (by decide) ?_
  refine lv_iload_n hx hb dX0_agreePlan_18 rfl (lv_at hl 2 rfl) ?_
  obtain ⟨df3, h_4, hm⟩ := b1_s hm
  refine mu_vv hcf (kX3_set h_4) (cwX0_agreePlan_X3_set hts) hK hP hD hS hA jB_d (ci := 3) (q0 := 3) rfl rfl rfl hl.1 rfl (Nat.le_of_ble_eq_true rfl) dX0_agreePlan_19 ⟨Nat.zero_le _, Nat.zero_le _⟩ (fun H locs hP hD hS => ?_)
  refine lv_aload_n hx hb dX0_agreePlan_22 rfl (lv_at hl 0 rfl) ?_
  refine gf (q0 := 0) hx hb hts hown hK flX0_agreePlan_20 hP rfl rfl dX0_agreePlan_23 ?_
  refine lv_iload_n hx hb dX0_agreePlan_26 rfl (lv_at hl 1 rfl) ?_
  refine lv_bipush (v := 9) hx hb dX0_agreePlan_27 (by decide) ?_
  refine lv_aload_n hx hb dX0_agreePlan_29 rfl (lv_at hl 0 rfl) ?_
  refine lv_iload_n hx hb dX0_agreePlan_30 rfl (lv_at hl 1 rfl) ?_
  obtain ⟨v5, h_6, hm⟩ := b1_s hm
  refine rd_v hcf (kX0_debt h_6) (cwX0_agreePlan_X0_debt hts) hK hP Sb.rf (ci := 0) (q0 := 0) rfl rfl rfl hl.1 rfl (Nat.le_of_ble_eq_true rfl) dX0_agreePlan_31 ⟨Nat.zero_le _, Nat.zero_le _⟩ ?_
  obtain ⟨df7, h_8, hm⟩ := b1_s hm
  refine mu_vv hcf (kX3_set h_8) (cwX0_agreePlan_X3_set hts) hK hP hD hS hA jB_d (ci := 3) (q0 := 3) rfl rfl rfl hl.1 rfl (Nat.le_of_ble_eq_true rfl) dX0_agreePlan_34 ⟨Nat.zero_le _, Nat.zero_le _⟩ (fun H locs hP hD hS => ?_)
  refine lv_aload_n hx hb dX0_agreePlan_37 rfl (lv_at hl 0 rfl) ?_
  refine gf (q0 := 0) hx hb hts hown hK flX0_agreePlan_20 hP rfl rfl dX0_agreePlan_38 ?_
  refine lv_iload_n hx hb dX0_agreePlan_41 rfl (lv_at hl 1 rfl) ?_
  refine lv_bipush (v := 10) hx hb dX0_agreePlan_42 (by decide) ?_
  refine lv_aload_n hx hb dX0_agreePlan_44 rfl (lv_at hl 0 rfl) ?_
  refine gf (q0 := 0) hx hb hts hown hK flX0_agreePlan_36 hP rfl rfl dX0_agreePlan_45 ?_
  obtain ⟨df9, h_10, hm⟩ := b1_s hm
  refine mu_vv hcf (kX3_set h_10) (cwX0_agreePlan_X3_set hts) hK hP hD hS hA jB_d (ci := 3) (q0 := 3) rfl rfl rfl hl.1 rfl (Nat.le_of_ble_eq_true rfl) dX0_agreePlan_48 ⟨Nat.zero_le _, Nat.zero_le _⟩ (fun H locs hP hD hS => ?_)
  refine lv_aload_n hx hb dX0_agreePlan_51 rfl (lv_at hl 0 rfl) ?_
  refine gf (q0 := 0) hx hb hts hown hK flX0_agreePlan_20 hP rfl rfl dX0_agreePlan_52 ?_
  refine lv_iload_n hx hb dX0_agreePlan_55 rfl (lv_at hl 1 rfl) ?_
  refine lv_bipush (v := 11) hx hb dX0_agreePlan_56 (by decide) ?_
  refine lv_iload_n hx hb dX0_agreePlan_58 rfl (lv_at hl 3 rfl) ?_
  obtain ⟨df11, h_12, hm⟩ := b1_s hm
  refine mu_vv hcf (kX3_set h_12) (cwX0_agreePlan_X3_set hts) hK hP hD hS hA jB_d (ci := 3) (q0 := 3) rfl rfl rfl hl.1 rfl (Nat.le_of_ble_eq_true rfl) dX0_agreePlan_59 ⟨Nat.zero_le _, Nat.zero_le _⟩ (fun H locs hP hD hS => ?_)
  refine lv_aload_n hx hb dX0_agreePlan_62 rfl (lv_at hl 0 rfl) ?_
  refine gf (q0 := 0) hx hb hts hown hK flX0_agreePlan_20 hP rfl rfl dX0_agreePlan_63 ?_
  refine lv_iload_n hx hb dX0_agreePlan_66 rfl (lv_at hl 1 rfl) ?_
  refine lv_bipush (v := 12) hx hb dX0_agreePlan_67 (by decide) ?_
  refine lv_iconst (v := 0) hx hb dX0_agreePlan_69 (by decide) ?_
  obtain ⟨df13, h_14, hm⟩ := b1_s hm
  refine mu_vv hcf (kX3_set h_14) (cwX0_agreePlan_X3_set hts) hK hP hD hS hA jB_d (ci := 3) (q0 := 3) rfl rfl rfl hl.1 rfl (Nat.le_of_ble_eq_true rfl) dX0_agreePlan_70 ⟨Nat.zero_le _, Nat.zero_le _⟩ (fun H locs hP hD hS => ?_)
  cases hm
  exact hret _ _ _ _ dX0_agreePlan_73 hP hD hS
/-! X0 hasPromise(I)Z -/
abbrev rmX0_hasPromise : Room := { frames := 1, cells := 0, slots := 0, locals := 23 }
theorem hdX0_hasPromise : yX0_hasPromise.cls = RX0 ∧ yX0_hasPromise.cls ≠ "java/lang/invoke/MethodHandle" ∧ yX0_hasPromise.cls ≠ "java/lang/invoke/VarHandle" ∧ (parseMethodDescriptor yX0_hasPromise.desc).map (fun d => d.parameters.length) = some 1 := by decide +kernel
theorem inX0_hasPromise_X0 : ∀ w ∈ u_ws RX0 TX0 7, w ∈ wsX0_hasPromise := by decide +kernel
theorem cwX0_hasPromise_X3_get {s : State} {args : Array Value} (hts : ∀ w ∈ wsX0_hasPromise, w.before args s = true) : CallW rmX0_hasPromise s args RX0 RX3 58 yX3_get cX3_get 4 (some .int) wsX3_get rmX3_get 0 0 2 := cwV 2 hts gX0_hasPromise_X3_get rfl rfl rfl hdX3_get ⟨Nat.le_of_ble_eq_true rfl, Nat.le_of_ble_eq_true rfl⟩
theorem flX0_hasPromise_20 : Fl wsX0_hasPromise RX0 20 0 1 := ⟨_, _, _, rfl, by decide, inX0_hasPromise_X0, by decide +kernel⟩
set_option maxRecDepth 100000 in
set_option maxHeartbeats 4000000 in
theorem kX0_hasPromise {l : Launch} {D : va_G} {cI cB cL cK : ClassId} {ad : Nat → Nat} {ho : Int32} {td : Int32} {pd : Int32} {sr : Int32} {dr : Int32} {ir : Int32} {qr : Int32} {sf : Nat → Int32} {df : Nat → Int32} {jf : Nat → Int32} {qf : Nat → Int32} {p1 : Int32} {res : Int32} (hm : mX0_hasPromise dr df p1 = some res) : Rd l D cI cB cL cK yX0_hasPromise wsX0_hasPromise rmX0_hasPromise [.ref (ad 0), .int p1] (wB cI ad ho td pd sr dr ir qr sf df jf qf) res := by
  refine Rd.of (cc := cX0_hasPromise) (own := RX0) (by decide) rfl rfl (Nat.le_of_ble_eq_true rfl) (fun p e s m below meth c ls Q C hP hl hret => ?_)
  obtain ⟨hx, hb, hr, hml, hown, hts, hlk, hK⟩ := id C
  have hcf : CallFix p m c cX0_hasPromise 2 s _ wsX0_hasPromise RX0 := ⟨hx, hb, hml, hown, hts⟩
  have hl : lv_has ls 2 [(0, .ref (ad 0)), (1, .int p1)] := hl
  unfold mX0_hasPromise at hm
  refine lv_aload_n hx hb dX0_hasPromise_0 rfl (lv_at hl 0 rfl) ?_
  refine gf (q0 := 0) hx hb hts hown hK flX0_hasPromise_20 hP rfl rfl dX0_hasPromise_1 ?_
  refine lv_iload_n hx hb dX0_hasPromise_4 rfl (lv_at hl 1 rfl) ?_
  refine lv_bipush (v := 6) hx hb dX0_hasPromise_5 (by decide) ?_
  obtain ⟨v1, h_2, hm⟩ := b1_s hm
  refine rd_v hcf (kX3_get h_2) (cwX0_hasPromise_X3_get hts) hK hP sB_d (ci := 3) (q0 := 3) rfl rfl rfl hl.1 rfl (Nat.le_of_ble_eq_true rfl) dX0_hasPromise_7 ⟨Nat.zero_le _, Nat.zero_le _⟩ ?_
  refine lv_if_le (tgt := 17) hx hb dX0_hasPromise_10 (by decide) (fun c_3 => ?_) (fun c_3 => ?_)
  · replace hm := br_p hm c_3
    refine lv_iconst (v := 0) hx hb dX0_hasPromise_17 (by decide) ?_
    cases hm
    exact hret _ _ dX0_hasPromise_18 rfl
  · replace hm := br_n hm c_3
    refine lv_iconst (v := 1) hx hb dX0_hasPromise_13 (by decide) ?_
    refine lv_goto (tgt := 18) hx hb dX0_hasPromise_14 (by decide) ?_
    cases hm
    exact hret _ _ dX0_hasPromise_18 rfl
/-! X0 hasPlan(I)Z -/
abbrev rmX0_hasPlan : Room := { frames := 1, cells := 0, slots := 0, locals := 23 }
theorem hdX0_hasPlan : yX0_hasPlan.cls = RX0 ∧ yX0_hasPlan.cls ≠ "java/lang/invoke/MethodHandle" ∧ yX0_hasPlan.cls ≠ "java/lang/invoke/VarHandle" ∧ (parseMethodDescriptor yX0_hasPlan.desc).map (fun d => d.parameters.length) = some 1 := by decide +kernel
theorem inX0_hasPlan_X0 : ∀ w ∈ u_ws RX0 TX0 7, w ∈ wsX0_hasPlan := by decide +kernel
theorem cwX0_hasPlan_X3_get {s : State} {args : Array Value} (hts : ∀ w ∈ wsX0_hasPlan, w.before args s = true) : CallW rmX0_hasPlan s args RX0 RX3 58 yX3_get cX3_get 4 (some .int) wsX3_get rmX3_get 0 0 2 := cwV 2 hts gX0_hasPlan_X3_get rfl rfl rfl hdX3_get ⟨Nat.le_of_ble_eq_true rfl, Nat.le_of_ble_eq_true rfl⟩
theorem flX0_hasPlan_20 : Fl wsX0_hasPlan RX0 20 0 1 := ⟨_, _, _, rfl, by decide, inX0_hasPlan_X0, by decide +kernel⟩
set_option maxRecDepth 100000 in
set_option maxHeartbeats 4000000 in
theorem kX0_hasPlan {l : Launch} {D : va_G} {cI cB cL cK : ClassId} {ad : Nat → Nat} {ho : Int32} {td : Int32} {pd : Int32} {sr : Int32} {dr : Int32} {ir : Int32} {qr : Int32} {sf : Nat → Int32} {df : Nat → Int32} {jf : Nat → Int32} {qf : Nat → Int32} {p1 : Int32} {res : Int32} (hm : mX0_hasPlan dr df p1 = some res) : Rd l D cI cB cL cK yX0_hasPlan wsX0_hasPlan rmX0_hasPlan [.ref (ad 0), .int p1] (wB cI ad ho td pd sr dr ir qr sf df jf qf) res := by
  refine Rd.of (cc := cX0_hasPlan) (own := RX0) (by decide) rfl rfl (Nat.le_of_ble_eq_true rfl) (fun p e s m below meth c ls Q C hP hl hret => ?_)
  obtain ⟨hx, hb, hr, hml, hown, hts, hlk, hK⟩ := id C
  have hcf : CallFix p m c cX0_hasPlan 2 s _ wsX0_hasPlan RX0 := ⟨hx, hb, hml, hown, hts⟩
  have hl : lv_has ls 2 [(0, .ref (ad 0)), (1, .int p1)] := hl
  unfold mX0_hasPlan at hm
  refine lv_aload_n hx hb dX0_hasPlan_0 rfl (lv_at hl 0 rfl) ?_
  refine gf (q0 := 0) hx hb hts hown hK flX0_hasPlan_20 hP rfl rfl dX0_hasPlan_1 ?_
  refine lv_iload_n hx hb dX0_hasPlan_4 rfl (lv_at hl 1 rfl) ?_
  refine lv_bipush (v := 8) hx hb dX0_hasPlan_5 (by decide) ?_
  obtain ⟨v1, h_2, hm⟩ := b1_s hm
  refine rd_v hcf (kX3_get h_2) (cwX0_hasPlan_X3_get hts) hK hP sB_d (ci := 3) (q0 := 3) rfl rfl rfl hl.1 rfl (Nat.le_of_ble_eq_true rfl) dX0_hasPlan_7 ⟨Nat.zero_le _, Nat.zero_le _⟩ ?_
  refine lv_if_le (tgt := 17) hx hb dX0_hasPlan_10 (by decide) (fun c_3 => ?_) (fun c_3 => ?_)
  · replace hm := br_p hm c_3
    refine lv_iconst (v := 0) hx hb dX0_hasPlan_17 (by decide) ?_
    cases hm
    exact hret _ _ dX0_hasPlan_18 rfl
  · replace hm := br_n hm c_3
    refine lv_iconst (v := 1) hx hb dX0_hasPlan_13 (by decide) ?_
    refine lv_goto (tgt := 18) hx hb dX0_hasPlan_14 (by decide) ?_
    cases hm
    exact hret _ _ dX0_hasPlan_18 rfl
/-! X0 hasAgreement(I)Z -/
abbrev rmX0_hasAgreement : Room := { frames := 2, cells := 0, slots := 0, locals := 44 }
theorem hdX0_hasAgreement : yX0_hasAgreement.cls = RX0 ∧ yX0_hasAgreement.cls ≠ "java/lang/invoke/MethodHandle" ∧ yX0_hasAgreement.cls ≠ "java/lang/invoke/VarHandle" ∧ (parseMethodDescriptor yX0_hasAgreement.desc).map (fun d => d.parameters.length) = some 1 := by decide +kernel
theorem cwX0_hasAgreement_X0_hasPlan {s : State} {args : Array Value} (hts : ∀ w ∈ wsX0_hasAgreement, w.before args s = true) : CallW rmX0_hasAgreement s args RX0 RX0 80 yX0_hasPlan cX0_hasPlan 2 (some .boolean) wsX0_hasPlan rmX0_hasPlan 0 0 1 := cwV 1 hts gX0_hasAgreement_X0_hasPlan rfl rfl rfl hdX0_hasPlan ⟨Nat.le_of_ble_eq_true rfl, Nat.le_of_ble_eq_true rfl⟩
theorem cwX0_hasAgreement_X0_hasPromise {s : State} {args : Array Value} (hts : ∀ w ∈ wsX0_hasAgreement, w.before args s = true) : CallW rmX0_hasAgreement s args RX0 RX0 76 yX0_hasPromise cX0_hasPromise 2 (some .boolean) wsX0_hasPromise rmX0_hasPromise 0 0 1 := cwV 1 hts gX0_hasAgreement_X0_hasPromise rfl rfl rfl hdX0_hasPromise ⟨Nat.le_of_ble_eq_true rfl, Nat.le_of_ble_eq_true rfl⟩
set_option maxRecDepth 100000 in
set_option maxHeartbeats 4000000 in
theorem kX0_hasAgreement {l : Launch} {D : va_G} {cI cB cL cK : ClassId} {ad : Nat → Nat} {ho : Int32} {td : Int32} {pd : Int32} {sr : Int32} {dr : Int32} {ir : Int32} {qr : Int32} {sf : Nat → Int32} {df : Nat → Int32} {jf : Nat → Int32} {qf : Nat → Int32} {p1 : Int32} {res : Int32} (hm : mX0_hasAgreement dr df p1 = some res) : Rd l D cI cB cL cK yX0_hasAgreement wsX0_hasAgreement rmX0_hasAgreement [.ref (ad 0), .int p1] (wB cI ad ho td pd sr dr ir qr sf df jf qf) res := by
  refine Rd.of (cc := cX0_hasAgreement) (own := RX0) (by decide) rfl rfl (Nat.le_of_ble_eq_true rfl) (fun p e s m below meth c ls Q C hP hl hret => ?_)
  obtain ⟨hx, hb, hr, hml, hown, hts, hlk, hK⟩ := id C
  have hcf : CallFix p m c cX0_hasAgreement 2 s _ wsX0_hasAgreement RX0 := ⟨hx, hb, hml, hown, hts⟩
  have hl : lv_has ls 2 [(0, .ref (ad 0)), (1, .int p1)] := hl
  unfold mX0_hasAgreement at hm
  refine lv_aload_n hx hb dX0_hasAgreement_0 rfl (lv_at hl 0 rfl) ?_
  refine lv_iload_n hx hb dX0_hasAgreement_1 rfl (lv_at hl 1 rfl) ?_
  obtain ⟨v1, h_2, hm⟩ := b1_s hm
  refine rd_v hcf (kX0_hasPromise h_2) (cwX0_hasAgreement_X0_hasPromise hts) hK hP Sb.rf (ci := 0) (q0 := 0) rfl rfl rfl hl.1 rfl (Nat.le_of_ble_eq_true rfl) dX0_hasAgreement_2 ⟨Nat.zero_le _, Nat.zero_le _⟩ ?_
  refine lv_if_ne (tgt := 16) hx hb dX0_hasAgreement_5 (by decide) (fun c_3 => ?_) (fun c_3 => ?_)
  · replace hm := br_n hm c_3
    refine lv_iconst (v := 1) hx hb dX0_hasAgreement_16 (by decide) ?_
    refine lv_goto (tgt := 21) hx hb dX0_hasAgreement_17 (by decide) ?_
    cases hm
    exact hret _ _ dX0_hasAgreement_21 rfl
  · replace hm := br_p hm c_3
    refine lv_aload_n hx hb dX0_hasAgreement_8 rfl (lv_at hl 0 rfl) ?_
    refine lv_iload_n hx hb dX0_hasAgreement_9 rfl (lv_at hl 1 rfl) ?_
    obtain ⟨v4, h_5, hm⟩ := b1_s hm
    refine rd_v hcf (kX0_hasPlan h_5) (cwX0_hasAgreement_X0_hasPlan hts) hK hP Sb.rf (ci := 0) (q0 := 0) rfl rfl rfl hl.1 rfl (Nat.le_of_ble_eq_true rfl) dX0_hasAgreement_10 ⟨Nat.zero_le _, Nat.zero_le _⟩ ?_
    refine lv_if_eq (tgt := 20) hx hb dX0_hasAgreement_13 (by decide) (fun c_6 => ?_) (fun c_6 => ?_)
    · replace hm := br_p hm c_6
      refine lv_iconst (v := 0) hx hb dX0_hasAgreement_20 (by decide) ?_
      cases hm
      exact hret _ _ dX0_hasAgreement_21 rfl
    · replace hm := br_n hm c_6
      refine lv_iconst (v := 1) hx hb dX0_hasAgreement_16 (by decide) ?_
      refine lv_goto (tgt := 21) hx hb dX0_hasAgreement_17 (by decide) ?_
      cases hm
      exact hret _ _ dX0_hasAgreement_21 rfl
/-! X0 isAtCourt(I)Z -/
abbrev rmX0_isAtCourt : Room := { frames := 1, cells := 0, slots := 0, locals := 23 }
theorem hdX0_isAtCourt : yX0_isAtCourt.cls = RX0 ∧ yX0_isAtCourt.cls ≠ "java/lang/invoke/MethodHandle" ∧ yX0_isAtCourt.cls ≠ "java/lang/invoke/VarHandle" ∧ (parseMethodDescriptor yX0_isAtCourt.desc).map (fun d => d.parameters.length) = some 1 := by decide +kernel
theorem inX0_isAtCourt_X0 : ∀ w ∈ u_ws RX0 TX0 7, w ∈ wsX0_isAtCourt := by decide +kernel
theorem cwX0_isAtCourt_X3_get {s : State} {args : Array Value} (hts : ∀ w ∈ wsX0_isAtCourt, w.before args s = true) : CallW rmX0_isAtCourt s args RX0 RX3 58 yX3_get cX3_get 4 (some .int) wsX3_get rmX3_get 0 0 2 := cwV 2 hts gX0_isAtCourt_X3_get rfl rfl rfl hdX3_get ⟨Nat.le_of_ble_eq_true rfl, Nat.le_of_ble_eq_true rfl⟩
theorem cwX0_isAtCourt_X3_size {s : State} {args : Array Value} (hts : ∀ w ∈ wsX0_isAtCourt, w.before args s = true) : CallW rmX0_isAtCourt s args RX0 RX3 83 yX3_size cX3_size 1 (some .int) wsX3_size rmX3_size 0 0 0 := cwV 0 hts gX0_isAtCourt_X3_size rfl rfl rfl hdX3_size ⟨Nat.le_of_ble_eq_true rfl, Nat.le_of_ble_eq_true rfl⟩
theorem flX0_isAtCourt_14 : Fl wsX0_isAtCourt RX0 14 0 0 := ⟨_, _, _, rfl, by decide, inX0_isAtCourt_X0, by decide +kernel⟩
theorem flX0_isAtCourt_20 : Fl wsX0_isAtCourt RX0 20 0 1 := ⟨_, _, _, rfl, by decide, inX0_isAtCourt_X0, by decide +kernel⟩
set_option maxRecDepth 100000 in
set_option maxHeartbeats 4000000 in
theorem kX0_isAtCourt {l : Launch} {D : va_G} {cI cB cL cK : ClassId} {ad : Nat → Nat} {ho : Int32} {td : Int32} {pd : Int32} {sr : Int32} {dr : Int32} {ir : Int32} {qr : Int32} {sf : Nat → Int32} {df : Nat → Int32} {jf : Nat → Int32} {qf : Nat → Int32} {p1 : Int32} {res : Int32} (hm : mX0_isAtCourt sr dr df p1 = some res) : Rd l D cI cB cL cK yX0_isAtCourt wsX0_isAtCourt rmX0_isAtCourt [.ref (ad 0), .int p1] (wB cI ad ho td pd sr dr ir qr sf df jf qf) res := by
  refine Rd.of (cc := cX0_isAtCourt) (own := RX0) (by decide) rfl rfl (Nat.le_of_ble_eq_true rfl) (fun p e s m below meth c ls Q C hP hl hret => ?_)
  obtain ⟨hx, hb, hr, hml, hown, hts, hlk, hK⟩ := id C
  have hcf : CallFix p m c cX0_isAtCourt 2 s _ wsX0_isAtCourt RX0 := ⟨hx, hb, hml, hown, hts⟩
  have hl : lv_has ls 2 [(0, .ref (ad 0)), (1, .int p1)] := hl
  unfold mX0_isAtCourt at hm
  refine lv_aload_n hx hb dX0_isAtCourt_0 rfl (lv_at hl 0 rfl) ?_
  refine gf (q0 := 0) hx hb hts hown hK flX0_isAtCourt_14 hP rfl rfl dX0_isAtCourt_1 ?_
  obtain ⟨v1, h_2, hm⟩ := b1_s hm
  refine rd_v hcf (kX3_size h_2) (cwX0_isAtCourt_X3_size hts) hK hP sB_s (ci := 3) (q0 := 1) rfl rfl rfl hl.1 rfl (Nat.le_of_ble_eq_true rfl) dX0_isAtCourt_4 ⟨Nat.zero_le _, Nat.zero_le _⟩ ?_
  refine lv_if_le (tgt := 33) hx hb dX0_isAtCourt_7 (by decide) (fun c_3 => ?_) (fun c_3 => ?_)
  · replace hm := br_p hm c_3
    refine lv_iconst (v := 0) hx hb dX0_isAtCourt_33 (by decide) ?_
    cases hm
    exact hret _ _ dX0_isAtCourt_34 rfl
  · replace hm := br_n hm c_3
    refine lv_aload_n hx hb dX0_isAtCourt_10 rfl (lv_at hl 0 rfl) ?_
    refine gf (q0 := 0) hx hb hts hown hK flX0_isAtCourt_20 hP rfl rfl dX0_isAtCourt_11 ?_
    refine lv_iload_n hx hb dX0_isAtCourt_14 rfl (lv_at hl 1 rfl) ?_
    refine lv_iconst (v := 3) hx hb dX0_isAtCourt_15 (by decide) ?_
    obtain ⟨v4, h_5, hm⟩ := b1_s hm
    refine rd_v hcf (kX3_get h_5) (cwX0_isAtCourt_X3_get hts) hK hP sB_d (ci := 3) (q0 := 3) rfl rfl rfl hl.1 rfl (Nat.le_of_ble_eq_true rfl) dX0_isAtCourt_16 ⟨Nat.zero_le _, Nat.zero_le _⟩ ?_
    refine lv_aload_n hx hb dX0_isAtCourt_19 rfl (lv_at hl 0 rfl) ?_
    refine gf (q0 := 0) hx hb hts hown hK flX0_isAtCourt_14 hP rfl rfl dX0_isAtCourt_20 ?_
    obtain ⟨v6, h_7, hm⟩ := b1_s hm
    refine rd_v hcf (kX3_size h_7) (cwX0_isAtCourt_X3_size hts) hK hP sB_s (ci := 3) (q0 := 1) rfl rfl rfl hl.1 rfl (Nat.le_of_ble_eq_true rfl) dX0_isAtCourt_23 ⟨Nat.zero_le _, Nat.zero_le _⟩ ?_
    refine lv_icmp_lt (tgt := 33) hx hb dX0_isAtCourt_26 (by decide) (fun c_8 => ?_) (fun c_8 => ?_)
    · replace hm := br_p hm c_8
      refine lv_iconst (v := 0) hx hb dX0_isAtCourt_33 (by decide) ?_
      cases hm
      exact hret _ _ dX0_isAtCourt_34 rfl
    · replace hm := br_n hm c_8
      refine lv_iconst (v := 1) hx hb dX0_isAtCourt_29 (by decide) ?_
      refine lv_goto (tgt := 34) hx hb dX0_isAtCourt_30 (by decide) ?_
      cases hm
      exact hret _ _ dX0_isAtCourt_34 rfl
/-! X0 greatestAge(I)I -/
abbrev rmX0_greatestAge : Room := { frames := 2, cells := 0, slots := 0, locals := 45 }
theorem hdX0_greatestAge : yX0_greatestAge.cls = RX0 ∧ yX0_greatestAge.cls ≠ "java/lang/invoke/MethodHandle" ∧ yX0_greatestAge.cls ≠ "java/lang/invoke/VarHandle" ∧ (parseMethodDescriptor yX0_greatestAge.desc).map (fun d => d.parameters.length) = some 1 := by decide +kernel
theorem inX0_greatestAge_X0 : ∀ w ∈ u_ws RX0 TX0 7, w ∈ wsX0_greatestAge := by decide +kernel
theorem cwX0_greatestAge_X0_isClaim {s : State} {args : Array Value} (hts : ∀ w ∈ wsX0_greatestAge, w.before args s = true) : CallW rmX0_greatestAge s args RX0 RX0 86 yX0_isClaim cX0_isClaim 3 (some .boolean) wsX0_isClaim rmX0_isClaim 0 0 2 := cwV 2 hts gX0_greatestAge_X0_isClaim rfl rfl rfl hdX0_isClaim ⟨Nat.le_of_ble_eq_true rfl, Nat.le_of_ble_eq_true rfl⟩
theorem cwX0_greatestAge_X3_get {s : State} {args : Array Value} (hts : ∀ w ∈ wsX0_greatestAge, w.before args s = true) : CallW rmX0_greatestAge s args RX0 RX3 58 yX3_get cX3_get 4 (some .int) wsX3_get rmX3_get 0 0 2 := cwV 2 hts gX0_greatestAge_X3_get rfl rfl rfl hdX3_get ⟨Nat.le_of_ble_eq_true rfl, Nat.le_of_ble_eq_true rfl⟩
theorem cwX0_greatestAge_X3_size {s : State} {args : Array Value} (hts : ∀ w ∈ wsX0_greatestAge, w.before args s = true) : CallW rmX0_greatestAge s args RX0 RX3 83 yX3_size cX3_size 1 (some .int) wsX3_size rmX3_size 0 0 0 := cwV 0 hts gX0_greatestAge_X3_size rfl rfl rfl hdX3_size ⟨Nat.le_of_ble_eq_true rfl, Nat.le_of_ble_eq_true rfl⟩
theorem flX0_greatestAge_23 : Fl wsX0_greatestAge RX0 23 0 2 := ⟨_, _, _, rfl, by decide, inX0_greatestAge_X0, by decide +kernel⟩
theorem mfX0_greatestAge_max_cd : Cond.code Lib.Math.max.name Lib.Math.max.code 2 (some .int) ∈ wsX0_greatestAge := by decide +kernel
theorem mfX0_greatestAge_max_in : Cond.initialized "java/lang/Math" ∈ wsX0_greatestAge := by decide +kernel
theorem mfX0_greatestAge_max_ml : Cond.methodLink RX0 90 Lib.Math.max.name ∈ wsX0_greatestAge := by decide +kernel
theorem mfX0_greatestAge_max_st : Cond.static Lib.Math.max.name ∈ wsX0_greatestAge := by decide +kernel
set_option maxRecDepth 100000 in
set_option maxHeartbeats 4000000 in
theorem tX0_greatestAge_L4 {ad : Nat → Nat} {ho : Int32} {td : Int32} {pd : Int32} {sr : Int32} {dr : Int32} {ir : Int32} {qr : Int32} {sf : Nat → Int32} {df : Nat → Int32} {jf : Nat → Int32} {qf : Nat → Int32} {res : Int32} (C : Cx p s m args meth c cX0_greatestAge (some .int) 4 wsX0_greatestAge RX0 D cI cB cL cK) (hP : va_P D vwCl (wB cI ad ho td pd sr dr ir qr sf df jf qf) s.heap) (hret : ∀ (pc : Nat) (ls : Array Slot), decode cX0_greatestAge pc = .ok (.ireturn, 1) → narrow .int (.int res) = .int res → W p l e rmX0_greatestAge s m args below meth c s.heap [] 0 0 Q (F0 m pc ls [.int res])) : ∀ (n9 : Nat) (x1 : Int32) (x2 : Int32) (x3 : Int32), mX0_greatestAge_L4 n9 ir jf x1 x2 x3 = some res → ∀ (ls : Array Slot), lv_has ls 4 [(0, .ref (ad 0)), (1, .int x1), (2, .int x2), (3, .int x3)] → W p l e rmX0_greatestAge s m args below meth c s.heap [] 0 0 Q (F0 m 4 ls []) := by
  obtain ⟨hx, hb, hr, hml, hown, hts, hlk, hK⟩ := id C
  have hcf : CallFix p m c cX0_greatestAge 4 s args wsX0_greatestAge RX0 := ⟨hx, hb, hml, hown, hts⟩
  intro n9
  induction n9 with
  | zero => intro x1 x2 x3 hm; cases hm
  | succ k ih =>
    intro x1 x2 x3 hm ls hl
    rw [mX0_greatestAge_L4.eq_2] at hm
    refine lv_iload_n hx hb dX0_greatestAge_4 rfl (lv_at hl 3 rfl) ?_
    refine lv_aload_n hx hb dX0_greatestAge_5 rfl (lv_at hl 0 rfl) ?_
    refine gf (q0 := 0) hx hb hts hown hK flX0_greatestAge_23 hP rfl rfl dX0_greatestAge_6 ?_
    obtain ⟨v1, h_2, hm⟩ := b1_s hm
    refine rd_v hcf (kX3_size h_2) (cwX0_greatestAge_X3_size hts) hK hP sB_j (ci := 3) (q0 := 5) rfl rfl rfl hl.1 rfl (Nat.le_of_ble_eq_true rfl) dX0_greatestAge_9 ⟨Nat.zero_le _, Nat.zero_le _⟩ ?_
    refine lv_icmp_ge (tgt := 44) hx hb dX0_greatestAge_12 (by decide) (fun c_3 => ?_) (fun c_3 => ?_)
    · replace hm := br_p hm c_3
      refine lv_iload_n hx hb dX0_greatestAge_44 rfl (lv_at hl 2 rfl) ?_
      cases hm
      exact hret _ _ dX0_greatestAge_45 rfl
    · replace hm := br_n hm c_3
      refine lv_aload_n hx hb dX0_greatestAge_15 rfl (lv_at hl 0 rfl) ?_
      refine lv_iload_n hx hb dX0_greatestAge_16 rfl (lv_at hl 3 rfl) ?_
      refine lv_iload_n hx hb dX0_greatestAge_17 rfl (lv_at hl 1 rfl) ?_
      obtain ⟨v4, h_5, hm⟩ := b1_s hm
      refine rd_v hcf (kX0_isClaim h_5) (cwX0_greatestAge_X0_isClaim hts) hK hP Sb.rf (ci := 0) (q0 := 0) rfl rfl rfl hl.1 rfl (Nat.le_of_ble_eq_true rfl) dX0_greatestAge_18 ⟨Nat.zero_le _, Nat.zero_le _⟩ ?_
      refine lv_if_eq (tgt := 38) hx hb dX0_greatestAge_21 (by decide) (fun c_6 => ?_) (fun c_6 => ?_)
      · replace hm := br_p hm c_6
        refine lv_iinc (v := (x3 + 1)) (lv' := [(3, .int (x3 + 1)), (0, .ref (ad 0)), (1, .int x1), (2, .int x2)]) hx hb dX0_greatestAge_38 hl (k := 3) rfl rfl (by decide) rfl (fun ls hl => ?_)
        refine lv_goto (tgt := 4) hx hb dX0_greatestAge_41 (by decide) ?_
        exact ih _ _ _ hm _ (lv_sub hl [1, 2, 3, 0] rfl)
      · replace hm := br_n hm c_6
        refine lv_iload_n hx hb dX0_greatestAge_24 rfl (lv_at hl 2 rfl) ?_
        refine lv_aload_n hx hb dX0_greatestAge_25 rfl (lv_at hl 0 rfl) ?_
        refine gf (q0 := 0) hx hb hts hown hK flX0_greatestAge_23 hP rfl rfl dX0_greatestAge_26 ?_
        refine lv_iload_n hx hb dX0_greatestAge_29 rfl (lv_at hl 3 rfl) ?_
        refine lv_iconst (v := 4) hx hb dX0_greatestAge_30 (by decide) ?_
        obtain ⟨v7, h_8, hm⟩ := b1_s hm
        refine rd_v hcf (kX3_get h_8) (cwX0_greatestAge_X3_get hts) hK hP sB_j (ci := 3) (q0 := 5) rfl rfl rfl hl.1 rfl (Nat.le_of_ble_eq_true rfl) dX0_greatestAge_31 ⟨Nat.zero_le _, Nat.zero_le _⟩ ?_
        refine va_mmax hx hb (hml.trans hl.1.symm) hown (hts _ mfX0_greatestAge_max_ml) (hts _ mfX0_greatestAge_max_st) (hts _ mfX0_greatestAge_max_in) (hts _ mfX0_greatestAge_max_cd) (Nat.le_of_ble_eq_true rfl) (Nat.le_of_ble_eq_true rfl) (Nat.zero_le _) (Nat.zero_le _) dX0_greatestAge_34 ?_
        refine lv_istore_n (lv' := [(2, .int (mxI x2 v7)), (0, .ref (ad 0)), (1, .int x1), (3, .int x3)]) hx hb dX0_greatestAge_37 rfl hl (by decide) rfl (fun ls hl => ?_)
        refine lv_iinc (v := (x3 + 1)) (lv' := [(3, .int (x3 + 1)), (2, .int (mxI x2 v7)), (0, .ref (ad 0)), (1, .int x1)]) hx hb dX0_greatestAge_38 hl (k := 3) rfl rfl (by decide) rfl (fun ls hl => ?_)
        refine lv_goto (tgt := 4) hx hb dX0_greatestAge_41 (by decide) ?_
        exact ih _ _ _ hm _ (lv_sub hl [2, 3, 1, 0] rfl)
set_option maxRecDepth 100000 in
set_option maxHeartbeats 4000000 in
theorem kX0_greatestAge {l : Launch} {D : va_G} {cI cB cL cK : ClassId} {ad : Nat → Nat} {ho : Int32} {td : Int32} {pd : Int32} {sr : Int32} {dr : Int32} {ir : Int32} {qr : Int32} {sf : Nat → Int32} {df : Nat → Int32} {jf : Nat → Int32} {qf : Nat → Int32} {p1 : Int32} {res : Int32} (hm : mX0_greatestAge ir jf p1 = some res) : Rd l D cI cB cL cK yX0_greatestAge wsX0_greatestAge rmX0_greatestAge [.ref (ad 0), .int p1] (wB cI ad ho td pd sr dr ir qr sf df jf qf) res := by
  refine Rd.of (cc := cX0_greatestAge) (own := RX0) (by decide) rfl rfl (Nat.le_of_ble_eq_true rfl) (fun p e s m below meth c ls Q C hP hl hret => ?_)
  obtain ⟨hx, hb, hr, hml, hown, hts, hlk, hK⟩ := id C
  have hcf : CallFix p m c cX0_greatestAge 4 s _ wsX0_greatestAge RX0 := ⟨hx, hb, hml, hown, hts⟩
  have hl : lv_has ls 4 [(0, .ref (ad 0)), (1, .int p1)] := hl
  unfold mX0_greatestAge at hm
  refine lv_iconst (v := 0) hx hb dX0_greatestAge_0 (by decide) ?_
  refine lv_istore_n (lv' := [(2, .int 0), (0, .ref (ad 0)), (1, .int p1)]) hx hb dX0_greatestAge_1 rfl hl (by decide) rfl (fun ls hl => ?_)
  refine lv_iconst (v := 0) hx hb dX0_greatestAge_2 (by decide) ?_
  refine lv_istore_n (lv' := [(3, .int 0), (2, .int 0), (0, .ref (ad 0)), (1, .int p1)]) hx hb dX0_greatestAge_3 rfl hl (by decide) rfl (fun ls hl => ?_)
  exact tX0_greatestAge_L4 C hP hret _ _ _ _ hm _ (lv_sub hl [2, 3, 1, 0] rfl)
/-! X0 waiting()I -/
abbrev rmX0_waiting : Room := { frames := 1, cells := 0, slots := 0, locals := 23 }
theorem hdX0_waiting : yX0_waiting.cls = RX0 ∧ yX0_waiting.cls ≠ "java/lang/invoke/MethodHandle" ∧ yX0_waiting.cls ≠ "java/lang/invoke/VarHandle" ∧ (parseMethodDescriptor yX0_waiting.desc).map (fun d => d.parameters.length) = some 0 := by decide +kernel
theorem inX0_waiting_X0 : ∀ w ∈ u_ws RX0 TX0 7, w ∈ wsX0_waiting := by decide +kernel
theorem cwX0_waiting_X3_get {s : State} {args : Array Value} (hts : ∀ w ∈ wsX0_waiting, w.before args s = true) : CallW rmX0_waiting s args RX0 RX3 58 yX3_get cX3_get 4 (some .int) wsX3_get rmX3_get 0 0 2 := cwV 2 hts gX0_waiting_X3_get rfl rfl rfl hdX3_get ⟨Nat.le_of_ble_eq_true rfl, Nat.le_of_ble_eq_true rfl⟩
theorem cwX0_waiting_X3_size {s : State} {args : Array Value} (hts : ∀ w ∈ wsX0_waiting, w.before args s = true) : CallW rmX0_waiting s args RX0 RX3 83 yX3_size cX3_size 1 (some .int) wsX3_size rmX3_size 0 0 0 := cwV 0 hts gX0_waiting_X3_size rfl rfl rfl hdX3_size ⟨Nat.le_of_ble_eq_true rfl, Nat.le_of_ble_eq_true rfl⟩
theorem flX0_waiting_26 : Fl wsX0_waiting RX0 26 0 3 := ⟨_, _, _, rfl, by decide, inX0_waiting_X0, by decide +kernel⟩
set_option maxRecDepth 100000 in
set_option maxHeartbeats 4000000 in
theorem tX0_waiting_L4 {ad : Nat → Nat} {ho : Int32} {td : Int32} {pd : Int32} {sr : Int32} {dr : Int32} {ir : Int32} {qr : Int32} {sf : Nat → Int32} {df : Nat → Int32} {jf : Nat → Int32} {qf : Nat → Int32} {res : Int32} (C : Cx p s m args meth c cX0_waiting (some .int) 3 wsX0_waiting RX0 D cI cB cL cK) (hP : va_P D vwCl (wB cI ad ho td pd sr dr ir qr sf df jf qf) s.heap) (hret : ∀ (pc : Nat) (ls : Array Slot), decode cX0_waiting pc = .ok (.ireturn, 1) → narrow .int (.int res) = .int res → W p l e rmX0_waiting s m args below meth c s.heap [] 0 0 Q (F0 m pc ls [.int res])) : ∀ (n9 : Nat) (x1 : Int32) (x2 : Int32), mX0_waiting_L4 n9 qr qf x1 x2 = some res → ∀ (ls : Array Slot), lv_has ls 3 [(0, .ref (ad 0)), (1, .int x1), (2, .int x2)] → W p l e rmX0_waiting s m args below meth c s.heap [] 0 0 Q (F0 m 4 ls []) := by
  obtain ⟨hx, hb, hr, hml, hown, hts, hlk, hK⟩ := id C
  have hcf : CallFix p m c cX0_waiting 3 s args wsX0_waiting RX0 := ⟨hx, hb, hml, hown, hts⟩
  intro n9
  induction n9 with
  | zero => intro x1 x2 hm; cases hm
  | succ k ih =>
    intro x1 x2 hm ls hl
    rw [mX0_waiting_L4.eq_2] at hm
    refine lv_iload_n hx hb dX0_waiting_4 rfl (lv_at hl 2 rfl) ?_
    refine lv_aload_n hx hb dX0_waiting_5 rfl (lv_at hl 0 rfl) ?_
    refine gf (q0 := 0) hx hb hts hown hK flX0_waiting_26 hP rfl rfl dX0_waiting_6 ?_
    obtain ⟨v1, h_2, hm⟩ := b1_s hm
    refine rd_v hcf (kX3_size h_2) (cwX0_waiting_X3_size hts) hK hP sB_q (ci := 3) (q0 := 7) rfl rfl rfl hl.1 rfl (Nat.le_of_ble_eq_true rfl) dX0_waiting_9 ⟨Nat.zero_le _, Nat.zero_le _⟩ ?_
    refine lv_icmp_ge (tgt := 36) hx hb dX0_waiting_12 (by decide) (fun c_3 => ?_) (fun c_3 => ?_)
    · replace hm := br_p hm c_3
      refine lv_iload_n hx hb dX0_waiting_36 rfl (lv_at hl 1 rfl) ?_
      cases hm
      exact hret _ _ dX0_waiting_37 rfl
    · replace hm := br_n hm c_3
      refine lv_aload_n hx hb dX0_waiting_15 rfl (lv_at hl 0 rfl) ?_
      refine gf (q0 := 0) hx hb hts hown hK flX0_waiting_26 hP rfl rfl dX0_waiting_16 ?_
      refine lv_iload_n hx hb dX0_waiting_19 rfl (lv_at hl 2 rfl) ?_
      refine lv_iconst (v := 2) hx hb dX0_waiting_20 (by decide) ?_
      obtain ⟨v4, h_5, hm⟩ := b1_s hm
      refine rd_v hcf (kX3_get h_5) (cwX0_waiting_X3_get hts) hK hP sB_q (ci := 3) (q0 := 7) rfl rfl rfl hl.1 rfl (Nat.le_of_ble_eq_true rfl) dX0_waiting_21 ⟨Nat.zero_le _, Nat.zero_le _⟩ ?_
      refine lv_if_ne (tgt := 30) hx hb dX0_waiting_24 (by decide) (fun c_6 => ?_) (fun c_6 => ?_)
      · replace hm := br_n hm c_6
        refine lv_iinc (v := (x2 + 1)) (lv' := [(2, .int (x2 + 1)), (0, .ref (ad 0)), (1, .int x1)]) hx hb dX0_waiting_30 hl (k := 2) rfl rfl (by decide) rfl (fun ls hl => ?_)
        refine lv_goto (tgt := 4) hx hb dX0_waiting_33 (by decide) ?_
        exact ih _ _ hm _ (lv_sub hl [1, 2, 0] rfl)
      · replace hm := br_p hm c_6
        refine lv_iinc (v := (x1 + 1)) (lv' := [(1, .int (x1 + 1)), (0, .ref (ad 0)), (2, .int x2)]) hx hb dX0_waiting_27 hl (k := 1) rfl rfl (by decide) rfl (fun ls hl => ?_)
        refine lv_iinc (v := (x2 + 1)) (lv' := [(2, .int (x2 + 1)), (1, .int (x1 + 1)), (0, .ref (ad 0))]) hx hb dX0_waiting_30 hl (k := 2) rfl rfl (by decide) rfl (fun ls hl => ?_)
        refine lv_goto (tgt := 4) hx hb dX0_waiting_33 (by decide) ?_
        exact ih _ _ hm _ (lv_sub hl [2, 1, 0] rfl)
set_option maxRecDepth 100000 in
set_option maxHeartbeats 4000000 in
theorem kX0_waiting {l : Launch} {D : va_G} {cI cB cL cK : ClassId} {ad : Nat → Nat} {ho : Int32} {td : Int32} {pd : Int32} {sr : Int32} {dr : Int32} {ir : Int32} {qr : Int32} {sf : Nat → Int32} {df : Nat → Int32} {jf : Nat → Int32} {qf : Nat → Int32}  {res : Int32} (hm : mX0_waiting qr qf = some res) : Rd l D cI cB cL cK yX0_waiting wsX0_waiting rmX0_waiting [.ref (ad 0)] (wB cI ad ho td pd sr dr ir qr sf df jf qf) res := by
  refine Rd.of (cc := cX0_waiting) (own := RX0) (by decide) rfl rfl (Nat.le_of_ble_eq_true rfl) (fun p e s m below meth c ls Q C hP hl hret => ?_)
  obtain ⟨hx, hb, hr, hml, hown, hts, hlk, hK⟩ := id C
  have hcf : CallFix p m c cX0_waiting 3 s _ wsX0_waiting RX0 := ⟨hx, hb, hml, hown, hts⟩
  have hl : lv_has ls 3 [(0, .ref (ad 0))] := hl
  unfold mX0_waiting at hm
  refine lv_iconst (v := 0) hx hb dX0_waiting_0 (by decide) ?_
  refine lv_istore_n (lv' := [(1, .int 0), (0, .ref (ad 0))]) hx hb dX0_waiting_1 rfl hl (by decide) rfl (fun ls hl => ?_)
  refine lv_iconst (v := 0) hx hb dX0_waiting_2 (by decide) ?_
  refine lv_istore_n (lv' := [(2, .int 0), (1, .int 0), (0, .ref (ad 0))]) hx hb dX0_waiting_3 rfl hl (by decide) rfl (fun ls hl => ?_)
  exact tX0_waiting_L4 C hP hret _ _ _ hm _ (lv_sub hl [2, 1, 0] rfl)
/-! X0 owedByAll()I -/
abbrev rmX0_owedByAll : Room := { frames := 1, cells := 0, slots := 0, locals := 23 }
theorem hdX0_owedByAll : yX0_owedByAll.cls = RX0 ∧ yX0_owedByAll.cls ≠ "java/lang/invoke/MethodHandle" ∧ yX0_owedByAll.cls ≠ "java/lang/invoke/VarHandle" ∧ (parseMethodDescriptor yX0_owedByAll.desc).map (fun d => d.parameters.length) = some 0 := by decide +kernel
theorem inX0_owedByAll_X0 : ∀ w ∈ u_ws RX0 TX0 7, w ∈ wsX0_owedByAll := by decide +kernel
theorem cwX0_owedByAll_X3_get {s : State} {args : Array Value} (hts : ∀ w ∈ wsX0_owedByAll, w.before args s = true) : CallW rmX0_owedByAll s args RX0 RX3 58 yX3_get cX3_get 4 (some .int) wsX3_get rmX3_get 0 0 2 := cwV 2 hts gX0_owedByAll_X3_get rfl rfl rfl hdX3_get ⟨Nat.le_of_ble_eq_true rfl, Nat.le_of_ble_eq_true rfl⟩
theorem cwX0_owedByAll_X3_size {s : State} {args : Array Value} (hts : ∀ w ∈ wsX0_owedByAll, w.before args s = true) : CallW rmX0_owedByAll s args RX0 RX3 83 yX3_size cX3_size 1 (some .int) wsX3_size rmX3_size 0 0 0 := cwV 0 hts gX0_owedByAll_X3_size rfl rfl rfl hdX3_size ⟨Nat.le_of_ble_eq_true rfl, Nat.le_of_ble_eq_true rfl⟩
theorem flX0_owedByAll_23 : Fl wsX0_owedByAll RX0 23 0 2 := ⟨_, _, _, rfl, by decide, inX0_owedByAll_X0, by decide +kernel⟩
set_option maxRecDepth 100000 in
set_option maxHeartbeats 4000000 in
theorem tX0_owedByAll_L4 {ad : Nat → Nat} {ho : Int32} {td : Int32} {pd : Int32} {sr : Int32} {dr : Int32} {ir : Int32} {qr : Int32} {sf : Nat → Int32} {df : Nat → Int32} {jf : Nat → Int32} {qf : Nat → Int32} {res : Int32} (C : Cx p s m args meth c cX0_owedByAll (some .int) 3 wsX0_owedByAll RX0 D cI cB cL cK) (hP : va_P D vwCl (wB cI ad ho td pd sr dr ir qr sf df jf qf) s.heap) (hret : ∀ (pc : Nat) (ls : Array Slot), decode cX0_owedByAll pc = .ok (.ireturn, 1) → narrow .int (.int res) = .int res → W p l e rmX0_owedByAll s m args below meth c s.heap [] 0 0 Q (F0 m pc ls [.int res])) : ∀ (n9 : Nat) (x1 : Int32) (x2 : Int32), mX0_owedByAll_L4 n9 ir jf x1 x2 = some res → ∀ (ls : Array Slot), lv_has ls 3 [(0, .ref (ad 0)), (1, .int x1), (2, .int x2)] → W p l e rmX0_owedByAll s m args below meth c s.heap [] 0 0 Q (F0 m 4 ls []) := by
  obtain ⟨hx, hb, hr, hml, hown, hts, hlk, hK⟩ := id C
  have hcf : CallFix p m c cX0_owedByAll 3 s args wsX0_owedByAll RX0 := ⟨hx, hb, hml, hown, hts⟩
  intro n9
  induction n9 with
  | zero => intro x1 x2 hm; cases hm
  | succ k ih =>
    intro x1 x2 hm ls hl
    rw [mX0_owedByAll_L4.eq_2] at hm
    refine lv_iload_n hx hb dX0_owedByAll_4 rfl (lv_at hl 2 rfl) ?_
    refine lv_aload_n hx hb dX0_owedByAll_5 rfl (lv_at hl 0 rfl) ?_
    refine gf (q0 := 0) hx hb hts hown hK flX0_owedByAll_23 hP rfl rfl dX0_owedByAll_6 ?_
    obtain ⟨v1, h_2, hm⟩ := b1_s hm
    refine rd_v hcf (kX3_size h_2) (cwX0_owedByAll_X3_size hts) hK hP sB_j (ci := 3) (q0 := 5) rfl rfl rfl hl.1 rfl (Nat.le_of_ble_eq_true rfl) dX0_owedByAll_9 ⟨Nat.zero_le _, Nat.zero_le _⟩ ?_
    refine lv_icmp_ge (tgt := 33) hx hb dX0_owedByAll_12 (by decide) (fun c_3 => ?_) (fun c_3 => ?_)
    · replace hm := br_p hm c_3
      refine lv_iload_n hx hb dX0_owedByAll_33 rfl (lv_at hl 1 rfl) ?_
      cases hm
      exact hret _ _ dX0_owedByAll_34 rfl
    · replace hm := br_n hm c_3
      refine lv_iload_n hx hb dX0_owedByAll_15 rfl (lv_at hl 1 rfl) ?_
      refine lv_aload_n hx hb dX0_owedByAll_16 rfl (lv_at hl 0 rfl) ?_
      refine gf (q0 := 0) hx hb hts hown hK flX0_owedByAll_23 hP rfl rfl dX0_owedByAll_17 ?_
      refine lv_iload_n hx hb dX0_owedByAll_20 rfl (lv_at hl 2 rfl) ?_
      refine lv_iconst (v := 2) hx hb dX0_owedByAll_21 (by decide) ?_
      obtain ⟨v4, h_5, hm⟩ := b1_s hm
      refine rd_v hcf (kX3_get h_5) (cwX0_owedByAll_X3_get hts) hK hP sB_j (ci := 3) (q0 := 5) rfl rfl rfl hl.1 rfl (Nat.le_of_ble_eq_true rfl) dX0_owedByAll_22 ⟨Nat.zero_le _, Nat.zero_le _⟩ ?_
      refine lv_iadd hx hb dX0_owedByAll_25 ?_
      refine lv_istore_n (lv' := [(1, .int (x1 + v4)), (0, .ref (ad 0)), (2, .int x2)]) hx hb dX0_owedByAll_26 rfl hl (by decide) rfl (fun ls hl => ?_)
      refine lv_iinc (v := (x2 + 1)) (lv' := [(2, .int (x2 + 1)), (1, .int (x1 + v4)), (0, .ref (ad 0))]) hx hb dX0_owedByAll_27 hl (k := 2) rfl rfl (by decide) rfl (fun ls hl => ?_)
      refine lv_goto (tgt := 4) hx hb dX0_owedByAll_30 (by decide) ?_
      exact ih _ _ hm _ (lv_sub hl [2, 1, 0] rfl)
set_option maxRecDepth 100000 in
set_option maxHeartbeats 4000000 in
theorem kX0_owedByAll {l : Launch} {D : va_G} {cI cB cL cK : ClassId} {ad : Nat → Nat} {ho : Int32} {td : Int32} {pd : Int32} {sr : Int32} {dr : Int32} {ir : Int32} {qr : Int32} {sf : Nat → Int32} {df : Nat → Int32} {jf : Nat → Int32} {qf : Nat → Int32}  {res : Int32} (hm : mX0_owedByAll ir jf = some res) : Rd l D cI cB cL cK yX0_owedByAll wsX0_owedByAll rmX0_owedByAll [.ref (ad 0)] (wB cI ad ho td pd sr dr ir qr sf df jf qf) res := by
  refine Rd.of (cc := cX0_owedByAll) (own := RX0) (by decide) rfl rfl (Nat.le_of_ble_eq_true rfl) (fun p e s m below meth c ls Q C hP hl hret => ?_)
  obtain ⟨hx, hb, hr, hml, hown, hts, hlk, hK⟩ := id C
  have hcf : CallFix p m c cX0_owedByAll 3 s _ wsX0_owedByAll RX0 := ⟨hx, hb, hml, hown, hts⟩
  have hl : lv_has ls 3 [(0, .ref (ad 0))] := hl
  unfold mX0_owedByAll at hm
  refine lv_iconst (v := 0) hx hb dX0_owedByAll_0 (by decide) ?_
  refine lv_istore_n (lv' := [(1, .int 0), (0, .ref (ad 0))]) hx hb dX0_owedByAll_1 rfl hl (by decide) rfl (fun ls hl => ?_)
  refine lv_iconst (v := 0) hx hb dX0_owedByAll_2 (by decide) ?_
  refine lv_istore_n (lv' := [(2, .int 0), (1, .int 0), (0, .ref (ad 0))]) hx hb dX0_owedByAll_3 rfl hl (by decide) rfl (fun ls hl => ?_)
  exact tX0_owedByAll_L4 C hP hret _ _ _ hm _ (lv_sub hl [2, 1, 0] rfl)
/-! X0 cashOfAll()I -/
abbrev rmX0_cashOfAll : Room := { frames := 1, cells := 0, slots := 0, locals := 23 }
theorem hdX0_cashOfAll : yX0_cashOfAll.cls = RX0 ∧ yX0_cashOfAll.cls ≠ "java/lang/invoke/MethodHandle" ∧ yX0_cashOfAll.cls ≠ "java/lang/invoke/VarHandle" ∧ (parseMethodDescriptor yX0_cashOfAll.desc).map (fun d => d.parameters.length) = some 0 := by decide +kernel
theorem inX0_cashOfAll_X0 : ∀ w ∈ u_ws RX0 TX0 7, w ∈ wsX0_cashOfAll := by decide +kernel
theorem cwX0_cashOfAll_X3_get {s : State} {args : Array Value} (hts : ∀ w ∈ wsX0_cashOfAll, w.before args s = true) : CallW rmX0_cashOfAll s args RX0 RX3 58 yX3_get cX3_get 4 (some .int) wsX3_get rmX3_get 0 0 2 := cwV 2 hts gX0_cashOfAll_X3_get rfl rfl rfl hdX3_get ⟨Nat.le_of_ble_eq_true rfl, Nat.le_of_ble_eq_true rfl⟩
theorem cwX0_cashOfAll_X3_size {s : State} {args : Array Value} (hts : ∀ w ∈ wsX0_cashOfAll, w.before args s = true) : CallW rmX0_cashOfAll s args RX0 RX3 83 yX3_size cX3_size 1 (some .int) wsX3_size rmX3_size 0 0 0 := cwV 0 hts gX0_cashOfAll_X3_size rfl rfl rfl hdX3_size ⟨Nat.le_of_ble_eq_true rfl, Nat.le_of_ble_eq_true rfl⟩
theorem flX0_cashOfAll_20 : Fl wsX0_cashOfAll RX0 20 0 1 := ⟨_, _, _, rfl, by decide, inX0_cashOfAll_X0, by decide +kernel⟩
set_option maxRecDepth 100000 in
set_option maxHeartbeats 4000000 in
theorem tX0_cashOfAll_L4 {ad : Nat → Nat} {ho : Int32} {td : Int32} {pd : Int32} {sr : Int32} {dr : Int32} {ir : Int32} {qr : Int32} {sf : Nat → Int32} {df : Nat → Int32} {jf : Nat → Int32} {qf : Nat → Int32} {res : Int32} (C : Cx p s m args meth c cX0_cashOfAll (some .int) 3 wsX0_cashOfAll RX0 D cI cB cL cK) (hP : va_P D vwCl (wB cI ad ho td pd sr dr ir qr sf df jf qf) s.heap) (hret : ∀ (pc : Nat) (ls : Array Slot), decode cX0_cashOfAll pc = .ok (.ireturn, 1) → narrow .int (.int res) = .int res → W p l e rmX0_cashOfAll s m args below meth c s.heap [] 0 0 Q (F0 m pc ls [.int res])) : ∀ (n9 : Nat) (x1 : Int32) (x2 : Int32), mX0_cashOfAll_L4 n9 dr df x1 x2 = some res → ∀ (ls : Array Slot), lv_has ls 3 [(0, .ref (ad 0)), (1, .int x1), (2, .int x2)] → W p l e rmX0_cashOfAll s m args below meth c s.heap [] 0 0 Q (F0 m 4 ls []) := by
  obtain ⟨hx, hb, hr, hml, hown, hts, hlk, hK⟩ := id C
  have hcf : CallFix p m c cX0_cashOfAll 3 s args wsX0_cashOfAll RX0 := ⟨hx, hb, hml, hown, hts⟩
  intro n9
  induction n9 with
  | zero => intro x1 x2 hm; cases hm
  | succ k ih =>
    intro x1 x2 hm ls hl
    rw [mX0_cashOfAll_L4.eq_2] at hm
    refine lv_iload_n hx hb dX0_cashOfAll_4 rfl (lv_at hl 2 rfl) ?_
    refine lv_aload_n hx hb dX0_cashOfAll_5 rfl (lv_at hl 0 rfl) ?_
    refine gf (q0 := 0) hx hb hts hown hK flX0_cashOfAll_20 hP rfl rfl dX0_cashOfAll_6 ?_
    obtain ⟨v1, h_2, hm⟩ := b1_s hm
    refine rd_v hcf (kX3_size h_2) (cwX0_cashOfAll_X3_size hts) hK hP sB_d (ci := 3) (q0 := 3) rfl rfl rfl hl.1 rfl (Nat.le_of_ble_eq_true rfl) dX0_cashOfAll_9 ⟨Nat.zero_le _, Nat.zero_le _⟩ ?_
    refine lv_icmp_ge (tgt := 33) hx hb dX0_cashOfAll_12 (by decide) (fun c_3 => ?_) (fun c_3 => ?_)
    · replace hm := br_p hm c_3
      refine lv_iload_n hx hb dX0_cashOfAll_33 rfl (lv_at hl 1 rfl) ?_
      cases hm
      exact hret _ _ dX0_cashOfAll_34 rfl
    · replace hm := br_n hm c_3
      refine lv_iload_n hx hb dX0_cashOfAll_15 rfl (lv_at hl 1 rfl) ?_
      refine lv_aload_n hx hb dX0_cashOfAll_16 rfl (lv_at hl 0 rfl) ?_
      refine gf (q0 := 0) hx hb hts hown hK flX0_cashOfAll_20 hP rfl rfl dX0_cashOfAll_17 ?_
      refine lv_iload_n hx hb dX0_cashOfAll_20 rfl (lv_at hl 2 rfl) ?_
      refine lv_iconst (v := 2) hx hb dX0_cashOfAll_21 (by decide) ?_
      obtain ⟨v4, h_5, hm⟩ := b1_s hm
      refine rd_v hcf (kX3_get h_5) (cwX0_cashOfAll_X3_get hts) hK hP sB_d (ci := 3) (q0 := 3) rfl rfl rfl hl.1 rfl (Nat.le_of_ble_eq_true rfl) dX0_cashOfAll_22 ⟨Nat.zero_le _, Nat.zero_le _⟩ ?_
      refine lv_iadd hx hb dX0_cashOfAll_25 ?_
      refine lv_istore_n (lv' := [(1, .int (x1 + v4)), (0, .ref (ad 0)), (2, .int x2)]) hx hb dX0_cashOfAll_26 rfl hl (by decide) rfl (fun ls hl => ?_)
      refine lv_iinc (v := (x2 + 1)) (lv' := [(2, .int (x2 + 1)), (1, .int (x1 + v4)), (0, .ref (ad 0))]) hx hb dX0_cashOfAll_27 hl (k := 2) rfl rfl (by decide) rfl (fun ls hl => ?_)
      refine lv_goto (tgt := 4) hx hb dX0_cashOfAll_30 (by decide) ?_
      exact ih _ _ hm _ (lv_sub hl [2, 1, 0] rfl)
set_option maxRecDepth 100000 in
set_option maxHeartbeats 4000000 in
theorem kX0_cashOfAll {l : Launch} {D : va_G} {cI cB cL cK : ClassId} {ad : Nat → Nat} {ho : Int32} {td : Int32} {pd : Int32} {sr : Int32} {dr : Int32} {ir : Int32} {qr : Int32} {sf : Nat → Int32} {df : Nat → Int32} {jf : Nat → Int32} {qf : Nat → Int32}  {res : Int32} (hm : mX0_cashOfAll dr df = some res) : Rd l D cI cB cL cK yX0_cashOfAll wsX0_cashOfAll rmX0_cashOfAll [.ref (ad 0)] (wB cI ad ho td pd sr dr ir qr sf df jf qf) res := by
  refine Rd.of (cc := cX0_cashOfAll) (own := RX0) (by decide) rfl rfl (Nat.le_of_ble_eq_true rfl) (fun p e s m below meth c ls Q C hP hl hret => ?_)
  obtain ⟨hx, hb, hr, hml, hown, hts, hlk, hK⟩ := id C
  have hcf : CallFix p m c cX0_cashOfAll 3 s _ wsX0_cashOfAll RX0 := ⟨hx, hb, hml, hown, hts⟩
  have hl : lv_has ls 3 [(0, .ref (ad 0))] := hl
  unfold mX0_cashOfAll at hm
  refine lv_iconst (v := 0) hx hb dX0_cashOfAll_0 (by decide) ?_
  refine lv_istore_n (lv' := [(1, .int 0), (0, .ref (ad 0))]) hx hb dX0_cashOfAll_1 rfl hl (by decide) rfl (fun ls hl => ?_)
  refine lv_iconst (v := 0) hx hb dX0_cashOfAll_2 (by decide) ?_
  refine lv_istore_n (lv' := [(2, .int 0), (1, .int 0), (0, .ref (ad 0))]) hx hb dX0_cashOfAll_3 rfl hl (by decide) rfl (fun ls hl => ?_)
  exact tX0_cashOfAll_L4 C hP hret _ _ _ hm _ (lv_sub hl [2, 1, 0] rfl)
/-! X0 bracketOf(I)I -/
abbrev rmX0_bracketOf : Room := { frames := 1, cells := 0, slots := 0, locals := 23 }
theorem hdX0_bracketOf : yX0_bracketOf.cls = RX0 ∧ yX0_bracketOf.cls ≠ "java/lang/invoke/MethodHandle" ∧ yX0_bracketOf.cls ≠ "java/lang/invoke/VarHandle" ∧ (parseMethodDescriptor yX0_bracketOf.desc).map (fun d => d.parameters.length) = some 1 := by decide +kernel
theorem inX0_bracketOf_X0 : ∀ w ∈ u_ws RX0 TX0 7, w ∈ wsX0_bracketOf := by decide +kernel
theorem cwX0_bracketOf_X3_get {s : State} {args : Array Value} (hts : ∀ w ∈ wsX0_bracketOf, w.before args s = true) : CallW rmX0_bracketOf s args RX0 RX3 58 yX3_get cX3_get 4 (some .int) wsX3_get rmX3_get 0 0 2 := cwV 2 hts gX0_bracketOf_X3_get rfl rfl rfl hdX3_get ⟨Nat.le_of_ble_eq_true rfl, Nat.le_of_ble_eq_true rfl⟩
theorem flX0_bracketOf_23 : Fl wsX0_bracketOf RX0 23 0 2 := ⟨_, _, _, rfl, by decide, inX0_bracketOf_X0, by decide +kernel⟩
set_option maxRecDepth 100000 in
set_option maxHeartbeats 4000000 in
theorem kX0_bracketOf {l : Launch} {D : va_G} {cI cB cL cK : ClassId} {ad : Nat → Nat} {ho : Int32} {td : Int32} {pd : Int32} {sr : Int32} {dr : Int32} {ir : Int32} {qr : Int32} {sf : Nat → Int32} {df : Nat → Int32} {jf : Nat → Int32} {qf : Nat → Int32} {p1 : Int32} {res : Int32} (hm : mX0_bracketOf ir jf p1 = some res) : Rd l D cI cB cL cK yX0_bracketOf wsX0_bracketOf rmX0_bracketOf [.ref (ad 0), .int p1] (wB cI ad ho td pd sr dr ir qr sf df jf qf) res := by
  refine Rd.of (cc := cX0_bracketOf) (own := RX0) (by decide) rfl rfl (Nat.le_of_ble_eq_true rfl) (fun p e s m below meth c ls Q C hP hl hret => ?_)
  obtain ⟨hx, hb, hr, hml, hown, hts, hlk, hK⟩ := id C
  have hcf : CallFix p m c cX0_bracketOf 3 s _ wsX0_bracketOf RX0 := ⟨hx, hb, hml, hown, hts⟩
  have hl : lv_has ls 3 [(0, .ref (ad 0)), (1, .int p1)] := hl
  unfold mX0_bracketOf at hm
  refine lv_aload_n hx hb dX0_bracketOf_0 rfl (lv_at hl 0 rfl) ?_
  refine gf (q0 := 0) hx hb hts hown hK flX0_bracketOf_23 hP rfl rfl dX0_bracketOf_1 ?_
  refine lv_iload_n hx hb dX0_bracketOf_4 rfl (lv_at hl 1 rfl) ?_
  refine lv_iconst (v := 5) hx hb dX0_bracketOf_5 (by decide) ?_
  obtain ⟨v1, h_2, hm⟩ := b1_s hm
  refine rd_v hcf (kX3_get h_2) (cwX0_bracketOf_X3_get hts) hK hP sB_j (ci := 3) (q0 := 5) rfl rfl rfl hl.1 rfl (Nat.le_of_ble_eq_true rfl) dX0_bracketOf_6 ⟨Nat.zero_le _, Nat.zero_le _⟩ ?_
  refine lv_iconst (v := 1) hx hb dX0_bracketOf_9 (by decide) ?_
  refine lv_icmp_ne (tgt := 15) hx hb dX0_bracketOf_10 (by decide) (fun c_3 => ?_) (fun c_3 => ?_)
  · replace hm := br_n hm c_3
    refine lv_aload_n hx hb dX0_bracketOf_15 rfl (lv_at hl 0 rfl) ?_
    refine gf (q0 := 0) hx hb hts hown hK flX0_bracketOf_23 hP rfl rfl dX0_bracketOf_16 ?_
    refine lv_iload_n hx hb dX0_bracketOf_19 rfl (lv_at hl 1 rfl) ?_
    refine lv_iconst (v := 4) hx hb dX0_bracketOf_20 (by decide) ?_
    obtain ⟨v4, h_5, hm⟩ := b1_s hm
    refine rd_v hcf (kX3_get h_5) (cwX0_bracketOf_X3_get hts) hK hP sB_j (ci := 3) (q0 := 5) rfl rfl rfl hl.1 rfl (Nat.le_of_ble_eq_true rfl) dX0_bracketOf_21 ⟨Nat.zero_le _, Nat.zero_le _⟩ ?_
    refine lv_istore_n (lv' := [(2, .int v4), (0, .ref (ad 0)), (1, .int p1)]) hx hb dX0_bracketOf_24 rfl hl (by decide) rfl (fun ls hl => ?_)
    refine lv_iload_n hx hb dX0_bracketOf_25 rfl (lv_at hl 0 rfl) ?_
    refine lv_bipush (v := 60) hx hb dX0_bracketOf_26 (by decide) ?_
    refine lv_icmp_le (tgt := 33) hx hb dX0_bracketOf_28 (by decide) (fun c_6 => ?_) (fun c_6 => ?_)
    · replace hm := br_p hm c_6
      refine lv_iload_n hx hb dX0_bracketOf_33 rfl (lv_at hl 0 rfl) ?_
      refine lv_bipush (v := 30) hx hb dX0_bracketOf_34 (by decide) ?_
      refine lv_icmp_le (tgt := 41) hx hb dX0_bracketOf_36 (by decide) (fun c_7 => ?_) (fun c_7 => ?_)
      · replace hm := br_p hm c_7
        refine lv_iload_n hx hb dX0_bracketOf_41 rfl (lv_at hl 0 rfl) ?_
        refine lv_if_le (tgt := 49) hx hb dX0_bracketOf_42 (by decide) (fun c_8 => ?_) (fun c_8 => ?_)
        · replace hm := br_p hm c_8
          refine lv_iconst (v := 0) hx hb dX0_bracketOf_49 (by decide) ?_
          cases hm
          exact hret _ _ dX0_bracketOf_50 rfl
        · replace hm := br_n hm c_8
          refine lv_iconst (v := 1) hx hb dX0_bracketOf_45 (by decide) ?_
          refine lv_goto (tgt := 50) hx hb dX0_bracketOf_46 (by decide) ?_
          cases hm
          exact hret _ _ dX0_bracketOf_50 rfl
      · replace hm := br_n hm c_7
        refine lv_iconst (v := 2) hx hb dX0_bracketOf_39 (by decide) ?_
        cases hm
        exact hret _ _ dX0_bracketOf_40 rfl
    · replace hm := br_n hm c_6
      refine lv_iconst (v := 3) hx hb dX0_bracketOf_31 (by decide) ?_
      cases hm
      exact hret _ _ dX0_bracketOf_32 rfl
  · replace hm := br_p hm c_3
    refine lv_iconst (v := 4) hx hb dX0_bracketOf_13 (by decide) ?_
    cases hm
    exact hret _ _ dX0_bracketOf_14 rfl
/-! X0 openInBracket(II)I -/
abbrev rmX0_openInBracket : Room := { frames := 2, cells := 0, slots := 0, locals := 45 }
theorem hdX0_openInBracket : yX0_openInBracket.cls = RX0 ∧ yX0_openInBracket.cls ≠ "java/lang/invoke/MethodHandle" ∧ yX0_openInBracket.cls ≠ "java/lang/invoke/VarHandle" ∧ (parseMethodDescriptor yX0_openInBracket.desc).map (fun d => d.parameters.length) = some 2 := by decide +kernel
theorem inX0_openInBracket_X0 : ∀ w ∈ u_ws RX0 TX0 7, w ∈ wsX0_openInBracket := by decide +kernel
theorem cwX0_openInBracket_X0_bracketOf {s : State} {args : Array Value} (hts : ∀ w ∈ wsX0_openInBracket, w.before args s = true) : CallW rmX0_openInBracket s args RX0 RX0 98 yX0_bracketOf cX0_bracketOf 3 (some .int) wsX0_bracketOf rmX0_bracketOf 0 0 1 := cwV 1 hts gX0_openInBracket_X0_bracketOf rfl rfl rfl hdX0_bracketOf ⟨Nat.le_of_ble_eq_true rfl, Nat.le_of_ble_eq_true rfl⟩
theorem cwX0_openInBracket_X3_get {s : State} {args : Array Value} (hts : ∀ w ∈ wsX0_openInBracket, w.before args s = true) : CallW rmX0_openInBracket s args RX0 RX3 58 yX3_get cX3_get 4 (some .int) wsX3_get rmX3_get 0 0 2 := cwV 2 hts gX0_openInBracket_X3_get rfl rfl rfl hdX3_get ⟨Nat.le_of_ble_eq_true rfl, Nat.le_of_ble_eq_true rfl⟩
theorem cwX0_openInBracket_X3_size {s : State} {args : Array Value} (hts : ∀ w ∈ wsX0_openInBracket, w.before args s = true) : CallW rmX0_openInBracket s args RX0 RX3 83 yX3_size cX3_size 1 (some .int) wsX3_size rmX3_size 0 0 0 := cwV 0 hts gX0_openInBracket_X3_size rfl rfl rfl hdX3_size ⟨Nat.le_of_ble_eq_true rfl, Nat.le_of_ble_eq_true rfl⟩
theorem flX0_openInBracket_23 : Fl wsX0_openInBracket RX0 23 0 2 := ⟨_, _, _, rfl, by decide, inX0_openInBracket_X0, by decide +kernel⟩
set_option maxRecDepth 100000 in
set_option maxHeartbeats 4000000 in
theorem tX0_openInBracket_b41 {ad : Nat → Nat} {ho : Int32} {td : Int32} {pd : Int32} {sr : Int32} {dr : Int32} {ir : Int32} {qr : Int32} {sf : Nat → Int32} {df : Nat → Int32} {jf : Nat → Int32} {qf : Nat → Int32} {res : Int32} {rec5 : Int32 → Int32 → Int32 → Int32 → Option (Int32)} (C : Cx p s m args meth c cX0_openInBracket (some .int) 6 wsX0_openInBracket RX0 D cI cB cL cK) (hP : va_P D vwCl (wB cI ad ho td pd sr dr ir qr sf df jf qf) s.heap) (hret : ∀ (pc : Nat) (ls : Array Slot), decode cX0_openInBracket pc = .ok (.ireturn, 1) → narrow .int (.int res) = .int res → W p l e rmX0_openInBracket s m args below meth c s.heap [] 0 0 Q (F0 m pc ls [.int res])) (hrec5 : ∀ (x1 : Int32) (x2 : Int32) (x3 : Int32) (x4 : Int32), rec5 x1 x2 x3 x4 = some res → ∀ (ls : Array Slot), lv_has ls 6 [(0, .ref (ad 0)), (1, .int x1), (2, .int x2), (3, .int x3), (4, .int x4)] → W p l e rmX0_openInBracket s m args below meth c s.heap [] 0 0 Q (F0 m 5 ls [])) : ∀ (x1 : Int32) (x2 : Int32) (x3 : Int32) (x4 : Int32) (k0 : Int32), mX0_openInBracket_b41 rec5 ir jf x1 x2 x3 x4 k0 = some res → ∀ (ls : Array Slot), lv_has ls 6 [(0, .ref (ad 0)), (1, .int x1), (2, .int x2), (3, .int x3), (4, .int x4)] → W p l e rmX0_openInBracket s m args below meth c s.heap [] 0 0 Q (F0 m 41 ls [.int k0]) := by
  obtain ⟨hx, hb, hr, hml, hown, hts, hlk, hK⟩ := id C
  have hcf : CallFix p m c cX0_openInBracket 6 s args wsX0_openInBracket RX0 := ⟨hx, hb, hml, hown, hts⟩
  intro x1 x2 x3 x4 k0 hm ls hl
  unfold mX0_openInBracket_b41 at hm
  refine lv_istore (lv' := [(5, .int k0), (0, .ref (ad 0)), (1, .int x1), (2, .int x2), (3, .int x3), (4, .int x4)]) hx hb dX0_openInBracket_41 hl (by decide) rfl (fun ls hl => ?_)
  refine lv_iload hx hb dX0_openInBracket_43 (lv_at hl 0 rfl) ?_
  refine lv_if_eq (tgt := 71) hx hb dX0_openInBracket_45 (by decide) (fun c_8 => ?_) (fun c_8 => ?_)
  · replace hm := br_p hm c_8
    refine lv_iinc (v := (x4 + 1)) (lv' := [(4, .int (x4 + 1)), (5, .int k0), (0, .ref (ad 0)), (1, .int x1), (2, .int x2), (3, .int x3)]) hx hb dX0_openInBracket_71 hl (k := 5) rfl rfl (by decide) rfl (fun ls hl => ?_)
    refine lv_goto (tgt := 5) hx hb dX0_openInBracket_74 (by decide) ?_
    exact hrec5 _ _ _ _ hm _ (lv_sub hl [2, 3, 4, 5, 0] rfl)
  · replace hm := br_n hm c_8
    refine lv_aload_n hx hb dX0_openInBracket_48 rfl (lv_at hl 1 rfl) ?_
    refine lv_iload hx hb dX0_openInBracket_49 (lv_at hl 5 rfl) ?_
    obtain ⟨v9, h_10, hm⟩ := b1_s hm
    refine rd_v hcf (kX0_bracketOf h_10) (cwX0_openInBracket_X0_bracketOf hts) hK hP Sb.rf (ci := 0) (q0 := 0) rfl rfl rfl hl.1 rfl (Nat.le_of_ble_eq_true rfl) dX0_openInBracket_51 ⟨Nat.zero_le _, Nat.zero_le _⟩ ?_
    refine lv_iload_n hx hb dX0_openInBracket_54 rfl (lv_at hl 3 rfl) ?_
    refine lv_icmp_ne (tgt := 71) hx hb dX0_openInBracket_55 (by decide) (fun c_11 => ?_) (fun c_11 => ?_)
    · replace hm := br_n hm c_11
      refine lv_iinc (v := (x4 + 1)) (lv' := [(4, .int (x4 + 1)), (5, .int k0), (0, .ref (ad 0)), (1, .int x1), (2, .int x2), (3, .int x3)]) hx hb dX0_openInBracket_71 hl (k := 5) rfl rfl (by decide) rfl (fun ls hl => ?_)
      refine lv_goto (tgt := 5) hx hb dX0_openInBracket_74 (by decide) ?_
      exact hrec5 _ _ _ _ hm _ (lv_sub hl [2, 3, 4, 5, 0] rfl)
    · replace hm := br_p hm c_11
      refine lv_iload_n hx hb dX0_openInBracket_58 rfl (lv_at hl 4 rfl) ?_
      refine lv_aload_n hx hb dX0_openInBracket_59 rfl (lv_at hl 1 rfl) ?_
      refine gf (q0 := 0) hx hb hts hown hK flX0_openInBracket_23 hP rfl rfl dX0_openInBracket_60 ?_
      refine lv_iload hx hb dX0_openInBracket_63 (lv_at hl 5 rfl) ?_
      refine lv_iconst (v := 2) hx hb dX0_openInBracket_65 (by decide) ?_
      obtain ⟨v12, h_13, hm⟩ := b1_s hm
      refine rd_v hcf (kX3_get h_13) (cwX0_openInBracket_X3_get hts) hK hP sB_j (ci := 3) (q0 := 5) rfl rfl rfl hl.1 rfl (Nat.le_of_ble_eq_true rfl) dX0_openInBracket_66 ⟨Nat.zero_le _, Nat.zero_le _⟩ ?_
      refine lv_iadd hx hb dX0_openInBracket_69 ?_
      refine lv_istore_n (lv' := [(3, .int (x3 + v12)), (5, .int k0), (0, .ref (ad 0)), (1, .int x1), (2, .int x2), (4, .int x4)]) hx hb dX0_openInBracket_70 rfl hl (by decide) rfl (fun ls hl => ?_)
      refine lv_iinc (v := (x4 + 1)) (lv' := [(4, .int (x4 + 1)), (3, .int (x3 + v12)), (5, .int k0), (0, .ref (ad 0)), (1, .int x1), (2, .int x2)]) hx hb dX0_openInBracket_71 hl (k := 5) rfl rfl (by decide) rfl (fun ls hl => ?_)
      refine lv_goto (tgt := 5) hx hb dX0_openInBracket_74 (by decide) ?_
      exact hrec5 _ _ _ _ hm _ (lv_sub hl [3, 4, 5, 1, 0] rfl)
set_option maxRecDepth 100000 in
set_option maxHeartbeats 4000000 in
theorem tX0_openInBracket_L5 {ad : Nat → Nat} {ho : Int32} {td : Int32} {pd : Int32} {sr : Int32} {dr : Int32} {ir : Int32} {qr : Int32} {sf : Nat → Int32} {df : Nat → Int32} {jf : Nat → Int32} {qf : Nat → Int32} {res : Int32} (C : Cx p s m args meth c cX0_openInBracket (some .int) 6 wsX0_openInBracket RX0 D cI cB cL cK) (hP : va_P D vwCl (wB cI ad ho td pd sr dr ir qr sf df jf qf) s.heap) (hret : ∀ (pc : Nat) (ls : Array Slot), decode cX0_openInBracket pc = .ok (.ireturn, 1) → narrow .int (.int res) = .int res → W p l e rmX0_openInBracket s m args below meth c s.heap [] 0 0 Q (F0 m pc ls [.int res])) : ∀ (n9 : Nat) (x1 : Int32) (x2 : Int32) (x3 : Int32) (x4 : Int32), mX0_openInBracket_L5 n9 ir jf x1 x2 x3 x4 = some res → ∀ (ls : Array Slot), lv_has ls 6 [(0, .ref (ad 0)), (1, .int x1), (2, .int x2), (3, .int x3), (4, .int x4)] → W p l e rmX0_openInBracket s m args below meth c s.heap [] 0 0 Q (F0 m 5 ls []) := by
  obtain ⟨hx, hb, hr, hml, hown, hts, hlk, hK⟩ := id C
  have hcf : CallFix p m c cX0_openInBracket 6 s args wsX0_openInBracket RX0 := ⟨hx, hb, hml, hown, hts⟩
  intro n9
  induction n9 with
  | zero => intro x1 x2 x3 x4 hm; cases hm
  | succ k ih =>
    intro x1 x2 x3 x4 hm ls hl
    rw [mX0_openInBracket_L5.eq_2] at hm
    refine lv_iload hx hb dX0_openInBracket_5 (lv_at hl 4 rfl) ?_
    refine lv_aload_n hx hb dX0_openInBracket_7 rfl (lv_at hl 0 rfl) ?_
    refine gf (q0 := 0) hx hb hts hown hK flX0_openInBracket_23 hP rfl rfl dX0_openInBracket_8 ?_
    obtain ⟨v1, h_2, hm⟩ := b1_s hm
    refine rd_v hcf (kX3_size h_2) (cwX0_openInBracket_X3_size hts) hK hP sB_j (ci := 3) (q0 := 5) rfl rfl rfl hl.1 rfl (Nat.le_of_ble_eq_true rfl) dX0_openInBracket_11 ⟨Nat.zero_le _, Nat.zero_le _⟩ ?_
    refine lv_icmp_ge (tgt := 77) hx hb dX0_openInBracket_14 (by decide) (fun c_3 => ?_) (fun c_3 => ?_)
    · replace hm := br_p hm c_3
      refine lv_iload_n hx hb dX0_openInBracket_77 rfl (lv_at hl 3 rfl) ?_
      cases hm
      exact hret _ _ dX0_openInBracket_78 rfl
    · replace hm := br_n hm c_3
      refine lv_iload_n hx hb dX0_openInBracket_17 rfl (lv_at hl 1 rfl) ?_
      refine lv_iconst (v := (-1)) hx hb dX0_openInBracket_18 (by decide) ?_
      refine lv_icmp_eq (tgt := 36) hx hb dX0_openInBracket_19 (by decide) (fun c_4 => ?_) (fun c_4 => ?_)
      · replace hm := br_p hm c_4
        refine lv_iconst (v := 1) hx hb dX0_openInBracket_36 (by decide) ?_
        refine lv_goto (tgt := 41) hx hb dX0_openInBracket_37 (by decide) ?_
        exact tX0_openInBracket_b41 C hP hret ih _ _ _ _ _ hm _ (lv_sub hl [0, 1, 2, 3, 4] rfl)
      · replace hm := br_n hm c_4
        refine lv_aload_n hx hb dX0_openInBracket_22 rfl (lv_at hl 0 rfl) ?_
        refine gf (q0 := 0) hx hb hts hown hK flX0_openInBracket_23 hP rfl rfl dX0_openInBracket_23 ?_
        refine lv_iload hx hb dX0_openInBracket_26 (lv_at hl 4 rfl) ?_
        refine lv_iconst (v := 0) hx hb dX0_openInBracket_28 (by decide) ?_
        obtain ⟨v5, h_6, hm⟩ := b1_s hm
        refine rd_v hcf (kX3_get h_6) (cwX0_openInBracket_X3_get hts) hK hP sB_j (ci := 3) (q0 := 5) rfl rfl rfl hl.1 rfl (Nat.le_of_ble_eq_true rfl) dX0_openInBracket_29 ⟨Nat.zero_le _, Nat.zero_le _⟩ ?_
        refine lv_iload_n hx hb dX0_openInBracket_32 rfl (lv_at hl 1 rfl) ?_
        refine lv_icmp_ne (tgt := 40) hx hb dX0_openInBracket_33 (by decide) (fun c_7 => ?_) (fun c_7 => ?_)
        · replace hm := br_n hm c_7
          refine lv_iconst (v := 0) hx hb dX0_openInBracket_40 (by decide) ?_
          exact tX0_openInBracket_b41 C hP hret ih _ _ _ _ _ hm _ (lv_sub hl [0, 1, 2, 3, 4] rfl)
        · replace hm := br_p hm c_7
          refine lv_iconst (v := 1) hx hb dX0_openInBracket_36 (by decide) ?_
          refine lv_goto (tgt := 41) hx hb dX0_openInBracket_37 (by decide) ?_
          exact tX0_openInBracket_b41 C hP hret ih _ _ _ _ _ hm _ (lv_sub hl [0, 1, 2, 3, 4] rfl)
set_option maxRecDepth 100000 in
set_option maxHeartbeats 4000000 in
theorem kX0_openInBracket {l : Launch} {D : va_G} {cI cB cL cK : ClassId} {ad : Nat → Nat} {ho : Int32} {td : Int32} {pd : Int32} {sr : Int32} {dr : Int32} {ir : Int32} {qr : Int32} {sf : Nat → Int32} {df : Nat → Int32} {jf : Nat → Int32} {qf : Nat → Int32} {p1 : Int32} {p2 : Int32} {res : Int32} (hm : mX0_openInBracket ir jf p1 p2 = some res) : Rd l D cI cB cL cK yX0_openInBracket wsX0_openInBracket rmX0_openInBracket [.ref (ad 0), .int p1, .int p2] (wB cI ad ho td pd sr dr ir qr sf df jf qf) res := by
  refine Rd.of (cc := cX0_openInBracket) (own := RX0) (by decide) rfl rfl (Nat.le_of_ble_eq_true rfl) (fun p e s m below meth c ls Q C hP hl hret => ?_)
  obtain ⟨hx, hb, hr, hml, hown, hts, hlk, hK⟩ := id C
  have hcf : CallFix p m c cX0_openInBracket 6 s _ wsX0_openInBracket RX0 := ⟨hx, hb, hml, hown, hts⟩
  have hl : lv_has ls 6 [(0, .ref (ad 0)), (1, .int p1), (2, .int p2)] := hl
  unfold mX0_openInBracket at hm
  refine lv_iconst (v := 0) hx hb dX0_openInBracket_0 (by decide) ?_
  refine lv_istore_n (lv' := [(3, .int 0), (0, .ref (ad 0)), (1, .int p1), (2, .int p2)]) hx hb dX0_openInBracket_1 rfl hl (by decide) rfl (fun ls hl => ?_)
  refine lv_iconst (v := 0) hx hb dX0_openInBracket_2 (by decide) ?_
  refine lv_istore (lv' := [(4, .int 0), (3, .int 0), (0, .ref (ad 0)), (1, .int p1), (2, .int p2)]) hx hb dX0_openInBracket_3 hl (by decide) rfl (fun ls hl => ?_)
  exact tX0_openInBracket_L5 C hP hret _ _ _ _ _ hm _ (lv_sub hl [2, 3, 4, 1, 0] rfl)
/-! X0 instalmentsTogether(II)I -/
abbrev rmX0_instalmentsTogether : Room := { frames := 1, cells := 0, slots := 0, locals := 23 }
theorem hdX0_instalmentsTogether : yX0_instalmentsTogether.cls = RX0 ∧ yX0_instalmentsTogether.cls ≠ "java/lang/invoke/MethodHandle" ∧ yX0_instalmentsTogether.cls ≠ "java/lang/invoke/VarHandle" ∧ (parseMethodDescriptor yX0_instalmentsTogether.desc).map (fun d => d.parameters.length) = some 2 := by decide +kernel
theorem inX0_instalmentsTogether_X0 : ∀ w ∈ u_ws RX0 TX0 7, w ∈ wsX0_instalmentsTogether := by decide +kernel
theorem cwX0_instalmentsTogether_X3_get {s : State} {args : Array Value} (hts : ∀ w ∈ wsX0_instalmentsTogether, w.before args s = true) : CallW rmX0_instalmentsTogether s args RX0 RX3 58 yX3_get cX3_get 4 (some .int) wsX3_get rmX3_get 0 0 2 := cwV 2 hts gX0_instalmentsTogether_X3_get rfl rfl rfl hdX3_get ⟨Nat.le_of_ble_eq_true rfl, Nat.le_of_ble_eq_true rfl⟩
theorem flX0_instalmentsTogether_20 : Fl wsX0_instalmentsTogether RX0 20 0 1 := ⟨_, _, _, rfl, by decide, inX0_instalmentsTogether_X0, by decide +kernel⟩
theorem mfX0_instalmentsTogether_min_cd : Cond.code Lib.Math.min.name Lib.Math.min.code 2 (some .int) ∈ wsX0_instalmentsTogether := by decide +kernel
theorem mfX0_instalmentsTogether_min_in : Cond.initialized "java/lang/Math" ∈ wsX0_instalmentsTogether := by decide +kernel
theorem mfX0_instalmentsTogether_min_ml : Cond.methodLink RX0 101 Lib.Math.min.name ∈ wsX0_instalmentsTogether := by decide +kernel
theorem mfX0_instalmentsTogether_min_st : Cond.static Lib.Math.min.name ∈ wsX0_instalmentsTogether := by decide +kernel
set_option maxRecDepth 100000 in
set_option maxHeartbeats 4000000 in
theorem kX0_instalmentsTogether {l : Launch} {D : va_G} {cI cB cL cK : ClassId} {ad : Nat → Nat} {ho : Int32} {td : Int32} {pd : Int32} {sr : Int32} {dr : Int32} {ir : Int32} {qr : Int32} {sf : Nat → Int32} {df : Nat → Int32} {jf : Nat → Int32} {qf : Nat → Int32} {p1 : Int32} {p2 : Int32} {res : Int32} (hm : mX0_instalmentsTogether dr df p1 p2 = some res) : Rd l D cI cB cL cK yX0_instalmentsTogether wsX0_instalmentsTogether rmX0_instalmentsTogether [.ref (ad 0), .int p1, .int p2] (wB cI ad ho td pd sr dr ir qr sf df jf qf) res := by
  refine Rd.of (cc := cX0_instalmentsTogether) (own := RX0) (by decide) rfl rfl (Nat.le_of_ble_eq_true rfl) (fun p e s m below meth c ls Q C hP hl hret => ?_)
  obtain ⟨hx, hb, hr, hml, hown, hts, hlk, hK⟩ := id C
  have hcf : CallFix p m c cX0_instalmentsTogether 5 s _ wsX0_instalmentsTogether RX0 := ⟨hx, hb, hml, hown, hts⟩
  have hl : lv_has ls 5 [(0, .ref (ad 0)), (1, .int p1), (2, .int p2)] := hl
  unfold mX0_instalmentsTogether at hm
  refine lv_aload_n hx hb dX0_instalmentsTogether_0 rfl (lv_at hl 0 rfl) ?_
  refine gf (q0 := 0) hx hb hts hown hK flX0_instalmentsTogether_20 hP rfl rfl dX0_instalmentsTogether_1 ?_
  refine lv_iload_n hx hb dX0_instalmentsTogether_4 rfl (lv_at hl 1 rfl) ?_
  refine lv_bipush (v := 8) hx hb dX0_instalmentsTogether_5 (by decide) ?_
  obtain ⟨v1, h_2, hm⟩ := b1_s hm
  refine rd_v hcf (kX3_get h_2) (cwX0_instalmentsTogether_X3_get hts) hK hP sB_d (ci := 3) (q0 := 3) rfl rfl rfl hl.1 rfl (Nat.le_of_ble_eq_true rfl) dX0_instalmentsTogether_7 ⟨Nat.zero_le _, Nat.zero_le _⟩ ?_
  refine lv_istore_n (lv' := [(3, .int v1), (0, .ref (ad 0)), (1, .int p1), (2, .int p2)]) hx hb dX0_instalmentsTogether_10 rfl hl (by decide) rfl (fun ls hl => ?_)
  refine lv_aload_n hx hb dX0_instalmentsTogether_11 rfl (lv_at hl 1 rfl) ?_
  refine gf (q0 := 0) hx hb hts hown hK flX0_instalmentsTogether_20 hP rfl rfl dX0_instalmentsTogether_12 ?_
  refine lv_iload_n hx hb dX0_instalmentsTogether_15 rfl (lv_at hl 2 rfl) ?_
  refine lv_bipush (v := 9) hx hb dX0_instalmentsTogether_16 (by decide) ?_
  obtain ⟨v3, h_4, hm⟩ := b1_s hm
  refine rd_v hcf (kX3_get h_4) (cwX0_instalmentsTogether_X3_get hts) hK hP sB_d (ci := 3) (q0 := 3) rfl rfl rfl hl.1 rfl (Nat.le_of_ble_eq_true rfl) dX0_instalmentsTogether_18 ⟨Nat.zero_le _, Nat.zero_le _⟩ ?_
  refine lv_istore (lv' := [(4, .int v3), (3, .int v1), (0, .ref (ad 0)), (1, .int p1), (2, .int p2)]) hx hb dX0_instalmentsTogether_21 hl (by decide) rfl (fun ls hl => ?_)
  refine lv_iload_n hx hb dX0_instalmentsTogether_23 rfl (lv_at hl 1 rfl) ?_
  refine lv_if_gt (tgt := 29) hx hb dX0_instalmentsTogether_24 (by decide) (fun c_5 => ?_) (fun c_5 => ?_)
  · replace hm := br_p hm c_5
    refine lv_iload_n hx hb dX0_instalmentsTogether_29 rfl (lv_at hl 4 rfl) ?_
    refine lv_iload hx hb dX0_instalmentsTogether_30 (lv_at hl 0 rfl) ?_
    refine lv_iload_n hx hb dX0_instalmentsTogether_32 rfl (lv_at hl 1 rfl) ?_
    obtain ⟨h_6, hm⟩ := ck_s hm
    refine lv_idiv hx hb dX0_instalmentsTogether_33 (ne_in h_6) ?_
    refine lv_imul hx hb dX0_instalmentsTogether_34 ?_
    refine lv_iload_n hx hb dX0_instalmentsTogether_35 rfl (lv_at hl 4 rfl) ?_
    refine lv_iload hx hb dX0_instalmentsTogether_36 (lv_at hl 0 rfl) ?_
    refine lv_iload_n hx hb dX0_instalmentsTogether_38 rfl (lv_at hl 1 rfl) ?_
    obtain ⟨h_7, hm⟩ := ck_s hm
    refine lv_irem hx hb dX0_instalmentsTogether_39 (ne_in h_7) ?_
    refine va_mmin hx hb (hml.trans hl.1.symm) hown (hts _ mfX0_instalmentsTogether_min_ml) (hts _ mfX0_instalmentsTogether_min_st) (hts _ mfX0_instalmentsTogether_min_in) (hts _ mfX0_instalmentsTogether_min_cd) (Nat.le_of_ble_eq_true rfl) (Nat.le_of_ble_eq_true rfl) (Nat.zero_le _) (Nat.zero_le _) dX0_instalmentsTogether_40 ?_
    refine lv_iadd hx hb dX0_instalmentsTogether_43 ?_
    cases hm
    exact hret _ _ dX0_instalmentsTogether_44 rfl
  · replace hm := br_n hm c_5
    refine lv_iconst (v := 0) hx hb dX0_instalmentsTogether_27 (by decide) ?_
    cases hm
    exact hret _ _ dX0_instalmentsTogether_28 rfl
/-! X0 instalment(II)I -/
abbrev rmX0_instalment : Room := { frames := 2, cells := 0, slots := 0, locals := 47 }
theorem hdX0_instalment : yX0_instalment.cls = RX0 ∧ yX0_instalment.cls ≠ "java/lang/invoke/MethodHandle" ∧ yX0_instalment.cls ≠ "java/lang/invoke/VarHandle" ∧ (parseMethodDescriptor yX0_instalment.desc).map (fun d => d.parameters.length) = some 2 := by decide +kernel
theorem cwX0_instalment_X0_instalmentsTogether {s : State} {args : Array Value} (hts : ∀ w ∈ wsX0_instalment, w.before args s = true) : CallW rmX0_instalment s args RX0 RX0 104 yX0_instalmentsTogether cX0_instalmentsTogether 5 (some .int) wsX0_instalmentsTogether rmX0_instalmentsTogether 0 0 2 := cwV 2 hts gX0_instalment_X0_instalmentsTogether rfl rfl rfl hdX0_instalmentsTogether ⟨Nat.le_of_ble_eq_true rfl, Nat.le_of_ble_eq_true rfl⟩
set_option maxRecDepth 100000 in
set_option maxHeartbeats 4000000 in
theorem kX0_instalment {l : Launch} {D : va_G} {cI cB cL cK : ClassId} {ad : Nat → Nat} {ho : Int32} {td : Int32} {pd : Int32} {sr : Int32} {dr : Int32} {ir : Int32} {qr : Int32} {sf : Nat → Int32} {df : Nat → Int32} {jf : Nat → Int32} {qf : Nat → Int32} {p1 : Int32} {p2 : Int32} {res : Int32} (hm : mX0_instalment dr df p1 p2 = some res) : Rd l D cI cB cL cK yX0_instalment wsX0_instalment rmX0_instalment [.ref (ad 0), .int p1, .int p2] (wB cI ad ho td pd sr dr ir qr sf df jf qf) res := by
  refine Rd.of (cc := cX0_instalment) (own := RX0) (by decide) rfl rfl (Nat.le_of_ble_eq_true rfl) (fun p e s m below meth c ls Q C hP hl hret => ?_)
  obtain ⟨hx, hb, hr, hml, hown, hts, hlk, hK⟩ := id C
  have hcf : CallFix p m c cX0_instalment 3 s _ wsX0_instalment RX0 := ⟨hx, hb, hml, hown, hts⟩
  have hl : lv_has ls 3 [(0, .ref (ad 0)), (1, .int p1), (2, .int p2)] := hl
  unfold mX0_instalment at hm
  refine lv_aload_n hx hb dX0_instalment_0 rfl (lv_at hl 0 rfl) ?_
  refine lv_iload_n hx hb dX0_instalment_1 rfl (lv_at hl 1 rfl) ?_
  refine lv_iload_n hx hb dX0_instalment_2 rfl (lv_at hl 2 rfl) ?_
  refine lv_iconst (v := 1) hx hb dX0_instalment_3 (by decide) ?_
  refine lv_iadd hx hb dX0_instalment_4 ?_
  obtain ⟨v1, h_2, hm⟩ := b1_s hm
  refine rd_v hcf (kX0_instalmentsTogether h_2) (cwX0_instalment_X0_instalmentsTogether hts) hK hP Sb.rf (ci := 0) (q0 := 0) rfl rfl rfl hl.1 rfl (Nat.le_of_ble_eq_true rfl) dX0_instalment_5 ⟨Nat.zero_le _, Nat.zero_le _⟩ ?_
  refine lv_aload_n hx hb dX0_instalment_8 rfl (lv_at hl 0 rfl) ?_
  refine lv_iload_n hx hb dX0_instalment_9 rfl (lv_at hl 1 rfl) ?_
  refine lv_iload_n hx hb dX0_instalment_10 rfl (lv_at hl 2 rfl) ?_
  obtain ⟨v3, h_4, hm⟩ := b1_s hm
  refine rd_v hcf (kX0_instalmentsTogether h_4) (cwX0_instalment_X0_instalmentsTogether hts) hK hP Sb.rf (ci := 0) (q0 := 0) rfl rfl rfl hl.1 rfl (Nat.le_of_ble_eq_true rfl) dX0_instalment_11 ⟨Nat.zero_le _, Nat.zero_le _⟩ ?_
  refine lv_isub hx hb dX0_instalment_14 ?_
  cases hm
  exact hret _ _ dX0_instalment_15 rfl
/-! X0 instalmentDay(II)I -/
abbrev rmX0_instalmentDay : Room := { frames := 1, cells := 0, slots := 0, locals := 23 }
theorem hdX0_instalmentDay : yX0_instalmentDay.cls = RX0 ∧ yX0_instalmentDay.cls ≠ "java/lang/invoke/MethodHandle" ∧ yX0_instalmentDay.cls ≠ "java/lang/invoke/VarHandle" ∧ (parseMethodDescriptor yX0_instalmentDay.desc).map (fun d => d.parameters.length) = some 2 := by decide +kernel
theorem inX0_instalmentDay_X0 : ∀ w ∈ u_ws RX0 TX0 7, w ∈ wsX0_instalmentDay := by decide +kernel
theorem cwX0_instalmentDay_X3_get {s : State} {args : Array Value} (hts : ∀ w ∈ wsX0_instalmentDay, w.before args s = true) : CallW rmX0_instalmentDay s args RX0 RX3 58 yX3_get cX3_get 4 (some .int) wsX3_get rmX3_get 0 0 2 := cwV 2 hts gX0_instalmentDay_X3_get rfl rfl rfl hdX3_get ⟨Nat.le_of_ble_eq_true rfl, Nat.le_of_ble_eq_true rfl⟩
theorem flX0_instalmentDay_20 : Fl wsX0_instalmentDay RX0 20 0 1 := ⟨_, _, _, rfl, by decide, inX0_instalmentDay_X0, by decide +kernel⟩
set_option maxRecDepth 100000 in
set_option maxHeartbeats 4000000 in
theorem kX0_instalmentDay {l : Launch} {D : va_G} {cI cB cL cK : ClassId} {ad : Nat → Nat} {ho : Int32} {td : Int32} {pd : Int32} {sr : Int32} {dr : Int32} {ir : Int32} {qr : Int32} {sf : Nat → Int32} {df : Nat → Int32} {jf : Nat → Int32} {qf : Nat → Int32} {p1 : Int32} {p2 : Int32} {res : Int32} (hm : mX0_instalmentDay dr df p1 p2 = some res) : Rd l D cI cB cL cK yX0_instalmentDay wsX0_instalmentDay rmX0_instalmentDay [.ref (ad 0), .int p1, .int p2] (wB cI ad ho td pd sr dr ir qr sf df jf qf) res := by
  refine Rd.of (cc := cX0_instalmentDay) (own := RX0) (by decide) rfl rfl (Nat.le_of_ble_eq_true rfl) (fun p e s m below meth c ls Q C hP hl hret => ?_)
  obtain ⟨hx, hb, hr, hml, hown, hts, hlk, hK⟩ := id C
  have hcf : CallFix p m c cX0_instalmentDay 3 s _ wsX0_instalmentDay RX0 := ⟨hx, hb, hml, hown, hts⟩
  have hl : lv_has ls 3 [(0, .ref (ad 0)), (1, .int p1), (2, .int p2)] := hl
  unfold mX0_instalmentDay at hm
  refine lv_aload_n hx hb dX0_instalmentDay_0 rfl (lv_at hl 0 rfl) ?_
  refine gf (q0 := 0) hx hb hts hown hK flX0_instalmentDay_20 hP rfl rfl dX0_instalmentDay_1 ?_
  refine lv_iload_n hx hb dX0_instalmentDay_4 rfl (lv_at hl 1 rfl) ?_
  refine lv_bipush (v := 10) hx hb dX0_instalmentDay_5 (by decide) ?_
  obtain ⟨v1, h_2, hm⟩ := b1_s hm
  refine rd_v hcf (kX3_get h_2) (cwX0_instalmentDay_X3_get hts) hK hP sB_d (ci := 3) (q0 := 3) rfl rfl rfl hl.1 rfl (Nat.le_of_ble_eq_true rfl) dX0_instalmentDay_7 ⟨Nat.zero_le _, Nat.zero_le _⟩ ?_
  refine lv_iload_n hx hb dX0_instalmentDay_10 rfl (lv_at hl 2 rfl) ?_
  refine lv_iconst (v := 1) hx hb dX0_instalmentDay_11 (by decide) ?_
  refine lv_iadd hx hb dX0_instalmentDay_12 ?_
  refine lv_aload_n hx hb dX0_instalmentDay_13 rfl (lv_at hl 0 rfl) ?_
  refine gf (q0 := 0) hx hb hts hown hK flX0_instalmentDay_20 hP rfl rfl dX0_instalmentDay_14 ?_
  refine lv_iload_n hx hb dX0_instalmentDay_17 rfl (lv_at hl 1 rfl) ?_
  refine lv_bipush (v := 11) hx hb dX0_instalmentDay_18 (by decide) ?_
  obtain ⟨v3, h_4, hm⟩ := b1_s hm
  refine rd_v hcf (kX3_get h_4) (cwX0_instalmentDay_X3_get hts) hK hP sB_d (ci := 3) (q0 := 3) rfl rfl rfl hl.1 rfl (Nat.le_of_ble_eq_true rfl) dX0_instalmentDay_20 ⟨Nat.zero_le _, Nat.zero_le _⟩ ?_
  refine lv_imul hx hb dX0_instalmentDay_23 ?_
  refine lv_iadd hx hb dX0_instalmentDay_24 ?_
  cases hm
  exact hret _ _ dX0_instalmentDay_25 rfl
/-! X0 nextInstalmentDay(I)I -/
abbrev rmX0_nextInstalmentDay : Room := { frames := 2, cells := 0, slots := 0, locals := 45 }
theorem hdX0_nextInstalmentDay : yX0_nextInstalmentDay.cls = RX0 ∧ yX0_nextInstalmentDay.cls ≠ "java/lang/invoke/MethodHandle" ∧ yX0_nextInstalmentDay.cls ≠ "java/lang/invoke/VarHandle" ∧ (parseMethodDescriptor yX0_nextInstalmentDay.desc).map (fun d => d.parameters.length) = some 1 := by decide +kernel
theorem inX0_nextInstalmentDay_X0 : ∀ w ∈ u_ws RX0 TX0 7, w ∈ wsX0_nextInstalmentDay := by decide +kernel
theorem cwX0_nextInstalmentDay_X0_instalmentDay {s : State} {args : Array Value} (hts : ∀ w ∈ wsX0_nextInstalmentDay, w.before args s = true) : CallW rmX0_nextInstalmentDay s args RX0 RX0 107 yX0_instalmentDay cX0_instalmentDay 3 (some .int) wsX0_instalmentDay rmX0_instalmentDay 0 0 2 := cwV 2 hts gX0_nextInstalmentDay_X0_instalmentDay rfl rfl rfl hdX0_instalmentDay ⟨Nat.le_of_ble_eq_true rfl, Nat.le_of_ble_eq_true rfl⟩
theorem cwX0_nextInstalmentDay_X3_get {s : State} {args : Array Value} (hts : ∀ w ∈ wsX0_nextInstalmentDay, w.before args s = true) : CallW rmX0_nextInstalmentDay s args RX0 RX3 58 yX3_get cX3_get 4 (some .int) wsX3_get rmX3_get 0 0 2 := cwV 2 hts gX0_nextInstalmentDay_X3_get rfl rfl rfl hdX3_get ⟨Nat.le_of_ble_eq_true rfl, Nat.le_of_ble_eq_true rfl⟩
theorem flX0_nextInstalmentDay_20 : Fl wsX0_nextInstalmentDay RX0 20 0 1 := ⟨_, _, _, rfl, by decide, inX0_nextInstalmentDay_X0, by decide +kernel⟩
theorem flX0_nextInstalmentDay_36 : Fl wsX0_nextInstalmentDay RX0 36 0 5 := ⟨_, _, _, rfl, by decide, inX0_nextInstalmentDay_X0, by decide +kernel⟩
set_option maxRecDepth 100000 in
set_option maxHeartbeats 4000000 in
theorem tX0_nextInstalmentDay_L13 {ad : Nat → Nat} {ho : Int32} {td : Int32} {pd : Int32} {sr : Int32} {dr : Int32} {ir : Int32} {qr : Int32} {sf : Nat → Int32} {df : Nat → Int32} {jf : Nat → Int32} {qf : Nat → Int32} {res : Int32} (C : Cx p s m args meth c cX0_nextInstalmentDay (some .int) 5 wsX0_nextInstalmentDay RX0 D cI cB cL cK) (hP : va_P D vwCl (wB cI ad ho td pd sr dr ir qr sf df jf qf) s.heap) (hret : ∀ (pc : Nat) (ls : Array Slot), decode cX0_nextInstalmentDay pc = .ok (.ireturn, 1) → narrow .int (.int res) = .int res → W p l e rmX0_nextInstalmentDay s m args below meth c s.heap [] 0 0 Q (F0 m pc ls [.int res])) : ∀ (n9 : Nat) (x1 : Int32) (x2 : Int32) (x3 : Int32), mX0_nextInstalmentDay_L13 n9 td dr df x1 x2 x3 = some res → ∀ (ls : Array Slot), lv_has ls 5 [(0, .ref (ad 0)), (1, .int x1), (2, .int x2), (3, .int x3)] → W p l e rmX0_nextInstalmentDay s m args below meth c s.heap [] 0 0 Q (F0 m 13 ls []) := by
  obtain ⟨hx, hb, hr, hml, hown, hts, hlk, hK⟩ := id C
  have hcf : CallFix p m c cX0_nextInstalmentDay 5 s args wsX0_nextInstalmentDay RX0 := ⟨hx, hb, hml, hown, hts⟩
  intro n9
  induction n9 with
  | zero => intro x1 x2 x3 hm; cases hm
  | succ k ih =>
    intro x1 x2 x3 hm ls hl
    rw [mX0_nextInstalmentDay_L13.eq_2] at hm
    refine lv_iload_n hx hb dX0_nextInstalmentDay_13 rfl (lv_at hl 3 rfl) ?_
    refine lv_iload_n hx hb dX0_nextInstalmentDay_14 rfl (lv_at hl 2 rfl) ?_
    refine lv_icmp_ge (tgt := 44) hx hb dX0_nextInstalmentDay_15 (by decide) (fun c_3 => ?_) (fun c_3 => ?_)
    · replace hm := br_p hm c_3
      refine lv_iconst (v := (-1)) hx hb dX0_nextInstalmentDay_44 (by decide) ?_
      cases hm
      exact hret _ _ dX0_nextInstalmentDay_45 rfl
    · replace hm := br_n hm c_3
      refine lv_aload_n hx hb dX0_nextInstalmentDay_18 rfl (lv_at hl 0 rfl) ?_
      refine lv_iload_n hx hb dX0_nextInstalmentDay_19 rfl (lv_at hl 1 rfl) ?_
      refine lv_iload_n hx hb dX0_nextInstalmentDay_20 rfl (lv_at hl 3 rfl) ?_
      obtain ⟨v4, h_5, hm⟩ := b1_s hm
      refine rd_v hcf (kX0_instalmentDay h_5) (cwX0_nextInstalmentDay_X0_instalmentDay hts) hK hP Sb.rf (ci := 0) (q0 := 0) rfl rfl rfl hl.1 rfl (Nat.le_of_ble_eq_true rfl) dX0_nextInstalmentDay_21 ⟨Nat.zero_le _, Nat.zero_le _⟩ ?_
      refine lv_istore (lv' := [(4, .int v4), (0, .ref (ad 0)), (1, .int x1), (2, .int x2), (3, .int x3)]) hx hb dX0_nextInstalmentDay_24 hl (by decide) rfl (fun ls hl => ?_)
      refine lv_iload hx hb dX0_nextInstalmentDay_26 (lv_at hl 0 rfl) ?_
      refine lv_aload_n hx hb dX0_nextInstalmentDay_28 rfl (lv_at hl 1 rfl) ?_
      refine gf (q0 := 0) hx hb hts hown hK flX0_nextInstalmentDay_36 hP rfl rfl dX0_nextInstalmentDay_29 ?_
      refine lv_icmp_lt (tgt := 38) hx hb dX0_nextInstalmentDay_32 (by decide) (fun c_6 => ?_) (fun c_6 => ?_)
      · replace hm := br_p hm c_6
        refine lv_iinc (v := (x3 + 1)) (lv' := [(3, .int (x3 + 1)), (4, .int v4), (0, .ref (ad 0)), (1, .int x1), (2, .int x2)]) hx hb dX0_nextInstalmentDay_38 hl (k := 4) rfl rfl (by decide) rfl (fun ls hl => ?_)
        refine lv_goto (tgt := 13) hx hb dX0_nextInstalmentDay_41 (by decide) ?_
        exact ih _ _ _ hm _ (lv_sub hl [2, 3, 4, 0] rfl)
      · replace hm := br_n hm c_6
        refine lv_iload hx hb dX0_nextInstalmentDay_35 (lv_at hl 0 rfl) ?_
        cases hm
        exact hret _ _ dX0_nextInstalmentDay_37 rfl
set_option maxRecDepth 100000 in
set_option maxHeartbeats 4000000 in
theorem kX0_nextInstalmentDay {l : Launch} {D : va_G} {cI cB cL cK : ClassId} {ad : Nat → Nat} {ho : Int32} {td : Int32} {pd : Int32} {sr : Int32} {dr : Int32} {ir : Int32} {qr : Int32} {sf : Nat → Int32} {df : Nat → Int32} {jf : Nat → Int32} {qf : Nat → Int32} {p1 : Int32} {res : Int32} (hm : mX0_nextInstalmentDay td dr df p1 = some res) : Rd l D cI cB cL cK yX0_nextInstalmentDay wsX0_nextInstalmentDay rmX0_nextInstalmentDay [.ref (ad 0), .int p1] (wB cI ad ho td pd sr dr ir qr sf df jf qf) res := by
  refine Rd.of (cc := cX0_nextInstalmentDay) (own := RX0) (by decide) rfl rfl (Nat.le_of_ble_eq_true rfl) (fun p e s m below meth c ls Q C hP hl hret => ?_)
  obtain ⟨hx, hb, hr, hml, hown, hts, hlk, hK⟩ := id C
  have hcf : CallFix p m c cX0_nextInstalmentDay 5 s _ wsX0_nextInstalmentDay RX0 := ⟨hx, hb, hml, hown, hts⟩
  have hl : lv_has ls 5 [(0, .ref (ad 0)), (1, .int p1)] := hl
  unfold mX0_nextInstalmentDay at hm
  refine lv_aload_n hx hb dX0_nextInstalmentDay_0 rfl (lv_at hl 0 rfl) ?_
  refine gf (q0 := 0) hx hb hts hown hK flX0_nextInstalmentDay_20 hP rfl rfl dX0_nextInstalmentDay_1 ?_
  refine lv_iload_n hx hb dX0_nextInstalmentDay_4 rfl (lv_at hl 1 rfl) ?_
  refine lv_bipush (v := 8) hx hb dX0_nextInstalmentDay_5 (by decide) ?_
  obtain ⟨v1, h_2, hm⟩ := b1_s hm
  refine rd_v hcf (kX3_get h_2) (cwX0_nextInstalmentDay_X3_get hts) hK hP sB_d (ci := 3) (q0 := 3) rfl rfl rfl hl.1 rfl (Nat.le_of_ble_eq_true rfl) dX0_nextInstalmentDay_7 ⟨Nat.zero_le _, Nat.zero_le _⟩ ?_
  refine lv_istore_n (lv' := [(2, .int v1), (0, .ref (ad 0)), (1, .int p1)]) hx hb dX0_nextInstalmentDay_10 rfl hl (by decide) rfl (fun ls hl => ?_)
  refine lv_iconst (v := 0) hx hb dX0_nextInstalmentDay_11 (by decide) ?_
  refine lv_istore_n (lv' := [(3, .int 0), (2, .int v1), (0, .ref (ad 0)), (1, .int p1)]) hx hb dX0_nextInstalmentDay_12 rfl hl (by decide) rfl (fun ls hl => ?_)
  exact tX0_nextInstalmentDay_L13 C hP hret _ _ _ _ hm _ (lv_sub hl [2, 3, 1, 0] rfl)
/-! X0 ageInvoices()V -/
abbrev rmX0_ageInvoices : Room := { frames := 3, cells := 0, slots := 0, locals := 65 }
theorem hdX0_ageInvoices : yX0_ageInvoices.cls = RX0 ∧ yX0_ageInvoices.cls ≠ "java/lang/invoke/MethodHandle" ∧ yX0_ageInvoices.cls ≠ "java/lang/invoke/VarHandle" ∧ (parseMethodDescriptor yX0_ageInvoices.desc).map (fun d => d.parameters.length) = some 0 := by decide +kernel
theorem inX0_ageInvoices_X0 : ∀ w ∈ u_ws RX0 TX0 7, w ∈ wsX0_ageInvoices := by decide +kernel
theorem cwX0_ageInvoices_X0_hasAgreement {s : State} {args : Array Value} (hts : ∀ w ∈ wsX0_ageInvoices, w.before args s = true) : CallW rmX0_ageInvoices s args RX0 RX0 128 yX0_hasAgreement cX0_hasAgreement 2 (some .boolean) wsX0_hasAgreement rmX0_hasAgreement 0 0 1 := cwV 1 hts gX0_ageInvoices_X0_hasAgreement rfl rfl rfl hdX0_hasAgreement ⟨Nat.le_of_ble_eq_true rfl, Nat.le_of_ble_eq_true rfl⟩
theorem cwX0_ageInvoices_X0_isClaim {s : State} {args : Array Value} (hts : ∀ w ∈ wsX0_ageInvoices, w.before args s = true) : CallW rmX0_ageInvoices s args RX0 RX0 86 yX0_isClaim cX0_isClaim 3 (some .boolean) wsX0_isClaim rmX0_isClaim 0 0 2 := cwV 2 hts gX0_ageInvoices_X0_isClaim rfl rfl rfl hdX0_isClaim ⟨Nat.le_of_ble_eq_true rfl, Nat.le_of_ble_eq_true rfl⟩
theorem cwX0_ageInvoices_X3_get {s : State} {args : Array Value} (hts : ∀ w ∈ wsX0_ageInvoices, w.before args s = true) : CallW rmX0_ageInvoices s args RX0 RX3 58 yX3_get cX3_get 4 (some .int) wsX3_get rmX3_get 0 0 2 := cwV 2 hts gX0_ageInvoices_X3_get rfl rfl rfl hdX3_get ⟨Nat.le_of_ble_eq_true rfl, Nat.le_of_ble_eq_true rfl⟩
theorem cwX0_ageInvoices_X3_increase {s : State} {args : Array Value} (hts : ∀ w ∈ wsX0_ageInvoices, w.before args s = true) : CallW rmX0_ageInvoices s args RX0 RX3 70 yX3_increase cX3_increase 4 none wsX3_increase rmX3_increase 0 0 3 := cwV 3 hts gX0_ageInvoices_X3_increase rfl rfl rfl hdX3_increase ⟨Nat.le_of_ble_eq_true rfl, Nat.le_of_ble_eq_true rfl⟩
theorem cwX0_ageInvoices_X3_size {s : State} {args : Array Value} (hts : ∀ w ∈ wsX0_ageInvoices, w.before args s = true) : CallW rmX0_ageInvoices s args RX0 RX3 83 yX3_size cX3_size 1 (some .int) wsX3_size rmX3_size 0 0 0 := cwV 0 hts gX0_ageInvoices_X3_size rfl rfl rfl hdX3_size ⟨Nat.le_of_ble_eq_true rfl, Nat.le_of_ble_eq_true rfl⟩
theorem flX0_ageInvoices_23 : Fl wsX0_ageInvoices RX0 23 0 2 := ⟨_, _, _, rfl, by decide, inX0_ageInvoices_X0, by decide +kernel⟩
theorem flX0_ageInvoices_36 : Fl wsX0_ageInvoices RX0 36 0 5 := ⟨_, _, _, rfl, by decide, inX0_ageInvoices_X0, by decide +kernel⟩
set_option maxRecDepth 100000 in
set_option maxHeartbeats 4000000 in
theorem tX0_ageInvoices_L2 {ad : Nat → Nat} {ho : Int32} {td : Int32} {pd : Int32} {sr : Int32} {dr : Int32} {ir : Int32} {qr : Int32} {sf : Nat → Int32} {df : Nat → Int32} {qf : Nat → Int32} {jf' : Nat → Int32} (C : Cx p s m args meth c cX0_ageInvoices none 3 wsX0_ageInvoices RX0 D cI cB cL cK) (hA : ∀ q : Nat, s.heap.size ≤ q → A q) (hret : ∀ (pc : Nat) (ls : Array Slot) (H : Heap) (locs : List Loc), decode cX0_ageInvoices pc = .ok (.return_, 1) → va_P D vwCl (wB cI ad ho td pd sr dr ir qr sf df jf' qf) H → va_D A (wB cI ad ho td pd sr dr ir qr sf df jf' qf) → va_S A s.heap H locs → W p l e rmX0_ageInvoices s m args below meth c H locs 0 0 Q (F0 m pc ls [])) : ∀ (n9 : Nat) (x1 : Int32) (jf : Nat → Int32), mX0_ageInvoices_L2 n9 td dr ir df x1 jf = some jf' → ∀ (H : Heap) (locs : List Loc) (ls : Array Slot), va_P D vwCl (wB cI ad ho td pd sr dr ir qr sf df jf qf) H → va_D A (wB cI ad ho td pd sr dr ir qr sf df jf qf) → va_S A s.heap H locs → lv_has ls 3 [(0, .ref (ad 0)), (1, .int x1)] → W p l e rmX0_ageInvoices s m args below meth c H locs 0 0 Q (F0 m 2 ls []) := by
  obtain ⟨hx, hb, hr, hml, hown, hts, hlk, hK⟩ := id C
  have hcf : CallFix p m c cX0_ageInvoices 3 s args wsX0_ageInvoices RX0 := ⟨hx, hb, hml, hown, hts⟩
  intro n9
  induction n9 with
  | zero => intro x1 jf hm; cases hm
  | succ k ih =>
    intro x1 jf hm H locs ls hP hD hS hl
    rw [mX0_ageInvoices_L2.eq_2] at hm
    refine lv_iload_n hx hb dX0_ageInvoices_2 rfl (lv_at hl 1 rfl) ?_
    refine lv_aload_n hx hb dX0_ageInvoices_3 rfl (lv_at hl 0 rfl) ?_
    refine gf (q0 := 0) hx hb hts hown hK flX0_ageInvoices_23 hP rfl rfl dX0_ageInvoices_4 ?_
    obtain ⟨v1, h_2, hm⟩ := b1_s hm
    refine rd_v hcf (kX3_size h_2) (cwX0_ageInvoices_X3_size hts) hK hP sB_j (ci := 3) (q0 := 5) rfl rfl rfl hl.1 rfl (Nat.le_of_ble_eq_true rfl) dX0_ageInvoices_7 ⟨Nat.zero_le _, Nat.zero_le _⟩ ?_
    refine lv_icmp_ge (tgt := 72) hx hb dX0_ageInvoices_10 (by decide) (fun c_3 => ?_) (fun c_3 => ?_)
    · replace hm := br_p hm c_3
      cases hm
      exact hret _ _ _ _ dX0_ageInvoices_72 hP hD hS
    · replace hm := br_n hm c_3
      refine lv_aload_n hx hb dX0_ageInvoices_13 rfl (lv_at hl 0 rfl) ?_
      refine gf (q0 := 0) hx hb hts hown hK flX0_ageInvoices_23 hP rfl rfl dX0_ageInvoices_14 ?_
      refine lv_iload_n hx hb dX0_ageInvoices_17 rfl (lv_at hl 1 rfl) ?_
      refine lv_iconst (v := 0) hx hb dX0_ageInvoices_18 (by decide) ?_
      obtain ⟨v4, h_5, hm⟩ := b1_s hm
      refine rd_v hcf (kX3_get h_5) (cwX0_ageInvoices_X3_get hts) hK hP sB_j (ci := 3) (q0 := 5) rfl rfl rfl hl.1 rfl (Nat.le_of_ble_eq_true rfl) dX0_ageInvoices_19 ⟨Nat.zero_le _, Nat.zero_le _⟩ ?_
      refine lv_istore_n (lv' := [(2, .int v4), (0, .ref (ad 0)), (1, .int x1)]) hx hb dX0_ageInvoices_22 rfl hl (by decide) rfl (fun ls hl => ?_)
      refine lv_aload_n hx hb dX0_ageInvoices_23 rfl (lv_at hl 1 rfl) ?_
      refine gf (q0 := 0) hx hb hts hown hK flX0_ageInvoices_36 hP rfl rfl dX0_ageInvoices_24 ?_
      refine lv_aload_n hx hb dX0_ageInvoices_27 rfl (lv_at hl 1 rfl) ?_
      refine gf (q0 := 0) hx hb hts hown hK flX0_ageInvoices_23 hP rfl rfl dX0_ageInvoices_28 ?_
      refine lv_iload_n hx hb dX0_ageInvoices_31 rfl (lv_at hl 2 rfl) ?_
      refine lv_iconst (v := 3) hx hb dX0_ageInvoices_32 (by decide) ?_
      obtain ⟨v6, h_7, hm⟩ := b1_s hm
      refine rd_v hcf (kX3_get h_7) (cwX0_ageInvoices_X3_get hts) hK hP sB_j (ci := 3) (q0 := 5) rfl rfl rfl hl.1 rfl (Nat.le_of_ble_eq_true rfl) dX0_ageInvoices_33 ⟨Nat.zero_le _, Nat.zero_le _⟩ ?_
      refine lv_icmp_lt (tgt := 66) hx hb dX0_ageInvoices_36 (by decide) (fun c_8 => ?_) (fun c_8 => ?_)
      · replace hm := br_p hm c_8
        refine lv_iinc (v := (x1 + 1)) (lv' := [(1, .int (x1 + 1)), (2, .int v4), (0, .ref (ad 0))]) hx hb dX0_ageInvoices_66 hl (k := 2) rfl rfl (by decide) rfl (fun ls hl => ?_)
        refine lv_goto (tgt := 2) hx hb dX0_ageInvoices_69 (by decide) ?_
        exact ih _ _ hm _ _ _ hP hD hS (lv_sub hl [2, 0] rfl)
      · replace hm := br_n hm c_8
        refine lv_aload_n hx hb dX0_ageInvoices_39 rfl (lv_at hl 1 rfl) ?_
        refine lv_iload_n hx hb dX0_ageInvoices_40 rfl (lv_at hl 2 rfl) ?_
        refine lv_iload_n hx hb dX0_ageInvoices_41 rfl (lv_at hl 0 rfl) ?_
        obtain ⟨v9, h_10, hm⟩ := b1_s hm
        refine rd_v hcf (kX0_isClaim h_10) (cwX0_ageInvoices_X0_isClaim hts) hK hP Sb.rf (ci := 0) (q0 := 0) rfl rfl rfl hl.1 rfl (Nat.le_of_ble_eq_true rfl) dX0_ageInvoices_42 ⟨Nat.zero_le _, Nat.zero_le _⟩ ?_
        refine lv_if_eq (tgt := 66) hx hb dX0_ageInvoices_45 (by decide) (fun c_11 => ?_) (fun c_11 => ?_)
        · replace hm := br_p hm c_11
          refine lv_iinc (v := (x1 + 1)) (lv' := [(1, .int (x1 + 1)), (2, .int v4), (0, .ref (ad 0))]) hx hb dX0_ageInvoices_66 hl (k := 2) rfl rfl (by decide) rfl (fun ls hl => ?_)
          refine lv_goto (tgt := 2) hx hb dX0_ageInvoices_69 (by decide) ?_
          exact ih _ _ hm _ _ _ hP hD hS (lv_sub hl [2, 0] rfl)
        · replace hm := br_n hm c_11
          refine lv_aload_n hx hb dX0_ageInvoices_48 rfl (lv_at hl 1 rfl) ?_
          refine lv_iload_n hx hb dX0_ageInvoices_49 rfl (lv_at hl 0 rfl) ?_
          obtain ⟨v12, h_13, hm⟩ := b1_s hm
          refine rd_v hcf (kX0_hasAgreement h_13) (cwX0_ageInvoices_X0_hasAgreement hts) hK hP Sb.rf (ci := 0) (q0 := 0) rfl rfl rfl hl.1 rfl (Nat.le_of_ble_eq_true rfl) dX0_ageInvoices_50 ⟨Nat.zero_le _, Nat.zero_le _⟩ ?_
          refine lv_if_ne (tgt := 66) hx hb dX0_ageInvoices_53 (by decide) (fun c_14 => ?_) (fun c_14 => ?_)
          · replace hm := br_n hm c_14
            refine lv_iinc (v := (x1 + 1)) (lv' := [(1, .int (x1 + 1)), (2, .int v4), (0, .ref (ad 0))]) hx hb dX0_ageInvoices_66 hl (k := 2) rfl rfl (by decide) rfl (fun ls hl => ?_)
            refine lv_goto (tgt := 2) hx hb dX0_ageInvoices_69 (by decide) ?_
            exact ih _ _ hm _ _ _ hP hD hS (lv_sub hl [2, 0] rfl)
          · replace hm := br_p hm c_14
            refine lv_aload_n hx hb dX0_ageInvoices_56 rfl (lv_at hl 1 rfl) ?_
            refine gf (q0 := 0) hx hb hts hown hK flX0_ageInvoices_23 hP rfl rfl dX0_ageInvoices_57 ?_
            refine lv_iload_n hx hb dX0_ageInvoices_60 rfl (lv_at hl 2 rfl) ?_
            refine lv_iconst (v := 4) hx hb dX0_ageInvoices_61 (by decide) ?_
            refine lv_iconst (v := 1) hx hb dX0_ageInvoices_62 (by decide) ?_
            obtain ⟨jf15, h_16, hm⟩ := b1_s hm
            refine mu_vv hcf (kX3_increase h_16) (cwX0_ageInvoices_X3_increase hts) hK hP hD hS hA jB_j (ci := 3) (q0 := 5) rfl rfl rfl hl.1 rfl (Nat.le_of_ble_eq_true rfl) dX0_ageInvoices_63 ⟨Nat.zero_le _, Nat.zero_le _⟩ (fun H locs hP hD hS => ?_)
            refine lv_iinc (v := (x1 + 1)) (lv' := [(1, .int (x1 + 1)), (2, .int v4), (0, .ref (ad 0))]) hx hb dX0_ageInvoices_66 hl (k := 2) rfl rfl (by decide) rfl (fun ls hl => ?_)
            refine lv_goto (tgt := 2) hx hb dX0_ageInvoices_69 (by decide) ?_
            exact ih _ _ hm _ _ _ hP hD hS (lv_sub hl [2, 0] rfl)
set_option maxRecDepth 100000 in
set_option maxHeartbeats 4000000 in
theorem kX0_ageInvoices {l : Launch} {D : va_G} {cI cB cL cK : ClassId} {ad : Nat → Nat} {ho : Int32} {td : Int32} {pd : Int32} {sr : Int32} {dr : Int32} {ir : Int32} {qr : Int32} {sf : Nat → Int32} {df : Nat → Int32} {jf : Nat → Int32} {qf : Nat → Int32}  {jf' : Nat → Int32} (hm : mX0_ageInvoices td dr ir df jf = some jf') : Mu l D cI cB cL cK yX0_ageInvoices wsX0_ageInvoices rmX0_ageInvoices [.ref (ad 0)] (wB cI ad ho td pd sr dr ir qr sf df jf qf) (wB cI ad ho td pd sr dr ir qr sf df jf' qf) none 0 0 := by
  refine Mu.ofv (cc := cX0_ageInvoices) (own := RX0) (by decide) rfl rfl (Nat.le_of_ble_eq_true rfl) (fun p e s m below meth c ls Q A C _ hA hP hD hS hl hret => ?_)
  obtain ⟨hx, hb, hr, hml, hown, hts, hlk, hK⟩ := id C
  have hcf : CallFix p m c cX0_ageInvoices 3 s _ wsX0_ageInvoices RX0 := ⟨hx, hb, hml, hown, hts⟩
  have hl : lv_has ls 3 [(0, .ref (ad 0))] := hl
  unfold mX0_ageInvoices at hm
  refine lv_iconst (v := 0) hx hb dX0_ageInvoices_0 (by decide) ?_
  refine lv_istore_n (lv' := [(1, .int 0), (0, .ref (ad 0))]) hx hb dX0_ageInvoices_1 rfl hl (by decide) rfl (fun ls hl => ?_)
  exact tX0_ageInvoices_L2 C hA hret _ _ _ hm _ _ _ hP hD hS (lv_sub hl [1, 0] rfl)
/-! X0 isPlanOver(I)Z -/
abbrev rmX0_isPlanOver : Room := { frames := 3, cells := 0, slots := 0, locals := 68 }
theorem hdX0_isPlanOver : yX0_isPlanOver.cls = RX0 ∧ yX0_isPlanOver.cls ≠ "java/lang/invoke/MethodHandle" ∧ yX0_isPlanOver.cls ≠ "java/lang/invoke/VarHandle" ∧ (parseMethodDescriptor yX0_isPlanOver.desc).map (fun d => d.parameters.length) = some 1 := by decide +kernel
theorem inX0_isPlanOver_X0 : ∀ w ∈ u_ws RX0 TX0 7, w ∈ wsX0_isPlanOver := by decide +kernel
theorem cwX0_isPlanOver_X0_debt {s : State} {args : Array Value} (hts : ∀ w ∈ wsX0_isPlanOver, w.before args s = true) : CallW rmX0_isPlanOver s args RX0 RX0 73 yX0_debt cX0_debt 4 (some .int) wsX0_debt rmX0_debt 0 0 1 := cwV 1 hts gX0_isPlanOver_X0_debt rfl rfl rfl hdX0_debt ⟨Nat.le_of_ble_eq_true rfl, Nat.le_of_ble_eq_true rfl⟩
theorem cwX0_isPlanOver_X0_instalmentDay {s : State} {args : Array Value} (hts : ∀ w ∈ wsX0_isPlanOver, w.before args s = true) : CallW rmX0_isPlanOver s args RX0 RX0 107 yX0_instalmentDay cX0_instalmentDay 3 (some .int) wsX0_instalmentDay rmX0_instalmentDay 0 0 2 := cwV 2 hts gX0_isPlanOver_X0_instalmentDay rfl rfl rfl hdX0_instalmentDay ⟨Nat.le_of_ble_eq_true rfl, Nat.le_of_ble_eq_true rfl⟩
theorem cwX0_isPlanOver_X0_instalmentsTogether {s : State} {args : Array Value} (hts : ∀ w ∈ wsX0_isPlanOver, w.before args s = true) : CallW rmX0_isPlanOver s args RX0 RX0 104 yX0_instalmentsTogether cX0_instalmentsTogether 5 (some .int) wsX0_instalmentsTogether rmX0_instalmentsTogether 0 0 2 := cwV 2 hts gX0_isPlanOver_X0_instalmentsTogether rfl rfl rfl hdX0_instalmentsTogether ⟨Nat.le_of_ble_eq_true rfl, Nat.le_of_ble_eq_true rfl⟩
theorem cwX0_isPlanOver_X3_get {s : State} {args : Array Value} (hts : ∀ w ∈ wsX0_isPlanOver, w.before args s = true) : CallW rmX0_isPlanOver s args RX0 RX3 58 yX3_get cX3_get 4 (some .int) wsX3_get rmX3_get 0 0 2 := cwV 2 hts gX0_isPlanOver_X3_get rfl rfl rfl hdX3_get ⟨Nat.le_of_ble_eq_true rfl, Nat.le_of_ble_eq_true rfl⟩
theorem flX0_isPlanOver_20 : Fl wsX0_isPlanOver RX0 20 0 1 := ⟨_, _, _, rfl, by decide, inX0_isPlanOver_X0, by decide +kernel⟩
theorem flX0_isPlanOver_36 : Fl wsX0_isPlanOver RX0 36 0 5 := ⟨_, _, _, rfl, by decide, inX0_isPlanOver_X0, by decide +kernel⟩
set_option maxRecDepth 100000 in
set_option maxHeartbeats 4000000 in
theorem tX0_isPlanOver_b59 {ad : Nat → Nat} {ho : Int32} {td : Int32} {pd : Int32} {sr : Int32} {dr : Int32} {ir : Int32} {qr : Int32} {sf : Nat → Int32} {df : Nat → Int32} {jf : Nat → Int32} {qf : Nat → Int32} {res : Int32} {rec15 : Int32 → Int32 → Int32 → Option (Int32)} (C : Cx p s m args meth c cX0_isPlanOver (some .boolean) 5 wsX0_isPlanOver RX0 D cI cB cL cK) (hP : va_P D vwCl (wB cI ad ho td pd sr dr ir qr sf df jf qf) s.heap) (hret : ∀ (pc : Nat) (ls : Array Slot), decode cX0_isPlanOver pc = .ok (.ireturn, 1) → narrow .boolean (.int res) = .int res → W p l e rmX0_isPlanOver s m args below meth c s.heap [] 0 0 Q (F0 m pc ls [.int res])) (hrec15 : ∀ (x1 : Int32) (x2 : Int32) (x3 : Int32), rec15 x1 x2 x3 = some res → ∀ (ls : Array Slot), lv_has ls 5 [(0, .ref (ad 0)), (1, .int x1), (2, .int x2), (3, .int x3)] → W p l e rmX0_isPlanOver s m args below meth c s.heap [] 0 0 Q (F0 m 15 ls [])) : ∀ (x1 : Int32) (x2 : Int32) (x3 : Int32) (k0 : Int32), mX0_isPlanOver_b59 rec15 td dr ir df jf x1 x2 x3 k0 = some res → ∀ (ls : Array Slot), lv_has ls 5 [(0, .ref (ad 0)), (1, .int x1), (2, .int x2), (3, .int x3)] → W p l e rmX0_isPlanOver s m args below meth c s.heap [] 0 0 Q (F0 m 59 ls [.int k0]) := by
  obtain ⟨hx, hb, hr, hml, hown, hts, hlk, hK⟩ := id C
  have hcf : CallFix p m c cX0_isPlanOver 5 s args wsX0_isPlanOver RX0 := ⟨hx, hb, hml, hown, hts⟩
  intro x1 x2 x3 k0 hm ls hl
  unfold mX0_isPlanOver_b59 at hm
  refine lv_istore (lv' := [(4, .int k0), (0, .ref (ad 0)), (1, .int x1), (2, .int x2), (3, .int x3)]) hx hb dX0_isPlanOver_59 hl (by decide) rfl (fun ls hl => ?_)
  refine lv_iload hx hb dX0_isPlanOver_61 (lv_at hl 0 rfl) ?_
  refine lv_if_ne (tgt := 71) hx hb dX0_isPlanOver_63 (by decide) (fun c_15 => ?_) (fun c_15 => ?_)
  · replace hm := br_n hm c_15
    refine lv_iconst (v := 1) hx hb dX0_isPlanOver_71 (by decide) ?_
    cases hm
    exact hret _ _ dX0_isPlanOver_72 rfl
  · replace hm := br_p hm c_15
    refine lv_iload_n hx hb dX0_isPlanOver_66 rfl (lv_at hl 4 rfl) ?_
    refine lv_iload_n hx hb dX0_isPlanOver_67 rfl (lv_at hl 3 rfl) ?_
    refine lv_icmp_ne (tgt := 73) hx hb dX0_isPlanOver_68 (by decide) (fun c_16 => ?_) (fun c_16 => ?_)
    · replace hm := br_n hm c_16
      refine lv_iinc (v := (x3 + 1)) (lv' := [(3, .int (x3 + 1)), (4, .int k0), (0, .ref (ad 0)), (1, .int x1), (2, .int x2)]) hx hb dX0_isPlanOver_73 hl (k := 4) rfl rfl (by decide) rfl (fun ls hl => ?_)
      refine lv_goto (tgt := 15) hx hb dX0_isPlanOver_76 (by decide) ?_
      exact hrec15 _ _ _ hm _ (lv_sub hl [2, 3, 4, 0] rfl)
    · replace hm := br_p hm c_16
      refine lv_iconst (v := 1) hx hb dX0_isPlanOver_71 (by decide) ?_
      cases hm
      exact hret _ _ dX0_isPlanOver_72 rfl
set_option maxRecDepth 100000 in
set_option maxHeartbeats 4000000 in
theorem tX0_isPlanOver_L15 {ad : Nat → Nat} {ho : Int32} {td : Int32} {pd : Int32} {sr : Int32} {dr : Int32} {ir : Int32} {qr : Int32} {sf : Nat → Int32} {df : Nat → Int32} {jf : Nat → Int32} {qf : Nat → Int32} {res : Int32} (C : Cx p s m args meth c cX0_isPlanOver (some .boolean) 5 wsX0_isPlanOver RX0 D cI cB cL cK) (hP : va_P D vwCl (wB cI ad ho td pd sr dr ir qr sf df jf qf) s.heap) (hret : ∀ (pc : Nat) (ls : Array Slot), decode cX0_isPlanOver pc = .ok (.ireturn, 1) → narrow .boolean (.int res) = .int res → W p l e rmX0_isPlanOver s m args below meth c s.heap [] 0 0 Q (F0 m pc ls [.int res])) : ∀ (n9 : Nat) (x1 : Int32) (x2 : Int32) (x3 : Int32), mX0_isPlanOver_L15 n9 td dr ir df jf x1 x2 x3 = some res → ∀ (ls : Array Slot), lv_has ls 5 [(0, .ref (ad 0)), (1, .int x1), (2, .int x2), (3, .int x3)] → W p l e rmX0_isPlanOver s m args below meth c s.heap [] 0 0 Q (F0 m 15 ls []) := by
  obtain ⟨hx, hb, hr, hml, hown, hts, hlk, hK⟩ := id C
  have hcf : CallFix p m c cX0_isPlanOver 5 s args wsX0_isPlanOver RX0 := ⟨hx, hb, hml, hown, hts⟩
  intro n9
  induction n9 with
  | zero => intro x1 x2 x3 hm; cases hm
  | succ k ih =>
    intro x1 x2 x3 hm ls hl
    rw [mX0_isPlanOver_L15.eq_2] at hm
    refine lv_iload_n hx hb dX0_isPlanOver_15 rfl (lv_at hl 3 rfl) ?_
    refine lv_iload_n hx hb dX0_isPlanOver_16 rfl (lv_at hl 2 rfl) ?_
    refine lv_icmp_gt (tgt := 79) hx hb dX0_isPlanOver_17 (by decide) (fun c_3 => ?_) (fun c_3 => ?_)
    · replace hm := br_p hm c_3
      refine lv_aload_n hx hb dX0_isPlanOver_79 rfl (lv_at hl 0 rfl) ?_
      refine lv_iload_n hx hb dX0_isPlanOver_80 rfl (lv_at hl 1 rfl) ?_
      obtain ⟨v4, h_5, hm⟩ := b1_s hm
      refine rd_v hcf (kX0_debt h_5) (cwX0_isPlanOver_X0_debt hts) hK hP Sb.rf (ci := 0) (q0 := 0) rfl rfl rfl hl.1 rfl (Nat.le_of_ble_eq_true rfl) dX0_isPlanOver_81 ⟨Nat.zero_le _, Nat.zero_le _⟩ ?_
      refine lv_if_ne (tgt := 91) hx hb dX0_isPlanOver_84 (by decide) (fun c_6 => ?_) (fun c_6 => ?_)
      · replace hm := br_n hm c_6
        refine lv_iconst (v := 0) hx hb dX0_isPlanOver_91 (by decide) ?_
        cases hm
        exact hret _ _ dX0_isPlanOver_92 rfl
      · replace hm := br_p hm c_6
        refine lv_iconst (v := 1) hx hb dX0_isPlanOver_87 (by decide) ?_
        refine lv_goto (tgt := 92) hx hb dX0_isPlanOver_88 (by decide) ?_
        cases hm
        exact hret _ _ dX0_isPlanOver_92 rfl
    · replace hm := br_n hm c_3
      refine lv_aload_n hx hb dX0_isPlanOver_20 rfl (lv_at hl 0 rfl) ?_
      refine lv_iload_n hx hb dX0_isPlanOver_21 rfl (lv_at hl 1 rfl) ?_
      refine lv_iload_n hx hb dX0_isPlanOver_22 rfl (lv_at hl 3 rfl) ?_
      obtain ⟨v7, h_8, hm⟩ := b1_s hm
      refine rd_v hcf (kX0_instalmentDay h_8) (cwX0_isPlanOver_X0_instalmentDay hts) hK hP Sb.rf (ci := 0) (q0 := 0) rfl rfl rfl hl.1 rfl (Nat.le_of_ble_eq_true rfl) dX0_isPlanOver_23 ⟨Nat.zero_le _, Nat.zero_le _⟩ ?_
      refine lv_aload_n hx hb dX0_isPlanOver_26 rfl (lv_at hl 0 rfl) ?_
      refine gf (q0 := 0) hx hb hts hown hK flX0_isPlanOver_36 hP rfl rfl dX0_isPlanOver_27 ?_
      refine lv_icmp_ne (tgt := 73) hx hb dX0_isPlanOver_30 (by decide) (fun c_9 => ?_) (fun c_9 => ?_)
      · replace hm := br_n hm c_9
        refine lv_iinc (v := (x3 + 1)) (lv' := [(3, .int (x3 + 1)), (0, .ref (ad 0)), (1, .int x1), (2, .int x2)]) hx hb dX0_isPlanOver_73 hl (k := 3) rfl rfl (by decide) rfl (fun ls hl => ?_)
        refine lv_goto (tgt := 15) hx hb dX0_isPlanOver_76 (by decide) ?_
        exact ih _ _ _ hm _ (lv_sub hl [1, 2, 3, 0] rfl)
      · replace hm := br_p hm c_9
        refine lv_aload_n hx hb dX0_isPlanOver_33 rfl (lv_at hl 0 rfl) ?_
        refine gf (q0 := 0) hx hb hts hown hK flX0_isPlanOver_20 hP rfl rfl dX0_isPlanOver_34 ?_
        refine lv_iload_n hx hb dX0_isPlanOver_37 rfl (lv_at hl 1 rfl) ?_
        refine lv_bipush (v := 12) hx hb dX0_isPlanOver_38 (by decide) ?_
        obtain ⟨v10, h_11, hm⟩ := b1_s hm
        refine rd_v hcf (kX3_get h_11) (cwX0_isPlanOver_X3_get hts) hK hP sB_d (ci := 3) (q0 := 3) rfl rfl rfl hl.1 rfl (Nat.le_of_ble_eq_true rfl) dX0_isPlanOver_40 ⟨Nat.zero_le _, Nat.zero_le _⟩ ?_
        refine lv_aload_n hx hb dX0_isPlanOver_43 rfl (lv_at hl 0 rfl) ?_
        refine lv_iload_n hx hb dX0_isPlanOver_44 rfl (lv_at hl 1 rfl) ?_
        refine lv_iload_n hx hb dX0_isPlanOver_45 rfl (lv_at hl 3 rfl) ?_
        refine lv_iconst (v := 1) hx hb dX0_isPlanOver_46 (by decide) ?_
        refine lv_iadd hx hb dX0_isPlanOver_47 ?_
        obtain ⟨v12, h_13, hm⟩ := b1_s hm
        refine rd_v hcf (kX0_instalmentsTogether h_13) (cwX0_isPlanOver_X0_instalmentsTogether hts) hK hP Sb.rf (ci := 0) (q0 := 0) rfl rfl rfl hl.1 rfl (Nat.le_of_ble_eq_true rfl) dX0_isPlanOver_48 ⟨Nat.zero_le _, Nat.zero_le _⟩ ?_
        refine lv_icmp_ge (tgt := 58) hx hb dX0_isPlanOver_51 (by decide) (fun c_14 => ?_) (fun c_14 => ?_)
        · replace hm := br_p hm c_14
          refine lv_iconst (v := 0) hx hb dX0_isPlanOver_58 (by decide) ?_
          exact tX0_isPlanOver_b59 C hP hret ih _ _ _ _ hm _ (lv_sub hl [0, 1, 2, 3] rfl)
        · replace hm := br_n hm c_14
          refine lv_iconst (v := 1) hx hb dX0_isPlanOver_54 (by decide) ?_
          refine lv_goto (tgt := 59) hx hb dX0_isPlanOver_55 (by decide) ?_
          exact tX0_isPlanOver_b59 C hP hret ih _ _ _ _ hm _ (lv_sub hl [0, 1, 2, 3] rfl)
set_option maxRecDepth 100000 in
set_option maxHeartbeats 4000000 in
theorem kX0_isPlanOver {l : Launch} {D : va_G} {cI cB cL cK : ClassId} {ad : Nat → Nat} {ho : Int32} {td : Int32} {pd : Int32} {sr : Int32} {dr : Int32} {ir : Int32} {qr : Int32} {sf : Nat → Int32} {df : Nat → Int32} {jf : Nat → Int32} {qf : Nat → Int32} {p1 : Int32} {res : Int32} (hm : mX0_isPlanOver td dr ir df jf p1 = some res) : Rd l D cI cB cL cK yX0_isPlanOver wsX0_isPlanOver rmX0_isPlanOver [.ref (ad 0), .int p1] (wB cI ad ho td pd sr dr ir qr sf df jf qf) res := by
  refine Rd.of (cc := cX0_isPlanOver) (own := RX0) (by decide) rfl rfl (Nat.le_of_ble_eq_true rfl) (fun p e s m below meth c ls Q C hP hl hret => ?_)
  obtain ⟨hx, hb, hr, hml, hown, hts, hlk, hK⟩ := id C
  have hcf : CallFix p m c cX0_isPlanOver 5 s _ wsX0_isPlanOver RX0 := ⟨hx, hb, hml, hown, hts⟩
  have hl : lv_has ls 5 [(0, .ref (ad 0)), (1, .int p1)] := hl
  unfold mX0_isPlanOver at hm
  refine lv_aload_n hx hb dX0_isPlanOver_0 rfl (lv_at hl 0 rfl) ?_
  refine gf (q0 := 0) hx hb hts hown hK flX0_isPlanOver_20 hP rfl rfl dX0_isPlanOver_1 ?_
  refine lv_iload_n hx hb dX0_isPlanOver_4 rfl (lv_at hl 1 rfl) ?_
  refine lv_bipush (v := 8) hx hb dX0_isPlanOver_5 (by decide) ?_
  obtain ⟨v1, h_2, hm⟩ := b1_s hm
  refine rd_v hcf (kX3_get h_2) (cwX0_isPlanOver_X3_get hts) hK hP sB_d (ci := 3) (q0 := 3) rfl rfl rfl hl.1 rfl (Nat.le_of_ble_eq_true rfl) dX0_isPlanOver_7 ⟨Nat.zero_le _, Nat.zero_le _⟩ ?_
  refine lv_iconst (v := 1) hx hb dX0_isPlanOver_10 (by decide) ?_
  refine lv_isub hx hb dX0_isPlanOver_11 ?_
  refine lv_istore_n (lv' := [(2, .int (v1 - 1)), (0, .ref (ad 0)), (1, .int p1)]) hx hb dX0_isPlanOver_12 rfl hl (by decide) rfl (fun ls hl => ?_)
  refine lv_iconst (v := 0) hx hb dX0_isPlanOver_13 (by decide) ?_
  refine lv_istore_n (lv' := [(3, .int 0), (2, .int (v1 - 1)), (0, .ref (ad 0)), (1, .int p1)]) hx hb dX0_isPlanOver_14 rfl hl (by decide) rfl (fun ls hl => ?_)
  exact tX0_isPlanOver_L15 C hP hret _ _ _ _ hm _ (lv_sub hl [2, 3, 1, 0] rfl)
/-! X0 closeAgreement(I)V -/
abbrev rmX0_closeAgreement : Room := { frames := 4, cells := 0, slots := 0, locals := 92 }
theorem hdX0_closeAgreement : yX0_closeAgreement.cls = RX0 ∧ yX0_closeAgreement.cls ≠ "java/lang/invoke/MethodHandle" ∧ yX0_closeAgreement.cls ≠ "java/lang/invoke/VarHandle" ∧ (parseMethodDescriptor yX0_closeAgreement.desc).map (fun d => d.parameters.length) = some 1 := by decide +kernel
theorem inX0_closeAgreement_X0 : ∀ w ∈ u_ws RX0 TX0 7, w ∈ wsX0_closeAgreement := by decide +kernel
theorem cwX0_closeAgreement_X0_hasPlan {s : State} {args : Array Value} (hts : ∀ w ∈ wsX0_closeAgreement, w.before args s = true) : CallW rmX0_closeAgreement s args RX0 RX0 80 yX0_hasPlan cX0_hasPlan 2 (some .boolean) wsX0_hasPlan rmX0_hasPlan 0 0 1 := cwV 1 hts gX0_closeAgreement_X0_hasPlan rfl rfl rfl hdX0_hasPlan ⟨Nat.le_of_ble_eq_true rfl, Nat.le_of_ble_eq_true rfl⟩
theorem cwX0_closeAgreement_X0_hasPromise {s : State} {args : Array Value} (hts : ∀ w ∈ wsX0_closeAgreement, w.before args s = true) : CallW rmX0_closeAgreement s args RX0 RX0 76 yX0_hasPromise cX0_hasPromise 2 (some .boolean) wsX0_hasPromise rmX0_hasPromise 0 0 1 := cwV 1 hts gX0_closeAgreement_X0_hasPromise rfl rfl rfl hdX0_hasPromise ⟨Nat.le_of_ble_eq_true rfl, Nat.le_of_ble_eq_true rfl⟩
theorem cwX0_closeAgreement_X0_isPlanOver {s : State} {args : Array Value} (hts : ∀ w ∈ wsX0_closeAgreement, w.before args s = true) : CallW rmX0_closeAgreement s args RX0 RX0 131 yX0_isPlanOver cX0_isPlanOver 5 (some .boolean) wsX0_isPlanOver rmX0_isPlanOver 0 0 1 := cwV 1 hts gX0_closeAgreement_X0_isPlanOver rfl rfl rfl hdX0_isPlanOver ⟨Nat.le_of_ble_eq_true rfl, Nat.le_of_ble_eq_true rfl⟩
theorem cwX0_closeAgreement_X3_get {s : State} {args : Array Value} (hts : ∀ w ∈ wsX0_closeAgreement, w.before args s = true) : CallW rmX0_closeAgreement s args RX0 RX3 58 yX3_get cX3_get 4 (some .int) wsX3_get rmX3_get 0 0 2 := cwV 2 hts gX0_closeAgreement_X3_get rfl rfl rfl hdX3_get ⟨Nat.le_of_ble_eq_true rfl, Nat.le_of_ble_eq_true rfl⟩
theorem cwX0_closeAgreement_X3_increase {s : State} {args : Array Value} (hts : ∀ w ∈ wsX0_closeAgreement, w.before args s = true) : CallW rmX0_closeAgreement s args RX0 RX3 70 yX3_increase cX3_increase 4 none wsX3_increase rmX3_increase 0 0 3 := cwV 3 hts gX0_closeAgreement_X3_increase rfl rfl rfl hdX3_increase ⟨Nat.le_of_ble_eq_true rfl, Nat.le_of_ble_eq_true rfl⟩
theorem cwX0_closeAgreement_X3_set {s : State} {args : Array Value} (hts : ∀ w ∈ wsX0_closeAgreement, w.before args s = true) : CallW rmX0_closeAgreement s args RX0 RX3 50 yX3_set cX3_set 5 none wsX3_set rmX3_set 0 0 3 := cwV 3 hts gX0_closeAgreement_X3_set rfl rfl rfl hdX3_set ⟨Nat.le_of_ble_eq_true rfl, Nat.le_of_ble_eq_true rfl⟩
theorem flX0_closeAgreement_20 : Fl wsX0_closeAgreement RX0 20 0 1 := ⟨_, _, _, rfl, by decide, inX0_closeAgreement_X0, by decide +kernel⟩
theorem flX0_closeAgreement_36 : Fl wsX0_closeAgreement RX0 36 0 5 := ⟨_, _, _, rfl, by decide, inX0_closeAgreement_X0, by decide +kernel⟩
set_option maxRecDepth 100000 in
set_option maxHeartbeats 4000000 in
theorem tX0_closeAgreement_b69 {ad : Nat → Nat} {ho : Int32} {td : Int32} {pd : Int32} {sr : Int32} {dr : Int32} {ir : Int32} {qr : Int32} {sf : Nat → Int32} {jf : Nat → Int32} {qf : Nat → Int32} {df' : Nat → Int32} (C : Cx p s m args meth c cX0_closeAgreement none 2 wsX0_closeAgreement RX0 D cI cB cL cK) (hA : ∀ q : Nat, s.heap.size ≤ q → A q) (hret : ∀ (pc : Nat) (ls : Array Slot) (H : Heap) (locs : List Loc), decode cX0_closeAgreement pc = .ok (.return_, 1) → va_P D vwCl (wB cI ad ho td pd sr dr ir qr sf df' jf qf) H → va_D A (wB cI ad ho td pd sr dr ir qr sf df' jf qf) → va_S A s.heap H locs → W p l e rmX0_closeAgreement s m args below meth c H locs 0 0 Q (F0 m pc ls [])) : ∀ (x1 : Int32) (df : Nat → Int32), mX0_closeAgreement_b69 td dr ir jf x1 df = some df' → ∀ (H : Heap) (locs : List Loc) (ls : Array Slot), va_P D vwCl (wB cI ad ho td pd sr dr ir qr sf df jf qf) H → va_D A (wB cI ad ho td pd sr dr ir qr sf df jf qf) → va_S A s.heap H locs → lv_has ls 2 [(0, .ref (ad 0)), (1, .int x1)] → W p l e rmX0_closeAgreement s m args below meth c H locs 0 0 Q (F0 m 69 ls []) := by
  obtain ⟨hx, hb, hr, hml, hown, hts, hlk, hK⟩ := id C
  have hcf : CallFix p m c cX0_closeAgreement 2 s args wsX0_closeAgreement RX0 := ⟨hx, hb, hml, hown, hts⟩
  intro x1 df hm H locs ls hP hD hS hl
  unfold mX0_closeAgreement_b69 at hm
  refine lv_aload_n hx hb dX0_closeAgreement_69 rfl (lv_at hl 0 rfl) ?_
  refine lv_iload_n hx hb dX0_closeAgreement_70 rfl (lv_at hl 1 rfl) ?_
  obtain ⟨v14, h_15, hm⟩ := b1_s hm
  refine rd_v hcf (kX0_hasPlan h_15) (cwX0_closeAgreement_X0_hasPlan hts) hK hP Sb.rf (ci := 0) (q0 := 0) rfl rfl rfl hl.1 rfl (Nat.le_of_ble_eq_true rfl) dX0_closeAgreement_71 ⟨Nat.zero_le _, Nat.zero_le _⟩ ?_
  refine lv_if_eq (tgt := 96) hx hb dX0_closeAgreement_74 (by decide) (fun c_16 => ?_) (fun c_16 => ?_)
  · replace hm := br_p hm c_16
    cases hm
    exact hret _ _ _ _ dX0_closeAgreement_96 hP hD hS
  · replace hm := br_n hm c_16
    refine lv_aload_n hx hb dX0_closeAgreement_77 rfl (lv_at hl 0 rfl) ?_
    refine lv_iload_n hx hb dX0_closeAgreement_78 rfl (lv_at hl 1 rfl) ?_
    obtain ⟨v17, h_18, hm⟩ := b1_s hm
    refine rd_v hcf (kX0_isPlanOver h_18) (cwX0_closeAgreement_X0_isPlanOver hts) hK hP Sb.rf (ci := 0) (q0 := 0) rfl rfl rfl hl.1 rfl (Nat.le_of_ble_eq_true rfl) dX0_closeAgreement_79 ⟨Nat.zero_le _, Nat.zero_le _⟩ ?_
    refine lv_if_eq (tgt := 96) hx hb dX0_closeAgreement_82 (by decide) (fun c_19 => ?_) (fun c_19 => ?_)
    · replace hm := br_p hm c_19
      cases hm
      exact hret _ _ _ _ dX0_closeAgreement_96 hP hD hS
    · replace hm := br_n hm c_19
      refine lv_aload_n hx hb dX0_closeAgreement_85 rfl (lv_at hl 0 rfl) ?_
      refine gf (q0 := 0) hx hb hts hown hK flX0_closeAgreement_20 hP rfl rfl dX0_closeAgreement_86 ?_
      refine lv_iload_n hx hb dX0_closeAgreement_89 rfl (lv_at hl 1 rfl) ?_
      refine lv_bipush (v := 8) hx hb dX0_closeAgreement_90 (by decide) ?_
      refine lv_iconst (v := 0) hx hb dX0_closeAgreement_92 (by decide) ?_
      obtain ⟨df20, h_21, hm⟩ := b1_s hm
      refine mu_vv hcf (kX3_set h_21) (cwX0_closeAgreement_X3_set hts) hK hP hD hS hA jB_d (ci := 3) (q0 := 3) rfl rfl rfl hl.1 rfl (Nat.le_of_ble_eq_true rfl) dX0_closeAgreement_93 ⟨Nat.zero_le _, Nat.zero_le _⟩ (fun H locs hP hD hS => ?_)
      cases hm
      exact hret _ _ _ _ dX0_closeAgreement_96 hP hD hS
set_option maxRecDepth 100000 in
set_option maxHeartbeats 4000000 in
theorem tX0_closeAgreement_b58 {ad : Nat → Nat} {ho : Int32} {td : Int32} {pd : Int32} {sr : Int32} {dr : Int32} {ir : Int32} {qr : Int32} {sf : Nat → Int32} {jf : Nat → Int32} {qf : Nat → Int32} {df' : Nat → Int32} (C : Cx p s m args meth c cX0_closeAgreement none 2 wsX0_closeAgreement RX0 D cI cB cL cK) (hA : ∀ q : Nat, s.heap.size ≤ q → A q) (hret : ∀ (pc : Nat) (ls : Array Slot) (H : Heap) (locs : List Loc), decode cX0_closeAgreement pc = .ok (.return_, 1) → va_P D vwCl (wB cI ad ho td pd sr dr ir qr sf df' jf qf) H → va_D A (wB cI ad ho td pd sr dr ir qr sf df' jf qf) → va_S A s.heap H locs → W p l e rmX0_closeAgreement s m args below meth c H locs 0 0 Q (F0 m pc ls [])) : ∀ (x1 : Int32) (df : Nat → Int32), mX0_closeAgreement_b58 td dr ir jf x1 df = some df' → ∀ (H : Heap) (locs : List Loc) (ls : Array Slot), va_P D vwCl (wB cI ad ho td pd sr dr ir qr sf df jf qf) H → va_D A (wB cI ad ho td pd sr dr ir qr sf df jf qf) → va_S A s.heap H locs → lv_has ls 2 [(0, .ref (ad 0)), (1, .int x1)] → W p l e rmX0_closeAgreement s m args below meth c H locs 0 0 Q (F0 m 58 ls []) := by
  obtain ⟨hx, hb, hr, hml, hown, hts, hlk, hK⟩ := id C
  have hcf : CallFix p m c cX0_closeAgreement 2 s args wsX0_closeAgreement RX0 := ⟨hx, hb, hml, hown, hts⟩
  intro x1 df hm H locs ls hP hD hS hl
  unfold mX0_closeAgreement_b58 at hm
  refine lv_aload_n hx hb dX0_closeAgreement_58 rfl (lv_at hl 0 rfl) ?_
  refine gf (q0 := 0) hx hb hts hown hK flX0_closeAgreement_20 hP rfl rfl dX0_closeAgreement_59 ?_
  refine lv_iload_n hx hb dX0_closeAgreement_62 rfl (lv_at hl 1 rfl) ?_
  refine lv_bipush (v := 6) hx hb dX0_closeAgreement_63 (by decide) ?_
  refine lv_iconst (v := 0) hx hb dX0_closeAgreement_65 (by decide) ?_
  obtain ⟨df22, h_23, hm⟩ := b1_s hm
  refine mu_vv hcf (kX3_set h_23) (cwX0_closeAgreement_X3_set hts) hK hP hD hS hA jB_d (ci := 3) (q0 := 3) rfl rfl rfl hl.1 rfl (Nat.le_of_ble_eq_true rfl) dX0_closeAgreement_66 ⟨Nat.zero_le _, Nat.zero_le _⟩ (fun H locs hP hD hS => ?_)
  exact tX0_closeAgreement_b69 C hA hret _ _ hm _ _ _ hP hD hS (lv_sub hl [0, 1] rfl)
set_option maxRecDepth 100000 in
set_option maxHeartbeats 4000000 in
theorem kX0_closeAgreement {l : Launch} {D : va_G} {cI cB cL cK : ClassId} {ad : Nat → Nat} {ho : Int32} {td : Int32} {pd : Int32} {sr : Int32} {dr : Int32} {ir : Int32} {qr : Int32} {sf : Nat → Int32} {df : Nat → Int32} {jf : Nat → Int32} {qf : Nat → Int32} {p1 : Int32} {df' : Nat → Int32} (hm : mX0_closeAgreement td dr ir df jf p1 = some df') : Mu l D cI cB cL cK yX0_closeAgreement wsX0_closeAgreement rmX0_closeAgreement [.ref (ad 0), .int p1] (wB cI ad ho td pd sr dr ir qr sf df jf qf) (wB cI ad ho td pd sr dr ir qr sf df' jf qf) none 0 0 := by
  refine Mu.ofv (cc := cX0_closeAgreement) (own := RX0) (by decide) rfl rfl (Nat.le_of_ble_eq_true rfl) (fun p e s m below meth c ls Q A C _ hA hP hD hS hl hret => ?_)
  obtain ⟨hx, hb, hr, hml, hown, hts, hlk, hK⟩ := id C
  have hcf : CallFix p m c cX0_closeAgreement 2 s _ wsX0_closeAgreement RX0 := ⟨hx, hb, hml, hown, hts⟩
  have hl : lv_has ls 2 [(0, .ref (ad 0)), (1, .int p1)] := hl
  unfold mX0_closeAgreement at hm
  refine lv_aload_n hx hb dX0_closeAgreement_0 rfl (lv_at hl 0 rfl) ?_
  refine lv_iload_n hx hb dX0_closeAgreement_1 rfl (lv_at hl 1 rfl) ?_
  obtain ⟨v1, h_2, hm⟩ := b1_s hm
  refine rd_v hcf (kX0_hasPromise h_2) (cwX0_closeAgreement_X0_hasPromise hts) hK hP Sb.rf (ci := 0) (q0 := 0) rfl rfl rfl hl.1 rfl (Nat.le_of_ble_eq_true rfl) dX0_closeAgreement_2 ⟨Nat.zero_le _, Nat.zero_le _⟩ ?_
  refine lv_if_eq (tgt := 69) hx hb dX0_closeAgreement_5 (by decide) (fun c_3 => ?_) (fun c_3 => ?_)
  · replace hm := br_p hm c_3
    exact tX0_closeAgreement_b69 C hA hret _ _ hm _ _ _ hP hD hS (lv_sub hl [0, 1] rfl)
  · replace hm := br_n hm c_3
    refine lv_aload_n hx hb dX0_closeAgreement_8 rfl (lv_at hl 0 rfl) ?_
    refine gf (q0 := 0) hx hb hts hown hK flX0_closeAgreement_20 hP rfl rfl dX0_closeAgreement_9 ?_
    refine lv_iload_n hx hb dX0_closeAgreement_12 rfl (lv_at hl 1 rfl) ?_
    refine lv_bipush (v := 7) hx hb dX0_closeAgreement_13 (by decide) ?_
    obtain ⟨v4, h_5, hm⟩ := b1_s hm
    refine rd_v hcf (kX3_get h_5) (cwX0_closeAgreement_X3_get hts) hK hP sB_d (ci := 3) (q0 := 3) rfl rfl rfl hl.1 rfl (Nat.le_of_ble_eq_true rfl) dX0_closeAgreement_15 ⟨Nat.zero_le _, Nat.zero_le _⟩ ?_
    refine lv_aload_n hx hb dX0_closeAgreement_18 rfl (lv_at hl 0 rfl) ?_
    refine gf (q0 := 0) hx hb hts hown hK flX0_closeAgreement_36 hP rfl rfl dX0_closeAgreement_19 ?_
    refine lv_icmp_gt (tgt := 69) hx hb dX0_closeAgreement_22 (by decide) (fun c_6 => ?_) (fun c_6 => ?_)
    · replace hm := br_p hm c_6
      exact tX0_closeAgreement_b69 C hA hret _ _ hm _ _ _ hP hD hS (lv_sub hl [0, 1] rfl)
    · replace hm := br_n hm c_6
      refine lv_aload_n hx hb dX0_closeAgreement_25 rfl (lv_at hl 0 rfl) ?_
      refine gf (q0 := 0) hx hb hts hown hK flX0_closeAgreement_20 hP rfl rfl dX0_closeAgreement_26 ?_
      refine lv_iload_n hx hb dX0_closeAgreement_29 rfl (lv_at hl 1 rfl) ?_
      refine lv_bipush (v := 12) hx hb dX0_closeAgreement_30 (by decide) ?_
      obtain ⟨v7, h_8, hm⟩ := b1_s hm
      refine rd_v hcf (kX3_get h_8) (cwX0_closeAgreement_X3_get hts) hK hP sB_d (ci := 3) (q0 := 3) rfl rfl rfl hl.1 rfl (Nat.le_of_ble_eq_true rfl) dX0_closeAgreement_32 ⟨Nat.zero_le _, Nat.zero_le _⟩ ?_
      refine lv_aload_n hx hb dX0_closeAgreement_35 rfl (lv_at hl 0 rfl) ?_
      refine gf (q0 := 0) hx hb hts hown hK flX0_closeAgreement_20 hP rfl rfl dX0_closeAgreement_36 ?_
      refine lv_iload_n hx hb dX0_closeAgreement_39 rfl (lv_at hl 1 rfl) ?_
      refine lv_bipush (v := 6) hx hb dX0_closeAgreement_40 (by decide) ?_
      obtain ⟨v9, h_10, hm⟩ := b1_s hm
      refine rd_v hcf (kX3_get h_10) (cwX0_closeAgreement_X3_get hts) hK hP sB_d (ci := 3) (q0 := 3) rfl rfl rfl hl.1 rfl (Nat.le_of_ble_eq_true rfl) dX0_closeAgreement_42 ⟨Nat.zero_le _, Nat.zero_le _⟩ ?_
      refine lv_icmp_ge (tgt := 58) hx hb dX0_closeAgreement_45 (by decide) (fun c_11 => ?_) (fun c_11 => ?_)
      · replace hm := br_p hm c_11
        exact tX0_closeAgreement_b58 C hA hret _ _ hm _ _ _ hP hD hS (lv_sub hl [0, 1] rfl)
      · replace hm := br_n hm c_11
        refine lv_aload_n hx hb dX0_closeAgreement_48 rfl (lv_at hl 0 rfl) ?_
        refine gf (q0 := 0) hx hb hts hown hK flX0_closeAgreement_20 hP rfl rfl dX0_closeAgreement_49 ?_
        refine lv_iload_n hx hb dX0_closeAgreement_52 rfl (lv_at hl 1 rfl) ?_
        refine lv_iconst (v := 5) hx hb dX0_closeAgreement_53 (by decide) ?_
        refine lv_iconst (v := 1) hx hb dX0_closeAgreement_54 (by decide) ?_
        obtain ⟨df12, h_13, hm⟩ := b1_s hm
        refine mu_vv hcf (kX3_increase h_13) (cwX0_closeAgreement_X3_increase hts) hK hP hD hS hA jB_d (ci := 3) (q0 := 3) rfl rfl rfl hl.1 rfl (Nat.le_of_ble_eq_true rfl) dX0_closeAgreement_55 ⟨Nat.zero_le _, Nat.zero_le _⟩ (fun H locs hP hD hS => ?_)
        exact tX0_closeAgreement_b58 C hA hret _ _ hm _ _ _ hP hD hS (lv_sub hl [0, 1] rfl)
/-! X0 isStepRipe(III)Z -/
abbrev rmX0_isStepRipe : Room := { frames := 1, cells := 0, slots := 0, locals := 23 }
theorem hdX0_isStepRipe : yX0_isStepRipe.cls = RX0 ∧ yX0_isStepRipe.cls ≠ "java/lang/invoke/MethodHandle" ∧ yX0_isStepRipe.cls ≠ "java/lang/invoke/VarHandle" ∧ (parseMethodDescriptor yX0_isStepRipe.desc).map (fun d => d.parameters.length) = some 3 := by decide +kernel
theorem inX0_isStepRipe_X0 : ∀ w ∈ u_ws RX0 TX0 7, w ∈ wsX0_isStepRipe := by decide +kernel
theorem cwX0_isStepRipe_X3_get {s : State} {args : Array Value} (hts : ∀ w ∈ wsX0_isStepRipe, w.before args s = true) : CallW rmX0_isStepRipe s args RX0 RX3 58 yX3_get cX3_get 4 (some .int) wsX3_get rmX3_get 0 0 2 := cwV 2 hts gX0_isStepRipe_X3_get rfl rfl rfl hdX3_get ⟨Nat.le_of_ble_eq_true rfl, Nat.le_of_ble_eq_true rfl⟩
theorem cwX0_isStepRipe_X3_has {s : State} {args : Array Value} (hts : ∀ w ∈ wsX0_isStepRipe, w.before args s = true) : CallW rmX0_isStepRipe s args RX0 RX3 148 yX3_has cX3_has 2 (some .boolean) wsX3_has rmX3_has 0 0 1 := cwV 1 hts gX0_isStepRipe_X3_has rfl rfl rfl hdX3_has ⟨Nat.le_of_ble_eq_true rfl, Nat.le_of_ble_eq_true rfl⟩
theorem flX0_isStepRipe_14 : Fl wsX0_isStepRipe RX0 14 0 0 := ⟨_, _, _, rfl, by decide, inX0_isStepRipe_X0, by decide +kernel⟩
theorem flX0_isStepRipe_20 : Fl wsX0_isStepRipe RX0 20 0 1 := ⟨_, _, _, rfl, by decide, inX0_isStepRipe_X0, by decide +kernel⟩
theorem flX0_isStepRipe_36 : Fl wsX0_isStepRipe RX0 36 0 5 := ⟨_, _, _, rfl, by decide, inX0_isStepRipe_X0, by decide +kernel⟩
set_option maxRecDepth 100000 in
set_option maxHeartbeats 4000000 in
theorem kX0_isStepRipe {l : Launch} {D : va_G} {cI cB cL cK : ClassId} {ad : Nat → Nat} {ho : Int32} {td : Int32} {pd : Int32} {sr : Int32} {dr : Int32} {ir : Int32} {qr : Int32} {sf : Nat → Int32} {df : Nat → Int32} {jf : Nat → Int32} {qf : Nat → Int32} {p1 : Int32} {p2 : Int32} {p3 : Int32} {res : Int32} (hm : mX0_isStepRipe td sr dr sf df p1 p2 p3 = some res) : Rd l D cI cB cL cK yX0_isStepRipe wsX0_isStepRipe rmX0_isStepRipe [.ref (ad 0), .int p1, .int p2, .int p3] (wB cI ad ho td pd sr dr ir qr sf df jf qf) res := by
  refine Rd.of (cc := cX0_isStepRipe) (own := RX0) (by decide) rfl rfl (Nat.le_of_ble_eq_true rfl) (fun p e s m below meth c ls Q C hP hl hret => ?_)
  obtain ⟨hx, hb, hr, hml, hown, hts, hlk, hK⟩ := id C
  have hcf : CallFix p m c cX0_isStepRipe 4 s _ wsX0_isStepRipe RX0 := ⟨hx, hb, hml, hown, hts⟩
  have hl : lv_has ls 4 [(0, .ref (ad 0)), (1, .int p1), (2, .int p2), (3, .int p3)] := hl
  unfold mX0_isStepRipe at hm
  refine lv_aload_n hx hb dX0_isStepRipe_0 rfl (lv_at hl 0 rfl) ?_
  refine gf (q0 := 0) hx hb hts hown hK flX0_isStepRipe_14 hP rfl rfl dX0_isStepRipe_1 ?_
  refine lv_iload_n hx hb dX0_isStepRipe_4 rfl (lv_at hl 2 rfl) ?_
  obtain ⟨v1, h_2, hm⟩ := b1_s hm
  refine rd_v hcf (kX3_has h_2) (cwX0_isStepRipe_X3_has hts) hK hP sB_s (ci := 3) (q0 := 1) rfl rfl rfl hl.1 rfl (Nat.le_of_ble_eq_true rfl) dX0_isStepRipe_5 ⟨Nat.zero_le _, Nat.zero_le _⟩ ?_
  refine lv_if_eq (tgt := 24) hx hb dX0_isStepRipe_8 (by decide) (fun c_3 => ?_) (fun c_3 => ?_)
  · replace hm := br_p hm c_3
    refine lv_iconst (v := 0) hx hb dX0_isStepRipe_24 (by decide) ?_
    cases hm
    exact hret _ _ dX0_isStepRipe_25 rfl
  · replace hm := br_n hm c_3
    refine lv_iload_n hx hb dX0_isStepRipe_11 rfl (lv_at hl 3 rfl) ?_
    refine lv_aload_n hx hb dX0_isStepRipe_12 rfl (lv_at hl 0 rfl) ?_
    refine gf (q0 := 0) hx hb hts hown hK flX0_isStepRipe_14 hP rfl rfl dX0_isStepRipe_13 ?_
    refine lv_iload_n hx hb dX0_isStepRipe_16 rfl (lv_at hl 2 rfl) ?_
    refine lv_iconst (v := 0) hx hb dX0_isStepRipe_17 (by decide) ?_
    obtain ⟨v4, h_5, hm⟩ := b1_s hm
    refine rd_v hcf (kX3_get h_5) (cwX0_isStepRipe_X3_get hts) hK hP sB_s (ci := 3) (q0 := 1) rfl rfl rfl hl.1 rfl (Nat.le_of_ble_eq_true rfl) dX0_isStepRipe_18 ⟨Nat.zero_le _, Nat.zero_le _⟩ ?_
    refine lv_icmp_ge (tgt := 26) hx hb dX0_isStepRipe_21 (by decide) (fun c_6 => ?_) (fun c_6 => ?_)
    · replace hm := br_p hm c_6
      refine lv_iload_n hx hb dX0_isStepRipe_26 rfl (lv_at hl 2 rfl) ?_
      refine lv_if_eq (tgt := 56) hx hb dX0_isStepRipe_27 (by decide) (fun c_7 => ?_) (fun c_7 => ?_)
      · replace hm := br_p hm c_7
        refine lv_iconst (v := 1) hx hb dX0_isStepRipe_56 (by decide) ?_
        refine lv_goto (tgt := 61) hx hb dX0_isStepRipe_57 (by decide) ?_
        cases hm
        exact hret _ _ dX0_isStepRipe_61 rfl
      · replace hm := br_n hm c_7
        refine lv_aload_n hx hb dX0_isStepRipe_30 rfl (lv_at hl 0 rfl) ?_
        refine gf (q0 := 0) hx hb hts hown hK flX0_isStepRipe_36 hP rfl rfl dX0_isStepRipe_31 ?_
        refine lv_aload_n hx hb dX0_isStepRipe_34 rfl (lv_at hl 0 rfl) ?_
        refine gf (q0 := 0) hx hb hts hown hK flX0_isStepRipe_20 hP rfl rfl dX0_isStepRipe_35 ?_
        refine lv_iload_n hx hb dX0_isStepRipe_38 rfl (lv_at hl 1 rfl) ?_
        refine lv_iconst (v := 4) hx hb dX0_isStepRipe_39 (by decide) ?_
        obtain ⟨v8, h_9, hm⟩ := b1_s hm
        refine rd_v hcf (kX3_get h_9) (cwX0_isStepRipe_X3_get hts) hK hP sB_d (ci := 3) (q0 := 3) rfl rfl rfl hl.1 rfl (Nat.le_of_ble_eq_true rfl) dX0_isStepRipe_40 ⟨Nat.zero_le _, Nat.zero_le _⟩ ?_
        refine lv_isub hx hb dX0_isStepRipe_43 ?_
        refine lv_aload_n hx hb dX0_isStepRipe_44 rfl (lv_at hl 0 rfl) ?_
        refine gf (q0 := 0) hx hb hts hown hK flX0_isStepRipe_14 hP rfl rfl dX0_isStepRipe_45 ?_
        refine lv_iload_n hx hb dX0_isStepRipe_48 rfl (lv_at hl 2 rfl) ?_
        refine lv_iconst (v := 1) hx hb dX0_isStepRipe_49 (by decide) ?_
        obtain ⟨v10, h_11, hm⟩ := b1_s hm
        refine rd_v hcf (kX3_get h_11) (cwX0_isStepRipe_X3_get hts) hK hP sB_s (ci := 3) (q0 := 1) rfl rfl rfl hl.1 rfl (Nat.le_of_ble_eq_true rfl) dX0_isStepRipe_50 ⟨Nat.zero_le _, Nat.zero_le _⟩ ?_
        refine lv_icmp_lt (tgt := 60) hx hb dX0_isStepRipe_53 (by decide) (fun c_12 => ?_) (fun c_12 => ?_)
        · replace hm := br_p hm c_12
          refine lv_iconst (v := 0) hx hb dX0_isStepRipe_60 (by decide) ?_
          cases hm
          exact hret _ _ dX0_isStepRipe_61 rfl
        · replace hm := br_n hm c_12
          refine lv_iconst (v := 1) hx hb dX0_isStepRipe_56 (by decide) ?_
          refine lv_goto (tgt := 61) hx hb dX0_isStepRipe_57 (by decide) ?_
          cases hm
          exact hret _ _ dX0_isStepRipe_61 rfl
    · replace hm := br_n hm c_6
      refine lv_iconst (v := 0) hx hb dX0_isStepRipe_24 (by decide) ?_
      cases hm
      exact hret _ _ dX0_isStepRipe_25 rfl
end
