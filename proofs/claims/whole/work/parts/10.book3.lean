section
variable {p : Program} {l : Launch} {e : Env} {s : State} {m : MethodId} {args : Array Value} {below : List Frame} {meth : Method} {c : Code} {Q : State → Prop} {A : Nat → Prop} {D : va_G} {cI cB cL cK : ClassId}
/-! X0 doStep(I)Z -/
abbrev rmX0_doStep : Room := { frames := 4, cells := 0, slots := 0, locals := 93 }
theorem hdX0_doStep : yX0_doStep.cls = RX0 ∧ yX0_doStep.cls ≠ "java/lang/invoke/MethodHandle" ∧ yX0_doStep.cls ≠ "java/lang/invoke/VarHandle" ∧ (parseMethodDescriptor yX0_doStep.desc).map (fun d => d.parameters.length) = some 1 := by decide +kernel
theorem inX0_doStep_X0 : ∀ w ∈ u_ws RX0 TX0 7, w ∈ wsX0_doStep := by decide +kernel
theorem cwX0_doStep_X0_addInvoice {s : State} {args : Array Value} (hts : ∀ w ∈ wsX0_doStep, w.before args s = true) : CallW rmX0_doStep s args RX0 RX0 62 yX0_addInvoice cX0_addInvoice 6 (some .int) wsX0_addInvoice rmX0_addInvoice 0 0 4 := cwV 4 hts gX0_doStep_X0_addInvoice rfl rfl rfl hdX0_addInvoice ⟨Nat.le_of_ble_eq_true rfl, Nat.le_of_ble_eq_true rfl⟩
theorem cwX0_doStep_X0_greatestAge {s : State} {args : Array Value} (hts : ∀ w ∈ wsX0_doStep, w.before args s = true) : CallW rmX0_doStep s args RX0 RX0 134 yX0_greatestAge cX0_greatestAge 4 (some .int) wsX0_greatestAge rmX0_greatestAge 0 0 1 := cwV 1 hts gX0_doStep_X0_greatestAge rfl rfl rfl hdX0_greatestAge ⟨Nat.le_of_ble_eq_true rfl, Nat.le_of_ble_eq_true rfl⟩
theorem cwX0_doStep_X0_hasAgreement {s : State} {args : Array Value} (hts : ∀ w ∈ wsX0_doStep, w.before args s = true) : CallW rmX0_doStep s args RX0 RX0 128 yX0_hasAgreement cX0_hasAgreement 2 (some .boolean) wsX0_hasAgreement rmX0_hasAgreement 0 0 1 := cwV 1 hts gX0_doStep_X0_hasAgreement rfl rfl rfl hdX0_hasAgreement ⟨Nat.le_of_ble_eq_true rfl, Nat.le_of_ble_eq_true rfl⟩
theorem cwX0_doStep_X0_isAtCourt {s : State} {args : Array Value} (hts : ∀ w ∈ wsX0_doStep, w.before args s = true) : CallW rmX0_doStep s args RX0 RX0 137 yX0_isAtCourt cX0_isAtCourt 2 (some .boolean) wsX0_isAtCourt rmX0_isAtCourt 0 0 1 := cwV 1 hts gX0_doStep_X0_isAtCourt rfl rfl rfl hdX0_isAtCourt ⟨Nat.le_of_ble_eq_true rfl, Nat.le_of_ble_eq_true rfl⟩
theorem cwX0_doStep_X0_isStepRipe {s : State} {args : Array Value} (hts : ∀ w ∈ wsX0_doStep, w.before args s = true) : CallW rmX0_doStep s args RX0 RX0 140 yX0_isStepRipe cX0_isStepRipe 4 (some .boolean) wsX0_isStepRipe rmX0_isStepRipe 0 0 3 := cwV 3 hts gX0_doStep_X0_isStepRipe rfl rfl rfl hdX0_isStepRipe ⟨Nat.le_of_ble_eq_true rfl, Nat.le_of_ble_eq_true rfl⟩
theorem cwX0_doStep_X0_placeCash {s : State} {args : Array Value} (hts : ∀ w ∈ wsX0_doStep, w.before args s = true) : CallW rmX0_doStep s args RX0 RX0 66 yX0_placeCash cX0_placeCash 6 none wsX0_placeCash rmX0_placeCash 0 0 1 := cwV 1 hts gX0_doStep_X0_placeCash rfl rfl rfl hdX0_placeCash ⟨Nat.le_of_ble_eq_true rfl, Nat.le_of_ble_eq_true rfl⟩
theorem cwX0_doStep_X3_get {s : State} {args : Array Value} (hts : ∀ w ∈ wsX0_doStep, w.before args s = true) : CallW rmX0_doStep s args RX0 RX3 58 yX3_get cX3_get 4 (some .int) wsX3_get rmX3_get 0 0 2 := cwV 2 hts gX0_doStep_X3_get rfl rfl rfl hdX3_get ⟨Nat.le_of_ble_eq_true rfl, Nat.le_of_ble_eq_true rfl⟩
theorem cwX0_doStep_X3_isFull {s : State} {args : Array Value} (hts : ∀ w ∈ wsX0_doStep, w.before args s = true) : CallW rmX0_doStep s args RX0 RX3 144 yX3_isFull cX3_isFull 1 (some .boolean) wsX3_isFull rmX3_isFull 0 0 0 := cwV 0 hts gX0_doStep_X3_isFull rfl rfl rfl hdX3_isFull ⟨Nat.le_of_ble_eq_true rfl, Nat.le_of_ble_eq_true rfl⟩
theorem cwX0_doStep_X3_set {s : State} {args : Array Value} (hts : ∀ w ∈ wsX0_doStep, w.before args s = true) : CallW rmX0_doStep s args RX0 RX3 50 yX3_set cX3_set 5 none wsX3_set rmX3_set 0 0 3 := cwV 3 hts gX0_doStep_X3_set rfl rfl rfl hdX3_set ⟨Nat.le_of_ble_eq_true rfl, Nat.le_of_ble_eq_true rfl⟩
theorem flX0_doStep_14 : Fl wsX0_doStep RX0 14 0 0 := ⟨_, _, _, rfl, by decide, inX0_doStep_X0, by decide +kernel⟩
theorem flX0_doStep_20 : Fl wsX0_doStep RX0 20 0 1 := ⟨_, _, _, rfl, by decide, inX0_doStep_X0, by decide +kernel⟩
theorem flX0_doStep_23 : Fl wsX0_doStep RX0 23 0 2 := ⟨_, _, _, rfl, by decide, inX0_doStep_X0, by decide +kernel⟩
theorem flX0_doStep_36 : Fl wsX0_doStep RX0 36 0 5 := ⟨_, _, _, rfl, by decide, inX0_doStep_X0, by decide +kernel⟩
set_option maxRecDepth 100000 in
set_option maxHeartbeats 4000000 in
theorem kX0_doStep {l : Launch} {D : va_G} {cI cB cL cK : ClassId} {ad : Nat → Nat} {ho : Int32} {td : Int32} {pd : Int32} {sr : Int32} {dr : Int32} {ir : Int32} {qr : Int32} {sf : Nat → Int32} {df : Nat → Int32} {jf : Nat → Int32} {qf : Nat → Int32} {p1 : Int32} {res : Int32} {ir' : Int32} {df' : Nat → Int32} {jf' : Nat → Int32} (hm : mX0_doStep td sr dr ir sf df jf p1 = some (res, ir', df', jf')) : Mu l D cI cB cL cK yX0_doStep wsX0_doStep rmX0_doStep [.ref (ad 0), .int p1] (wB cI ad ho td pd sr dr ir qr sf df jf qf) (wB cI ad ho td pd sr dr ir' qr sf df' jf' qf) (some (.int res)) 0 0 := by
  refine Mu.ofi (cc := cX0_doStep) (own := RX0) (by decide) rfl rfl (Nat.le_of_ble_eq_true rfl) (fun p e s m below meth c ls Q A C hA hP hD hS hl hret => ?_)
  obtain ⟨hx, hb, hr, hml, hown, hts, hlk, hK⟩ := id C
  have hcf : CallFix p m c cX0_doStep 5 s _ wsX0_doStep RX0 := ⟨hx, hb, hml, hown, hts⟩
  have hl : lv_has ls 5 [(0, .ref (ad 0)), (1, .int p1)] := hl
  unfold mX0_doStep at hm
  refine lv_aload_n hx hb dX0_doStep_0 rfl (lv_at hl 0 rfl) ?_
  refine lv_iload_n hx hb dX0_doStep_1 rfl (lv_at hl 1 rfl) ?_
  obtain ⟨v1, h_2, hm⟩ := b1_s hm
  refine rd_v hcf (kX0_greatestAge h_2) (cwX0_doStep_X0_greatestAge hts) hK hP Sb.rf (ci := 0) (q0 := 0) rfl rfl rfl hl.1 rfl (Nat.le_of_ble_eq_true rfl) dX0_doStep_2 ⟨Nat.zero_le _, Nat.zero_le _⟩ ?_
  refine lv_istore_n (lv' := [(2, .int v1), (0, .ref (ad 0)), (1, .int p1)]) hx hb dX0_doStep_5 rfl hl (by decide) rfl (fun ls hl => ?_)
  refine lv_iload_n hx hb dX0_doStep_6 rfl (lv_at hl 0 rfl) ?_
  refine lv_if_ne (tgt := 30) hx hb dX0_doStep_7 (by decide) (fun c_3 => ?_) (fun c_3 => ?_)
  · replace hm := br_n hm c_3
    refine lv_aload_n hx hb dX0_doStep_30 rfl (lv_at hl 1 rfl) ?_
    refine gf (q0 := 0) hx hb hts hown hK flX0_doStep_20 hP rfl rfl dX0_doStep_31 ?_
    refine lv_iload_n hx hb dX0_doStep_34 rfl (lv_at hl 2 rfl) ?_
    refine lv_iconst (v := 3) hx hb dX0_doStep_35 (by decide) ?_
    obtain ⟨v4, h_5, hm⟩ := b1_s hm
    refine rd_v hcf (kX3_get h_5) (cwX0_doStep_X3_get hts) hK hP sB_d (ci := 3) (q0 := 3) rfl rfl rfl hl.1 rfl (Nat.le_of_ble_eq_true rfl) dX0_doStep_36 ⟨Nat.zero_le _, Nat.zero_le _⟩ ?_
    refine lv_istore_n (lv' := [(3, .int v4), (2, .int v1), (0, .ref (ad 0)), (1, .int p1)]) hx hb dX0_doStep_39 rfl hl (by decide) rfl (fun ls hl => ?_)
    refine lv_aload_n hx hb dX0_doStep_40 rfl (lv_at hl 2 rfl) ?_
    refine lv_iload_n hx hb dX0_doStep_41 rfl (lv_at hl 3 rfl) ?_
    obtain ⟨v6, h_7, hm⟩ := b1_s hm
    refine rd_v hcf (kX0_hasAgreement h_7) (cwX0_doStep_X0_hasAgreement hts) hK hP Sb.rf (ci := 0) (q0 := 0) rfl rfl rfl hl.1 rfl (Nat.le_of_ble_eq_true rfl) dX0_doStep_42 ⟨Nat.zero_le _, Nat.zero_le _⟩ ?_
    refine lv_if_ne (tgt := 58) hx hb dX0_doStep_45 (by decide) (fun c_8 => ?_) (fun c_8 => ?_)
    · replace hm := br_n hm c_8
      refine lv_iconst (v := 0) hx hb dX0_doStep_58 (by decide) ?_
      cases hm
      exact hret _ _ _ _ dX0_doStep_59 rfl hP hD hS
    · replace hm := br_p hm c_8
      refine lv_aload_n hx hb dX0_doStep_48 rfl (lv_at hl 2 rfl) ?_
      refine lv_iload_n hx hb dX0_doStep_49 rfl (lv_at hl 3 rfl) ?_
      refine lv_iload_n hx hb dX0_doStep_50 rfl (lv_at hl 0 rfl) ?_
      refine lv_iload_n hx hb dX0_doStep_51 rfl (lv_at hl 1 rfl) ?_
      obtain ⟨v9, h_10, hm⟩ := b1_s hm
      refine rd_v hcf (kX0_isStepRipe h_10) (cwX0_doStep_X0_isStepRipe hts) hK hP Sb.rf (ci := 0) (q0 := 0) rfl rfl rfl hl.1 rfl (Nat.le_of_ble_eq_true rfl) dX0_doStep_52 ⟨Nat.zero_le _, Nat.zero_le _⟩ ?_
      refine lv_if_ne (tgt := 60) hx hb dX0_doStep_55 (by decide) (fun c_11 => ?_) (fun c_11 => ?_)
      · replace hm := br_n hm c_11
        refine lv_aload_n hx hb dX0_doStep_60 rfl (lv_at hl 2 rfl) ?_
        refine gf (q0 := 0) hx hb hts hown hK flX0_doStep_20 hP rfl rfl dX0_doStep_61 ?_
        refine lv_iload_n hx hb dX0_doStep_64 rfl (lv_at hl 3 rfl) ?_
        refine lv_iconst (v := 3) hx hb dX0_doStep_65 (by decide) ?_
        refine lv_iload_n hx hb dX0_doStep_66 rfl (lv_at hl 0 rfl) ?_
        refine lv_iconst (v := 1) hx hb dX0_doStep_67 (by decide) ?_
        refine lv_iadd hx hb dX0_doStep_68 ?_
        obtain ⟨df12, h_13, hm⟩ := b1_s hm
        refine mu_vv hcf (kX3_set h_13) (cwX0_doStep_X3_set hts) hK hP hD hS hA jB_d (ci := 3) (q0 := 3) rfl rfl rfl hl.1 rfl (Nat.le_of_ble_eq_true rfl) dX0_doStep_69 ⟨Nat.zero_le _, Nat.zero_le _⟩ (fun H locs hP hD hS => ?_)
        refine lv_aload_n hx hb dX0_doStep_72 rfl (lv_at hl 2 rfl) ?_
        refine gf (q0 := 0) hx hb hts hown hK flX0_doStep_20 hP rfl rfl dX0_doStep_73 ?_
        refine lv_iload_n hx hb dX0_doStep_76 rfl (lv_at hl 3 rfl) ?_
        refine lv_iconst (v := 4) hx hb dX0_doStep_77 (by decide) ?_
        refine lv_aload_n hx hb dX0_doStep_78 rfl (lv_at hl 2 rfl) ?_
        refine gf (q0 := 0) hx hb hts hown hK flX0_doStep_36 hP rfl rfl dX0_doStep_79 ?_
        obtain ⟨df14, h_15, hm⟩ := b1_s hm
        refine mu_vv hcf (kX3_set h_15) (cwX0_doStep_X3_set hts) hK hP hD hS hA jB_d (ci := 3) (q0 := 3) rfl rfl rfl hl.1 rfl (Nat.le_of_ble_eq_true rfl) dX0_doStep_82 ⟨Nat.zero_le _, Nat.zero_le _⟩ (fun H locs hP hD hS => ?_)
        refine lv_aload_n hx hb dX0_doStep_85 rfl (lv_at hl 2 rfl) ?_
        refine gf (q0 := 0) hx hb hts hown hK flX0_doStep_14 hP rfl rfl dX0_doStep_86 ?_
        refine lv_iload_n hx hb dX0_doStep_89 rfl (lv_at hl 0 rfl) ?_
        refine lv_iconst (v := 2) hx hb dX0_doStep_90 (by decide) ?_
        obtain ⟨v16, h_17, hm⟩ := b1_s hm
        refine rd_v hcf (kX3_get h_17) (cwX0_doStep_X3_get hts) hK hP sB_s (ci := 3) (q0 := 1) rfl rfl rfl hl.1 rfl (Nat.le_of_ble_eq_true rfl) dX0_doStep_91 ⟨Nat.zero_le _, Nat.zero_le _⟩ ?_
        refine lv_istore (lv' := [(4, .int v16), (3, .int v4), (2, .int v1), (0, .ref (ad 0)), (1, .int p1)]) hx hb dX0_doStep_94 hl (by decide) rfl (fun ls hl => ?_)
        refine lv_iload hx hb dX0_doStep_96 (lv_at hl 0 rfl) ?_
        refine lv_if_le (tgt := 129) hx hb dX0_doStep_98 (by decide) (fun c_18 => ?_) (fun c_18 => ?_)
        · replace hm := br_p hm c_18
          refine lv_iconst (v := 1) hx hb dX0_doStep_129 (by decide) ?_
          cases hm
          exact hret _ _ _ _ dX0_doStep_130 rfl hP hD hS
        · replace hm := br_n hm c_18
          refine lv_aload_n hx hb dX0_doStep_101 rfl (lv_at hl 3 rfl) ?_
          refine gf (q0 := 0) hx hb hts hown hK flX0_doStep_23 hP rfl rfl dX0_doStep_102 ?_
          obtain ⟨v19, h_20, hm⟩ := b1_s hm
          refine rd_v hcf (kX3_isFull h_20) (cwX0_doStep_X3_isFull hts) hK hP sB_j (ci := 3) (q0 := 5) rfl rfl rfl hl.1 rfl (Nat.le_of_ble_eq_true rfl) dX0_doStep_105 ⟨Nat.zero_le _, Nat.zero_le _⟩ ?_
          refine lv_if_ne (tgt := 129) hx hb dX0_doStep_108 (by decide) (fun c_21 => ?_) (fun c_21 => ?_)
          · replace hm := br_n hm c_21
            refine lv_iconst (v := 1) hx hb dX0_doStep_129 (by decide) ?_
            cases hm
            exact hret _ _ _ _ dX0_doStep_130 rfl hP hD hS
          · replace hm := br_p hm c_21
            refine lv_aload_n hx hb dX0_doStep_111 rfl (lv_at hl 3 rfl) ?_
            refine lv_iload_n hx hb dX0_doStep_112 rfl (lv_at hl 4 rfl) ?_
            refine lv_iload hx hb dX0_doStep_113 (lv_at hl 0 rfl) ?_
            refine lv_aload_n hx hb dX0_doStep_115 rfl (lv_at hl 3 rfl) ?_
            refine gf (q0 := 0) hx hb hts hown hK flX0_doStep_36 hP rfl rfl dX0_doStep_116 ?_
            refine lv_iconst (v := 1) hx hb dX0_doStep_119 (by decide) ?_
            obtain ⟨v22, ir23, jf24, h_25, hm⟩ := b3_s hm
            refine mu_vi hcf (kX0_addInvoice h_25) (cwX0_doStep_X0_addInvoice hts) hK hP hD hS hA Jn.rf (ci := 0) (q0 := 0) rfl rfl rfl hl.1 rfl (Nat.le_of_ble_eq_true rfl) dX0_doStep_120 ⟨Nat.zero_le _, Nat.zero_le _⟩ (fun H locs hP hD hS => ?_)
            refine lv_pop hx hb dX0_doStep_123 rfl ?_
            refine lv_aload_n hx hb dX0_doStep_124 rfl (lv_at hl 3 rfl) ?_
            refine lv_iload_n hx hb dX0_doStep_125 rfl (lv_at hl 4 rfl) ?_
            obtain ⟨df26, jf27, h_28, hm⟩ := b2_s hm
            refine mu_vv hcf (kX0_placeCash h_28) (cwX0_doStep_X0_placeCash hts) hK hP hD hS hA Jn.rf (ci := 0) (q0 := 0) rfl rfl rfl hl.1 rfl (Nat.le_of_ble_eq_true rfl) dX0_doStep_126 ⟨Nat.zero_le _, Nat.zero_le _⟩ (fun H locs hP hD hS => ?_)
            refine lv_iconst (v := 1) hx hb dX0_doStep_129 (by decide) ?_
            cases hm
            exact hret _ _ _ _ dX0_doStep_130 rfl hP hD hS
      · replace hm := br_p hm c_11
        refine lv_iconst (v := 0) hx hb dX0_doStep_58 (by decide) ?_
        cases hm
        exact hret _ _ _ _ dX0_doStep_59 rfl hP hD hS
  · replace hm := br_p hm c_3
    refine lv_aload_n hx hb dX0_doStep_10 rfl (lv_at hl 1 rfl) ?_
    refine lv_iload_n hx hb dX0_doStep_11 rfl (lv_at hl 2 rfl) ?_
    obtain ⟨v29, h_30, hm⟩ := b1_s hm
    refine rd_v hcf (kX0_isAtCourt h_30) (cwX0_doStep_X0_isAtCourt hts) hK hP Sb.rf (ci := 0) (q0 := 0) rfl rfl rfl hl.1 rfl (Nat.le_of_ble_eq_true rfl) dX0_doStep_12 ⟨Nat.zero_le _, Nat.zero_le _⟩ ?_
    refine lv_if_ne (tgt := 28) hx hb dX0_doStep_15 (by decide) (fun c_31 => ?_) (fun c_31 => ?_)
    · replace hm := br_n hm c_31
      refine lv_iconst (v := 0) hx hb dX0_doStep_28 (by decide) ?_
      cases hm
      exact hret _ _ _ _ dX0_doStep_29 rfl hP hD hS
    · replace hm := br_p hm c_31
      refine lv_aload_n hx hb dX0_doStep_18 rfl (lv_at hl 1 rfl) ?_
      refine gf (q0 := 0) hx hb hts hown hK flX0_doStep_20 hP rfl rfl dX0_doStep_19 ?_
      refine lv_iload_n hx hb dX0_doStep_22 rfl (lv_at hl 2 rfl) ?_
      refine lv_iconst (v := 3) hx hb dX0_doStep_23 (by decide) ?_
      refine lv_iconst (v := 0) hx hb dX0_doStep_24 (by decide) ?_
      obtain ⟨df32, h_33, hm⟩ := b1_s hm
      refine mu_vv hcf (kX3_set h_33) (cwX0_doStep_X3_set hts) hK hP hD hS hA jB_d (ci := 3) (q0 := 3) rfl rfl rfl hl.1 rfl (Nat.le_of_ble_eq_true rfl) dX0_doStep_25 ⟨Nat.zero_le _, Nat.zero_le _⟩ (fun H locs hP hD hS => ?_)
      refine lv_iconst (v := 0) hx hb dX0_doStep_28 (by decide) ?_
      cases hm
      exact hret _ _ _ _ dX0_doStep_29 rfl hP hD hS
/-! X0 endDay()V -/
abbrev rmX0_endDay : Room := { frames := 5, cells := 0, slots := 0, locals := 117 }
theorem hdX0_endDay : yX0_endDay.cls = RX0 ∧ yX0_endDay.cls ≠ "java/lang/invoke/MethodHandle" ∧ yX0_endDay.cls ≠ "java/lang/invoke/VarHandle" ∧ (parseMethodDescriptor yX0_endDay.desc).map (fun d => d.parameters.length) = some 0 := by decide +kernel
theorem inX0_endDay_X0 : ∀ w ∈ u_ws RX0 TX0 7, w ∈ wsX0_endDay := by decide +kernel
theorem cwX0_endDay_X0_ageInvoices {s : State} {args : Array Value} (hts : ∀ w ∈ wsX0_endDay, w.before args s = true) : CallW rmX0_endDay s args RX0 RX0 119 yX0_ageInvoices cX0_ageInvoices 3 none wsX0_ageInvoices rmX0_ageInvoices 0 0 0 := cwV 0 hts gX0_endDay_X0_ageInvoices rfl rfl rfl hdX0_ageInvoices ⟨Nat.le_of_ble_eq_true rfl, Nat.le_of_ble_eq_true rfl⟩
theorem cwX0_endDay_X0_closeAgreement {s : State} {args : Array Value} (hts : ∀ w ∈ wsX0_endDay, w.before args s = true) : CallW rmX0_endDay s args RX0 RX0 122 yX0_closeAgreement cX0_closeAgreement 2 none wsX0_closeAgreement rmX0_closeAgreement 0 0 1 := cwV 1 hts gX0_endDay_X0_closeAgreement rfl rfl rfl hdX0_closeAgreement ⟨Nat.le_of_ble_eq_true rfl, Nat.le_of_ble_eq_true rfl⟩
theorem cwX0_endDay_X0_doStep {s : State} {args : Array Value} (hts : ∀ w ∈ wsX0_endDay, w.before args s = true) : CallW rmX0_endDay s args RX0 RX0 125 yX0_doStep cX0_doStep 5 (some .boolean) wsX0_doStep rmX0_doStep 0 0 1 := cwV 1 hts gX0_endDay_X0_doStep rfl rfl rfl hdX0_doStep ⟨Nat.le_of_ble_eq_true rfl, Nat.le_of_ble_eq_true rfl⟩
theorem cwX0_endDay_X0_release {s : State} {args : Array Value} (hts : ∀ w ∈ wsX0_endDay, w.before args s = true) : CallW rmX0_endDay s args RX0 RX0 54 yX0_release cX0_release 4 (some .int) wsX0_release rmX0_release 0 0 1 := cwV 1 hts gX0_endDay_X0_release rfl rfl rfl hdX0_release ⟨Nat.le_of_ble_eq_true rfl, Nat.le_of_ble_eq_true rfl⟩
theorem cwX0_endDay_X3_size {s : State} {args : Array Value} (hts : ∀ w ∈ wsX0_endDay, w.before args s = true) : CallW rmX0_endDay s args RX0 RX3 83 yX3_size cX3_size 1 (some .int) wsX3_size rmX3_size 0 0 0 := cwV 0 hts gX0_endDay_X3_size rfl rfl rfl hdX3_size ⟨Nat.le_of_ble_eq_true rfl, Nat.le_of_ble_eq_true rfl⟩
theorem flX0_endDay_20 : Fl wsX0_endDay RX0 20 0 1 := ⟨_, _, _, rfl, by decide, inX0_endDay_X0, by decide +kernel⟩
theorem flX0_endDay_36 : Fl wsX0_endDay RX0 36 0 5 := ⟨_, _, _, rfl, by decide, inX0_endDay_X0, by decide +kernel⟩
theorem fpX0_endDay_36 : Fp wsX0_endDay RX0 36 0 5 false .int := ⟨_, _, _, tyX0, rfl, by decide, inX0_endDay_X0, by decide +kernel, tyX0_ok, nmX0, rfl, rfl, by decide +kernel⟩
set_option maxRecDepth 100000 in
set_option maxHeartbeats 4000000 in
theorem tX0_endDay_L65 {ad : Nat → Nat} {ho : Int32} {pd : Int32} {sr : Int32} {dr : Int32} {qr : Int32} {sf : Nat → Int32} {td' : Int32} {ir' : Int32} {df' : Nat → Int32} {jf' : Nat → Int32} {qf' : Nat → Int32} (C : Cx p s m args meth c cX0_endDay none 2 wsX0_endDay RX0 D cI cB cL cK) (hA : ∀ q : Nat, s.heap.size ≤ q → A q) (hret : ∀ (pc : Nat) (ls : Array Slot) (H : Heap) (locs : List Loc), decode cX0_endDay pc = .ok (.return_, 1) → va_P D vwCl (wB cI ad ho td' pd sr dr ir' qr sf df' jf' qf') H → va_D A (wB cI ad ho td' pd sr dr ir' qr sf df' jf' qf') → va_S A s.heap H locs → W p l e rmX0_endDay s m args below meth c H locs 0 0 Q (F0 m pc ls [])) : ∀ (n9 : Nat) (x1 : Int32) (td : Int32) (ir : Int32) (df : Nat → Int32) (jf : Nat → Int32) (qf : Nat → Int32), mX0_endDay_L65 n9 ho sr dr qr sf x1 td ir df jf qf = some (td', ir', df', jf', qf') → ∀ (H : Heap) (locs : List Loc) (ls : Array Slot), va_P D vwCl (wB cI ad ho td pd sr dr ir qr sf df jf qf) H → va_D A (wB cI ad ho td pd sr dr ir qr sf df jf qf) → va_S A s.heap H locs → lv_has ls 2 [(0, .ref (ad 0)), (1, .int x1)] → W p l e rmX0_endDay s m args below meth c H locs 0 0 Q (F0 m 65 ls []) := by
  obtain ⟨hx, hb, hr, hml, hown, hts, hlk, hK⟩ := id C
  have hcf : CallFix p m c cX0_endDay 2 s args wsX0_endDay RX0 := ⟨hx, hb, hml, hown, hts⟩
  intro n9
  induction n9 with
  | zero => intro x1 td ir df jf qf hm; cases hm
  | succ k ih =>
    intro x1 td ir df jf qf hm H locs ls hP hD hS hl
    rw [mX0_endDay_L65.eq_2] at hm
    refine lv_iload_n hx hb dX0_endDay_65 rfl (lv_at hl 1 rfl) ?_
    refine lv_aload_n hx hb dX0_endDay_66 rfl (lv_at hl 0 rfl) ?_
    refine gf (q0 := 0) hx hb hts hown hK flX0_endDay_20 hP rfl rfl dX0_endDay_67 ?_
    obtain ⟨v16, h_17, hm⟩ := b1_s hm
    refine rd_v hcf (kX3_size h_17) (cwX0_endDay_X3_size hts) hK hP sB_d (ci := 3) (q0 := 3) rfl rfl rfl hl.1 rfl (Nat.le_of_ble_eq_true rfl) dX0_endDay_70 ⟨Nat.zero_le _, Nat.zero_le _⟩ ?_
    refine lv_icmp_ge (tgt := 88) hx hb dX0_endDay_73 (by decide) (fun c_18 => ?_) (fun c_18 => ?_)
    · replace hm := br_p hm c_18
      cases hm
      exact hret _ _ _ _ dX0_endDay_88 hP hD hS
    · replace hm := br_n hm c_18
      refine lv_aload_n hx hb dX0_endDay_76 rfl (lv_at hl 0 rfl) ?_
      refine lv_iload_n hx hb dX0_endDay_77 rfl (lv_at hl 1 rfl) ?_
      obtain ⟨v19, qf20, h_21, hm⟩ := b2_s hm
      refine mu_vi hcf (kX0_release h_21) (cwX0_endDay_X0_release hts) hK hP hD hS hA Jn.rf (ci := 0) (q0 := 0) rfl rfl rfl hl.1 rfl (Nat.le_of_ble_eq_true rfl) dX0_endDay_78 ⟨Nat.zero_le _, Nat.zero_le _⟩ (fun H locs hP hD hS => ?_)
      refine lv_pop hx hb dX0_endDay_81 rfl ?_
      refine lv_iinc (v := (x1 + 1)) (lv' := [(1, .int (x1 + 1)), (0, .ref (ad 0))]) hx hb dX0_endDay_82 hl (k := 1) rfl rfl (by decide) rfl (fun ls hl => ?_)
      refine lv_goto (tgt := 65) hx hb dX0_endDay_85 (by decide) ?_
      exact ih _ _ _ _ _ _ hm _ _ _ hP hD hS (lv_sub hl [1, 0] rfl)
set_option maxRecDepth 100000 in
set_option maxHeartbeats 4000000 in
theorem tX0_endDay_L40 {ad : Nat → Nat} {ho : Int32} {pd : Int32} {sr : Int32} {dr : Int32} {qr : Int32} {sf : Nat → Int32} {td' : Int32} {ir' : Int32} {df' : Nat → Int32} {jf' : Nat → Int32} {qf' : Nat → Int32} (C : Cx p s m args meth c cX0_endDay none 2 wsX0_endDay RX0 D cI cB cL cK) (hA : ∀ q : Nat, s.heap.size ≤ q → A q) (hret : ∀ (pc : Nat) (ls : Array Slot) (H : Heap) (locs : List Loc), decode cX0_endDay pc = .ok (.return_, 1) → va_P D vwCl (wB cI ad ho td' pd sr dr ir' qr sf df' jf' qf') H → va_D A (wB cI ad ho td' pd sr dr ir' qr sf df' jf' qf') → va_S A s.heap H locs → W p l e rmX0_endDay s m args below meth c H locs 0 0 Q (F0 m pc ls [])) : ∀ (n9 : Nat) (x1 : Int32) (td : Int32) (ir : Int32) (df : Nat → Int32) (jf : Nat → Int32) (qf : Nat → Int32), mX0_endDay_L40 n9 ho sr dr qr sf x1 td ir df jf qf = some (td', ir', df', jf', qf') → ∀ (H : Heap) (locs : List Loc) (ls : Array Slot), va_P D vwCl (wB cI ad ho td pd sr dr ir qr sf df jf qf) H → va_D A (wB cI ad ho td pd sr dr ir qr sf df jf qf) → va_S A s.heap H locs → lv_has ls 2 [(0, .ref (ad 0)), (1, .int x1)] → W p l e rmX0_endDay s m args below meth c H locs 0 0 Q (F0 m 40 ls []) := by
  obtain ⟨hx, hb, hr, hml, hown, hts, hlk, hK⟩ := id C
  have hcf : CallFix p m c cX0_endDay 2 s args wsX0_endDay RX0 := ⟨hx, hb, hml, hown, hts⟩
  intro n9
  induction n9 with
  | zero => intro x1 td ir df jf qf hm; cases hm
  | succ k ih =>
    intro x1 td ir df jf qf hm H locs ls hP hD hS hl
    rw [mX0_endDay_L40.eq_2] at hm
    refine lv_iload_n hx hb dX0_endDay_40 rfl (lv_at hl 1 rfl) ?_
    refine lv_aload_n hx hb dX0_endDay_41 rfl (lv_at hl 0 rfl) ?_
    refine gf (q0 := 0) hx hb hts hown hK flX0_endDay_20 hP rfl rfl dX0_endDay_42 ?_
    obtain ⟨v8, h_9, hm⟩ := b1_s hm
    refine rd_v hcf (kX3_size h_9) (cwX0_endDay_X3_size hts) hK hP sB_d (ci := 3) (q0 := 3) rfl rfl rfl hl.1 rfl (Nat.le_of_ble_eq_true rfl) dX0_endDay_45 ⟨Nat.zero_le _, Nat.zero_le _⟩ ?_
    refine lv_icmp_ge (tgt := 63) hx hb dX0_endDay_48 (by decide) (fun c_10 => ?_) (fun c_10 => ?_)
    · replace hm := br_p hm c_10
      refine lv_iconst (v := 0) hx hb dX0_endDay_63 (by decide) ?_
      refine lv_istore_n (lv' := [(1, .int 0), (0, .ref (ad 0))]) hx hb dX0_endDay_64 rfl hl (by decide) rfl (fun ls hl => ?_)
      exact tX0_endDay_L65 C hA hret _ _ _ _ _ _ _ hm _ _ _ hP hD hS (lv_sub hl [1, 0] rfl)
    · replace hm := br_n hm c_10
      refine lv_aload_n hx hb dX0_endDay_51 rfl (lv_at hl 0 rfl) ?_
      refine lv_iload_n hx hb dX0_endDay_52 rfl (lv_at hl 1 rfl) ?_
      obtain ⟨v11, ir12, df13, jf14, h_15, hm⟩ := b4_s hm
      refine mu_vi hcf (kX0_doStep h_15) (cwX0_endDay_X0_doStep hts) hK hP hD hS hA Jn.rf (ci := 0) (q0 := 0) rfl rfl rfl hl.1 rfl (Nat.le_of_ble_eq_true rfl) dX0_endDay_53 ⟨Nat.zero_le _, Nat.zero_le _⟩ (fun H locs hP hD hS => ?_)
      refine lv_pop hx hb dX0_endDay_56 rfl ?_
      refine lv_iinc (v := (x1 + 1)) (lv' := [(1, .int (x1 + 1)), (0, .ref (ad 0))]) hx hb dX0_endDay_57 hl (k := 1) rfl rfl (by decide) rfl (fun ls hl => ?_)
      refine lv_goto (tgt := 40) hx hb dX0_endDay_60 (by decide) ?_
      exact ih _ _ _ _ _ _ hm _ _ _ hP hD hS (lv_sub hl [1, 0] rfl)
set_option maxRecDepth 100000 in
set_option maxHeartbeats 4000000 in
theorem tX0_endDay_L6 {ad : Nat → Nat} {ho : Int32} {pd : Int32} {sr : Int32} {dr : Int32} {qr : Int32} {sf : Nat → Int32} {td' : Int32} {ir' : Int32} {df' : Nat → Int32} {jf' : Nat → Int32} {qf' : Nat → Int32} (C : Cx p s m args meth c cX0_endDay none 2 wsX0_endDay RX0 D cI cB cL cK) (hA : ∀ q : Nat, s.heap.size ≤ q → A q) (hret : ∀ (pc : Nat) (ls : Array Slot) (H : Heap) (locs : List Loc), decode cX0_endDay pc = .ok (.return_, 1) → va_P D vwCl (wB cI ad ho td' pd sr dr ir' qr sf df' jf' qf') H → va_D A (wB cI ad ho td' pd sr dr ir' qr sf df' jf' qf') → va_S A s.heap H locs → W p l e rmX0_endDay s m args below meth c H locs 0 0 Q (F0 m pc ls [])) : ∀ (n9 : Nat) (x1 : Int32) (td : Int32) (ir : Int32) (df : Nat → Int32) (jf : Nat → Int32) (qf : Nat → Int32), mX0_endDay_L6 n9 ho sr dr qr sf x1 td ir df jf qf = some (td', ir', df', jf', qf') → ∀ (H : Heap) (locs : List Loc) (ls : Array Slot), va_P D vwCl (wB cI ad ho td pd sr dr ir qr sf df jf qf) H → va_D A (wB cI ad ho td pd sr dr ir qr sf df jf qf) → va_S A s.heap H locs → lv_has ls 2 [(0, .ref (ad 0)), (1, .int x1)] → W p l e rmX0_endDay s m args below meth c H locs 0 0 Q (F0 m 6 ls []) := by
  obtain ⟨hx, hb, hr, hml, hown, hts, hlk, hK⟩ := id C
  have hcf : CallFix p m c cX0_endDay 2 s args wsX0_endDay RX0 := ⟨hx, hb, hml, hown, hts⟩
  intro n9
  induction n9 with
  | zero => intro x1 td ir df jf qf hm; cases hm
  | succ k ih =>
    intro x1 td ir df jf qf hm H locs ls hP hD hS hl
    rw [mX0_endDay_L6.eq_2] at hm
    refine lv_iload_n hx hb dX0_endDay_6 rfl (lv_at hl 1 rfl) ?_
    refine lv_aload_n hx hb dX0_endDay_7 rfl (lv_at hl 0 rfl) ?_
    refine gf (q0 := 0) hx hb hts hown hK flX0_endDay_20 hP rfl rfl dX0_endDay_8 ?_
    obtain ⟨v3, h_4, hm⟩ := b1_s hm
    refine rd_v hcf (kX3_size h_4) (cwX0_endDay_X3_size hts) hK hP sB_d (ci := 3) (q0 := 3) rfl rfl rfl hl.1 rfl (Nat.le_of_ble_eq_true rfl) dX0_endDay_11 ⟨Nat.zero_le _, Nat.zero_le _⟩ ?_
    refine lv_icmp_ge (tgt := 28) hx hb dX0_endDay_14 (by decide) (fun c_5 => ?_) (fun c_5 => ?_)
    · replace hm := br_p hm c_5
      refine lv_aload_n hx hb dX0_endDay_28 rfl (lv_at hl 0 rfl) ?_
      refine lv_dup hx hb dX0_endDay_29 rfl ?_
      refine gf (q0 := 0) hx hb hts hown hK flX0_endDay_36 hP rfl rfl dX0_endDay_30 ?_
      refine lv_iconst (v := 1) hx hb dX0_endDay_33 (by decide) ?_
      refine lv_iadd hx hb dX0_endDay_34 ?_
      refine pf (q0 := 0) (X' := (wB cI ad ho (td + 1) pd sr dr ir qr sf df jf qf)) hx hb hts hown hK fpX0_endDay_36 hP hD hS rfl rfl rfl (Nat.le_of_ble_eq_true rfl) rfl dX0_endDay_35 (fun H locs hP hD hS => ?_)
      refine lv_iconst (v := 0) hx hb dX0_endDay_38 (by decide) ?_
      refine lv_istore_n (lv' := [(1, .int 0), (0, .ref (ad 0))]) hx hb dX0_endDay_39 rfl hl (by decide) rfl (fun ls hl => ?_)
      exact tX0_endDay_L40 C hA hret _ _ _ _ _ _ _ hm _ _ _ hP hD hS (lv_sub hl [1, 0] rfl)
    · replace hm := br_n hm c_5
      refine lv_aload_n hx hb dX0_endDay_17 rfl (lv_at hl 0 rfl) ?_
      refine lv_iload_n hx hb dX0_endDay_18 rfl (lv_at hl 1 rfl) ?_
      obtain ⟨df6, h_7, hm⟩ := b1_s hm
      refine mu_vv hcf (kX0_closeAgreement h_7) (cwX0_endDay_X0_closeAgreement hts) hK hP hD hS hA Jn.rf (ci := 0) (q0 := 0) rfl rfl rfl hl.1 rfl (Nat.le_of_ble_eq_true rfl) dX0_endDay_19 ⟨Nat.zero_le _, Nat.zero_le _⟩ (fun H locs hP hD hS => ?_)
      refine lv_iinc (v := (x1 + 1)) (lv' := [(1, .int (x1 + 1)), (0, .ref (ad 0))]) hx hb dX0_endDay_22 hl (k := 1) rfl rfl (by decide) rfl (fun ls hl => ?_)
      refine lv_goto (tgt := 6) hx hb dX0_endDay_25 (by decide) ?_
      exact ih _ _ _ _ _ _ hm _ _ _ hP hD hS (lv_sub hl [1, 0] rfl)
set_option maxRecDepth 100000 in
set_option maxHeartbeats 4000000 in
theorem kX0_endDay {l : Launch} {D : va_G} {cI cB cL cK : ClassId} {ad : Nat → Nat} {ho : Int32} {td : Int32} {pd : Int32} {sr : Int32} {dr : Int32} {ir : Int32} {qr : Int32} {sf : Nat → Int32} {df : Nat → Int32} {jf : Nat → Int32} {qf : Nat → Int32}  {td' : Int32} {ir' : Int32} {df' : Nat → Int32} {jf' : Nat → Int32} {qf' : Nat → Int32} (hm : mX0_endDay ho td sr dr ir qr sf df jf qf = some (td', ir', df', jf', qf')) : Mu l D cI cB cL cK yX0_endDay wsX0_endDay rmX0_endDay [.ref (ad 0)] (wB cI ad ho td pd sr dr ir qr sf df jf qf) (wB cI ad ho td' pd sr dr ir' qr sf df' jf' qf') none 0 0 := by
  refine Mu.ofv (cc := cX0_endDay) (own := RX0) (by decide) rfl rfl (Nat.le_of_ble_eq_true rfl) (fun p e s m below meth c ls Q A C _ hA hP hD hS hl hret => ?_)
  obtain ⟨hx, hb, hr, hml, hown, hts, hlk, hK⟩ := id C
  have hcf : CallFix p m c cX0_endDay 2 s _ wsX0_endDay RX0 := ⟨hx, hb, hml, hown, hts⟩
  have hl : lv_has ls 2 [(0, .ref (ad 0))] := hl
  unfold mX0_endDay at hm
  refine lv_aload_n hx hb dX0_endDay_0 rfl (lv_at hl 0 rfl) ?_
  obtain ⟨jf1, h_2, hm⟩ := b1_s hm
  refine mu_vv hcf (kX0_ageInvoices h_2) (cwX0_endDay_X0_ageInvoices hts) hK hP hD hS hA Jn.rf (ci := 0) (q0 := 0) rfl rfl rfl hl.1 rfl (Nat.le_of_ble_eq_true rfl) dX0_endDay_1 ⟨Nat.zero_le _, Nat.zero_le _⟩ (fun H locs hP hD hS => ?_)
  refine lv_iconst (v := 0) hx hb dX0_endDay_4 (by decide) ?_
  refine lv_istore_n (lv' := [(1, .int 0), (0, .ref (ad 0))]) hx hb dX0_endDay_5 rfl hl (by decide) rfl (fun ls hl => ?_)
  exact tX0_endDay_L6 C hA hret _ _ _ _ _ _ _ hm _ _ _ hP hD hS (lv_sub hl [1, 0] rfl)
/-! X0 endDayOf(I)Z -/
abbrev rmX0_endDayOf : Room := { frames := 5, cells := 0, slots := 0, locals := 117 }
theorem hdX0_endDayOf : yX0_endDayOf.cls = RX0 ∧ yX0_endDayOf.cls ≠ "java/lang/invoke/MethodHandle" ∧ yX0_endDayOf.cls ≠ "java/lang/invoke/VarHandle" ∧ (parseMethodDescriptor yX0_endDayOf.desc).map (fun d => d.parameters.length) = some 1 := by decide +kernel
theorem inX0_endDayOf_X0 : ∀ w ∈ u_ws RX0 TX0 7, w ∈ wsX0_endDayOf := by decide +kernel
theorem cwX0_endDayOf_X0_ageInvoices {s : State} {args : Array Value} (hts : ∀ w ∈ wsX0_endDayOf, w.before args s = true) : CallW rmX0_endDayOf s args RX0 RX0 119 yX0_ageInvoices cX0_ageInvoices 3 none wsX0_ageInvoices rmX0_ageInvoices 0 0 0 := cwV 0 hts gX0_endDayOf_X0_ageInvoices rfl rfl rfl hdX0_ageInvoices ⟨Nat.le_of_ble_eq_true rfl, Nat.le_of_ble_eq_true rfl⟩
theorem cwX0_endDayOf_X0_closeAgreement {s : State} {args : Array Value} (hts : ∀ w ∈ wsX0_endDayOf, w.before args s = true) : CallW rmX0_endDayOf s args RX0 RX0 122 yX0_closeAgreement cX0_closeAgreement 2 none wsX0_closeAgreement rmX0_closeAgreement 0 0 1 := cwV 1 hts gX0_endDayOf_X0_closeAgreement rfl rfl rfl hdX0_closeAgreement ⟨Nat.le_of_ble_eq_true rfl, Nat.le_of_ble_eq_true rfl⟩
theorem cwX0_endDayOf_X0_doStep {s : State} {args : Array Value} (hts : ∀ w ∈ wsX0_endDayOf, w.before args s = true) : CallW rmX0_endDayOf s args RX0 RX0 125 yX0_doStep cX0_doStep 5 (some .boolean) wsX0_doStep rmX0_doStep 0 0 1 := cwV 1 hts gX0_endDayOf_X0_doStep rfl rfl rfl hdX0_doStep ⟨Nat.le_of_ble_eq_true rfl, Nat.le_of_ble_eq_true rfl⟩
theorem flX0_endDayOf_36 : Fl wsX0_endDayOf RX0 36 0 5 := ⟨_, _, _, rfl, by decide, inX0_endDayOf_X0, by decide +kernel⟩
theorem fpX0_endDayOf_36 : Fp wsX0_endDayOf RX0 36 0 5 false .int := ⟨_, _, _, tyX0, rfl, by decide, inX0_endDayOf_X0, by decide +kernel, tyX0_ok, nmX0, rfl, rfl, by decide +kernel⟩
set_option maxRecDepth 100000 in
set_option maxHeartbeats 4000000 in
theorem kX0_endDayOf {l : Launch} {D : va_G} {cI cB cL cK : ClassId} {ad : Nat → Nat} {ho : Int32} {td : Int32} {pd : Int32} {sr : Int32} {dr : Int32} {ir : Int32} {qr : Int32} {sf : Nat → Int32} {df : Nat → Int32} {jf : Nat → Int32} {qf : Nat → Int32} {p1 : Int32} {res : Int32} {td' : Int32} {ir' : Int32} {df' : Nat → Int32} {jf' : Nat → Int32} (hm : mX0_endDayOf td sr dr ir sf df jf p1 = some (res, td', ir', df', jf')) : Mu l D cI cB cL cK yX0_endDayOf wsX0_endDayOf rmX0_endDayOf [.ref (ad 0), .int p1] (wB cI ad ho td pd sr dr ir qr sf df jf qf) (wB cI ad ho td' pd sr dr ir' qr sf df' jf' qf) (some (.int res)) 0 0 := by
  refine Mu.ofi (cc := cX0_endDayOf) (own := RX0) (by decide) rfl rfl (Nat.le_of_ble_eq_true rfl) (fun p e s m below meth c ls Q A C hA hP hD hS hl hret => ?_)
  obtain ⟨hx, hb, hr, hml, hown, hts, hlk, hK⟩ := id C
  have hcf : CallFix p m c cX0_endDayOf 2 s _ wsX0_endDayOf RX0 := ⟨hx, hb, hml, hown, hts⟩
  have hl : lv_has ls 2 [(0, .ref (ad 0)), (1, .int p1)] := hl
  unfold mX0_endDayOf at hm
  refine lv_aload_n hx hb dX0_endDayOf_0 rfl (lv_at hl 0 rfl) ?_
  obtain ⟨jf1, h_2, hm⟩ := b1_s hm
  refine mu_vv hcf (kX0_ageInvoices h_2) (cwX0_endDayOf_X0_ageInvoices hts) hK hP hD hS hA Jn.rf (ci := 0) (q0 := 0) rfl rfl rfl hl.1 rfl (Nat.le_of_ble_eq_true rfl) dX0_endDayOf_1 ⟨Nat.zero_le _, Nat.zero_le _⟩ (fun H locs hP hD hS => ?_)
  refine lv_aload_n hx hb dX0_endDayOf_4 rfl (lv_at hl 0 rfl) ?_
  refine lv_iload_n hx hb dX0_endDayOf_5 rfl (lv_at hl 1 rfl) ?_
  obtain ⟨df3, h_4, hm⟩ := b1_s hm
  refine mu_vv hcf (kX0_closeAgreement h_4) (cwX0_endDayOf_X0_closeAgreement hts) hK hP hD hS hA Jn.rf (ci := 0) (q0 := 0) rfl rfl rfl hl.1 rfl (Nat.le_of_ble_eq_true rfl) dX0_endDayOf_6 ⟨Nat.zero_le _, Nat.zero_le _⟩ (fun H locs hP hD hS => ?_)
  refine lv_aload_n hx hb dX0_endDayOf_9 rfl (lv_at hl 0 rfl) ?_
  refine lv_dup hx hb dX0_endDayOf_10 rfl ?_
  refine gf (q0 := 0) hx hb hts hown hK flX0_endDayOf_36 hP rfl rfl dX0_endDayOf_11 ?_
  refine lv_iconst (v := 1) hx hb dX0_endDayOf_14 (by decide) ?_
  refine lv_iadd hx hb dX0_endDayOf_15 ?_
  refine pf (q0 := 0) (X' := (wB cI ad ho (td + 1) pd sr dr ir qr sf df3 jf1 qf)) hx hb hts hown hK fpX0_endDayOf_36 hP hD hS rfl rfl rfl (Nat.le_of_ble_eq_true rfl) rfl dX0_endDayOf_16 (fun H locs hP hD hS => ?_)
  refine lv_aload_n hx hb dX0_endDayOf_19 rfl (lv_at hl 0 rfl) ?_
  refine lv_iload_n hx hb dX0_endDayOf_20 rfl (lv_at hl 1 rfl) ?_
  obtain ⟨v5, ir6, df7, jf8, h_9, hm⟩ := b4_s hm
  refine mu_vi hcf (kX0_doStep h_9) (cwX0_endDayOf_X0_doStep hts) hK hP hD hS hA Jn.rf (ci := 0) (q0 := 0) rfl rfl rfl hl.1 rfl (Nat.le_of_ble_eq_true rfl) dX0_endDayOf_21 ⟨Nat.zero_le _, Nat.zero_le _⟩ (fun H locs hP hD hS => ?_)
  obtain ⟨h_10, hm⟩ := ck_s hm
  cases hm
  exact hret _ _ _ _ dX0_endDayOf_24 (bz_n h_10) hP hD hS
end
