section
variable {p : Program} {l : Launch} {e : Env} {s : State} {m : MethodId} {args : Array Value} {below : List Frame} {meth : Method} {c : Code} {Q : State → Prop} {A : Nat → Prop} {D : va_G} {cI cB cL cK : ClassId}
/-! X5 promise(III)I -/
abbrev rmX5_promise : Room := { frames := 4, cells := 0, slots := 0, locals := 124 }
theorem hdX5_promise : yX5_promise.cls = RX5 ∧ yX5_promise.cls ≠ "java/lang/invoke/MethodHandle" ∧ yX5_promise.cls ≠ "java/lang/invoke/VarHandle" ∧ (parseMethodDescriptor yX5_promise.desc).map (fun d => d.parameters.length) = some 3 := by decide +kernel
theorem inX5_promise_X0 : ∀ w ∈ u_ws RX0 TX0 7, w ∈ wsX5_promise := by decide +kernel
theorem inX5_promise_X5 : ∀ w ∈ u_ws RX5 TX5 5, w ∈ wsX5_promise := by decide +kernel
theorem cwX5_promise_X0_agreePromise {s : State} {args : Array Value} (hts : ∀ w ∈ wsX5_promise, w.before args s = true) : CallW rmX5_promise s args RX5 RX0 196 yX0_agreePromise cX0_agreePromise 4 none wsX0_agreePromise rmX0_agreePromise 0 0 3 := cwV 3 hts gX5_promise_X0_agreePromise rfl rfl rfl hdX0_agreePromise ⟨Nat.le_of_ble_eq_true rfl, Nat.le_of_ble_eq_true rfl⟩
theorem cwX5_promise_X0_debt {s : State} {args : Array Value} (hts : ∀ w ∈ wsX5_promise, w.before args s = true) : CallW rmX5_promise s args RX5 RX0 126 yX0_debt cX0_debt 4 (some .int) wsX0_debt rmX0_debt 0 0 1 := cwV 1 hts gX5_promise_X0_debt rfl rfl rfl hdX0_debt ⟨Nat.le_of_ble_eq_true rfl, Nat.le_of_ble_eq_true rfl⟩
theorem cwX5_promise_X0_hasAgreement {s : State} {args : Array Value} (hts : ∀ w ∈ wsX5_promise, w.before args s = true) : CallW rmX5_promise s args RX5 RX0 193 yX0_hasAgreement cX0_hasAgreement 2 (some .boolean) wsX0_hasAgreement rmX0_hasAgreement 0 0 1 := cwV 1 hts gX5_promise_X0_hasAgreement rfl rfl rfl hdX0_hasAgreement ⟨Nat.le_of_ble_eq_true rfl, Nat.le_of_ble_eq_true rfl⟩
theorem cwX5_promise_X0_isAtCourt {s : State} {args : Array Value} (hts : ∀ w ∈ wsX5_promise, w.before args s = true) : CallW rmX5_promise s args RX5 RX0 132 yX0_isAtCourt cX0_isAtCourt 2 (some .boolean) wsX0_isAtCourt rmX0_isAtCourt 0 0 1 := cwV 1 hts gX5_promise_X0_isAtCourt rfl rfl rfl hdX0_isAtCourt ⟨Nat.le_of_ble_eq_true rfl, Nat.le_of_ble_eq_true rfl⟩
theorem cwX5_promise_X1_keep {s : State} {args : Array Value} (hts : ∀ w ∈ wsX5_promise, w.before args s = true) : CallW rmX5_promise s args RX5 RX1 175 yX1_keep cX1_keep 2 none wsX1_keep rmX1_keep 0 0 1 := cwV 1 hts gX5_promise_X1_keep rfl rfl rfl hdX1_keep ⟨Nat.le_of_ble_eq_true rfl, Nat.le_of_ble_eq_true rfl⟩
theorem cwX5_promise_X3_get {s : State} {args : Array Value} (hts : ∀ w ∈ wsX5_promise, w.before args s = true) : CallW rmX5_promise s args RX5 RX3 108 yX3_get cX3_get 4 (some .int) wsX3_get rmX3_get 0 0 2 := cwV 2 hts gX5_promise_X3_get rfl rfl rfl hdX3_get ⟨Nat.le_of_ble_eq_true rfl, Nat.le_of_ble_eq_true rfl⟩
theorem cwX5_promise_X3_has {s : State} {args : Array Value} (hts : ∀ w ∈ wsX5_promise, w.before args s = true) : CallW rmX5_promise s args RX5 RX3 112 yX3_has cX3_has 2 (some .boolean) wsX3_has rmX3_has 0 0 1 := cwV 1 hts gX5_promise_X3_has rfl rfl rfl hdX3_has ⟨Nat.le_of_ble_eq_true rfl, Nat.le_of_ble_eq_true rfl⟩
theorem flX5_promise_19 : Fl wsX5_promise RX5 19 5 1 := ⟨_, _, _, rfl, by decide, inX5_promise_X5, by decide +kernel⟩
theorem flX5_promise_29 : Fl wsX5_promise RX5 29 5 3 := ⟨_, _, _, rfl, by decide, inX5_promise_X5, by decide +kernel⟩
theorem flX5_promise_74 : Fl wsX5_promise RX5 74 0 5 := ⟨_, _, _, rfl, by decide, inX5_promise_X0, by decide +kernel⟩
theorem flX5_promise_86 : Fl wsX5_promise RX5 86 0 1 := ⟨_, _, _, rfl, by decide, inX5_promise_X0, by decide +kernel⟩
set_option maxRecDepth 100000 in
set_option maxHeartbeats 4000000 in
theorem kX5_promise {l : Launch} {D : va_G} {cI cB cL cK : ClassId} {ha : Nat} {a : Nat} {b : Nat} {ad : Nat → Nat} {pa : Nat → Nat} {hh : Nat} {hq : Nat} {kad : Nat → Nat → Nat} {lf : Int32} {us : Int32} {tf : Nat → Int32} {ho : Int32} {td : Int32} {pd : Int32} {sr : Int32} {dr : Int32} {ir : Int32} {qr : Int32} {sf : Nat → Int32} {df : Nat → Int32} {jf : Nat → Int32} {qf : Nat → Int32} {oho : Int32} {otd : Int32} {opd : Int32} {osr : Int32} {odr : Int32} {oir : Int32} {oqr : Int32} {osf : Nat → Int32} {odf : Nat → Int32} {ojf : Nat → Int32} {oqf : Nat → Int32} {ct : Int32} {tpp : Int32} {kv : Nat → BV} {p1 : Int32} {p2 : Int32} {p3 : Int32} {res : Int32} {df' : Nat → Int32} {ct' : Int32} {tpp' : Int32} {kv' : Nat → BV} (hm : mX5_promise ho td pd sr dr ir qr sf df jf qf ct tpp kv p1 p2 p3 = some (res, df', ct', tpp', kv')) : Mu l D cI cB cL cK yX5_promise wsX5_promise rmX5_promise [.ref ha, .int p1, .int p2, .int p3] (wH cI cB cK ha a b ad pa hh hq kad lf us tf ho td pd sr dr ir qr sf df jf qf oho otd opd osr odr oir oqr osf odf ojf oqf ct tpp kv) (wH cI cB cK ha a b ad pa hh hq kad lf us tf ho td pd sr dr ir qr sf df' jf qf oho otd opd osr odr oir oqr osf odf ojf oqf ct' tpp' kv') (some (.int res)) 0 0 := by
  refine Mu.ofi (cc := cX5_promise) (own := RX5) (by decide) rfl rfl (Nat.le_of_ble_eq_true rfl) (fun p e s m below meth c ls Q A C hA hP hD hS hl hret => ?_)
  obtain ⟨hx, hb, hr, hml, hown, hts, hlk, hK⟩ := id C
  have hcf : CallFix p m c cX5_promise 4 s _ wsX5_promise RX5 := ⟨hx, hb, hml, hown, hts⟩
  have hl : lv_has ls 4 [(0, .ref ha), (1, .int p1), (2, .int p2), (3, .int p3)] := hl
  unfold mX5_promise at hm
  refine lv_aload_n hx hb dX5_promise_0 rfl (lv_at hl 0 rfl) ?_
  refine gf (q0 := 0) hx hb hts hown hK flX5_promise_19 hP rfl rfl dX5_promise_1 ?_
  refine gf (q0 := 3) hx hb hts hown hK flX5_promise_86 hP rfl rfl dX5_promise_4 ?_
  refine lv_iload_n hx hb dX5_promise_7 rfl (lv_at hl 1 rfl) ?_
  obtain ⟨v1, h_2, hm⟩ := b1_s hm
  refine rd_v hcf (kX3_has h_2) (cwX5_promise_X3_has hts) hK hP sH_d (ci := 3) (q0 := 6) rfl rfl rfl hl.1 rfl (Nat.le_of_ble_eq_true rfl) dX5_promise_8 ⟨Nat.zero_le _, Nat.zero_le _⟩ ?_
  refine lv_if_eq (tgt := 56) hx hb dX5_promise_11 (by decide) (fun c_3 => ?_) (fun c_3 => ?_)
  · replace hm := br_p hm c_3
    refine lv_iconst (v := (-1)) hx hb dX5_promise_56 (by decide) ?_
    cases hm
    exact hret _ _ _ _ dX5_promise_57 rfl hP hD hS
  · replace hm := br_n hm c_3
    refine lv_iload_n hx hb dX5_promise_14 rfl (lv_at hl 2 rfl) ?_
    refine lv_iconst (v := 1) hx hb dX5_promise_15 (by decide) ?_
    refine lv_icmp_lt (tgt := 56) hx hb dX5_promise_16 (by decide) (fun c_4 => ?_) (fun c_4 => ?_)
    · replace hm := br_p hm c_4
      refine lv_iconst (v := (-1)) hx hb dX5_promise_56 (by decide) ?_
      cases hm
      exact hret _ _ _ _ dX5_promise_57 rfl hP hD hS
    · replace hm := br_n hm c_4
      refine lv_iload_n hx hb dX5_promise_19 rfl (lv_at hl 2 rfl) ?_
      refine lv_aload_n hx hb dX5_promise_20 rfl (lv_at hl 0 rfl) ?_
      refine gf (q0 := 0) hx hb hts hown hK flX5_promise_19 hP rfl rfl dX5_promise_21 ?_
      refine lv_iload_n hx hb dX5_promise_24 rfl (lv_at hl 1 rfl) ?_
      obtain ⟨v5, h_6, hm⟩ := b1_s hm
      refine rd_v hcf (kX0_debt h_6) (cwX5_promise_X0_debt hts) hK hP sH_b (ci := 0) (q0 := 3) rfl rfl rfl hl.1 rfl (Nat.le_of_ble_eq_true rfl) dX5_promise_25 ⟨Nat.zero_le _, Nat.zero_le _⟩ ?_
      refine lv_icmp_gt (tgt := 56) hx hb dX5_promise_28 (by decide) (fun c_7 => ?_) (fun c_7 => ?_)
      · replace hm := br_p hm c_7
        refine lv_iconst (v := (-1)) hx hb dX5_promise_56 (by decide) ?_
        cases hm
        exact hret _ _ _ _ dX5_promise_57 rfl hP hD hS
      · replace hm := br_n hm c_7
        refine lv_iload_n hx hb dX5_promise_31 rfl (lv_at hl 3 rfl) ?_
        refine lv_aload_n hx hb dX5_promise_32 rfl (lv_at hl 0 rfl) ?_
        refine gf (q0 := 0) hx hb hts hown hK flX5_promise_19 hP rfl rfl dX5_promise_33 ?_
        refine gf (q0 := 3) hx hb hts hown hK flX5_promise_74 hP rfl rfl dX5_promise_36 ?_
        refine lv_icmp_lt (tgt := 56) hx hb dX5_promise_39 (by decide) (fun c_8 => ?_) (fun c_8 => ?_)
        · replace hm := br_p hm c_8
          refine lv_iconst (v := (-1)) hx hb dX5_promise_56 (by decide) ?_
          cases hm
          exact hret _ _ _ _ dX5_promise_57 rfl hP hD hS
        · replace hm := br_n hm c_8
          refine lv_iload_n hx hb dX5_promise_42 rfl (lv_at hl 3 rfl) ?_
          refine lv_aload_n hx hb dX5_promise_43 rfl (lv_at hl 0 rfl) ?_
          refine gf (q0 := 0) hx hb hts hown hK flX5_promise_19 hP rfl rfl dX5_promise_44 ?_
          refine gf (q0 := 3) hx hb hts hown hK flX5_promise_74 hP rfl rfl dX5_promise_47 ?_
          refine lv_bipush (v := 30) hx hb dX5_promise_50 (by decide) ?_
          refine lv_iadd hx hb dX5_promise_52 ?_
          refine lv_icmp_le (tgt := 58) hx hb dX5_promise_53 (by decide) (fun c_9 => ?_) (fun c_9 => ?_)
          · replace hm := br_p hm c_9
            refine lv_aload_n hx hb dX5_promise_58 rfl (lv_at hl 0 rfl) ?_
            refine gf (q0 := 0) hx hb hts hown hK flX5_promise_19 hP rfl rfl dX5_promise_59 ?_
            refine lv_iload_n hx hb dX5_promise_62 rfl (lv_at hl 1 rfl) ?_
            obtain ⟨v10, h_11, hm⟩ := b1_s hm
            refine rd_v hcf (kX0_hasAgreement h_11) (cwX5_promise_X0_hasAgreement hts) hK hP sH_b (ci := 0) (q0 := 3) rfl rfl rfl hl.1 rfl (Nat.le_of_ble_eq_true rfl) dX5_promise_63 ⟨Nat.zero_le _, Nat.zero_le _⟩ ?_
            refine lv_if_eq (tgt := 72) hx hb dX5_promise_66 (by decide) (fun c_12 => ?_) (fun c_12 => ?_)
            · replace hm := br_p hm c_12
              refine lv_aload_n hx hb dX5_promise_72 rfl (lv_at hl 0 rfl) ?_
              refine gf (q0 := 0) hx hb hts hown hK flX5_promise_19 hP rfl rfl dX5_promise_73 ?_
              refine gf (q0 := 3) hx hb hts hown hK flX5_promise_86 hP rfl rfl dX5_promise_76 ?_
              refine lv_iload_n hx hb dX5_promise_79 rfl (lv_at hl 1 rfl) ?_
              refine lv_iconst (v := 5) hx hb dX5_promise_80 (by decide) ?_
              obtain ⟨v13, h_14, hm⟩ := b1_s hm
              refine rd_v hcf (kX3_get h_14) (cwX5_promise_X3_get hts) hK hP sH_d (ci := 3) (q0 := 6) rfl rfl rfl hl.1 rfl (Nat.le_of_ble_eq_true rfl) dX5_promise_81 ⟨Nat.zero_le _, Nat.zero_le _⟩ ?_
              refine lv_iconst (v := 2) hx hb dX5_promise_84 (by decide) ?_
              refine lv_icmp_lt (tgt := 91) hx hb dX5_promise_85 (by decide) (fun c_15 => ?_) (fun c_15 => ?_)
              · replace hm := br_p hm c_15
                refine lv_aload_n hx hb dX5_promise_91 rfl (lv_at hl 0 rfl) ?_
                refine gf (q0 := 0) hx hb hts hown hK flX5_promise_19 hP rfl rfl dX5_promise_92 ?_
                refine lv_iload_n hx hb dX5_promise_95 rfl (lv_at hl 1 rfl) ?_
                obtain ⟨v16, h_17, hm⟩ := b1_s hm
                refine rd_v hcf (kX0_isAtCourt h_17) (cwX5_promise_X0_isAtCourt hts) hK hP sH_b (ci := 0) (q0 := 3) rfl rfl rfl hl.1 rfl (Nat.le_of_ble_eq_true rfl) dX5_promise_96 ⟨Nat.zero_le _, Nat.zero_le _⟩ ?_
                refine lv_if_eq (tgt := 105) hx hb dX5_promise_99 (by decide) (fun c_18 => ?_) (fun c_18 => ?_)
                · replace hm := br_p hm c_18
                  refine lv_aload_n hx hb dX5_promise_105 rfl (lv_at hl 0 rfl) ?_
                  refine gf (q0 := 0) hx hb hts hown hK flX5_promise_29 hP rfl rfl dX5_promise_106 ?_
                  refine lv_aload_n hx hb dX5_promise_109 rfl (lv_at hl 0 rfl) ?_
                  refine gf (q0 := 0) hx hb hts hown hK flX5_promise_19 hP rfl rfl dX5_promise_110 ?_
                  obtain ⟨ct19, tpp20, kv21, h_22, hm⟩ := b3_s hm
                  refine mu_vv hcf (kX1_keep h_22) (cwX5_promise_X1_keep hts) hK hP hD hS hA jH_hs (ci := 1) (q0 := 21) rfl rfl rfl hl.1 rfl (Nat.le_of_ble_eq_true rfl) dX5_promise_113 ⟨Nat.zero_le _, Nat.zero_le _⟩ (fun H locs hP hD hS => ?_)
                  refine lv_aload_n hx hb dX5_promise_116 rfl (lv_at hl 0 rfl) ?_
                  refine gf (q0 := 0) hx hb hts hown hK flX5_promise_19 hP rfl rfl dX5_promise_117 ?_
                  refine lv_iload_n hx hb dX5_promise_120 rfl (lv_at hl 1 rfl) ?_
                  refine lv_iload_n hx hb dX5_promise_121 rfl (lv_at hl 2 rfl) ?_
                  refine lv_iload_n hx hb dX5_promise_122 rfl (lv_at hl 3 rfl) ?_
                  obtain ⟨df23, h_24, hm⟩ := b1_s hm
                  refine mu_vv hcf (kX0_agreePromise h_24) (cwX5_promise_X0_agreePromise hts) hK hP hD hS hA jH_b (ci := 0) (q0 := 3) rfl rfl rfl hl.1 rfl (Nat.le_of_ble_eq_true rfl) dX5_promise_123 ⟨Nat.zero_le _, Nat.zero_le _⟩ (fun H locs hP hD hS => ?_)
                  refine lv_iconst (v := 0) hx hb dX5_promise_126 (by decide) ?_
                  cases hm
                  exact hret _ _ _ _ dX5_promise_127 rfl hP hD hS
                · replace hm := br_n hm c_18
                  refine lv_bipush (v := (-4)) hx hb dX5_promise_102 (by decide) ?_
                  cases hm
                  exact hret _ _ _ _ dX5_promise_104 rfl hP hD hS
              · replace hm := br_n hm c_15
                refine lv_bipush (v := (-3)) hx hb dX5_promise_88 (by decide) ?_
                cases hm
                exact hret _ _ _ _ dX5_promise_90 rfl hP hD hS
            · replace hm := br_n hm c_12
              refine lv_bipush (v := (-2)) hx hb dX5_promise_69 (by decide) ?_
              cases hm
              exact hret _ _ _ _ dX5_promise_71 rfl hP hD hS
          · replace hm := br_n hm c_9
            refine lv_iconst (v := (-1)) hx hb dX5_promise_56 (by decide) ?_
            cases hm
            exact hret _ _ _ _ dX5_promise_57 rfl hP hD hS
/-! X5 plan(III)I -/
abbrev rmX5_plan : Room := { frames := 4, cells := 0, slots := 0, locals := 124 }
theorem hdX5_plan : yX5_plan.cls = RX5 ∧ yX5_plan.cls ≠ "java/lang/invoke/MethodHandle" ∧ yX5_plan.cls ≠ "java/lang/invoke/VarHandle" ∧ (parseMethodDescriptor yX5_plan.desc).map (fun d => d.parameters.length) = some 3 := by decide +kernel
theorem inX5_plan_X0 : ∀ w ∈ u_ws RX0 TX0 7, w ∈ wsX5_plan := by decide +kernel
theorem inX5_plan_X5 : ∀ w ∈ u_ws RX5 TX5 5, w ∈ wsX5_plan := by decide +kernel
theorem cwX5_plan_X0_agreePlan {s : State} {args : Array Value} (hts : ∀ w ∈ wsX5_plan, w.before args s = true) : CallW rmX5_plan s args RX5 RX0 199 yX0_agreePlan cX0_agreePlan 4 none wsX0_agreePlan rmX0_agreePlan 0 0 3 := cwV 3 hts gX5_plan_X0_agreePlan rfl rfl rfl hdX0_agreePlan ⟨Nat.le_of_ble_eq_true rfl, Nat.le_of_ble_eq_true rfl⟩
theorem cwX5_plan_X0_debt {s : State} {args : Array Value} (hts : ∀ w ∈ wsX5_plan, w.before args s = true) : CallW rmX5_plan s args RX5 RX0 126 yX0_debt cX0_debt 4 (some .int) wsX0_debt rmX0_debt 0 0 1 := cwV 1 hts gX5_plan_X0_debt rfl rfl rfl hdX0_debt ⟨Nat.le_of_ble_eq_true rfl, Nat.le_of_ble_eq_true rfl⟩
theorem cwX5_plan_X0_hasPlan {s : State} {args : Array Value} (hts : ∀ w ∈ wsX5_plan, w.before args s = true) : CallW rmX5_plan s args RX5 RX0 143 yX0_hasPlan cX0_hasPlan 2 (some .boolean) wsX0_hasPlan rmX0_hasPlan 0 0 1 := cwV 1 hts gX5_plan_X0_hasPlan rfl rfl rfl hdX0_hasPlan ⟨Nat.le_of_ble_eq_true rfl, Nat.le_of_ble_eq_true rfl⟩
theorem cwX5_plan_X0_isAtCourt {s : State} {args : Array Value} (hts : ∀ w ∈ wsX5_plan, w.before args s = true) : CallW rmX5_plan s args RX5 RX0 132 yX0_isAtCourt cX0_isAtCourt 2 (some .boolean) wsX0_isAtCourt rmX0_isAtCourt 0 0 1 := cwV 1 hts gX5_plan_X0_isAtCourt rfl rfl rfl hdX0_isAtCourt ⟨Nat.le_of_ble_eq_true rfl, Nat.le_of_ble_eq_true rfl⟩
theorem cwX5_plan_X1_keep {s : State} {args : Array Value} (hts : ∀ w ∈ wsX5_plan, w.before args s = true) : CallW rmX5_plan s args RX5 RX1 175 yX1_keep cX1_keep 2 none wsX1_keep rmX1_keep 0 0 1 := cwV 1 hts gX5_plan_X1_keep rfl rfl rfl hdX1_keep ⟨Nat.le_of_ble_eq_true rfl, Nat.le_of_ble_eq_true rfl⟩
theorem cwX5_plan_X3_has {s : State} {args : Array Value} (hts : ∀ w ∈ wsX5_plan, w.before args s = true) : CallW rmX5_plan s args RX5 RX3 112 yX3_has cX3_has 2 (some .boolean) wsX3_has rmX3_has 0 0 1 := cwV 1 hts gX5_plan_X3_has rfl rfl rfl hdX3_has ⟨Nat.le_of_ble_eq_true rfl, Nat.le_of_ble_eq_true rfl⟩
theorem flX5_plan_19 : Fl wsX5_plan RX5 19 5 1 := ⟨_, _, _, rfl, by decide, inX5_plan_X5, by decide +kernel⟩
theorem flX5_plan_29 : Fl wsX5_plan RX5 29 5 3 := ⟨_, _, _, rfl, by decide, inX5_plan_X5, by decide +kernel⟩
theorem flX5_plan_86 : Fl wsX5_plan RX5 86 0 1 := ⟨_, _, _, rfl, by decide, inX5_plan_X0, by decide +kernel⟩
set_option maxRecDepth 100000 in
set_option maxHeartbeats 4000000 in
theorem kX5_plan {l : Launch} {D : va_G} {cI cB cL cK : ClassId} {ha : Nat} {a : Nat} {b : Nat} {ad : Nat → Nat} {pa : Nat → Nat} {hh : Nat} {hq : Nat} {kad : Nat → Nat → Nat} {lf : Int32} {us : Int32} {tf : Nat → Int32} {ho : Int32} {td : Int32} {pd : Int32} {sr : Int32} {dr : Int32} {ir : Int32} {qr : Int32} {sf : Nat → Int32} {df : Nat → Int32} {jf : Nat → Int32} {qf : Nat → Int32} {oho : Int32} {otd : Int32} {opd : Int32} {osr : Int32} {odr : Int32} {oir : Int32} {oqr : Int32} {osf : Nat → Int32} {odf : Nat → Int32} {ojf : Nat → Int32} {oqf : Nat → Int32} {ct : Int32} {tpp : Int32} {kv : Nat → BV} {p1 : Int32} {p2 : Int32} {p3 : Int32} {res : Int32} {df' : Nat → Int32} {ct' : Int32} {tpp' : Int32} {kv' : Nat → BV} (hm : mX5_plan ho td pd sr dr ir qr sf df jf qf ct tpp kv p1 p2 p3 = some (res, df', ct', tpp', kv')) : Mu l D cI cB cL cK yX5_plan wsX5_plan rmX5_plan [.ref ha, .int p1, .int p2, .int p3] (wH cI cB cK ha a b ad pa hh hq kad lf us tf ho td pd sr dr ir qr sf df jf qf oho otd opd osr odr oir oqr osf odf ojf oqf ct tpp kv) (wH cI cB cK ha a b ad pa hh hq kad lf us tf ho td pd sr dr ir qr sf df' jf qf oho otd opd osr odr oir oqr osf odf ojf oqf ct' tpp' kv') (some (.int res)) 0 0 := by
  refine Mu.ofi (cc := cX5_plan) (own := RX5) (by decide) rfl rfl (Nat.le_of_ble_eq_true rfl) (fun p e s m below meth c ls Q A C hA hP hD hS hl hret => ?_)
  obtain ⟨hx, hb, hr, hml, hown, hts, hlk, hK⟩ := id C
  have hcf : CallFix p m c cX5_plan 4 s _ wsX5_plan RX5 := ⟨hx, hb, hml, hown, hts⟩
  have hl : lv_has ls 4 [(0, .ref ha), (1, .int p1), (2, .int p2), (3, .int p3)] := hl
  unfold mX5_plan at hm
  refine lv_aload_n hx hb dX5_plan_0 rfl (lv_at hl 0 rfl) ?_
  refine gf (q0 := 0) hx hb hts hown hK flX5_plan_19 hP rfl rfl dX5_plan_1 ?_
  refine gf (q0 := 3) hx hb hts hown hK flX5_plan_86 hP rfl rfl dX5_plan_4 ?_
  refine lv_iload_n hx hb dX5_plan_7 rfl (lv_at hl 1 rfl) ?_
  obtain ⟨v1, h_2, hm⟩ := b1_s hm
  refine rd_v hcf (kX3_has h_2) (cwX5_plan_X3_has hts) hK hP sH_d (ci := 3) (q0 := 6) rfl rfl rfl hl.1 rfl (Nat.le_of_ble_eq_true rfl) dX5_plan_8 ⟨Nat.zero_le _, Nat.zero_le _⟩ ?_
  refine lv_if_eq (tgt := 36) hx hb dX5_plan_11 (by decide) (fun c_3 => ?_) (fun c_3 => ?_)
  · replace hm := br_p hm c_3
    refine lv_iconst (v := (-1)) hx hb dX5_plan_36 (by decide) ?_
    cases hm
    exact hret _ _ _ _ dX5_plan_37 rfl hP hD hS
  · replace hm := br_n hm c_3
    refine lv_iload_n hx hb dX5_plan_14 rfl (lv_at hl 2 rfl) ?_
    refine lv_iconst (v := 2) hx hb dX5_plan_15 (by decide) ?_
    refine lv_icmp_lt (tgt := 36) hx hb dX5_plan_16 (by decide) (fun c_4 => ?_) (fun c_4 => ?_)
    · replace hm := br_p hm c_4
      refine lv_iconst (v := (-1)) hx hb dX5_plan_36 (by decide) ?_
      cases hm
      exact hret _ _ _ _ dX5_plan_37 rfl hP hD hS
    · replace hm := br_n hm c_4
      refine lv_iload_n hx hb dX5_plan_19 rfl (lv_at hl 2 rfl) ?_
      refine lv_bipush (v := 12) hx hb dX5_plan_20 (by decide) ?_
      refine lv_icmp_gt (tgt := 36) hx hb dX5_plan_22 (by decide) (fun c_5 => ?_) (fun c_5 => ?_)
      · replace hm := br_p hm c_5
        refine lv_iconst (v := (-1)) hx hb dX5_plan_36 (by decide) ?_
        cases hm
        exact hret _ _ _ _ dX5_plan_37 rfl hP hD hS
      · replace hm := br_n hm c_5
        refine lv_iload_n hx hb dX5_plan_25 rfl (lv_at hl 3 rfl) ?_
        refine lv_iconst (v := 1) hx hb dX5_plan_26 (by decide) ?_
        refine lv_icmp_lt (tgt := 36) hx hb dX5_plan_27 (by decide) (fun c_6 => ?_) (fun c_6 => ?_)
        · replace hm := br_p hm c_6
          refine lv_iconst (v := (-1)) hx hb dX5_plan_36 (by decide) ?_
          cases hm
          exact hret _ _ _ _ dX5_plan_37 rfl hP hD hS
        · replace hm := br_n hm c_6
          refine lv_iload_n hx hb dX5_plan_30 rfl (lv_at hl 3 rfl) ?_
          refine lv_bipush (v := 30) hx hb dX5_plan_31 (by decide) ?_
          refine lv_icmp_le (tgt := 38) hx hb dX5_plan_33 (by decide) (fun c_7 => ?_) (fun c_7 => ?_)
          · replace hm := br_p hm c_7
            refine lv_aload_n hx hb dX5_plan_38 rfl (lv_at hl 0 rfl) ?_
            refine gf (q0 := 0) hx hb hts hown hK flX5_plan_19 hP rfl rfl dX5_plan_39 ?_
            refine lv_iload_n hx hb dX5_plan_42 rfl (lv_at hl 1 rfl) ?_
            obtain ⟨v8, h_9, hm⟩ := b1_s hm
            refine rd_v hcf (kX0_hasPlan h_9) (cwX5_plan_X0_hasPlan hts) hK hP sH_b (ci := 0) (q0 := 3) rfl rfl rfl hl.1 rfl (Nat.le_of_ble_eq_true rfl) dX5_plan_43 ⟨Nat.zero_le _, Nat.zero_le _⟩ ?_
            refine lv_if_eq (tgt := 52) hx hb dX5_plan_46 (by decide) (fun c_10 => ?_) (fun c_10 => ?_)
            · replace hm := br_p hm c_10
              refine lv_aload_n hx hb dX5_plan_52 rfl (lv_at hl 0 rfl) ?_
              refine gf (q0 := 0) hx hb hts hown hK flX5_plan_19 hP rfl rfl dX5_plan_53 ?_
              refine lv_iload_n hx hb dX5_plan_56 rfl (lv_at hl 1 rfl) ?_
              obtain ⟨v11, h_12, hm⟩ := b1_s hm
              refine rd_v hcf (kX0_debt h_12) (cwX5_plan_X0_debt hts) hK hP sH_b (ci := 0) (q0 := 3) rfl rfl rfl hl.1 rfl (Nat.le_of_ble_eq_true rfl) dX5_plan_57 ⟨Nat.zero_le _, Nat.zero_le _⟩ ?_
              refine lv_iload_n hx hb dX5_plan_60 rfl (lv_at hl 2 rfl) ?_
              refine lv_icmp_ge (tgt := 67) hx hb dX5_plan_61 (by decide) (fun c_13 => ?_) (fun c_13 => ?_)
              · replace hm := br_p hm c_13
                refine lv_aload_n hx hb dX5_plan_67 rfl (lv_at hl 0 rfl) ?_
                refine gf (q0 := 0) hx hb hts hown hK flX5_plan_19 hP rfl rfl dX5_plan_68 ?_
                refine lv_iload_n hx hb dX5_plan_71 rfl (lv_at hl 1 rfl) ?_
                obtain ⟨v14, h_15, hm⟩ := b1_s hm
                refine rd_v hcf (kX0_isAtCourt h_15) (cwX5_plan_X0_isAtCourt hts) hK hP sH_b (ci := 0) (q0 := 3) rfl rfl rfl hl.1 rfl (Nat.le_of_ble_eq_true rfl) dX5_plan_72 ⟨Nat.zero_le _, Nat.zero_le _⟩ ?_
                refine lv_if_eq (tgt := 81) hx hb dX5_plan_75 (by decide) (fun c_16 => ?_) (fun c_16 => ?_)
                · replace hm := br_p hm c_16
                  refine lv_aload_n hx hb dX5_plan_81 rfl (lv_at hl 0 rfl) ?_
                  refine gf (q0 := 0) hx hb hts hown hK flX5_plan_29 hP rfl rfl dX5_plan_82 ?_
                  refine lv_aload_n hx hb dX5_plan_85 rfl (lv_at hl 0 rfl) ?_
                  refine gf (q0 := 0) hx hb hts hown hK flX5_plan_19 hP rfl rfl dX5_plan_86 ?_
                  obtain ⟨ct17, tpp18, kv19, h_20, hm⟩ := b3_s hm
                  refine mu_vv hcf (kX1_keep h_20) (cwX5_plan_X1_keep hts) hK hP hD hS hA jH_hs (ci := 1) (q0 := 21) rfl rfl rfl hl.1 rfl (Nat.le_of_ble_eq_true rfl) dX5_plan_89 ⟨Nat.zero_le _, Nat.zero_le _⟩ (fun H locs hP hD hS => ?_)
                  refine lv_aload_n hx hb dX5_plan_92 rfl (lv_at hl 0 rfl) ?_
                  refine gf (q0 := 0) hx hb hts hown hK flX5_plan_19 hP rfl rfl dX5_plan_93 ?_
                  refine lv_iload_n hx hb dX5_plan_96 rfl (lv_at hl 1 rfl) ?_
                  refine lv_iload_n hx hb dX5_plan_97 rfl (lv_at hl 2 rfl) ?_
                  refine lv_iload_n hx hb dX5_plan_98 rfl (lv_at hl 3 rfl) ?_
                  obtain ⟨df21, h_22, hm⟩ := b1_s hm
                  refine mu_vv hcf (kX0_agreePlan h_22) (cwX5_plan_X0_agreePlan hts) hK hP hD hS hA jH_b (ci := 0) (q0 := 3) rfl rfl rfl hl.1 rfl (Nat.le_of_ble_eq_true rfl) dX5_plan_99 ⟨Nat.zero_le _, Nat.zero_le _⟩ (fun H locs hP hD hS => ?_)
                  refine lv_iconst (v := 0) hx hb dX5_plan_102 (by decide) ?_
                  cases hm
                  exact hret _ _ _ _ dX5_plan_103 rfl hP hD hS
                · replace hm := br_n hm c_16
                  refine lv_bipush (v := (-4)) hx hb dX5_plan_78 (by decide) ?_
                  cases hm
                  exact hret _ _ _ _ dX5_plan_80 rfl hP hD hS
              · replace hm := br_n hm c_13
                refine lv_bipush (v := (-3)) hx hb dX5_plan_64 (by decide) ?_
                cases hm
                exact hret _ _ _ _ dX5_plan_66 rfl hP hD hS
            · replace hm := br_n hm c_10
              refine lv_bipush (v := (-2)) hx hb dX5_plan_49 (by decide) ?_
              cases hm
              exact hret _ _ _ _ dX5_plan_51 rfl hP hD hS
          · replace hm := br_n hm c_7
            refine lv_iconst (v := (-1)) hx hb dX5_plan_36 (by decide) ?_
            cases hm
            exact hret _ _ _ _ dX5_plan_37 rfl hP hD hS
/-! X5 asks(II)I -/
abbrev rmX5_asks : Room := { frames := 6, cells := 0, slots := 0, locals := 137 }
theorem hdX5_asks : yX5_asks.cls = RX5 ∧ yX5_asks.cls ≠ "java/lang/invoke/MethodHandle" ∧ yX5_asks.cls ≠ "java/lang/invoke/VarHandle" ∧ (parseMethodDescriptor yX5_asks.desc).map (fun d => d.parameters.length) = some 2 := by decide +kernel
theorem inX5_asks_X0 : ∀ w ∈ u_ws RX0 TX0 7, w ∈ wsX5_asks := by decide +kernel
theorem inX5_asks_X5 : ∀ w ∈ u_ws RX5 TX5 5, w ∈ wsX5_asks := by decide +kernel
theorem cwX5_asks_X0_addOrder {s : State} {args : Array Value} (hts : ∀ w ∈ wsX5_asks, w.before args s = true) : CallW rmX5_asks s args RX5 RX0 202 yX0_addOrder cX0_addOrder 4 (some .int) wsX0_addOrder rmX0_addOrder 0 0 2 := cwV 2 hts gX5_asks_X0_addOrder rfl rfl rfl hdX0_addOrder ⟨Nat.le_of_ble_eq_true rfl, Nat.le_of_ble_eq_true rfl⟩
theorem cwX5_asks_X1_keep {s : State} {args : Array Value} (hts : ∀ w ∈ wsX5_asks, w.before args s = true) : CallW rmX5_asks s args RX5 RX1 175 yX1_keep cX1_keep 2 none wsX1_keep rmX1_keep 0 0 1 := cwV 1 hts gX5_asks_X1_keep rfl rfl rfl hdX1_keep ⟨Nat.le_of_ble_eq_true rfl, Nat.le_of_ble_eq_true rfl⟩
theorem cwX5_asks_X3_has {s : State} {args : Array Value} (hts : ∀ w ∈ wsX5_asks, w.before args s = true) : CallW rmX5_asks s args RX5 RX3 112 yX3_has cX3_has 2 (some .boolean) wsX3_has rmX3_has 0 0 1 := cwV 1 hts gX5_asks_X3_has rfl rfl rfl hdX3_has ⟨Nat.le_of_ble_eq_true rfl, Nat.le_of_ble_eq_true rfl⟩
theorem cwX5_asks_X3_isFull {s : State} {args : Array Value} (hts : ∀ w ∈ wsX5_asks, w.before args s = true) : CallW rmX5_asks s args RX5 RX3 172 yX3_isFull cX3_isFull 1 (some .boolean) wsX3_isFull rmX3_isFull 0 0 0 := cwV 0 hts gX5_asks_X3_isFull rfl rfl rfl hdX3_isFull ⟨Nat.le_of_ble_eq_true rfl, Nat.le_of_ble_eq_true rfl⟩
theorem cwX5_asks_X5_isSum {s : State} {args : Array Value} (hts : ∀ w ∈ wsX5_asks, w.before args s = true) : CallB rmX5_asks s args RX5 169 yX5_isSum cX5_isSum 1 (some .boolean) wsX5_isSum rmX5_isSum 0 0 1 ∧ (Cond.static yX5_isSum).before args s = true := va_cwS 1 hts gX5_asks_X5_isSum rfl rfl rfl hdX5_isSum.2 ⟨Nat.le_of_ble_eq_true rfl, Nat.le_of_ble_eq_true rfl⟩
theorem flX5_asks_19 : Fl wsX5_asks RX5 19 5 1 := ⟨_, _, _, rfl, by decide, inX5_asks_X5, by decide +kernel⟩
theorem flX5_asks_29 : Fl wsX5_asks RX5 29 5 3 := ⟨_, _, _, rfl, by decide, inX5_asks_X5, by decide +kernel⟩
theorem flX5_asks_86 : Fl wsX5_asks RX5 86 0 1 := ⟨_, _, _, rfl, by decide, inX5_asks_X0, by decide +kernel⟩
theorem flX5_asks_92 : Fl wsX5_asks RX5 92 0 3 := ⟨_, _, _, rfl, by decide, inX5_asks_X0, by decide +kernel⟩
set_option maxRecDepth 100000 in
set_option maxHeartbeats 4000000 in
theorem kX5_asks {l : Launch} {D : va_G} {cI cB cL cK : ClassId} {ha : Nat} {a : Nat} {b : Nat} {ad : Nat → Nat} {pa : Nat → Nat} {hh : Nat} {hq : Nat} {kad : Nat → Nat → Nat} {lf : Int32} {us : Int32} {tf : Nat → Int32} {ho : Int32} {td : Int32} {pd : Int32} {sr : Int32} {dr : Int32} {ir : Int32} {qr : Int32} {sf : Nat → Int32} {df : Nat → Int32} {jf : Nat → Int32} {qf : Nat → Int32} {oho : Int32} {otd : Int32} {opd : Int32} {osr : Int32} {odr : Int32} {oir : Int32} {oqr : Int32} {osf : Nat → Int32} {odf : Nat → Int32} {ojf : Nat → Int32} {oqf : Nat → Int32} {ct : Int32} {tpp : Int32} {kv : Nat → BV} {p1 : Int32} {p2 : Int32} {res : Int32} {qr' : Int32} {qf' : Nat → Int32} {ct' : Int32} {tpp' : Int32} {kv' : Nat → BV} (hm : mX5_asks ho td pd sr dr ir qr sf df jf qf ct tpp kv p1 p2 = some (res, qr', qf', ct', tpp', kv')) : Mu l D cI cB cL cK yX5_asks wsX5_asks rmX5_asks [.ref ha, .int p1, .int p2] (wH cI cB cK ha a b ad pa hh hq kad lf us tf ho td pd sr dr ir qr sf df jf qf oho otd opd osr odr oir oqr osf odf ojf oqf ct tpp kv) (wH cI cB cK ha a b ad pa hh hq kad lf us tf ho td pd sr dr ir qr' sf df jf qf' oho otd opd osr odr oir oqr osf odf ojf oqf ct' tpp' kv') (some (.int res)) 0 0 := by
  refine Mu.ofi (cc := cX5_asks) (own := RX5) (by decide) rfl rfl (Nat.le_of_ble_eq_true rfl) (fun p e s m below meth c ls Q A C hA hP hD hS hl hret => ?_)
  obtain ⟨hx, hb, hr, hml, hown, hts, hlk, hK⟩ := id C
  have hcf : CallFix p m c cX5_asks 3 s _ wsX5_asks RX5 := ⟨hx, hb, hml, hown, hts⟩
  have hl : lv_has ls 3 [(0, .ref ha), (1, .int p1), (2, .int p2)] := hl
  unfold mX5_asks at hm
  refine lv_aload_n hx hb dX5_asks_0 rfl (lv_at hl 0 rfl) ?_
  refine gf (q0 := 0) hx hb hts hown hK flX5_asks_19 hP rfl rfl dX5_asks_1 ?_
  refine gf (q0 := 3) hx hb hts hown hK flX5_asks_86 hP rfl rfl dX5_asks_4 ?_
  refine lv_iload_n hx hb dX5_asks_7 rfl (lv_at hl 1 rfl) ?_
  obtain ⟨v1, h_2, hm⟩ := b1_s hm
  refine rd_v hcf (kX3_has h_2) (cwX5_asks_X3_has hts) hK hP sH_d (ci := 3) (q0 := 6) rfl rfl rfl hl.1 rfl (Nat.le_of_ble_eq_true rfl) dX5_asks_8 ⟨Nat.zero_le _, Nat.zero_le _⟩ ?_
  refine lv_if_eq (tgt := 21) hx hb dX5_asks_11 (by decide) (fun c_3 => ?_) (fun c_3 => ?_)
  · replace hm := br_p hm c_3
    refine lv_iconst (v := (-1)) hx hb dX5_asks_21 (by decide) ?_
    cases hm
    exact hret _ _ _ _ dX5_asks_22 rfl hP hD hS
  · replace hm := br_n hm c_3
    refine lv_iload_n hx hb dX5_asks_14 rfl (lv_at hl 2 rfl) ?_
    obtain ⟨v4, h_5, hm⟩ := b1_s hm
    refine rd_s hcf (kX5_isSum h_5) (cwX5_asks_X5_isSum hts) hK hP Sb.nil rfl hl.1 rfl (Nat.le_of_ble_eq_true rfl) dX5_asks_15 ⟨Nat.zero_le _, Nat.zero_le _⟩ ?_
    refine lv_if_ne (tgt := 23) hx hb dX5_asks_18 (by decide) (fun c_6 => ?_) (fun c_6 => ?_)
    · replace hm := br_n hm c_6
      refine lv_aload_n hx hb dX5_asks_23 rfl (lv_at hl 0 rfl) ?_
      refine gf (q0 := 0) hx hb hts hown hK flX5_asks_19 hP rfl rfl dX5_asks_24 ?_
      refine gf (q0 := 3) hx hb hts hown hK flX5_asks_92 hP rfl rfl dX5_asks_27 ?_
      obtain ⟨v7, h_8, hm⟩ := b1_s hm
      refine rd_v hcf (kX3_isFull h_8) (cwX5_asks_X3_isFull hts) hK hP sH_q (ci := 3) (q0 := 10) rfl rfl rfl hl.1 rfl (Nat.le_of_ble_eq_true rfl) dX5_asks_30 ⟨Nat.zero_le _, Nat.zero_le _⟩ ?_
      refine lv_if_eq (tgt := 39) hx hb dX5_asks_33 (by decide) (fun c_9 => ?_) (fun c_9 => ?_)
      · replace hm := br_p hm c_9
        refine lv_aload_n hx hb dX5_asks_39 rfl (lv_at hl 0 rfl) ?_
        refine gf (q0 := 0) hx hb hts hown hK flX5_asks_29 hP rfl rfl dX5_asks_40 ?_
        refine lv_aload_n hx hb dX5_asks_43 rfl (lv_at hl 0 rfl) ?_
        refine gf (q0 := 0) hx hb hts hown hK flX5_asks_19 hP rfl rfl dX5_asks_44 ?_
        obtain ⟨ct10, tpp11, kv12, h_13, hm⟩ := b3_s hm
        refine mu_vv hcf (kX1_keep h_13) (cwX5_asks_X1_keep hts) hK hP hD hS hA jH_hs (ci := 1) (q0 := 21) rfl rfl rfl hl.1 rfl (Nat.le_of_ble_eq_true rfl) dX5_asks_47 ⟨Nat.zero_le _, Nat.zero_le _⟩ (fun H locs hP hD hS => ?_)
        refine lv_aload_n hx hb dX5_asks_50 rfl (lv_at hl 0 rfl) ?_
        refine gf (q0 := 0) hx hb hts hown hK flX5_asks_19 hP rfl rfl dX5_asks_51 ?_
        refine lv_iload_n hx hb dX5_asks_54 rfl (lv_at hl 1 rfl) ?_
        refine lv_iload_n hx hb dX5_asks_55 rfl (lv_at hl 2 rfl) ?_
        obtain ⟨v14, qr15, qf16, h_17, hm⟩ := b3_s hm
        refine mu_vi hcf (kX0_addOrder h_17) (cwX5_asks_X0_addOrder hts) hK hP hD hS hA jH_b (ci := 0) (q0 := 3) rfl rfl rfl hl.1 rfl (Nat.le_of_ble_eq_true rfl) dX5_asks_56 ⟨Nat.zero_le _, Nat.zero_le _⟩ (fun H locs hP hD hS => ?_)
        cases hm
        exact hret _ _ _ _ dX5_asks_59 rfl hP hD hS
      · replace hm := br_n hm c_9
        refine lv_bipush (v := (-2)) hx hb dX5_asks_36 (by decide) ?_
        cases hm
        exact hret _ _ _ _ dX5_asks_38 rfl hP hD hS
    · replace hm := br_p hm c_6
      refine lv_iconst (v := (-1)) hx hb dX5_asks_21 (by decide) ?_
      cases hm
      exact hret _ _ _ _ dX5_asks_22 rfl hP hD hS
/-! X5 ships(I)I -/
abbrev rmX5_ships : Room := { frames := 5, cells := 0, slots := 0, locals := 124 }
theorem hdX5_ships : yX5_ships.cls = RX5 ∧ yX5_ships.cls ≠ "java/lang/invoke/MethodHandle" ∧ yX5_ships.cls ≠ "java/lang/invoke/VarHandle" ∧ (parseMethodDescriptor yX5_ships.desc).map (fun d => d.parameters.length) = some 1 := by decide +kernel
theorem inX5_ships_X0 : ∀ w ∈ u_ws RX0 TX0 7, w ∈ wsX5_ships := by decide +kernel
theorem inX5_ships_X5 : ∀ w ∈ u_ws RX5 TX5 5, w ∈ wsX5_ships := by decide +kernel
theorem cwX5_ships_X0_billOrder {s : State} {args : Array Value} (hts : ∀ w ∈ wsX5_ships, w.before args s = true) : CallW rmX5_ships s args RX5 RX0 205 yX0_billOrder cX0_billOrder 5 (some .int) wsX0_billOrder rmX0_billOrder 0 0 1 := cwV 1 hts gX5_ships_X0_billOrder rfl rfl rfl hdX0_billOrder ⟨Nat.le_of_ble_eq_true rfl, Nat.le_of_ble_eq_true rfl⟩
theorem cwX5_ships_X1_keep {s : State} {args : Array Value} (hts : ∀ w ∈ wsX5_ships, w.before args s = true) : CallW rmX5_ships s args RX5 RX1 175 yX1_keep cX1_keep 2 none wsX1_keep rmX1_keep 0 0 1 := cwV 1 hts gX5_ships_X1_keep rfl rfl rfl hdX1_keep ⟨Nat.le_of_ble_eq_true rfl, Nat.le_of_ble_eq_true rfl⟩
theorem cwX5_ships_X3_get {s : State} {args : Array Value} (hts : ∀ w ∈ wsX5_ships, w.before args s = true) : CallW rmX5_ships s args RX5 RX3 108 yX3_get cX3_get 4 (some .int) wsX3_get rmX3_get 0 0 2 := cwV 2 hts gX5_ships_X3_get rfl rfl rfl hdX3_get ⟨Nat.le_of_ble_eq_true rfl, Nat.le_of_ble_eq_true rfl⟩
theorem cwX5_ships_X3_has {s : State} {args : Array Value} (hts : ∀ w ∈ wsX5_ships, w.before args s = true) : CallW rmX5_ships s args RX5 RX3 112 yX3_has cX3_has 2 (some .boolean) wsX3_has rmX3_has 0 0 1 := cwV 1 hts gX5_ships_X3_has rfl rfl rfl hdX3_has ⟨Nat.le_of_ble_eq_true rfl, Nat.le_of_ble_eq_true rfl⟩
theorem cwX5_ships_X3_isFull {s : State} {args : Array Value} (hts : ∀ w ∈ wsX5_ships, w.before args s = true) : CallW rmX5_ships s args RX5 RX3 172 yX3_isFull cX3_isFull 1 (some .boolean) wsX3_isFull rmX3_isFull 0 0 0 := cwV 0 hts gX5_ships_X3_isFull rfl rfl rfl hdX3_isFull ⟨Nat.le_of_ble_eq_true rfl, Nat.le_of_ble_eq_true rfl⟩
theorem flX5_ships_19 : Fl wsX5_ships RX5 19 5 1 := ⟨_, _, _, rfl, by decide, inX5_ships_X5, by decide +kernel⟩
theorem flX5_ships_29 : Fl wsX5_ships RX5 29 5 3 := ⟨_, _, _, rfl, by decide, inX5_ships_X5, by decide +kernel⟩
theorem flX5_ships_89 : Fl wsX5_ships RX5 89 0 2 := ⟨_, _, _, rfl, by decide, inX5_ships_X0, by decide +kernel⟩
theorem flX5_ships_92 : Fl wsX5_ships RX5 92 0 3 := ⟨_, _, _, rfl, by decide, inX5_ships_X0, by decide +kernel⟩
set_option maxRecDepth 100000 in
set_option maxHeartbeats 4000000 in
theorem kX5_ships {l : Launch} {D : va_G} {cI cB cL cK : ClassId} {ha : Nat} {a : Nat} {b : Nat} {ad : Nat → Nat} {pa : Nat → Nat} {hh : Nat} {hq : Nat} {kad : Nat → Nat → Nat} {lf : Int32} {us : Int32} {tf : Nat → Int32} {ho : Int32} {td : Int32} {pd : Int32} {sr : Int32} {dr : Int32} {ir : Int32} {qr : Int32} {sf : Nat → Int32} {df : Nat → Int32} {jf : Nat → Int32} {qf : Nat → Int32} {oho : Int32} {otd : Int32} {opd : Int32} {osr : Int32} {odr : Int32} {oir : Int32} {oqr : Int32} {osf : Nat → Int32} {odf : Nat → Int32} {ojf : Nat → Int32} {oqf : Nat → Int32} {ct : Int32} {tpp : Int32} {kv : Nat → BV} {p1 : Int32} {res : Int32} {ir' : Int32} {df' : Nat → Int32} {jf' : Nat → Int32} {qf' : Nat → Int32} {ct' : Int32} {tpp' : Int32} {kv' : Nat → BV} (hm : mX5_ships ho td pd sr dr ir qr sf df jf qf ct tpp kv p1 = some (res, ir', df', jf', qf', ct', tpp', kv')) : Mu l D cI cB cL cK yX5_ships wsX5_ships rmX5_ships [.ref ha, .int p1] (wH cI cB cK ha a b ad pa hh hq kad lf us tf ho td pd sr dr ir qr sf df jf qf oho otd opd osr odr oir oqr osf odf ojf oqf ct tpp kv) (wH cI cB cK ha a b ad pa hh hq kad lf us tf ho td pd sr dr ir' qr sf df' jf' qf' oho otd opd osr odr oir oqr osf odf ojf oqf ct' tpp' kv') (some (.int res)) 0 0 := by
  refine Mu.ofi (cc := cX5_ships) (own := RX5) (by decide) rfl rfl (Nat.le_of_ble_eq_true rfl) (fun p e s m below meth c ls Q A C hA hP hD hS hl hret => ?_)
  obtain ⟨hx, hb, hr, hml, hown, hts, hlk, hK⟩ := id C
  have hcf : CallFix p m c cX5_ships 2 s _ wsX5_ships RX5 := ⟨hx, hb, hml, hown, hts⟩
  have hl : lv_has ls 2 [(0, .ref ha), (1, .int p1)] := hl
  unfold mX5_ships at hm
  refine lv_aload_n hx hb dX5_ships_0 rfl (lv_at hl 0 rfl) ?_
  refine gf (q0 := 0) hx hb hts hown hK flX5_ships_19 hP rfl rfl dX5_ships_1 ?_
  refine gf (q0 := 3) hx hb hts hown hK flX5_ships_92 hP rfl rfl dX5_ships_4 ?_
  refine lv_iload_n hx hb dX5_ships_7 rfl (lv_at hl 1 rfl) ?_
  obtain ⟨v1, h_2, hm⟩ := b1_s hm
  refine rd_v hcf (kX3_has h_2) (cwX5_ships_X3_has hts) hK hP sH_q (ci := 3) (q0 := 10) rfl rfl rfl hl.1 rfl (Nat.le_of_ble_eq_true rfl) dX5_ships_8 ⟨Nat.zero_le _, Nat.zero_le _⟩ ?_
  refine lv_if_eq (tgt := 30) hx hb dX5_ships_11 (by decide) (fun c_3 => ?_) (fun c_3 => ?_)
  · replace hm := br_p hm c_3
    refine lv_iconst (v := (-1)) hx hb dX5_ships_30 (by decide) ?_
    cases hm
    exact hret _ _ _ _ dX5_ships_31 rfl hP hD hS
  · replace hm := br_n hm c_3
    refine lv_aload_n hx hb dX5_ships_14 rfl (lv_at hl 0 rfl) ?_
    refine gf (q0 := 0) hx hb hts hown hK flX5_ships_19 hP rfl rfl dX5_ships_15 ?_
    refine gf (q0 := 3) hx hb hts hown hK flX5_ships_92 hP rfl rfl dX5_ships_18 ?_
    refine lv_iload_n hx hb dX5_ships_21 rfl (lv_at hl 1 rfl) ?_
    refine lv_iconst (v := 2) hx hb dX5_ships_22 (by decide) ?_
    obtain ⟨v4, h_5, hm⟩ := b1_s hm
    refine rd_v hcf (kX3_get h_5) (cwX5_ships_X3_get hts) hK hP sH_q (ci := 3) (q0 := 10) rfl rfl rfl hl.1 rfl (Nat.le_of_ble_eq_true rfl) dX5_ships_23 ⟨Nat.zero_le _, Nat.zero_le _⟩ ?_
    refine lv_iconst (v := 1) hx hb dX5_ships_26 (by decide) ?_
    refine lv_icmp_eq (tgt := 32) hx hb dX5_ships_27 (by decide) (fun c_6 => ?_) (fun c_6 => ?_)
    · replace hm := br_p hm c_6
      refine lv_aload_n hx hb dX5_ships_32 rfl (lv_at hl 0 rfl) ?_
      refine gf (q0 := 0) hx hb hts hown hK flX5_ships_19 hP rfl rfl dX5_ships_33 ?_
      refine gf (q0 := 3) hx hb hts hown hK flX5_ships_89 hP rfl rfl dX5_ships_36 ?_
      obtain ⟨v7, h_8, hm⟩ := b1_s hm
      refine rd_v hcf (kX3_isFull h_8) (cwX5_ships_X3_isFull hts) hK hP sH_j (ci := 3) (q0 := 8) rfl rfl rfl hl.1 rfl (Nat.le_of_ble_eq_true rfl) dX5_ships_39 ⟨Nat.zero_le _, Nat.zero_le _⟩ ?_
      refine lv_if_eq (tgt := 48) hx hb dX5_ships_42 (by decide) (fun c_9 => ?_) (fun c_9 => ?_)
      · replace hm := br_p hm c_9
        refine lv_aload_n hx hb dX5_ships_48 rfl (lv_at hl 0 rfl) ?_
        refine gf (q0 := 0) hx hb hts hown hK flX5_ships_29 hP rfl rfl dX5_ships_49 ?_
        refine lv_aload_n hx hb dX5_ships_52 rfl (lv_at hl 0 rfl) ?_
        refine gf (q0 := 0) hx hb hts hown hK flX5_ships_19 hP rfl rfl dX5_ships_53 ?_
        obtain ⟨ct10, tpp11, kv12, h_13, hm⟩ := b3_s hm
        refine mu_vv hcf (kX1_keep h_13) (cwX5_ships_X1_keep hts) hK hP hD hS hA jH_hs (ci := 1) (q0 := 21) rfl rfl rfl hl.1 rfl (Nat.le_of_ble_eq_true rfl) dX5_ships_56 ⟨Nat.zero_le _, Nat.zero_le _⟩ (fun H locs hP hD hS => ?_)
        refine lv_aload_n hx hb dX5_ships_59 rfl (lv_at hl 0 rfl) ?_
        refine gf (q0 := 0) hx hb hts hown hK flX5_ships_19 hP rfl rfl dX5_ships_60 ?_
        refine lv_iload_n hx hb dX5_ships_63 rfl (lv_at hl 1 rfl) ?_
        obtain ⟨v14, ir15, df16, jf17, qf18, h_19, hm⟩ := b5_s hm
        refine mu_vi hcf (kX0_billOrder h_19) (cwX5_ships_X0_billOrder hts) hK hP hD hS hA jH_b (ci := 0) (q0 := 3) rfl rfl rfl hl.1 rfl (Nat.le_of_ble_eq_true rfl) dX5_ships_64 ⟨Nat.zero_le _, Nat.zero_le _⟩ (fun H locs hP hD hS => ?_)
        cases hm
        exact hret _ _ _ _ dX5_ships_67 rfl hP hD hS
      · replace hm := br_n hm c_9
        refine lv_bipush (v := (-2)) hx hb dX5_ships_45 (by decide) ?_
        cases hm
        exact hret _ _ _ _ dX5_ships_47 rfl hP hD hS
    · replace hm := br_n hm c_6
      refine lv_iconst (v := (-1)) hx hb dX5_ships_30 (by decide) ?_
      cases hm
      exact hret _ _ _ _ dX5_ships_31 rfl hP hD hS
/-! X5 cancel(I)Z -/
abbrev rmX5_cancel : Room := { frames := 5, cells := 0, slots := 0, locals := 124 }
theorem hdX5_cancel : yX5_cancel.cls = RX5 ∧ yX5_cancel.cls ≠ "java/lang/invoke/MethodHandle" ∧ yX5_cancel.cls ≠ "java/lang/invoke/VarHandle" ∧ (parseMethodDescriptor yX5_cancel.desc).map (fun d => d.parameters.length) = some 1 := by decide +kernel
theorem inX5_cancel_X0 : ∀ w ∈ u_ws RX0 TX0 7, w ∈ wsX5_cancel := by decide +kernel
theorem inX5_cancel_X5 : ∀ w ∈ u_ws RX5 TX5 5, w ∈ wsX5_cancel := by decide +kernel
theorem cwX5_cancel_X0_release {s : State} {args : Array Value} (hts : ∀ w ∈ wsX5_cancel, w.before args s = true) : CallW rmX5_cancel s args RX5 RX0 208 yX0_release cX0_release 4 (some .int) wsX0_release rmX0_release 0 0 1 := cwV 1 hts gX5_cancel_X0_release rfl rfl rfl hdX0_release ⟨Nat.le_of_ble_eq_true rfl, Nat.le_of_ble_eq_true rfl⟩
theorem cwX5_cancel_X1_keep {s : State} {args : Array Value} (hts : ∀ w ∈ wsX5_cancel, w.before args s = true) : CallW rmX5_cancel s args RX5 RX1 175 yX1_keep cX1_keep 2 none wsX1_keep rmX1_keep 0 0 1 := cwV 1 hts gX5_cancel_X1_keep rfl rfl rfl hdX1_keep ⟨Nat.le_of_ble_eq_true rfl, Nat.le_of_ble_eq_true rfl⟩
theorem cwX5_cancel_X3_get {s : State} {args : Array Value} (hts : ∀ w ∈ wsX5_cancel, w.before args s = true) : CallW rmX5_cancel s args RX5 RX3 108 yX3_get cX3_get 4 (some .int) wsX3_get rmX3_get 0 0 2 := cwV 2 hts gX5_cancel_X3_get rfl rfl rfl hdX3_get ⟨Nat.le_of_ble_eq_true rfl, Nat.le_of_ble_eq_true rfl⟩
theorem cwX5_cancel_X3_has {s : State} {args : Array Value} (hts : ∀ w ∈ wsX5_cancel, w.before args s = true) : CallW rmX5_cancel s args RX5 RX3 112 yX3_has cX3_has 2 (some .boolean) wsX3_has rmX3_has 0 0 1 := cwV 1 hts gX5_cancel_X3_has rfl rfl rfl hdX3_has ⟨Nat.le_of_ble_eq_true rfl, Nat.le_of_ble_eq_true rfl⟩
theorem cwX5_cancel_X3_set {s : State} {args : Array Value} (hts : ∀ w ∈ wsX5_cancel, w.before args s = true) : CallW rmX5_cancel s args RX5 RX3 185 yX3_set cX3_set 5 none wsX3_set rmX3_set 0 0 3 := cwV 3 hts gX5_cancel_X3_set rfl rfl rfl hdX3_set ⟨Nat.le_of_ble_eq_true rfl, Nat.le_of_ble_eq_true rfl⟩
theorem flX5_cancel_19 : Fl wsX5_cancel RX5 19 5 1 := ⟨_, _, _, rfl, by decide, inX5_cancel_X5, by decide +kernel⟩
theorem flX5_cancel_29 : Fl wsX5_cancel RX5 29 5 3 := ⟨_, _, _, rfl, by decide, inX5_cancel_X5, by decide +kernel⟩
theorem flX5_cancel_92 : Fl wsX5_cancel RX5 92 0 3 := ⟨_, _, _, rfl, by decide, inX5_cancel_X0, by decide +kernel⟩
set_option maxRecDepth 100000 in
set_option maxHeartbeats 4000000 in
theorem kX5_cancel {l : Launch} {D : va_G} {cI cB cL cK : ClassId} {ha : Nat} {a : Nat} {b : Nat} {ad : Nat → Nat} {pa : Nat → Nat} {hh : Nat} {hq : Nat} {kad : Nat → Nat → Nat} {lf : Int32} {us : Int32} {tf : Nat → Int32} {ho : Int32} {td : Int32} {pd : Int32} {sr : Int32} {dr : Int32} {ir : Int32} {qr : Int32} {sf : Nat → Int32} {df : Nat → Int32} {jf : Nat → Int32} {qf : Nat → Int32} {oho : Int32} {otd : Int32} {opd : Int32} {osr : Int32} {odr : Int32} {oir : Int32} {oqr : Int32} {osf : Nat → Int32} {odf : Nat → Int32} {ojf : Nat → Int32} {oqf : Nat → Int32} {ct : Int32} {tpp : Int32} {kv : Nat → BV} {p1 : Int32} {res : Int32} {qf' : Nat → Int32} {ct' : Int32} {tpp' : Int32} {kv' : Nat → BV} (hm : mX5_cancel ho td pd sr dr ir qr sf df jf qf ct tpp kv p1 = some (res, qf', ct', tpp', kv')) : Mu l D cI cB cL cK yX5_cancel wsX5_cancel rmX5_cancel [.ref ha, .int p1] (wH cI cB cK ha a b ad pa hh hq kad lf us tf ho td pd sr dr ir qr sf df jf qf oho otd opd osr odr oir oqr osf odf ojf oqf ct tpp kv) (wH cI cB cK ha a b ad pa hh hq kad lf us tf ho td pd sr dr ir qr sf df jf qf' oho otd opd osr odr oir oqr osf odf ojf oqf ct' tpp' kv') (some (.int res)) 0 0 := by
  refine Mu.ofi (cc := cX5_cancel) (own := RX5) (by decide) rfl rfl (Nat.le_of_ble_eq_true rfl) (fun p e s m below meth c ls Q A C hA hP hD hS hl hret => ?_)
  obtain ⟨hx, hb, hr, hml, hown, hts, hlk, hK⟩ := id C
  have hcf : CallFix p m c cX5_cancel 2 s _ wsX5_cancel RX5 := ⟨hx, hb, hml, hown, hts⟩
  have hl : lv_has ls 2 [(0, .ref ha), (1, .int p1)] := hl
  unfold mX5_cancel at hm
  refine lv_aload_n hx hb dX5_cancel_0 rfl (lv_at hl 0 rfl) ?_
  refine gf (q0 := 0) hx hb hts hown hK flX5_cancel_19 hP rfl rfl dX5_cancel_1 ?_
  refine gf (q0 := 3) hx hb hts hown hK flX5_cancel_92 hP rfl rfl dX5_cancel_4 ?_
  refine lv_iload_n hx hb dX5_cancel_7 rfl (lv_at hl 1 rfl) ?_
  obtain ⟨v1, h_2, hm⟩ := b1_s hm
  refine rd_v hcf (kX3_has h_2) (cwX5_cancel_X3_has hts) hK hP sH_q (ci := 3) (q0 := 10) rfl rfl rfl hl.1 rfl (Nat.le_of_ble_eq_true rfl) dX5_cancel_8 ⟨Nat.zero_le _, Nat.zero_le _⟩ ?_
  refine lv_if_eq (tgt := 30) hx hb dX5_cancel_11 (by decide) (fun c_3 => ?_) (fun c_3 => ?_)
  · replace hm := br_p hm c_3
    refine lv_iconst (v := 0) hx hb dX5_cancel_30 (by decide) ?_
    cases hm
    exact hret _ _ _ _ dX5_cancel_31 rfl hP hD hS
  · replace hm := br_n hm c_3
    refine lv_aload_n hx hb dX5_cancel_14 rfl (lv_at hl 0 rfl) ?_
    refine gf (q0 := 0) hx hb hts hown hK flX5_cancel_19 hP rfl rfl dX5_cancel_15 ?_
    refine gf (q0 := 3) hx hb hts hown hK flX5_cancel_92 hP rfl rfl dX5_cancel_18 ?_
    refine lv_iload_n hx hb dX5_cancel_21 rfl (lv_at hl 1 rfl) ?_
    refine lv_iconst (v := 2) hx hb dX5_cancel_22 (by decide) ?_
    obtain ⟨v4, h_5, hm⟩ := b1_s hm
    refine rd_v hcf (kX3_get h_5) (cwX5_cancel_X3_get hts) hK hP sH_q (ci := 3) (q0 := 10) rfl rfl rfl hl.1 rfl (Nat.le_of_ble_eq_true rfl) dX5_cancel_23 ⟨Nat.zero_le _, Nat.zero_le _⟩ ?_
    refine lv_iconst (v := 1) hx hb dX5_cancel_26 (by decide) ?_
    refine lv_icmp_le (tgt := 32) hx hb dX5_cancel_27 (by decide) (fun c_6 => ?_) (fun c_6 => ?_)
    · replace hm := br_p hm c_6
      refine lv_aload_n hx hb dX5_cancel_32 rfl (lv_at hl 0 rfl) ?_
      refine gf (q0 := 0) hx hb hts hown hK flX5_cancel_29 hP rfl rfl dX5_cancel_33 ?_
      refine lv_aload_n hx hb dX5_cancel_36 rfl (lv_at hl 0 rfl) ?_
      refine gf (q0 := 0) hx hb hts hown hK flX5_cancel_19 hP rfl rfl dX5_cancel_37 ?_
      obtain ⟨ct7, tpp8, kv9, h_10, hm⟩ := b3_s hm
      refine mu_vv hcf (kX1_keep h_10) (cwX5_cancel_X1_keep hts) hK hP hD hS hA jH_hs (ci := 1) (q0 := 21) rfl rfl rfl hl.1 rfl (Nat.le_of_ble_eq_true rfl) dX5_cancel_40 ⟨Nat.zero_le _, Nat.zero_le _⟩ (fun H locs hP hD hS => ?_)
      refine lv_aload_n hx hb dX5_cancel_43 rfl (lv_at hl 0 rfl) ?_
      refine gf (q0 := 0) hx hb hts hown hK flX5_cancel_19 hP rfl rfl dX5_cancel_44 ?_
      refine gf (q0 := 3) hx hb hts hown hK flX5_cancel_92 hP rfl rfl dX5_cancel_47 ?_
      refine lv_iload_n hx hb dX5_cancel_50 rfl (lv_at hl 1 rfl) ?_
      refine lv_iconst (v := 2) hx hb dX5_cancel_51 (by decide) ?_
      refine lv_iconst (v := 3) hx hb dX5_cancel_52 (by decide) ?_
      obtain ⟨qf11, h_12, hm⟩ := b1_s hm
      refine mu_vv hcf (kX3_set h_12) (cwX5_cancel_X3_set hts) hK hP hD hS hA jH_q (ci := 3) (q0 := 10) rfl rfl rfl hl.1 rfl (Nat.le_of_ble_eq_true rfl) dX5_cancel_53 ⟨Nat.zero_le _, Nat.zero_le _⟩ (fun H locs hP hD hS => ?_)
      refine lv_aload_n hx hb dX5_cancel_56 rfl (lv_at hl 0 rfl) ?_
      refine gf (q0 := 0) hx hb hts hown hK flX5_cancel_19 hP rfl rfl dX5_cancel_57 ?_
      refine lv_aload_n hx hb dX5_cancel_60 rfl (lv_at hl 0 rfl) ?_
      refine gf (q0 := 0) hx hb hts hown hK flX5_cancel_19 hP rfl rfl dX5_cancel_61 ?_
      refine gf (q0 := 3) hx hb hts hown hK flX5_cancel_92 hP rfl rfl dX5_cancel_64 ?_
      refine lv_iload_n hx hb dX5_cancel_67 rfl (lv_at hl 1 rfl) ?_
      refine lv_iconst (v := 0) hx hb dX5_cancel_68 (by decide) ?_
      obtain ⟨v13, h_14, hm⟩ := b1_s hm
      refine rd_v hcf (kX3_get h_14) (cwX5_cancel_X3_get hts) hK hP sH_q (ci := 3) (q0 := 10) rfl rfl rfl hl.1 rfl (Nat.le_of_ble_eq_true rfl) dX5_cancel_69 ⟨Nat.zero_le _, Nat.zero_le _⟩ ?_
      obtain ⟨v15, qf16, h_17, hm⟩ := b2_s hm
      refine mu_vi hcf (kX0_release h_17) (cwX5_cancel_X0_release hts) hK hP hD hS hA jH_b (ci := 0) (q0 := 3) rfl rfl rfl hl.1 rfl (Nat.le_of_ble_eq_true rfl) dX5_cancel_72 ⟨Nat.zero_le _, Nat.zero_le _⟩ (fun H locs hP hD hS => ?_)
      refine lv_pop hx hb dX5_cancel_75 rfl ?_
      refine lv_iconst (v := 1) hx hb dX5_cancel_76 (by decide) ?_
      cases hm
      exact hret _ _ _ _ dX5_cancel_77 rfl hP hD hS
    · replace hm := br_n hm c_6
      refine lv_iconst (v := 0) hx hb dX5_cancel_30 (by decide) ?_
      cases hm
      exact hret _ _ _ _ dX5_cancel_31 rfl hP hD hS
/-! X5 pass(I)I -/
abbrev rmX5_pass : Room := { frames := 6, cells := 0, slots := 0, locals := 138 }
theorem hdX5_pass : yX5_pass.cls = RX5 ∧ yX5_pass.cls ≠ "java/lang/invoke/MethodHandle" ∧ yX5_pass.cls ≠ "java/lang/invoke/VarHandle" ∧ (parseMethodDescriptor yX5_pass.desc).map (fun d => d.parameters.length) = some 1 := by decide +kernel
theorem inX5_pass_X0 : ∀ w ∈ u_ws RX0 TX0 7, w ∈ wsX5_pass := by decide +kernel
theorem inX5_pass_X5 : ∀ w ∈ u_ws RX5 TX5 5, w ∈ wsX5_pass := by decide +kernel
theorem cwX5_pass_X0_endDay {s : State} {args : Array Value} (hts : ∀ w ∈ wsX5_pass, w.before args s = true) : CallW rmX5_pass s args RX5 RX0 211 yX0_endDay cX0_endDay 2 none wsX0_endDay rmX0_endDay 0 0 0 := cwV 0 hts gX5_pass_X0_endDay rfl rfl rfl hdX0_endDay ⟨Nat.le_of_ble_eq_true rfl, Nat.le_of_ble_eq_true rfl⟩
theorem cwX5_pass_X1_keep {s : State} {args : Array Value} (hts : ∀ w ∈ wsX5_pass, w.before args s = true) : CallW rmX5_pass s args RX5 RX1 175 yX1_keep cX1_keep 2 none wsX1_keep rmX1_keep 0 0 1 := cwV 1 hts gX5_pass_X1_keep rfl rfl rfl hdX1_keep ⟨Nat.le_of_ble_eq_true rfl, Nat.le_of_ble_eq_true rfl⟩
theorem flX5_pass_19 : Fl wsX5_pass RX5 19 5 1 := ⟨_, _, _, rfl, by decide, inX5_pass_X5, by decide +kernel⟩
theorem flX5_pass_29 : Fl wsX5_pass RX5 29 5 3 := ⟨_, _, _, rfl, by decide, inX5_pass_X5, by decide +kernel⟩
theorem flX5_pass_74 : Fl wsX5_pass RX5 74 0 5 := ⟨_, _, _, rfl, by decide, inX5_pass_X0, by decide +kernel⟩
set_option maxRecDepth 100000 in
set_option maxHeartbeats 4000000 in
theorem tX5_pass_L41 {ha : Nat} {a : Nat} {b : Nat} {ad : Nat → Nat} {pa : Nat → Nat} {hh : Nat} {hq : Nat} {kad : Nat → Nat → Nat} {lf : Int32} {us : Int32} {tf : Nat → Int32} {ho : Int32} {pd : Int32} {sr : Int32} {dr : Int32} {qr : Int32} {sf : Nat → Int32} {oho : Int32} {otd : Int32} {opd : Int32} {osr : Int32} {odr : Int32} {oir : Int32} {oqr : Int32} {osf : Nat → Int32} {odf : Nat → Int32} {ojf : Nat → Int32} {oqf : Nat → Int32} {res : Int32} {td' : Int32} {ir' : Int32} {df' : Nat → Int32} {jf' : Nat → Int32} {qf' : Nat → Int32} {ct' : Int32} {tpp' : Int32} {kv' : Nat → BV} (C : Cx p s m args meth c cX5_pass (some .int) 3 wsX5_pass RX5 D cI cB cL cK) (hA : ∀ q : Nat, s.heap.size ≤ q → A q) (hret : ∀ (pc : Nat) (ls : Array Slot) (H : Heap) (locs : List Loc), decode cX5_pass pc = .ok (.ireturn, 1) → narrow .int (.int res) = .int res → va_P D vwCl (wH cI cB cK ha a b ad pa hh hq kad lf us tf ho td' pd sr dr ir' qr sf df' jf' qf' oho otd opd osr odr oir oqr osf odf ojf oqf ct' tpp' kv') H → va_D A (wH cI cB cK ha a b ad pa hh hq kad lf us tf ho td' pd sr dr ir' qr sf df' jf' qf' oho otd opd osr odr oir oqr osf odf ojf oqf ct' tpp' kv') → va_S A s.heap H locs → W p l e rmX5_pass s m args below meth c H locs 0 0 Q (F0 m pc ls [.int res])) : ∀ (n9 : Nat) (x1 : Int32) (x2 : Int32) (td : Int32) (ir : Int32) (df : Nat → Int32) (jf : Nat → Int32) (qf : Nat → Int32) (ct : Int32) (tpp : Int32) (kv : Nat → BV), mX5_pass_L41 n9 ho pd sr dr qr sf x1 x2 td ir df jf qf ct tpp kv = some (res, td', ir', df', jf', qf', ct', tpp', kv') → ∀ (H : Heap) (locs : List Loc) (ls : Array Slot), va_P D vwCl (wH cI cB cK ha a b ad pa hh hq kad lf us tf ho td pd sr dr ir qr sf df jf qf oho otd opd osr odr oir oqr osf odf ojf oqf ct tpp kv) H → va_D A (wH cI cB cK ha a b ad pa hh hq kad lf us tf ho td pd sr dr ir qr sf df jf qf oho otd opd osr odr oir oqr osf odf ojf oqf ct tpp kv) → va_S A s.heap H locs → lv_has ls 3 [(0, .ref ha), (1, .int x1), (2, .int x2)] → W p l e rmX5_pass s m args below meth c H locs 0 0 Q (F0 m 41 ls []) := by
  obtain ⟨hx, hb, hr, hml, hown, hts, hlk, hK⟩ := id C
  have hcf : CallFix p m c cX5_pass 3 s args wsX5_pass RX5 := ⟨hx, hb, hml, hown, hts⟩
  intro n9
  induction n9 with
  | zero => intro x1 x2 td ir df jf qf ct tpp kv hm; cases hm
  | succ k ih =>
    intro x1 x2 td ir df jf qf ct tpp kv hm H locs ls hP hD hS hl
    rw [mX5_pass_L41.eq_2] at hm
    refine lv_iload_n hx hb dX5_pass_41 rfl (lv_at hl 2 rfl) ?_
    refine lv_iload_n hx hb dX5_pass_42 rfl (lv_at hl 1 rfl) ?_
    refine lv_icmp_ge (tgt := 59) hx hb dX5_pass_43 (by decide) (fun c_8 => ?_) (fun c_8 => ?_)
    · replace hm := br_p hm c_8
      refine lv_aload_n hx hb dX5_pass_59 rfl (lv_at hl 0 rfl) ?_
      refine gf (q0 := 0) hx hb hts hown hK flX5_pass_19 hP rfl rfl dX5_pass_60 ?_
      refine gf (q0 := 3) hx hb hts hown hK flX5_pass_74 hP rfl rfl dX5_pass_63 ?_
      cases hm
      exact hret _ _ _ _ dX5_pass_66 rfl hP hD hS
    · replace hm := br_n hm c_8
      refine lv_aload_n hx hb dX5_pass_46 rfl (lv_at hl 0 rfl) ?_
      refine gf (q0 := 0) hx hb hts hown hK flX5_pass_19 hP rfl rfl dX5_pass_47 ?_
      obtain ⟨td9, ir10, df11, jf12, qf13, h_14, hm⟩ := b5_s hm
      refine mu_vv hcf (kX0_endDay h_14) (cwX5_pass_X0_endDay hts) hK hP hD hS hA jH_b (ci := 0) (q0 := 3) rfl rfl rfl hl.1 rfl (Nat.le_of_ble_eq_true rfl) dX5_pass_50 ⟨Nat.zero_le _, Nat.zero_le _⟩ (fun H locs hP hD hS => ?_)
      refine lv_iinc (v := (x2 + 1)) (lv' := [(2, .int (x2 + 1)), (0, .ref ha), (1, .int x1)]) hx hb dX5_pass_53 hl (k := 2) rfl rfl (by decide) rfl (fun ls hl => ?_)
      refine lv_goto (tgt := 41) hx hb dX5_pass_56 (by decide) ?_
      exact ih _ _ _ _ _ _ _ _ _ _ hm _ _ _ hP hD hS (lv_sub hl [1, 2, 0] rfl)
set_option maxRecDepth 100000 in
set_option maxHeartbeats 4000000 in
theorem kX5_pass {l : Launch} {D : va_G} {cI cB cL cK : ClassId} {ha : Nat} {a : Nat} {b : Nat} {ad : Nat → Nat} {pa : Nat → Nat} {hh : Nat} {hq : Nat} {kad : Nat → Nat → Nat} {lf : Int32} {us : Int32} {tf : Nat → Int32} {ho : Int32} {td : Int32} {pd : Int32} {sr : Int32} {dr : Int32} {ir : Int32} {qr : Int32} {sf : Nat → Int32} {df : Nat → Int32} {jf : Nat → Int32} {qf : Nat → Int32} {oho : Int32} {otd : Int32} {opd : Int32} {osr : Int32} {odr : Int32} {oir : Int32} {oqr : Int32} {osf : Nat → Int32} {odf : Nat → Int32} {ojf : Nat → Int32} {oqf : Nat → Int32} {ct : Int32} {tpp : Int32} {kv : Nat → BV} {p1 : Int32} {res : Int32} {td' : Int32} {ir' : Int32} {df' : Nat → Int32} {jf' : Nat → Int32} {qf' : Nat → Int32} {ct' : Int32} {tpp' : Int32} {kv' : Nat → BV} (hm : mX5_pass ho td pd sr dr ir qr sf df jf qf ct tpp kv p1 = some (res, td', ir', df', jf', qf', ct', tpp', kv')) : Mu l D cI cB cL cK yX5_pass wsX5_pass rmX5_pass [.ref ha, .int p1] (wH cI cB cK ha a b ad pa hh hq kad lf us tf ho td pd sr dr ir qr sf df jf qf oho otd opd osr odr oir oqr osf odf ojf oqf ct tpp kv) (wH cI cB cK ha a b ad pa hh hq kad lf us tf ho td' pd sr dr ir' qr sf df' jf' qf' oho otd opd osr odr oir oqr osf odf ojf oqf ct' tpp' kv') (some (.int res)) 0 0 := by
  refine Mu.ofi (cc := cX5_pass) (own := RX5) (by decide) rfl rfl (Nat.le_of_ble_eq_true rfl) (fun p e s m below meth c ls Q A C hA hP hD hS hl hret => ?_)
  obtain ⟨hx, hb, hr, hml, hown, hts, hlk, hK⟩ := id C
  have hcf : CallFix p m c cX5_pass 3 s _ wsX5_pass RX5 := ⟨hx, hb, hml, hown, hts⟩
  have hl : lv_has ls 3 [(0, .ref ha), (1, .int p1)] := hl
  unfold mX5_pass at hm
  refine lv_iload_n hx hb dX5_pass_0 rfl (lv_at hl 1 rfl) ?_
  refine lv_iconst (v := 1) hx hb dX5_pass_1 (by decide) ?_
  refine lv_icmp_lt (tgt := 26) hx hb dX5_pass_2 (by decide) (fun c_1 => ?_) (fun c_1 => ?_)
  · replace hm := br_p hm c_1
    refine lv_iconst (v := (-1)) hx hb dX5_pass_26 (by decide) ?_
    cases hm
    exact hret _ _ _ _ dX5_pass_27 rfl hP hD hS
  · replace hm := br_n hm c_1
    refine lv_iload_n hx hb dX5_pass_5 rfl (lv_at hl 1 rfl) ?_
    refine lv_bipush (v := 99) hx hb dX5_pass_6 (by decide) ?_
    refine lv_icmp_gt (tgt := 26) hx hb dX5_pass_8 (by decide) (fun c_2 => ?_) (fun c_2 => ?_)
    · replace hm := br_p hm c_2
      refine lv_iconst (v := (-1)) hx hb dX5_pass_26 (by decide) ?_
      cases hm
      exact hret _ _ _ _ dX5_pass_27 rfl hP hD hS
    · replace hm := br_n hm c_2
      refine lv_aload_n hx hb dX5_pass_11 rfl (lv_at hl 0 rfl) ?_
      refine gf (q0 := 0) hx hb hts hown hK flX5_pass_19 hP rfl rfl dX5_pass_12 ?_
      refine gf (q0 := 3) hx hb hts hown hK flX5_pass_74 hP rfl rfl dX5_pass_15 ?_
      refine lv_iload_n hx hb dX5_pass_18 rfl (lv_at hl 1 rfl) ?_
      refine lv_iadd hx hb dX5_pass_19 ?_
      refine lv_sipush (v := 999) hx hb dX5_pass_20 (by decide) ?_
      refine lv_icmp_le (tgt := 28) hx hb dX5_pass_23 (by decide) (fun c_3 => ?_) (fun c_3 => ?_)
      · replace hm := br_p hm c_3
        refine lv_aload_n hx hb dX5_pass_28 rfl (lv_at hl 0 rfl) ?_
        refine gf (q0 := 0) hx hb hts hown hK flX5_pass_29 hP rfl rfl dX5_pass_29 ?_
        refine lv_aload_n hx hb dX5_pass_32 rfl (lv_at hl 0 rfl) ?_
        refine gf (q0 := 0) hx hb hts hown hK flX5_pass_19 hP rfl rfl dX5_pass_33 ?_
        obtain ⟨ct4, tpp5, kv6, h_7, hm⟩ := b3_s hm
        refine mu_vv hcf (kX1_keep h_7) (cwX5_pass_X1_keep hts) hK hP hD hS hA jH_hs (ci := 1) (q0 := 21) rfl rfl rfl hl.1 rfl (Nat.le_of_ble_eq_true rfl) dX5_pass_36 ⟨Nat.zero_le _, Nat.zero_le _⟩ (fun H locs hP hD hS => ?_)
        refine lv_iconst (v := 0) hx hb dX5_pass_39 (by decide) ?_
        refine lv_istore_n (lv' := [(2, .int 0), (0, .ref ha), (1, .int p1)]) hx hb dX5_pass_40 rfl hl (by decide) rfl (fun ls hl => ?_)
        exact tX5_pass_L41 C hA hret _ _ _ _ _ _ _ _ _ _ _ hm _ _ _ hP hD hS (lv_sub hl [1, 2, 0] rfl)
      · replace hm := br_n hm c_3
        refine lv_iconst (v := (-1)) hx hb dX5_pass_26 (by decide) ?_
        cases hm
        exact hret _ _ _ _ dX5_pass_27 rfl hP hD hS
/-! X5 undo()I -/
abbrev rmX5_undo : Room := { frames := 4, cells := 0, slots := 0, locals := 125 }
theorem hdX5_undo : yX5_undo.cls = RX5 ∧ yX5_undo.cls ≠ "java/lang/invoke/MethodHandle" ∧ yX5_undo.cls ≠ "java/lang/invoke/VarHandle" ∧ (parseMethodDescriptor yX5_undo.desc).map (fun d => d.parameters.length) = some 0 := by decide +kernel
theorem inX5_undo_X5 : ∀ w ∈ u_ws RX5 TX5 5, w ∈ wsX5_undo := by decide +kernel
theorem cwX5_undo_X1_restore {s : State} {args : Array Value} (hts : ∀ w ∈ wsX5_undo, w.before args s = true) : CallW rmX5_undo s args RX5 RX1 214 yX1_restore cX1_restore 3 none wsX1_restore rmX1_restore 0 0 1 := cwV 1 hts gX5_undo_X1_restore rfl rfl rfl hdX1_restore ⟨Nat.le_of_ble_eq_true rfl, Nat.le_of_ble_eq_true rfl⟩
theorem cwX5_undo_X1_size {s : State} {args : Array Value} (hts : ∀ w ∈ wsX5_undo, w.before args s = true) : CallW rmX5_undo s args RX5 RX1 107 yX1_size cX1_size 1 (some .int) wsX1_size rmX1_size 0 0 0 := cwV 0 hts gX5_undo_X1_size rfl rfl rfl hdX1_size ⟨Nat.le_of_ble_eq_true rfl, Nat.le_of_ble_eq_true rfl⟩
theorem flX5_undo_19 : Fl wsX5_undo RX5 19 5 1 := ⟨_, _, _, rfl, by decide, inX5_undo_X5, by decide +kernel⟩
theorem flX5_undo_29 : Fl wsX5_undo RX5 29 5 3 := ⟨_, _, _, rfl, by decide, inX5_undo_X5, by decide +kernel⟩
set_option maxRecDepth 100000 in
set_option maxHeartbeats 4000000 in
theorem kX5_undo {l : Launch} {D : va_G} {cI cB cL cK : ClassId} {ha : Nat} {a : Nat} {b : Nat} {ad : Nat → Nat} {pa : Nat → Nat} {hh : Nat} {hq : Nat} {kad : Nat → Nat → Nat} {lf : Int32} {us : Int32} {tf : Nat → Int32} {ho : Int32} {td : Int32} {pd : Int32} {sr : Int32} {dr : Int32} {ir : Int32} {qr : Int32} {sf : Nat → Int32} {df : Nat → Int32} {jf : Nat → Int32} {qf : Nat → Int32} {oho : Int32} {otd : Int32} {opd : Int32} {osr : Int32} {odr : Int32} {oir : Int32} {oqr : Int32} {osf : Nat → Int32} {odf : Nat → Int32} {ojf : Nat → Int32} {oqf : Nat → Int32} {ct : Int32} {tpp : Int32} {kv : Nat → BV}  {res : Int32} {ho' : Int32} {td' : Int32} {pd' : Int32} {sr' : Int32} {dr' : Int32} {ir' : Int32} {qr' : Int32} {sf' : Nat → Int32} {df' : Nat → Int32} {jf' : Nat → Int32} {qf' : Nat → Int32} {ct' : Int32} {tpp' : Int32} (hm : mX5_undo ho td pd sr dr ir qr sf df jf qf ct tpp kv = some (res, ho', td', pd', sr', dr', ir', qr', sf', df', jf', qf', ct', tpp')) : Mu l D cI cB cL cK yX5_undo wsX5_undo rmX5_undo [.ref ha] (wH cI cB cK ha a b ad pa hh hq kad lf us tf ho td pd sr dr ir qr sf df jf qf oho otd opd osr odr oir oqr osf odf ojf oqf ct tpp kv) (wH cI cB cK ha a b ad pa hh hq kad lf us tf ho' td' pd' sr' dr' ir' qr' sf' df' jf' qf' oho otd opd osr odr oir oqr osf odf ojf oqf ct' tpp' kv) (some (.int res)) 0 0 := by
  refine Mu.ofi (cc := cX5_undo) (own := RX5) (by decide) rfl rfl (Nat.le_of_ble_eq_true rfl) (fun p e s m below meth c ls Q A C hA hP hD hS hl hret => ?_)
  obtain ⟨hx, hb, hr, hml, hown, hts, hlk, hK⟩ := id C
  have hcf : CallFix p m c cX5_undo 1 s _ wsX5_undo RX5 := ⟨hx, hb, hml, hown, hts⟩
  have hl : lv_has ls 1 [(0, .ref ha)] := hl
  unfold mX5_undo at hm
  refine lv_aload_n hx hb dX5_undo_0 rfl (lv_at hl 0 rfl) ?_
  refine gf (q0 := 0) hx hb hts hown hK flX5_undo_29 hP rfl rfl dX5_undo_1 ?_
  obtain ⟨v1, h_2, hm⟩ := b1_s hm
  refine rd_v hcf (kX1_size h_2) (cwX5_undo_X1_size hts) hK hP sH_h (ci := 1) (q0 := 21) rfl rfl rfl hl.1 rfl (Nat.le_of_ble_eq_true rfl) dX5_undo_4 ⟨Nat.zero_le _, Nat.zero_le _⟩ ?_
  refine lv_if_ne (tgt := 12) hx hb dX5_undo_7 (by decide) (fun c_3 => ?_) (fun c_3 => ?_)
  · replace hm := br_n hm c_3
    refine lv_aload_n hx hb dX5_undo_12 rfl (lv_at hl 0 rfl) ?_
    refine gf (q0 := 0) hx hb hts hown hK flX5_undo_29 hP rfl rfl dX5_undo_13 ?_
    refine lv_aload_n hx hb dX5_undo_16 rfl (lv_at hl 0 rfl) ?_
    refine gf (q0 := 0) hx hb hts hown hK flX5_undo_19 hP rfl rfl dX5_undo_17 ?_
    obtain ⟨ct4, tpp5, ho6, td7, pd8, sr9, dr10, ir11, qr12, sf13, df14, jf15, qf16, h_17, hm⟩ := b13_s hm
    refine mu_vv hcf (kX1_restore h_17) (cwX5_undo_X1_restore hts) hK hP hD hS hA jH_hs (ci := 1) (q0 := 21) rfl rfl rfl hl.1 rfl (Nat.le_of_ble_eq_true rfl) dX5_undo_20 ⟨Nat.zero_le _, Nat.zero_le _⟩ (fun H locs hP hD hS => ?_)
    refine lv_aload_n hx hb dX5_undo_23 rfl (lv_at hl 0 rfl) ?_
    refine gf (q0 := 0) hx hb hts hown hK flX5_undo_29 hP rfl rfl dX5_undo_24 ?_
    obtain ⟨v18, h_19, hm⟩ := b1_s hm
    refine rd_v hcf (kX1_size h_19) (cwX5_undo_X1_size hts) hK hP sH_h (ci := 1) (q0 := 21) rfl rfl rfl hl.1 rfl (Nat.le_of_ble_eq_true rfl) dX5_undo_27 ⟨Nat.zero_le _, Nat.zero_le _⟩ ?_
    cases hm
    exact hret _ _ _ _ dX5_undo_30 rfl hP hD hS
  · replace hm := br_p hm c_3
    refine lv_iconst (v := (-1)) hx hb dX5_undo_10 (by decide) ?_
    cases hm
    exact hret _ _ _ _ dX5_undo_11 rfl hP hD hS
end
