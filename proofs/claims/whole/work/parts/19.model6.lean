section
variable {p : Program} {l : Launch} {e : Env} {s : State} {m : MethodId} {args : Array Value} {below : List Frame} {meth : Method} {c : Code} {Q : State → Prop} {A : Nat → Prop} {D : va_G} {cI cB cL cK : ClassId}
/-! X6 ships(I)I -/
abbrev rmX6_ships : Room := { frames := 4, cells := 0, slots := 0, locals := 92 }
theorem hdX6_ships : yX6_ships.cls = RX6 ∧ yX6_ships.cls ≠ "java/lang/invoke/MethodHandle" ∧ yX6_ships.cls ≠ "java/lang/invoke/VarHandle" ∧ (parseMethodDescriptor yX6_ships.desc).map (fun d => d.parameters.length) = some 1 := by decide +kernel
theorem inX6_ships_X6 : ∀ w ∈ u_ws RX6 TX6 20, w ∈ wsX6_ships := by decide +kernel
theorem cwX6_ships_X6_invoices {s : State} {args : Array Value} (hts : ∀ w ∈ wsX6_ships, w.before args s = true) : CallW rmX6_ships s args RX6 RX6 186 yX6_invoices cX6_invoices 6 (some .int) wsX6_invoices rmX6_invoices 0 0 4 := cwV 4 hts gX6_ships_X6_invoices rfl rfl rfl hdX6_invoices ⟨Nat.le_of_ble_eq_true rfl, Nat.le_of_ble_eq_true rfl⟩
theorem cwX6_ships_X6_isOrder {s : State} {args : Array Value} (hts : ∀ w ∈ wsX6_ships, w.before args s = true) : CallW rmX6_ships s args RX6 RX6 233 yX6_isOrder cX6_isOrder 2 (some .boolean) wsX6_isOrder rmX6_isOrder 0 0 1 := cwV 1 hts gX6_ships_X6_isOrder rfl rfl rfl hdX6_isOrder ⟨Nat.le_of_ble_eq_true rfl, Nat.le_of_ble_eq_true rfl⟩
theorem cwX6_ships_X6_its {s : State} {args : Array Value} (hts : ∀ w ∈ wsX6_ships, w.before args s = true) : CallW rmX6_ships s args RX6 RX6 148 yX6_its cX6_its 3 (some .int) wsX6_its rmX6_its 0 0 2 := cwV 2 hts gX6_ships_X6_its rfl rfl rfl hdX6_its ⟨Nat.le_of_ble_eq_true rfl, Nat.le_of_ble_eq_true rfl⟩
theorem cwX6_ships_X6_ordered {s : State} {args : Array Value} (hts : ∀ w ∈ wsX6_ships, w.before args s = true) : CallW rmX6_ships s args RX6 RX6 154 yX6_ordered cX6_ordered 3 (some .int) wsX6_ordered rmX6_ordered 0 0 2 := cwV 2 hts gX6_ships_X6_ordered rfl rfl rfl hdX6_ordered ⟨Nat.le_of_ble_eq_true rfl, Nat.le_of_ble_eq_true rfl⟩
theorem cwX6_ships_X6_snap {s : State} {args : Array Value} (hts : ∀ w ∈ wsX6_ships, w.before args s = true) : CallW rmX6_ships s args RX6 RX6 256 yX6_snap cX6_snap 2 none wsX6_snap rmX6_snap 0 0 0 := cwV 0 hts gX6_ships_X6_snap rfl rfl rfl hdX6_snap ⟨Nat.le_of_ble_eq_true rfl, Nat.le_of_ble_eq_true rfl⟩
theorem cwX6_ships_X6_today {s : State} {args : Array Value} (hts : ∀ w ∈ wsX6_ships, w.before args s = true) : CallW rmX6_ships s args RX6 RX6 173 yX6_today cX6_today 1 (some .int) wsX6_today rmX6_today 0 0 0 := cwV 0 hts gX6_ships_X6_today rfl rfl rfl hdX6_today ⟨Nat.le_of_ble_eq_true rfl, Nat.le_of_ble_eq_true rfl⟩
theorem flX6_ships_70 : Fl wsX6_ships RX6 70 6 11 := ⟨_, _, _, rfl, by decide, inX6_ships_X6, by decide +kernel⟩
theorem fpX6_ships_1 : Fp wsX6_ships RX6 1 6 0 false .int := ⟨_, _, _, tyX6, rfl, by decide, inX6_ships_X6, by decide +kernel, tyX6_ok, nmX6, rfl, rfl, by decide +kernel⟩
set_option maxRecDepth 100000 in
set_option maxHeartbeats 4000000 in
theorem kX6_ships {l : Launch} {D : va_G} {cI cB cL cK : ClassId} {ad : Nat → Nat} {thr : Int32} {tpd : Int32} {siz : Int32} {too : Int32} {frm : Int32} {srt : Int32} {num : Int32} {flt : Int32} {plc : Int32} {wrd : Int64} {snm : Int32} {lin : Int32} {stp : Int32} {sfo : Int32} {hst : Int32} {tp : Nat → Int32} {nw : Nat → Int32} {rd : Nat → Int32} {kp : Nat → Int32} {sn : Nat → Int32} {p1 : Int32} {res : Int32} {thr' : Int32} {snm' : Int32} {nw' : Nat → Int32} {sn' : Nat → Int32} (hm : mX6_ships thr snm nw sn p1 = some (res, thr', snm', nw', sn')) : Mu l D cI cB cL cK yX6_ships wsX6_ships rmX6_ships [.ref (ad 0), .int p1] (wM cI ad thr tpd siz too frm srt num flt plc wrd snm lin stp sfo hst tp nw rd kp sn) (wM cI ad thr' tpd siz too frm srt num flt plc wrd snm' lin stp sfo hst tp nw' rd kp sn') (some (.int res)) 0 0 := by
  refine Mu.ofi (cc := cX6_ships) (own := RX6) (by decide) rfl rfl (Nat.le_of_ble_eq_true rfl) (fun p e s m below meth c ls Q A C hA hP hD hS hl hret => ?_)
  obtain ⟨hx, hb, hr, hml, hown, hts, hlk, hK⟩ := id C
  have hcf : CallFix p m c cX6_ships 3 s _ wsX6_ships RX6 := ⟨hx, hb, hml, hown, hts⟩
  have hl : lv_has ls 3 [(0, .ref (ad 0)), (1, .int p1)] := hl
  unfold mX6_ships at hm
  refine lv_aload_n hx hb dX6_ships_0 rfl (lv_at hl 0 rfl) ?_
  refine lv_iconst (v := 0) hx hb dX6_ships_1 (by decide) ?_
  refine pf (q0 := 0) (X' := (wM cI ad 0 tpd siz too frm srt num flt plc wrd snm lin stp sfo hst tp nw rd kp sn)) hx hb hts hown hK fpX6_ships_1 hP hD hS rfl rfl rfl (Nat.le_of_ble_eq_true rfl) rfl dX6_ships_2 (fun H locs hP hD hS => ?_)
  refine lv_aload_n hx hb dX6_ships_5 rfl (lv_at hl 0 rfl) ?_
  refine lv_iload_n hx hb dX6_ships_6 rfl (lv_at hl 1 rfl) ?_
  obtain ⟨v1, h_2, hm⟩ := b1_s hm
  refine rd_v hcf (kX6_isOrder h_2) (cwX6_ships_X6_isOrder hts) hK hP Sb.rf (ci := 6) (q0 := 0) rfl rfl rfl hl.1 rfl (Nat.le_of_ble_eq_true rfl) dX6_ships_7 ⟨Nat.zero_le _, Nat.zero_le _⟩ ?_
  refine lv_if_eq (tgt := 23) hx hb dX6_ships_10 (by decide) (fun c_3 => ?_) (fun c_3 => ?_)
  · replace hm := br_p hm c_3
    refine lv_iconst (v := (-1)) hx hb dX6_ships_23 (by decide) ?_
    cases hm
    exact hret _ _ _ _ dX6_ships_24 rfl hP hD hS
  · replace hm := br_n hm c_3
    refine lv_aload_n hx hb dX6_ships_13 rfl (lv_at hl 0 rfl) ?_
    refine lv_iload_n hx hb dX6_ships_14 rfl (lv_at hl 1 rfl) ?_
    refine lv_iconst (v := 2) hx hb dX6_ships_15 (by decide) ?_
    obtain ⟨v4, h_5, hm⟩ := b1_s hm
    refine rd_v hcf (kX6_ordered h_5) (cwX6_ships_X6_ordered hts) hK hP Sb.rf (ci := 6) (q0 := 0) rfl rfl rfl hl.1 rfl (Nat.le_of_ble_eq_true rfl) dX6_ships_16 ⟨Nat.zero_le _, Nat.zero_le _⟩ ?_
    refine lv_iconst (v := 1) hx hb dX6_ships_19 (by decide) ?_
    refine lv_icmp_eq (tgt := 25) hx hb dX6_ships_20 (by decide) (fun c_6 => ?_) (fun c_6 => ?_)
    · replace hm := br_p hm c_6
      refine lv_aload_n hx hb dX6_ships_25 rfl (lv_at hl 0 rfl) ?_
      refine gf (q0 := 0) hx hb hts hown hK flX6_ships_70 hP rfl rfl dX6_ships_26 ?_
      refine lv_iconst (v := 4) hx hb dX6_ships_29 (by decide) ?_
      refine ald (q0 := 2) (k := 4) hx hb hK hP rfl (by decide) (by decide) dX6_ships_30 ?_
      refine lv_bipush (v := 60) hx hb dX6_ships_31 (by decide) ?_
      refine lv_icmp_ne (tgt := 39) hx hb dX6_ships_33 (by decide) (fun c_7 => ?_) (fun c_7 => ?_)
      · replace hm := br_n hm c_7
        refine lv_aload_n hx hb dX6_ships_39 rfl (lv_at hl 0 rfl) ?_
        obtain ⟨snm8, sn9, h_10, hm⟩ := b2_s hm
        refine mu_vv hcf (kX6_snap h_10) (cwX6_ships_X6_snap hts) hK hP hD hS hA Jn.rf (ci := 6) (q0 := 0) rfl rfl rfl hl.1 rfl (Nat.le_of_ble_eq_true rfl) dX6_ships_40 ⟨Nat.zero_le _, Nat.zero_le _⟩ (fun H locs hP hD hS => ?_)
        refine lv_aload_n hx hb dX6_ships_43 rfl (lv_at hl 0 rfl) ?_
        refine lv_iload_n hx hb dX6_ships_44 rfl (lv_at hl 1 rfl) ?_
        refine lv_iconst (v := 0) hx hb dX6_ships_45 (by decide) ?_
        obtain ⟨v11, h_12, hm⟩ := b1_s hm
        refine rd_v hcf (kX6_ordered h_12) (cwX6_ships_X6_ordered hts) hK hP Sb.rf (ci := 6) (q0 := 0) rfl rfl rfl hl.1 rfl (Nat.le_of_ble_eq_true rfl) dX6_ships_46 ⟨Nat.zero_le _, Nat.zero_le _⟩ ?_
        refine lv_istore_n (lv' := [(2, .int v11), (0, .ref (ad 0)), (1, .int p1)]) hx hb dX6_ships_49 rfl hl (by decide) rfl (fun ls hl => ?_)
        refine lv_aload_n hx hb dX6_ships_50 rfl (lv_at hl 1 rfl) ?_
        refine gf (q0 := 0) hx hb hts hown hK flX6_ships_70 hP rfl rfl dX6_ships_51 ?_
        refine lv_sipush (v := 625) hx hb dX6_ships_54 (by decide) ?_
        refine lv_iconst (v := 4) hx hb dX6_ships_57 (by decide) ?_
        refine lv_iload_n hx hb dX6_ships_58 rfl (lv_at hl 2 rfl) ?_
        refine lv_imul hx hb dX6_ships_59 ?_
        refine lv_iadd hx hb dX6_ships_60 ?_
        refine lv_iconst (v := 2) hx hb dX6_ships_61 (by decide) ?_
        refine lv_iadd hx hb dX6_ships_62 ?_
        refine lv_iconst (v := 2) hx hb dX6_ships_63 (by decide) ?_
        obtain ⟨h_13, hm⟩ := ck_s hm
        refine ast (q0 := 2) (k := (((625 + (4 * p1)) + 2) : Int32).toNatClampNeg) (X' := (wM cI ad 0 tpd siz too frm srt num flt plc wrd snm8 lin stp sfo hst tp (upd nw ((((625 + (4 * p1)) + 2) : Int32).toNatClampNeg) 2) rd kp sn9)) hx hb hK hP hD hS rfl h_13 rfl rfl dX6_ships_64 (fun H locs hP hD hS => ?_)
        refine lv_aload_n hx hb dX6_ships_65 rfl (lv_at hl 1 rfl) ?_
        refine gf (q0 := 0) hx hb hts hown hK flX6_ships_70 hP rfl rfl dX6_ships_66 ?_
        refine lv_sipush (v := 625) hx hb dX6_ships_69 (by decide) ?_
        refine lv_iconst (v := 4) hx hb dX6_ships_72 (by decide) ?_
        refine lv_iload_n hx hb dX6_ships_73 rfl (lv_at hl 2 rfl) ?_
        refine lv_imul hx hb dX6_ships_74 ?_
        refine lv_iadd hx hb dX6_ships_75 ?_
        refine lv_iconst (v := 3) hx hb dX6_ships_76 (by decide) ?_
        refine lv_iadd hx hb dX6_ships_77 ?_
        refine lv_aload_n hx hb dX6_ships_78 rfl (lv_at hl 1 rfl) ?_
        refine gf (q0 := 0) hx hb hts hown hK flX6_ships_70 hP rfl rfl dX6_ships_79 ?_
        refine lv_iconst (v := 4) hx hb dX6_ships_82 (by decide) ?_
        refine ald (q0 := 2) (k := 4) hx hb hK hP rfl (by decide) (by decide) dX6_ships_83 ?_
        obtain ⟨h_14, hm⟩ := ck_s hm
        refine ast (q0 := 2) (k := (((625 + (4 * p1)) + 3) : Int32).toNatClampNeg) (X' := (wM cI ad 0 tpd siz too frm srt num flt plc wrd snm8 lin stp sfo hst tp (upd (upd nw ((((625 + (4 * p1)) + 2) : Int32).toNatClampNeg) 2) ((((625 + (4 * p1)) + 3) : Int32).toNatClampNeg) ((upd nw ((((625 + (4 * p1)) + 2) : Int32).toNatClampNeg) 2) 4)) rd kp sn9)) hx hb hK hP hD hS rfl h_14 rfl rfl dX6_ships_84 (fun H locs hP hD hS => ?_)
        refine lv_aload_n hx hb dX6_ships_85 rfl (lv_at hl 1 rfl) ?_
        refine lv_iload_n hx hb dX6_ships_86 rfl (lv_at hl 0 rfl) ?_
        refine lv_aload_n hx hb dX6_ships_87 rfl (lv_at hl 1 rfl) ?_
        refine lv_iload_n hx hb dX6_ships_88 rfl (lv_at hl 2 rfl) ?_
        refine lv_iconst (v := 1) hx hb dX6_ships_89 (by decide) ?_
        obtain ⟨v15, h_16, hm⟩ := b1_s hm
        refine rd_v hcf (kX6_ordered h_16) (cwX6_ships_X6_ordered hts) hK hP Sb.rf (ci := 6) (q0 := 0) rfl rfl rfl hl.1 rfl (Nat.le_of_ble_eq_true rfl) dX6_ships_90 ⟨Nat.zero_le _, Nat.zero_le _⟩ ?_
        refine lv_aload_n hx hb dX6_ships_93 rfl (lv_at hl 1 rfl) ?_
        obtain ⟨v17, h_18, hm⟩ := b1_s hm
        refine rd_v hcf (kX6_today h_18) (cwX6_ships_X6_today hts) hK hP Sb.rf (ci := 6) (q0 := 0) rfl rfl rfl hl.1 rfl (Nat.le_of_ble_eq_true rfl) dX6_ships_94 ⟨Nat.zero_le _, Nat.zero_le _⟩ ?_
        refine lv_aload_n hx hb dX6_ships_97 rfl (lv_at hl 1 rfl) ?_
        refine lv_iload_n hx hb dX6_ships_98 rfl (lv_at hl 0 rfl) ?_
        refine lv_iconst (v := 1) hx hb dX6_ships_99 (by decide) ?_
        obtain ⟨v19, h_20, hm⟩ := b1_s hm
        refine rd_v hcf (kX6_its h_20) (cwX6_ships_X6_its hts) hK hP Sb.rf (ci := 6) (q0 := 0) rfl rfl rfl hl.1 rfl (Nat.le_of_ble_eq_true rfl) dX6_ships_100 ⟨Nat.zero_le _, Nat.zero_le _⟩ ?_
        refine lv_iadd hx hb dX6_ships_103 ?_
        refine lv_iconst (v := 0) hx hb dX6_ships_104 (by decide) ?_
        obtain ⟨v21, nw22, h_23, hm⟩ := b2_s hm
        refine mu_vi hcf (kX6_invoices h_23) (cwX6_ships_X6_invoices hts) hK hP hD hS hA Jn.rf (ci := 6) (q0 := 0) rfl rfl rfl hl.1 rfl (Nat.le_of_ble_eq_true rfl) dX6_ships_105 ⟨Nat.zero_le _, Nat.zero_le _⟩ (fun H locs hP hD hS => ?_)
        cases hm
        exact hret _ _ _ _ dX6_ships_108 rfl hP hD hS
      · replace hm := br_p hm c_7
        refine lv_bipush (v := (-2)) hx hb dX6_ships_36 (by decide) ?_
        cases hm
        exact hret _ _ _ _ dX6_ships_38 rfl hP hD hS
    · replace hm := br_n hm c_6
      refine lv_iconst (v := (-1)) hx hb dX6_ships_23 (by decide) ?_
      cases hm
      exact hret _ _ _ _ dX6_ships_24 rfl hP hD hS
/-! X6 cancel(I)Z -/
abbrev rmX6_cancel : Room := { frames := 4, cells := 0, slots := 0, locals := 91 }
theorem hdX6_cancel : yX6_cancel.cls = RX6 ∧ yX6_cancel.cls ≠ "java/lang/invoke/MethodHandle" ∧ yX6_cancel.cls ≠ "java/lang/invoke/VarHandle" ∧ (parseMethodDescriptor yX6_cancel.desc).map (fun d => d.parameters.length) = some 1 := by decide +kernel
theorem inX6_cancel_X6 : ∀ w ∈ u_ws RX6 TX6 20, w ∈ wsX6_cancel := by decide +kernel
theorem cwX6_cancel_X6_isOrder {s : State} {args : Array Value} (hts : ∀ w ∈ wsX6_cancel, w.before args s = true) : CallW rmX6_cancel s args RX6 RX6 233 yX6_isOrder cX6_isOrder 2 (some .boolean) wsX6_isOrder rmX6_isOrder 0 0 1 := cwV 1 hts gX6_cancel_X6_isOrder rfl rfl rfl hdX6_isOrder ⟨Nat.le_of_ble_eq_true rfl, Nat.le_of_ble_eq_true rfl⟩
theorem cwX6_cancel_X6_ordered {s : State} {args : Array Value} (hts : ∀ w ∈ wsX6_cancel, w.before args s = true) : CallW rmX6_cancel s args RX6 RX6 154 yX6_ordered cX6_ordered 3 (some .int) wsX6_ordered rmX6_ordered 0 0 2 := cwV 2 hts gX6_cancel_X6_ordered rfl rfl rfl hdX6_ordered ⟨Nat.le_of_ble_eq_true rfl, Nat.le_of_ble_eq_true rfl⟩
theorem cwX6_cancel_X6_releases {s : State} {args : Array Value} (hts : ∀ w ∈ wsX6_cancel, w.before args s = true) : CallW rmX6_cancel s args RX6 RX6 209 yX6_releases cX6_releases 4 (some .int) wsX6_releases rmX6_releases 0 0 1 := cwV 1 hts gX6_cancel_X6_releases rfl rfl rfl hdX6_releases ⟨Nat.le_of_ble_eq_true rfl, Nat.le_of_ble_eq_true rfl⟩
theorem cwX6_cancel_X6_snap {s : State} {args : Array Value} (hts : ∀ w ∈ wsX6_cancel, w.before args s = true) : CallW rmX6_cancel s args RX6 RX6 256 yX6_snap cX6_snap 2 none wsX6_snap rmX6_snap 0 0 0 := cwV 0 hts gX6_cancel_X6_snap rfl rfl rfl hdX6_snap ⟨Nat.le_of_ble_eq_true rfl, Nat.le_of_ble_eq_true rfl⟩
theorem flX6_cancel_70 : Fl wsX6_cancel RX6 70 6 11 := ⟨_, _, _, rfl, by decide, inX6_cancel_X6, by decide +kernel⟩
theorem fpX6_cancel_1 : Fp wsX6_cancel RX6 1 6 0 false .int := ⟨_, _, _, tyX6, rfl, by decide, inX6_cancel_X6, by decide +kernel, tyX6_ok, nmX6, rfl, rfl, by decide +kernel⟩
set_option maxRecDepth 100000 in
set_option maxHeartbeats 4000000 in
theorem kX6_cancel {l : Launch} {D : va_G} {cI cB cL cK : ClassId} {ad : Nat → Nat} {thr : Int32} {tpd : Int32} {siz : Int32} {too : Int32} {frm : Int32} {srt : Int32} {num : Int32} {flt : Int32} {plc : Int32} {wrd : Int64} {snm : Int32} {lin : Int32} {stp : Int32} {sfo : Int32} {hst : Int32} {tp : Nat → Int32} {nw : Nat → Int32} {rd : Nat → Int32} {kp : Nat → Int32} {sn : Nat → Int32} {p1 : Int32} {res : Int32} {thr' : Int32} {snm' : Int32} {nw' : Nat → Int32} {sn' : Nat → Int32} (hm : mX6_cancel thr snm nw sn p1 = some (res, thr', snm', nw', sn')) : Mu l D cI cB cL cK yX6_cancel wsX6_cancel rmX6_cancel [.ref (ad 0), .int p1] (wM cI ad thr tpd siz too frm srt num flt plc wrd snm lin stp sfo hst tp nw rd kp sn) (wM cI ad thr' tpd siz too frm srt num flt plc wrd snm' lin stp sfo hst tp nw' rd kp sn') (some (.int res)) 0 0 := by
  refine Mu.ofi (cc := cX6_cancel) (own := RX6) (by decide) rfl rfl (Nat.le_of_ble_eq_true rfl) (fun p e s m below meth c ls Q A C hA hP hD hS hl hret => ?_)
  obtain ⟨hx, hb, hr, hml, hown, hts, hlk, hK⟩ := id C
  have hcf : CallFix p m c cX6_cancel 2 s _ wsX6_cancel RX6 := ⟨hx, hb, hml, hown, hts⟩
  have hl : lv_has ls 2 [(0, .ref (ad 0)), (1, .int p1)] := hl
  unfold mX6_cancel at hm
  refine lv_aload_n hx hb dX6_cancel_0 rfl (lv_at hl 0 rfl) ?_
  refine lv_iconst (v := 0) hx hb dX6_cancel_1 (by decide) ?_
  refine pf (q0 := 0) (X' := (wM cI ad 0 tpd siz too frm srt num flt plc wrd snm lin stp sfo hst tp nw rd kp sn)) hx hb hts hown hK fpX6_cancel_1 hP hD hS rfl rfl rfl (Nat.le_of_ble_eq_true rfl) rfl dX6_cancel_2 (fun H locs hP hD hS => ?_)
  refine lv_aload_n hx hb dX6_cancel_5 rfl (lv_at hl 0 rfl) ?_
  refine lv_iload_n hx hb dX6_cancel_6 rfl (lv_at hl 1 rfl) ?_
  obtain ⟨v1, h_2, hm⟩ := b1_s hm
  refine rd_v hcf (kX6_isOrder h_2) (cwX6_cancel_X6_isOrder hts) hK hP Sb.rf (ci := 6) (q0 := 0) rfl rfl rfl hl.1 rfl (Nat.le_of_ble_eq_true rfl) dX6_cancel_7 ⟨Nat.zero_le _, Nat.zero_le _⟩ ?_
  refine lv_if_eq (tgt := 23) hx hb dX6_cancel_10 (by decide) (fun c_3 => ?_) (fun c_3 => ?_)
  · replace hm := br_p hm c_3
    refine lv_iconst (v := 0) hx hb dX6_cancel_23 (by decide) ?_
    cases hm
    exact hret _ _ _ _ dX6_cancel_24 rfl hP hD hS
  · replace hm := br_n hm c_3
    refine lv_aload_n hx hb dX6_cancel_13 rfl (lv_at hl 0 rfl) ?_
    refine lv_iload_n hx hb dX6_cancel_14 rfl (lv_at hl 1 rfl) ?_
    refine lv_iconst (v := 2) hx hb dX6_cancel_15 (by decide) ?_
    obtain ⟨v4, h_5, hm⟩ := b1_s hm
    refine rd_v hcf (kX6_ordered h_5) (cwX6_cancel_X6_ordered hts) hK hP Sb.rf (ci := 6) (q0 := 0) rfl rfl rfl hl.1 rfl (Nat.le_of_ble_eq_true rfl) dX6_cancel_16 ⟨Nat.zero_le _, Nat.zero_le _⟩ ?_
    refine lv_iconst (v := 1) hx hb dX6_cancel_19 (by decide) ?_
    refine lv_icmp_le (tgt := 25) hx hb dX6_cancel_20 (by decide) (fun c_6 => ?_) (fun c_6 => ?_)
    · replace hm := br_p hm c_6
      refine lv_aload_n hx hb dX6_cancel_25 rfl (lv_at hl 0 rfl) ?_
      obtain ⟨snm7, sn8, h_9, hm⟩ := b2_s hm
      refine mu_vv hcf (kX6_snap h_9) (cwX6_cancel_X6_snap hts) hK hP hD hS hA Jn.rf (ci := 6) (q0 := 0) rfl rfl rfl hl.1 rfl (Nat.le_of_ble_eq_true rfl) dX6_cancel_26 ⟨Nat.zero_le _, Nat.zero_le _⟩ (fun H locs hP hD hS => ?_)
      refine lv_aload_n hx hb dX6_cancel_29 rfl (lv_at hl 0 rfl) ?_
      refine gf (q0 := 0) hx hb hts hown hK flX6_cancel_70 hP rfl rfl dX6_cancel_30 ?_
      refine lv_sipush (v := 625) hx hb dX6_cancel_33 (by decide) ?_
      refine lv_iconst (v := 4) hx hb dX6_cancel_36 (by decide) ?_
      refine lv_iload_n hx hb dX6_cancel_37 rfl (lv_at hl 1 rfl) ?_
      refine lv_imul hx hb dX6_cancel_38 ?_
      refine lv_iadd hx hb dX6_cancel_39 ?_
      refine lv_iconst (v := 2) hx hb dX6_cancel_40 (by decide) ?_
      refine lv_iadd hx hb dX6_cancel_41 ?_
      refine lv_iconst (v := 3) hx hb dX6_cancel_42 (by decide) ?_
      obtain ⟨h_10, hm⟩ := ck_s hm
      refine ast (q0 := 2) (k := (((625 + (4 * p1)) + 2) : Int32).toNatClampNeg) (X' := (wM cI ad 0 tpd siz too frm srt num flt plc wrd snm7 lin stp sfo hst tp (upd nw ((((625 + (4 * p1)) + 2) : Int32).toNatClampNeg) 3) rd kp sn8)) hx hb hK hP hD hS rfl h_10 rfl rfl dX6_cancel_43 (fun H locs hP hD hS => ?_)
      refine lv_aload_n hx hb dX6_cancel_44 rfl (lv_at hl 0 rfl) ?_
      refine lv_aload_n hx hb dX6_cancel_45 rfl (lv_at hl 0 rfl) ?_
      refine lv_iload_n hx hb dX6_cancel_46 rfl (lv_at hl 1 rfl) ?_
      refine lv_iconst (v := 0) hx hb dX6_cancel_47 (by decide) ?_
      obtain ⟨v11, h_12, hm⟩ := b1_s hm
      refine rd_v hcf (kX6_ordered h_12) (cwX6_cancel_X6_ordered hts) hK hP Sb.rf (ci := 6) (q0 := 0) rfl rfl rfl hl.1 rfl (Nat.le_of_ble_eq_true rfl) dX6_cancel_48 ⟨Nat.zero_le _, Nat.zero_le _⟩ ?_
      obtain ⟨v13, nw14, h_15, hm⟩ := b2_s hm
      refine mu_vi hcf (kX6_releases h_15) (cwX6_cancel_X6_releases hts) hK hP hD hS hA Jn.rf (ci := 6) (q0 := 0) rfl rfl rfl hl.1 rfl (Nat.le_of_ble_eq_true rfl) dX6_cancel_51 ⟨Nat.zero_le _, Nat.zero_le _⟩ (fun H locs hP hD hS => ?_)
      refine lv_pop hx hb dX6_cancel_54 rfl ?_
      refine lv_iconst (v := 1) hx hb dX6_cancel_55 (by decide) ?_
      cases hm
      exact hret _ _ _ _ dX6_cancel_56 rfl hP hD hS
    · replace hm := br_n hm c_6
      refine lv_iconst (v := 0) hx hb dX6_cancel_23 (by decide) ?_
      cases hm
      exact hret _ _ _ _ dX6_cancel_24 rfl hP hD hS
/-! X6 pass(I)I -/
abbrev rmX6_pass : Room := { frames := 6, cells := 0, slots := 0, locals := 137 }
theorem hdX6_pass : yX6_pass.cls = RX6 ∧ yX6_pass.cls ≠ "java/lang/invoke/MethodHandle" ∧ yX6_pass.cls ≠ "java/lang/invoke/VarHandle" ∧ (parseMethodDescriptor yX6_pass.desc).map (fun d => d.parameters.length) = some 1 := by decide +kernel
theorem inX6_pass_X6 : ∀ w ∈ u_ws RX6 TX6 20, w ∈ wsX6_pass := by decide +kernel
theorem cwX6_pass_X6_ends {s : State} {args : Array Value} (hts : ∀ w ∈ wsX6_pass, w.before args s = true) : CallW rmX6_pass s args RX6 RX6 243 yX6_ends cX6_ends 2 none wsX6_ends rmX6_ends 0 0 0 := cwV 0 hts gX6_pass_X6_ends rfl rfl rfl hdX6_ends ⟨Nat.le_of_ble_eq_true rfl, Nat.le_of_ble_eq_true rfl⟩
theorem cwX6_pass_X6_isIn {s : State} {args : Array Value} (hts : ∀ w ∈ wsX6_pass, w.before args s = true) : CallB rmX6_pass s args RX6 85 yX6_isIn cX6_isIn 3 (some .boolean) wsX6_isIn rmX6_isIn 0 0 3 ∧ (Cond.static yX6_isIn).before args s = true := va_cwS 3 hts gX6_pass_X6_isIn rfl rfl rfl hdX6_isIn.2 ⟨Nat.le_of_ble_eq_true rfl, Nat.le_of_ble_eq_true rfl⟩
theorem cwX6_pass_X6_snap {s : State} {args : Array Value} (hts : ∀ w ∈ wsX6_pass, w.before args s = true) : CallW rmX6_pass s args RX6 RX6 256 yX6_snap cX6_snap 2 none wsX6_snap rmX6_snap 0 0 0 := cwV 0 hts gX6_pass_X6_snap rfl rfl rfl hdX6_snap ⟨Nat.le_of_ble_eq_true rfl, Nat.le_of_ble_eq_true rfl⟩
theorem cwX6_pass_X6_today {s : State} {args : Array Value} (hts : ∀ w ∈ wsX6_pass, w.before args s = true) : CallW rmX6_pass s args RX6 RX6 173 yX6_today cX6_today 1 (some .int) wsX6_today rmX6_today 0 0 0 := cwV 0 hts gX6_pass_X6_today rfl rfl rfl hdX6_today ⟨Nat.le_of_ble_eq_true rfl, Nat.le_of_ble_eq_true rfl⟩
theorem fpX6_pass_1 : Fp wsX6_pass RX6 1 6 0 false .int := ⟨_, _, _, tyX6, rfl, by decide, inX6_pass_X6, by decide +kernel, tyX6_ok, nmX6, rfl, rfl, by decide +kernel⟩
set_option maxRecDepth 100000 in
set_option maxHeartbeats 4000000 in
theorem tX6_pass_L35 {ad : Nat → Nat} {tpd : Int32} {siz : Int32} {too : Int32} {frm : Int32} {srt : Int32} {num : Int32} {flt : Int32} {plc : Int32} {wrd : Int64} {lin : Int32} {sfo : Int32} {tp : Nat → Int32} {rd : Nat → Int32} {kp : Nat → Int32} {res : Int32} {thr' : Int32} {snm' : Int32} {stp' : Int32} {hst' : Int32} {nw' : Nat → Int32} {sn' : Nat → Int32} (C : Cx p s m args meth c cX6_pass (some .int) 3 wsX6_pass RX6 D cI cB cL cK) (hA : ∀ q : Nat, s.heap.size ≤ q → A q) (hret : ∀ (pc : Nat) (ls : Array Slot) (H : Heap) (locs : List Loc), decode cX6_pass pc = .ok (.ireturn, 1) → narrow .int (.int res) = .int res → va_P D vwCl (wM cI ad thr' tpd siz too frm srt num flt plc wrd snm' lin stp' sfo hst' tp nw' rd kp sn') H → va_D A (wM cI ad thr' tpd siz too frm srt num flt plc wrd snm' lin stp' sfo hst' tp nw' rd kp sn') → va_S A s.heap H locs → W p l e rmX6_pass s m args below meth c H locs 0 0 Q (F0 m pc ls [.int res])) : ∀ (n9 : Nat) (x1 : Int32) (x2 : Int32) (thr : Int32) (snm : Int32) (stp : Int32) (hst : Int32) (nw : Nat → Int32) (sn : Nat → Int32), mX6_pass_L35 n9 sfo x1 x2 thr snm stp hst nw sn = some (res, thr', snm', stp', hst', nw', sn') → ∀ (H : Heap) (locs : List Loc) (ls : Array Slot), va_P D vwCl (wM cI ad thr tpd siz too frm srt num flt plc wrd snm lin stp sfo hst tp nw rd kp sn) H → va_D A (wM cI ad thr tpd siz too frm srt num flt plc wrd snm lin stp sfo hst tp nw rd kp sn) → va_S A s.heap H locs → lv_has ls 3 [(0, .ref (ad 0)), (1, .int x1), (2, .int x2)] → W p l e rmX6_pass s m args below meth c H locs 0 0 Q (F0 m 35 ls []) := by
  obtain ⟨hx, hb, hr, hml, hown, hts, hlk, hK⟩ := id C
  have hcf : CallFix p m c cX6_pass 3 s args wsX6_pass RX6 := ⟨hx, hb, hml, hown, hts⟩
  intro n9
  induction n9 with
  | zero => intro x1 x2 thr snm stp hst nw sn hm; cases hm
  | succ k ih =>
    intro x1 x2 thr snm stp hst nw sn hm H locs ls hP hD hS hl
    rw [mX6_pass_L35.eq_2] at hm
    refine lv_iload_n hx hb dX6_pass_35 rfl (lv_at hl 2 rfl) ?_
    refine lv_iload_n hx hb dX6_pass_36 rfl (lv_at hl 1 rfl) ?_
    refine lv_icmp_ge (tgt := 50) hx hb dX6_pass_37 (by decide) (fun c_10 => ?_) (fun c_10 => ?_)
    · replace hm := br_p hm c_10
      refine lv_aload_n hx hb dX6_pass_50 rfl (lv_at hl 0 rfl) ?_
      obtain ⟨v11, h_12, hm⟩ := b1_s hm
      refine rd_v hcf (kX6_today h_12) (cwX6_pass_X6_today hts) hK hP Sb.rf (ci := 6) (q0 := 0) rfl rfl rfl hl.1 rfl (Nat.le_of_ble_eq_true rfl) dX6_pass_51 ⟨Nat.zero_le _, Nat.zero_le _⟩ ?_
      cases hm
      exact hret _ _ _ _ dX6_pass_54 rfl hP hD hS
    · replace hm := br_n hm c_10
      refine lv_aload_n hx hb dX6_pass_40 rfl (lv_at hl 0 rfl) ?_
      obtain ⟨stp13, hst14, nw15, h_16, hm⟩ := b3_s hm
      refine mu_vv hcf (kX6_ends h_16) (cwX6_pass_X6_ends hts) hK hP hD hS hA Jn.rf (ci := 6) (q0 := 0) rfl rfl rfl hl.1 rfl (Nat.le_of_ble_eq_true rfl) dX6_pass_41 ⟨Nat.zero_le _, Nat.zero_le _⟩ (fun H locs hP hD hS => ?_)
      refine lv_iinc (v := (x2 + 1)) (lv' := [(2, .int (x2 + 1)), (0, .ref (ad 0)), (1, .int x1)]) hx hb dX6_pass_44 hl (k := 2) rfl rfl (by decide) rfl (fun ls hl => ?_)
      refine lv_goto (tgt := 35) hx hb dX6_pass_47 (by decide) ?_
      exact ih _ _ _ _ _ _ _ _ hm _ _ _ hP hD hS (lv_sub hl [1, 2, 0] rfl)
set_option maxRecDepth 100000 in
set_option maxHeartbeats 4000000 in
theorem kX6_pass {l : Launch} {D : va_G} {cI cB cL cK : ClassId} {ad : Nat → Nat} {thr : Int32} {tpd : Int32} {siz : Int32} {too : Int32} {frm : Int32} {srt : Int32} {num : Int32} {flt : Int32} {plc : Int32} {wrd : Int64} {snm : Int32} {lin : Int32} {stp : Int32} {sfo : Int32} {hst : Int32} {tp : Nat → Int32} {nw : Nat → Int32} {rd : Nat → Int32} {kp : Nat → Int32} {sn : Nat → Int32} {p1 : Int32} {res : Int32} {thr' : Int32} {snm' : Int32} {stp' : Int32} {hst' : Int32} {nw' : Nat → Int32} {sn' : Nat → Int32} (hm : mX6_pass thr snm stp sfo hst nw sn p1 = some (res, thr', snm', stp', hst', nw', sn')) : Mu l D cI cB cL cK yX6_pass wsX6_pass rmX6_pass [.ref (ad 0), .int p1] (wM cI ad thr tpd siz too frm srt num flt plc wrd snm lin stp sfo hst tp nw rd kp sn) (wM cI ad thr' tpd siz too frm srt num flt plc wrd snm' lin stp' sfo hst' tp nw' rd kp sn') (some (.int res)) 0 0 := by
  refine Mu.ofi (cc := cX6_pass) (own := RX6) (by decide) rfl rfl (Nat.le_of_ble_eq_true rfl) (fun p e s m below meth c ls Q A C hA hP hD hS hl hret => ?_)
  obtain ⟨hx, hb, hr, hml, hown, hts, hlk, hK⟩ := id C
  have hcf : CallFix p m c cX6_pass 3 s _ wsX6_pass RX6 := ⟨hx, hb, hml, hown, hts⟩
  have hl : lv_has ls 3 [(0, .ref (ad 0)), (1, .int p1)] := hl
  unfold mX6_pass at hm
  refine lv_aload_n hx hb dX6_pass_0 rfl (lv_at hl 0 rfl) ?_
  refine lv_iconst (v := 0) hx hb dX6_pass_1 (by decide) ?_
  refine pf (q0 := 0) (X' := (wM cI ad 0 tpd siz too frm srt num flt plc wrd snm lin stp sfo hst tp nw rd kp sn)) hx hb hts hown hK fpX6_pass_1 hP hD hS rfl rfl rfl (Nat.le_of_ble_eq_true rfl) rfl dX6_pass_2 (fun H locs hP hD hS => ?_)
  refine lv_iload_n hx hb dX6_pass_5 rfl (lv_at hl 1 rfl) ?_
  refine lv_iconst (v := 1) hx hb dX6_pass_6 (by decide) ?_
  refine lv_bipush (v := 99) hx hb dX6_pass_7 (by decide) ?_
  obtain ⟨v1, h_2, hm⟩ := b1_s hm
  refine rd_s hcf (kX6_isIn h_2) (cwX6_pass_X6_isIn hts) hK hP Sb.nil rfl hl.1 rfl (Nat.le_of_ble_eq_true rfl) dX6_pass_9 ⟨Nat.zero_le _, Nat.zero_le _⟩ ?_
  refine lv_if_eq (tgt := 27) hx hb dX6_pass_12 (by decide) (fun c_3 => ?_) (fun c_3 => ?_)
  · replace hm := br_p hm c_3
    refine lv_iconst (v := (-1)) hx hb dX6_pass_27 (by decide) ?_
    cases hm
    exact hret _ _ _ _ dX6_pass_28 rfl hP hD hS
  · replace hm := br_n hm c_3
    refine lv_aload_n hx hb dX6_pass_15 rfl (lv_at hl 0 rfl) ?_
    obtain ⟨v4, h_5, hm⟩ := b1_s hm
    refine rd_v hcf (kX6_today h_5) (cwX6_pass_X6_today hts) hK hP Sb.rf (ci := 6) (q0 := 0) rfl rfl rfl hl.1 rfl (Nat.le_of_ble_eq_true rfl) dX6_pass_16 ⟨Nat.zero_le _, Nat.zero_le _⟩ ?_
    refine lv_iload_n hx hb dX6_pass_19 rfl (lv_at hl 1 rfl) ?_
    refine lv_iadd hx hb dX6_pass_20 ?_
    refine lv_sipush (v := 999) hx hb dX6_pass_21 (by decide) ?_
    refine lv_icmp_le (tgt := 29) hx hb dX6_pass_24 (by decide) (fun c_6 => ?_) (fun c_6 => ?_)
    · replace hm := br_p hm c_6
      refine lv_aload_n hx hb dX6_pass_29 rfl (lv_at hl 0 rfl) ?_
      obtain ⟨snm7, sn8, h_9, hm⟩ := b2_s hm
      refine mu_vv hcf (kX6_snap h_9) (cwX6_pass_X6_snap hts) hK hP hD hS hA Jn.rf (ci := 6) (q0 := 0) rfl rfl rfl hl.1 rfl (Nat.le_of_ble_eq_true rfl) dX6_pass_30 ⟨Nat.zero_le _, Nat.zero_le _⟩ (fun H locs hP hD hS => ?_)
      refine lv_iconst (v := 0) hx hb dX6_pass_33 (by decide) ?_
      refine lv_istore_n (lv' := [(2, .int 0), (0, .ref (ad 0)), (1, .int p1)]) hx hb dX6_pass_34 rfl hl (by decide) rfl (fun ls hl => ?_)
      exact tX6_pass_L35 C hA hret _ _ _ _ _ _ _ _ _ hm _ _ _ hP hD hS (lv_sub hl [1, 2, 0] rfl)
    · replace hm := br_n hm c_6
      refine lv_iconst (v := (-1)) hx hb dX6_pass_27 (by decide) ?_
      cases hm
      exact hret _ _ _ _ dX6_pass_28 rfl hP hD hS
/-! X6 undo()I -/
abbrev rmX6_undo : Room := { frames := 0, cells := 0, slots := 0, locals := 0 }
theorem hdX6_undo : yX6_undo.cls = RX6 ∧ yX6_undo.cls ≠ "java/lang/invoke/MethodHandle" ∧ yX6_undo.cls ≠ "java/lang/invoke/VarHandle" ∧ (parseMethodDescriptor yX6_undo.desc).map (fun d => d.parameters.length) = some 0 := by decide +kernel
theorem inX6_undo_X6 : ∀ w ∈ u_ws RX6 TX6 20, w ∈ wsX6_undo := by decide +kernel
theorem flX6_undo_137 : Fl wsX6_undo RX6 137 6 15 := ⟨_, _, _, rfl, by decide, inX6_undo_X6, by decide +kernel⟩
theorem flX6_undo_70 : Fl wsX6_undo RX6 70 6 11 := ⟨_, _, _, rfl, by decide, inX6_undo_X6, by decide +kernel⟩
theorem flX6_undo_79 : Fl wsX6_undo RX6 79 6 14 := ⟨_, _, _, rfl, by decide, inX6_undo_X6, by decide +kernel⟩
theorem fpX6_undo_1 : Fp wsX6_undo RX6 1 6 0 false .int := ⟨_, _, _, tyX6, rfl, by decide, inX6_undo_X6, by decide +kernel, tyX6_ok, nmX6, rfl, rfl, by decide +kernel⟩
theorem fpX6_undo_137 : Fp wsX6_undo RX6 137 6 15 false .int := ⟨_, _, _, tyX6, rfl, by decide, inX6_undo_X6, by decide +kernel, tyX6_ok, nmX6, rfl, rfl, by decide +kernel⟩
set_option maxRecDepth 100000 in
set_option maxHeartbeats 4000000 in
theorem tX6_undo_L26 {ad : Nat → Nat} {tpd : Int32} {siz : Int32} {too : Int32} {frm : Int32} {srt : Int32} {num : Int32} {flt : Int32} {plc : Int32} {wrd : Int64} {lin : Int32} {stp : Int32} {sfo : Int32} {hst : Int32} {tp : Nat → Int32} {rd : Nat → Int32} {kp : Nat → Int32} {sn : Nat → Int32} {res : Int32} {thr' : Int32} {snm' : Int32} {nw' : Nat → Int32} (C : Cx p s m args meth c cX6_undo (some .int) 2 wsX6_undo RX6 D cI cB cL cK) (hA : ∀ q : Nat, s.heap.size ≤ q → A q) (hret : ∀ (pc : Nat) (ls : Array Slot) (H : Heap) (locs : List Loc), decode cX6_undo pc = .ok (.ireturn, 1) → narrow .int (.int res) = .int res → va_P D vwCl (wM cI ad thr' tpd siz too frm srt num flt plc wrd snm' lin stp sfo hst tp nw' rd kp sn) H → va_D A (wM cI ad thr' tpd siz too frm srt num flt plc wrd snm' lin stp sfo hst tp nw' rd kp sn) → va_S A s.heap H locs → W p l e rmX6_undo s m args below meth c H locs 0 0 Q (F0 m pc ls [.int res])) : ∀ (n9 : Nat) (x1 : Int32) (thr : Int32) (snm : Int32) (nw : Nat → Int32), mX6_undo_L26 n9 sn x1 thr snm nw = some (res, thr', snm', nw') → ∀ (H : Heap) (locs : List Loc) (ls : Array Slot), va_P D vwCl (wM cI ad thr tpd siz too frm srt num flt plc wrd snm lin stp sfo hst tp nw rd kp sn) H → va_D A (wM cI ad thr tpd siz too frm srt num flt plc wrd snm lin stp sfo hst tp nw rd kp sn) → va_S A s.heap H locs → lv_has ls 2 [(0, .ref (ad 0)), (1, .int x1)] → W p l e rmX6_undo s m args below meth c H locs 0 0 Q (F0 m 26 ls []) := by
  obtain ⟨hx, hb, hr, hml, hown, hts, hlk, hK⟩ := id C
  have hcf : CallFix p m c cX6_undo 2 s args wsX6_undo RX6 := ⟨hx, hb, hml, hown, hts⟩
  intro n9
  induction n9 with
  | zero => intro x1 thr snm nw hm; cases hm
  | succ k ih =>
    intro x1 thr snm nw hm H locs ls hP hD hS hl
    rw [mX6_undo_L26.eq_2] at hm
    refine lv_iload_n hx hb dX6_undo_26 rfl (lv_at hl 1 rfl) ?_
    refine lv_sipush (v := 785) hx hb dX6_undo_27 (by decide) ?_
    refine lv_icmp_ge (tgt := 60) hx hb dX6_undo_30 (by decide) (fun c_2 => ?_) (fun c_2 => ?_)
    · replace hm := br_p hm c_2
      refine lv_aload_n hx hb dX6_undo_60 rfl (lv_at hl 0 rfl) ?_
      refine gf (q0 := 0) hx hb hts hown hK flX6_undo_137 hP rfl rfl dX6_undo_61 ?_
      cases hm
      exact hret _ _ _ _ dX6_undo_64 rfl hP hD hS
    · replace hm := br_n hm c_2
      refine lv_aload_n hx hb dX6_undo_33 rfl (lv_at hl 0 rfl) ?_
      refine gf (q0 := 0) hx hb hts hown hK flX6_undo_70 hP rfl rfl dX6_undo_34 ?_
      refine lv_iload_n hx hb dX6_undo_37 rfl (lv_at hl 1 rfl) ?_
      refine lv_aload_n hx hb dX6_undo_38 rfl (lv_at hl 0 rfl) ?_
      refine gf (q0 := 0) hx hb hts hown hK flX6_undo_79 hP rfl rfl dX6_undo_39 ?_
      refine lv_sipush (v := 785) hx hb dX6_undo_42 (by decide) ?_
      refine lv_aload_n hx hb dX6_undo_45 rfl (lv_at hl 0 rfl) ?_
      refine gf (q0 := 0) hx hb hts hown hK flX6_undo_137 hP rfl rfl dX6_undo_46 ?_
      refine lv_imul hx hb dX6_undo_49 ?_
      refine lv_iload_n hx hb dX6_undo_50 rfl (lv_at hl 1 rfl) ?_
      refine lv_iadd hx hb dX6_undo_51 ?_
      obtain ⟨h_3, hm⟩ := ck_s hm
      refine ald (q0 := 5) (k := (((785 * snm) + x1) : Int32).toNatClampNeg) hx hb hK hP rfl h_3 rfl dX6_undo_52 ?_
      obtain ⟨h_4, hm⟩ := ck_s hm
      refine ast (q0 := 2) (k := (x1 : Int32).toNatClampNeg) (X' := (wM cI ad thr tpd siz too frm srt num flt plc wrd snm lin stp sfo hst tp (upd nw ((x1 : Int32).toNatClampNeg) (sn ((((785 * snm) + x1) : Int32).toNatClampNeg))) rd kp sn)) hx hb hK hP hD hS rfl h_4 rfl rfl dX6_undo_53 (fun H locs hP hD hS => ?_)
      refine lv_iinc (v := (x1 + 1)) (lv' := [(1, .int (x1 + 1)), (0, .ref (ad 0))]) hx hb dX6_undo_54 hl (k := 1) rfl rfl (by decide) rfl (fun ls hl => ?_)
      refine lv_goto (tgt := 26) hx hb dX6_undo_57 (by decide) ?_
      exact ih _ _ _ _ hm _ _ _ hP hD hS (lv_sub hl [1, 0] rfl)
set_option maxRecDepth 100000 in
set_option maxHeartbeats 4000000 in
theorem kX6_undo {l : Launch} {D : va_G} {cI cB cL cK : ClassId} {ad : Nat → Nat} {thr : Int32} {tpd : Int32} {siz : Int32} {too : Int32} {frm : Int32} {srt : Int32} {num : Int32} {flt : Int32} {plc : Int32} {wrd : Int64} {snm : Int32} {lin : Int32} {stp : Int32} {sfo : Int32} {hst : Int32} {tp : Nat → Int32} {nw : Nat → Int32} {rd : Nat → Int32} {kp : Nat → Int32} {sn : Nat → Int32}  {res : Int32} {thr' : Int32} {snm' : Int32} {nw' : Nat → Int32} (hm : mX6_undo thr snm nw sn = some (res, thr', snm', nw')) : Mu l D cI cB cL cK yX6_undo wsX6_undo rmX6_undo [.ref (ad 0)] (wM cI ad thr tpd siz too frm srt num flt plc wrd snm lin stp sfo hst tp nw rd kp sn) (wM cI ad thr' tpd siz too frm srt num flt plc wrd snm' lin stp sfo hst tp nw' rd kp sn) (some (.int res)) 0 0 := by
  refine Mu.ofi (cc := cX6_undo) (own := RX6) (by decide) rfl rfl (Nat.le_of_ble_eq_true rfl) (fun p e s m below meth c ls Q A C hA hP hD hS hl hret => ?_)
  obtain ⟨hx, hb, hr, hml, hown, hts, hlk, hK⟩ := id C
  have hcf : CallFix p m c cX6_undo 2 s _ wsX6_undo RX6 := ⟨hx, hb, hml, hown, hts⟩
  have hl : lv_has ls 2 [(0, .ref (ad 0))] := hl
  unfold mX6_undo at hm
  refine lv_aload_n hx hb dX6_undo_0 rfl (lv_at hl 0 rfl) ?_
  refine lv_iconst (v := 0) hx hb dX6_undo_1 (by decide) ?_
  refine pf (q0 := 0) (X' := (wM cI ad 0 tpd siz too frm srt num flt plc wrd snm lin stp sfo hst tp nw rd kp sn)) hx hb hts hown hK fpX6_undo_1 hP hD hS rfl rfl rfl (Nat.le_of_ble_eq_true rfl) rfl dX6_undo_2 (fun H locs hP hD hS => ?_)
  refine lv_aload_n hx hb dX6_undo_5 rfl (lv_at hl 0 rfl) ?_
  refine gf (q0 := 0) hx hb hts hown hK flX6_undo_137 hP rfl rfl dX6_undo_6 ?_
  refine lv_if_ne (tgt := 14) hx hb dX6_undo_9 (by decide) (fun c_1 => ?_) (fun c_1 => ?_)
  · replace hm := br_n hm c_1
    refine lv_aload_n hx hb dX6_undo_14 rfl (lv_at hl 0 rfl) ?_
    refine lv_dup hx hb dX6_undo_15 rfl ?_
    refine gf (q0 := 0) hx hb hts hown hK flX6_undo_137 hP rfl rfl dX6_undo_16 ?_
    refine lv_iconst (v := 1) hx hb dX6_undo_19 (by decide) ?_
    refine lv_isub hx hb dX6_undo_20 ?_
    refine pf (q0 := 0) (X' := (wM cI ad 0 tpd siz too frm srt num flt plc wrd (snm - 1) lin stp sfo hst tp nw rd kp sn)) hx hb hts hown hK fpX6_undo_137 hP hD hS rfl rfl rfl (Nat.le_of_ble_eq_true rfl) rfl dX6_undo_21 (fun H locs hP hD hS => ?_)
    refine lv_iconst (v := 0) hx hb dX6_undo_24 (by decide) ?_
    refine lv_istore_n (lv' := [(1, .int 0), (0, .ref (ad 0))]) hx hb dX6_undo_25 rfl hl (by decide) rfl (fun ls hl => ?_)
    exact tX6_undo_L26 C hA hret _ _ _ _ _ hm _ _ _ hP hD hS (lv_sub hl [1, 0] rfl)
  · replace hm := br_p hm c_1
    refine lv_iconst (v := (-1)) hx hb dX6_undo_12 (by decide) ?_
    cases hm
    exact hret _ _ _ _ dX6_undo_13 rfl hP hD hS
end
