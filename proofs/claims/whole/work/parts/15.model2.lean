section
variable {p : Program} {l : Launch} {e : Env} {s : State} {m : MethodId} {args : Array Value} {below : List Frame} {meth : Method} {c : Code} {Q : State → Prop} {A : Nat → Prop} {D : va_G} {cI cB cL cK : ClassId}
/-! X6 readDebtor()Z -/
abbrev rmX6_readDebtor : Room := { frames := 3, cells := 0, slots := 0, locals := 68 }
theorem hdX6_readDebtor : yX6_readDebtor.cls = RX6 ∧ yX6_readDebtor.cls ≠ "java/lang/invoke/MethodHandle" ∧ yX6_readDebtor.cls ≠ "java/lang/invoke/VarHandle" ∧ (parseMethodDescriptor yX6_readDebtor.desc).map (fun d => d.parameters.length) = some 0 := by decide +kernel
theorem inX6_readDebtor_X6 : ∀ w ∈ u_ws RX6 TX6 20, w ∈ wsX6_readDebtor := by decide +kernel
theorem cwX6_readDebtor_X6_bad {s : State} {args : Array Value} (hts : ∀ w ∈ wsX6_readDebtor, w.before args s = true) : CallW rmX6_readDebtor s args RX6 RX6 82 yX6_bad cX6_bad 2 (some .boolean) wsX6_bad rmX6_bad 0 0 1 := cwV 1 hts gX6_readDebtor_X6_bad rfl rfl rfl hdX6_bad ⟨Nat.le_of_ble_eq_true rfl, Nat.le_of_ble_eq_true rfl⟩
theorem cwX6_readDebtor_X6_go {s : State} {args : Array Value} (hts : ∀ w ∈ wsX6_readDebtor, w.before args s = true) : CallW rmX6_readDebtor s args RX6 RX6 89 yX6_go cX6_go 5 none wsX6_go rmX6_go 0 0 0 := cwV 0 hts gX6_readDebtor_X6_go rfl rfl rfl hdX6_go ⟨Nat.le_of_ble_eq_true rfl, Nat.le_of_ble_eq_true rfl⟩
theorem cwX6_readDebtor_X6_readEnd {s : State} {args : Array Value} (hts : ∀ w ∈ wsX6_readDebtor, w.before args s = true) : CallW rmX6_readDebtor s args RX6 RX6 95 yX6_readEnd cX6_readEnd 1 (some .boolean) wsX6_readEnd rmX6_readEnd 0 0 0 := cwV 0 hts gX6_readDebtor_X6_readEnd rfl rfl rfl hdX6_readEnd ⟨Nat.le_of_ble_eq_true rfl, Nat.le_of_ble_eq_true rfl⟩
theorem cwX6_readDebtor_X6_told {s : State} {args : Array Value} (hts : ∀ w ∈ wsX6_readDebtor, w.before args s = true) : CallW rmX6_readDebtor s args RX6 RX6 92 yX6_told cX6_told 4 (some .boolean) wsX6_told rmX6_told 0 0 3 := cwV 3 hts gX6_readDebtor_X6_told rfl rfl rfl hdX6_told ⟨Nat.le_of_ble_eq_true rfl, Nat.le_of_ble_eq_true rfl⟩
theorem flX6_readDebtor_73 : Fl wsX6_readDebtor RX6 73 6 12 := ⟨_, _, _, rfl, by decide, inX6_readDebtor_X6, by decide +kernel⟩
set_option maxRecDepth 100000 in
set_option maxHeartbeats 4000000 in
theorem kX6_readDebtor {l : Launch} {D : va_G} {cI cB cL cK : ClassId} {ad : Nat → Nat} {thr : Int32} {tpd : Int32} {siz : Int32} {too : Int32} {frm : Int32} {srt : Int32} {num : Int32} {flt : Int32} {plc : Int32} {wrd : Int64} {snm : Int32} {lin : Int32} {stp : Int32} {sfo : Int32} {hst : Int32} {tp : Nat → Int32} {nw : Nat → Int32} {rd : Nat → Int32} {kp : Nat → Int32} {sn : Nat → Int32}  {res : Int32} {too' : Int32} {frm' : Int32} {srt' : Int32} {num' : Int32} {flt' : Int32} {plc' : Int32} {wrd' : Int64} {rd' : Nat → Int32} (hm : mX6_readDebtor siz too frm srt num flt plc wrd tp rd = some (res, too', frm', srt', num', flt', plc', wrd', rd')) : Mu l D cI cB cL cK yX6_readDebtor wsX6_readDebtor rmX6_readDebtor [.ref (ad 0)] (wM cI ad thr tpd siz too frm srt num flt plc wrd snm lin stp sfo hst tp nw rd kp sn) (wM cI ad thr tpd siz too' frm' srt' num' flt' plc' wrd' snm lin stp sfo hst tp nw rd' kp sn) (some (.int res)) 0 0 := by
  refine Mu.ofi (cc := cX6_readDebtor) (own := RX6) (by decide) rfl rfl (Nat.le_of_ble_eq_true rfl) (fun p e s m below meth c ls Q A C hA hP hD hS hl hret => ?_)
  obtain ⟨hx, hb, hr, hml, hown, hts, hlk, hK⟩ := id C
  have hcf : CallFix p m c cX6_readDebtor 2 s _ wsX6_readDebtor RX6 := ⟨hx, hb, hml, hown, hts⟩
  have hl : lv_has ls 2 [(0, .ref (ad 0))] := hl
  unfold mX6_readDebtor at hm
  refine lv_aload_n hx hb dX6_readDebtor_0 rfl (lv_at hl 0 rfl) ?_
  refine gf (q0 := 0) hx hb hts hown hK flX6_readDebtor_73 hP rfl rfl dX6_readDebtor_1 ?_
  refine lv_iconst (v := 3) hx hb dX6_readDebtor_4 (by decide) ?_
  refine ald (q0 := 3) (k := 3) hx hb hK hP rfl (by decide) (by decide) dX6_readDebtor_5 ?_
  refine lv_bipush (v := 6) hx hb dX6_readDebtor_6 (by decide) ?_
  refine lv_icmp_ne (tgt := 17) hx hb dX6_readDebtor_8 (by decide) (fun c_1 => ?_) (fun c_1 => ?_)
  · replace hm := br_n hm c_1
    refine lv_aload_n hx hb dX6_readDebtor_17 rfl (lv_at hl 0 rfl) ?_
    obtain ⟨too2, frm3, srt4, num5, wrd6, h_7, hm⟩ := b5_s hm
    refine mu_vv hcf (kX6_go h_7) (cwX6_readDebtor_X6_go hts) hK hP hD hS hA Jn.rf (ci := 6) (q0 := 0) rfl rfl rfl hl.1 rfl (Nat.le_of_ble_eq_true rfl) dX6_readDebtor_18 ⟨Nat.zero_le _, Nat.zero_le _⟩ (fun H locs hP hD hS => ?_)
    refine lv_bipush (v := 25) hx hb dX6_readDebtor_21 (by decide) ?_
    refine lv_bipush (v := 30) hx hb dX6_readDebtor_23 (by decide) ?_
    refine lv_aload_n hx hb dX6_readDebtor_25 rfl (lv_at hl 0 rfl) ?_
    refine gf (q0 := 0) hx hb hts hown hK flX6_readDebtor_73 hP rfl rfl dX6_readDebtor_26 ?_
    refine lv_iconst (v := 3) hx hb dX6_readDebtor_29 (by decide) ?_
    refine ald (q0 := 3) (k := 3) hx hb hK hP rfl (by decide) (by decide) dX6_readDebtor_30 ?_
    refine lv_imul hx hb dX6_readDebtor_31 ?_
    refine lv_iadd hx hb dX6_readDebtor_32 ?_
    refine lv_istore_n (lv' := [(1, .int (25 + (30 * (rd 3)))), (0, .ref (ad 0))]) hx hb dX6_readDebtor_33 rfl hl (by decide) rfl (fun ls hl => ?_)
    refine lv_aload_n hx hb dX6_readDebtor_34 rfl (lv_at hl 1 rfl) ?_
    refine lv_iload_n hx hb dX6_readDebtor_35 rfl (lv_at hl 0 rfl) ?_
    refine lv_iconst (v := 0) hx hb dX6_readDebtor_36 (by decide) ?_
    refine lv_iadd hx hb dX6_readDebtor_37 ?_
    refine lv_iconst (v := 0) hx hb dX6_readDebtor_38 (by decide) ?_
    refine lv_sipush (v := 9999) hx hb dX6_readDebtor_39 (by decide) ?_
    obtain ⟨v8, too9, frm10, srt11, num12, flt13, plc14, wrd15, rd16, h_17, hm⟩ := b9_s hm
    refine mu_vi hcf (kX6_told h_17) (cwX6_readDebtor_X6_told hts) hK hP hD hS hA Jn.rf (ci := 6) (q0 := 0) rfl rfl rfl hl.1 rfl (Nat.le_of_ble_eq_true rfl) dX6_readDebtor_42 ⟨Nat.zero_le _, Nat.zero_le _⟩ (fun H locs hP hD hS => ?_)
    refine lv_if_eq (tgt := 61) hx hb dX6_readDebtor_45 (by decide) (fun c_18 => ?_) (fun c_18 => ?_)
    · replace hm := br_p hm c_18
      refine lv_iconst (v := 0) hx hb dX6_readDebtor_61 (by decide) ?_
      cases hm
      exact hret _ _ _ _ dX6_readDebtor_62 rfl hP hD hS
    · replace hm := br_n hm c_18
      refine lv_aload_n hx hb dX6_readDebtor_48 rfl (lv_at hl 1 rfl) ?_
      refine lv_iload_n hx hb dX6_readDebtor_49 rfl (lv_at hl 0 rfl) ?_
      refine lv_iconst (v := 1) hx hb dX6_readDebtor_50 (by decide) ?_
      refine lv_iadd hx hb dX6_readDebtor_51 ?_
      refine lv_iconst (v := 0) hx hb dX6_readDebtor_52 (by decide) ?_
      refine lv_bipush (v := 99) hx hb dX6_readDebtor_53 (by decide) ?_
      obtain ⟨v19, too20, frm21, srt22, num23, flt24, plc25, wrd26, rd27, h_28, hm⟩ := b9_s hm
      refine mu_vi hcf (kX6_told h_28) (cwX6_readDebtor_X6_told hts) hK hP hD hS hA Jn.rf (ci := 6) (q0 := 0) rfl rfl rfl hl.1 rfl (Nat.le_of_ble_eq_true rfl) dX6_readDebtor_55 ⟨Nat.zero_le _, Nat.zero_le _⟩ (fun H locs hP hD hS => ?_)
      refine lv_if_ne (tgt := 63) hx hb dX6_readDebtor_58 (by decide) (fun c_29 => ?_) (fun c_29 => ?_)
      · replace hm := br_n hm c_29
        refine lv_aload_n hx hb dX6_readDebtor_63 rfl (lv_at hl 1 rfl) ?_
        refine gf (q0 := 0) hx hb hts hown hK flX6_readDebtor_73 hP rfl rfl dX6_readDebtor_64 ?_
        refine lv_iconst (v := 3) hx hb dX6_readDebtor_67 (by decide) ?_
        refine lv_dup2_11 hx hb dX6_readDebtor_68 rfl rfl ?_
        refine ald (q0 := 3) (k := 3) hx hb hK hP rfl (by decide) (by decide) dX6_readDebtor_69 ?_
        refine lv_iconst (v := 1) hx hb dX6_readDebtor_70 (by decide) ?_
        refine lv_iadd hx hb dX6_readDebtor_71 ?_
        refine ast (q0 := 3) (k := 3) (X' := (wM cI ad thr tpd siz too20 frm21 srt22 num23 flt24 plc25 wrd26 snm lin stp sfo hst tp nw (upd rd27 3 ((rd27 3) + 1)) kp sn)) hx hb hK hP hD hS rfl (by decide) (by decide) rfl dX6_readDebtor_72 (fun H locs hP hD hS => ?_)
        refine lv_aload_n hx hb dX6_readDebtor_73 rfl (lv_at hl 1 rfl) ?_
        obtain ⟨v30, too31, frm32, srt33, num34, flt35, plc36, wrd37, h_38, hm⟩ := b8_s hm
        refine mu_vi hcf (kX6_readEnd h_38) (cwX6_readDebtor_X6_readEnd hts) hK hP hD hS hA Jn.rf (ci := 6) (q0 := 0) rfl rfl rfl hl.1 rfl (Nat.le_of_ble_eq_true rfl) dX6_readDebtor_74 ⟨Nat.zero_le _, Nat.zero_le _⟩ (fun H locs hP hD hS => ?_)
        obtain ⟨h_39, hm⟩ := ck_s hm
        cases hm
        exact hret _ _ _ _ dX6_readDebtor_77 (bz_n h_39) hP hD hS
      · replace hm := br_p hm c_29
        refine lv_iconst (v := 0) hx hb dX6_readDebtor_61 (by decide) ?_
        cases hm
        exact hret _ _ _ _ dX6_readDebtor_62 rfl hP hD hS
  · replace hm := br_p hm c_1
    refine lv_aload_n hx hb dX6_readDebtor_11 rfl (lv_at hl 0 rfl) ?_
    refine lv_iconst (v := 3) hx hb dX6_readDebtor_12 (by decide) ?_
    obtain ⟨v40, flt41, plc42, h_43, hm⟩ := b3_s hm
    refine mu_vi hcf (kX6_bad h_43) (cwX6_readDebtor_X6_bad hts) hK hP hD hS hA Jn.rf (ci := 6) (q0 := 0) rfl rfl rfl hl.1 rfl (Nat.le_of_ble_eq_true rfl) dX6_readDebtor_13 ⟨Nat.zero_le _, Nat.zero_le _⟩ (fun H locs hP hD hS => ?_)
    obtain ⟨h_44, hm⟩ := ck_s hm
    cases hm
    exact hret _ _ _ _ dX6_readDebtor_16 (bz_n h_44) hP hD hS
/-! X6 readInvoice()Z -/
abbrev rmX6_readInvoice : Room := { frames := 3, cells := 0, slots := 0, locals := 68 }
theorem hdX6_readInvoice : yX6_readInvoice.cls = RX6 ∧ yX6_readInvoice.cls ≠ "java/lang/invoke/MethodHandle" ∧ yX6_readInvoice.cls ≠ "java/lang/invoke/VarHandle" ∧ (parseMethodDescriptor yX6_readInvoice.desc).map (fun d => d.parameters.length) = some 0 := by decide +kernel
theorem inX6_readInvoice_X6 : ∀ w ∈ u_ws RX6 TX6 20, w ∈ wsX6_readInvoice := by decide +kernel
theorem cwX6_readInvoice_X6_bad {s : State} {args : Array Value} (hts : ∀ w ∈ wsX6_readInvoice, w.before args s = true) : CallW rmX6_readInvoice s args RX6 RX6 82 yX6_bad cX6_bad 2 (some .boolean) wsX6_bad rmX6_bad 0 0 1 := cwV 1 hts gX6_readInvoice_X6_bad rfl rfl rfl hdX6_bad ⟨Nat.le_of_ble_eq_true rfl, Nat.le_of_ble_eq_true rfl⟩
theorem cwX6_readInvoice_X6_go {s : State} {args : Array Value} (hts : ∀ w ∈ wsX6_readInvoice, w.before args s = true) : CallW rmX6_readInvoice s args RX6 RX6 89 yX6_go cX6_go 5 none wsX6_go rmX6_go 0 0 0 := cwV 0 hts gX6_readInvoice_X6_go rfl rfl rfl hdX6_go ⟨Nat.le_of_ble_eq_true rfl, Nat.le_of_ble_eq_true rfl⟩
theorem cwX6_readInvoice_X6_readEnd {s : State} {args : Array Value} (hts : ∀ w ∈ wsX6_readInvoice, w.before args s = true) : CallW rmX6_readInvoice s args RX6 RX6 95 yX6_readEnd cX6_readEnd 1 (some .boolean) wsX6_readEnd rmX6_readEnd 0 0 0 := cwV 0 hts gX6_readInvoice_X6_readEnd rfl rfl rfl hdX6_readEnd ⟨Nat.le_of_ble_eq_true rfl, Nat.le_of_ble_eq_true rfl⟩
theorem cwX6_readInvoice_X6_told {s : State} {args : Array Value} (hts : ∀ w ∈ wsX6_readInvoice, w.before args s = true) : CallW rmX6_readInvoice s args RX6 RX6 92 yX6_told cX6_told 4 (some .boolean) wsX6_told rmX6_told 0 0 3 := cwV 3 hts gX6_readInvoice_X6_told rfl rfl rfl hdX6_told ⟨Nat.le_of_ble_eq_true rfl, Nat.le_of_ble_eq_true rfl⟩
theorem flX6_readInvoice_73 : Fl wsX6_readInvoice RX6 73 6 12 := ⟨_, _, _, rfl, by decide, inX6_readInvoice_X6, by decide +kernel⟩
set_option maxRecDepth 100000 in
set_option maxHeartbeats 4000000 in
theorem kX6_readInvoice {l : Launch} {D : va_G} {cI cB cL cK : ClassId} {ad : Nat → Nat} {thr : Int32} {tpd : Int32} {siz : Int32} {too : Int32} {frm : Int32} {srt : Int32} {num : Int32} {flt : Int32} {plc : Int32} {wrd : Int64} {snm : Int32} {lin : Int32} {stp : Int32} {sfo : Int32} {hst : Int32} {tp : Nat → Int32} {nw : Nat → Int32} {rd : Nat → Int32} {kp : Nat → Int32} {sn : Nat → Int32}  {res : Int32} {too' : Int32} {frm' : Int32} {srt' : Int32} {num' : Int32} {flt' : Int32} {plc' : Int32} {wrd' : Int64} {rd' : Nat → Int32} (hm : mX6_readInvoice siz too frm srt num flt plc wrd tp rd = some (res, too', frm', srt', num', flt', plc', wrd', rd')) : Mu l D cI cB cL cK yX6_readInvoice wsX6_readInvoice rmX6_readInvoice [.ref (ad 0)] (wM cI ad thr tpd siz too frm srt num flt plc wrd snm lin stp sfo hst tp nw rd kp sn) (wM cI ad thr tpd siz too' frm' srt' num' flt' plc' wrd' snm lin stp sfo hst tp nw rd' kp sn) (some (.int res)) 0 0 := by
  refine Mu.ofi (cc := cX6_readInvoice) (own := RX6) (by decide) rfl rfl (Nat.le_of_ble_eq_true rfl) (fun p e s m below meth c ls Q A C hA hP hD hS hl hret => ?_)
  obtain ⟨hx, hb, hr, hml, hown, hts, hlk, hK⟩ := id C
  have hcf : CallFix p m c cX6_readInvoice 2 s _ wsX6_readInvoice RX6 := ⟨hx, hb, hml, hown, hts⟩
  have hl : lv_has ls 2 [(0, .ref (ad 0))] := hl
  unfold mX6_readInvoice at hm
  refine lv_aload_n hx hb dX6_readInvoice_0 rfl (lv_at hl 0 rfl) ?_
  refine gf (q0 := 0) hx hb hts hown hK flX6_readInvoice_73 hP rfl rfl dX6_readInvoice_1 ?_
  refine lv_iconst (v := 4) hx hb dX6_readInvoice_4 (by decide) ?_
  refine ald (q0 := 3) (k := 4) hx hb hK hP rfl (by decide) (by decide) dX6_readInvoice_5 ?_
  refine lv_bipush (v := 12) hx hb dX6_readInvoice_6 (by decide) ?_
  refine lv_icmp_ne (tgt := 17) hx hb dX6_readInvoice_8 (by decide) (fun c_1 => ?_) (fun c_1 => ?_)
  · replace hm := br_n hm c_1
    refine lv_aload_n hx hb dX6_readInvoice_17 rfl (lv_at hl 0 rfl) ?_
    obtain ⟨too2, frm3, srt4, num5, wrd6, h_7, hm⟩ := b5_s hm
    refine mu_vv hcf (kX6_go h_7) (cwX6_readInvoice_X6_go hts) hK hP hD hS hA Jn.rf (ci := 6) (q0 := 0) rfl rfl rfl hl.1 rfl (Nat.le_of_ble_eq_true rfl) dX6_readInvoice_18 ⟨Nat.zero_le _, Nat.zero_le _⟩ (fun H locs hP hD hS => ?_)
    refine lv_sipush (v := 205) hx hb dX6_readInvoice_21 (by decide) ?_
    refine lv_bipush (v := 7) hx hb dX6_readInvoice_24 (by decide) ?_
    refine lv_aload_n hx hb dX6_readInvoice_26 rfl (lv_at hl 0 rfl) ?_
    refine gf (q0 := 0) hx hb hts hown hK flX6_readInvoice_73 hP rfl rfl dX6_readInvoice_27 ?_
    refine lv_iconst (v := 4) hx hb dX6_readInvoice_30 (by decide) ?_
    refine ald (q0 := 3) (k := 4) hx hb hK hP rfl (by decide) (by decide) dX6_readInvoice_31 ?_
    refine lv_imul hx hb dX6_readInvoice_32 ?_
    refine lv_iadd hx hb dX6_readInvoice_33 ?_
    refine lv_istore_n (lv' := [(1, .int (205 + (7 * (rd 4)))), (0, .ref (ad 0))]) hx hb dX6_readInvoice_34 rfl hl (by decide) rfl (fun ls hl => ?_)
    refine lv_aload_n hx hb dX6_readInvoice_35 rfl (lv_at hl 1 rfl) ?_
    refine lv_iload_n hx hb dX6_readInvoice_36 rfl (lv_at hl 0 rfl) ?_
    refine lv_iconst (v := 0) hx hb dX6_readInvoice_37 (by decide) ?_
    refine lv_iadd hx hb dX6_readInvoice_38 ?_
    refine lv_iconst (v := 0) hx hb dX6_readInvoice_39 (by decide) ?_
    refine lv_aload_n hx hb dX6_readInvoice_40 rfl (lv_at hl 1 rfl) ?_
    refine gf (q0 := 0) hx hb hts hown hK flX6_readInvoice_73 hP rfl rfl dX6_readInvoice_41 ?_
    refine lv_iconst (v := 3) hx hb dX6_readInvoice_44 (by decide) ?_
    refine ald (q0 := 3) (k := 3) hx hb hK hP rfl (by decide) (by decide) dX6_readInvoice_45 ?_
    refine lv_iconst (v := 1) hx hb dX6_readInvoice_46 (by decide) ?_
    refine lv_isub hx hb dX6_readInvoice_47 ?_
    obtain ⟨v8, too9, frm10, srt11, num12, flt13, plc14, wrd15, rd16, h_17, hm⟩ := b9_s hm
    refine mu_vi hcf (kX6_told h_17) (cwX6_readInvoice_X6_told hts) hK hP hD hS hA Jn.rf (ci := 6) (q0 := 0) rfl rfl rfl hl.1 rfl (Nat.le_of_ble_eq_true rfl) dX6_readInvoice_48 ⟨Nat.zero_le _, Nat.zero_le _⟩ (fun H locs hP hD hS => ?_)
    refine lv_if_eq (tgt := 81) hx hb dX6_readInvoice_51 (by decide) (fun c_18 => ?_) (fun c_18 => ?_)
    · replace hm := br_p hm c_18
      refine lv_iconst (v := 0) hx hb dX6_readInvoice_81 (by decide) ?_
      cases hm
      exact hret _ _ _ _ dX6_readInvoice_82 rfl hP hD hS
    · replace hm := br_n hm c_18
      refine lv_aload_n hx hb dX6_readInvoice_54 rfl (lv_at hl 1 rfl) ?_
      refine lv_iload_n hx hb dX6_readInvoice_55 rfl (lv_at hl 0 rfl) ?_
      refine lv_iconst (v := 1) hx hb dX6_readInvoice_56 (by decide) ?_
      refine lv_iadd hx hb dX6_readInvoice_57 ?_
      refine lv_iconst (v := 1) hx hb dX6_readInvoice_58 (by decide) ?_
      refine lv_sipush (v := 9999) hx hb dX6_readInvoice_59 (by decide) ?_
      obtain ⟨v19, too20, frm21, srt22, num23, flt24, plc25, wrd26, rd27, h_28, hm⟩ := b9_s hm
      refine mu_vi hcf (kX6_told h_28) (cwX6_readInvoice_X6_told hts) hK hP hD hS hA Jn.rf (ci := 6) (q0 := 0) rfl rfl rfl hl.1 rfl (Nat.le_of_ble_eq_true rfl) dX6_readInvoice_62 ⟨Nat.zero_le _, Nat.zero_le _⟩ (fun H locs hP hD hS => ?_)
      refine lv_if_eq (tgt := 81) hx hb dX6_readInvoice_65 (by decide) (fun c_29 => ?_) (fun c_29 => ?_)
      · replace hm := br_p hm c_29
        refine lv_iconst (v := 0) hx hb dX6_readInvoice_81 (by decide) ?_
        cases hm
        exact hret _ _ _ _ dX6_readInvoice_82 rfl hP hD hS
      · replace hm := br_n hm c_29
        refine lv_aload_n hx hb dX6_readInvoice_68 rfl (lv_at hl 1 rfl) ?_
        refine lv_iload_n hx hb dX6_readInvoice_69 rfl (lv_at hl 0 rfl) ?_
        refine lv_iconst (v := 3) hx hb dX6_readInvoice_70 (by decide) ?_
        refine lv_iadd hx hb dX6_readInvoice_71 ?_
        refine lv_iconst (v := 0) hx hb dX6_readInvoice_72 (by decide) ?_
        refine lv_bipush (v := 99) hx hb dX6_readInvoice_73 (by decide) ?_
        obtain ⟨v30, too31, frm32, srt33, num34, flt35, plc36, wrd37, rd38, h_39, hm⟩ := b9_s hm
        refine mu_vi hcf (kX6_told h_39) (cwX6_readInvoice_X6_told hts) hK hP hD hS hA Jn.rf (ci := 6) (q0 := 0) rfl rfl rfl hl.1 rfl (Nat.le_of_ble_eq_true rfl) dX6_readInvoice_75 ⟨Nat.zero_le _, Nat.zero_le _⟩ (fun H locs hP hD hS => ?_)
        refine lv_if_ne (tgt := 83) hx hb dX6_readInvoice_78 (by decide) (fun c_40 => ?_) (fun c_40 => ?_)
        · replace hm := br_n hm c_40
          refine lv_aload_n hx hb dX6_readInvoice_83 rfl (lv_at hl 1 rfl) ?_
          refine gf (q0 := 0) hx hb hts hown hK flX6_readInvoice_73 hP rfl rfl dX6_readInvoice_84 ?_
          refine lv_iload_n hx hb dX6_readInvoice_87 rfl (lv_at hl 0 rfl) ?_
          refine lv_iconst (v := 2) hx hb dX6_readInvoice_88 (by decide) ?_
          refine lv_iadd hx hb dX6_readInvoice_89 ?_
          refine lv_aload_n hx hb dX6_readInvoice_90 rfl (lv_at hl 1 rfl) ?_
          refine gf (q0 := 0) hx hb hts hown hK flX6_readInvoice_73 hP rfl rfl dX6_readInvoice_91 ?_
          refine lv_iload_n hx hb dX6_readInvoice_94 rfl (lv_at hl 0 rfl) ?_
          refine lv_iconst (v := 1) hx hb dX6_readInvoice_95 (by decide) ?_
          refine lv_iadd hx hb dX6_readInvoice_96 ?_
          obtain ⟨h_41, hm⟩ := ck_s hm
          refine ald (q0 := 3) (k := (((205 + (7 * (rd 4))) + 1) : Int32).toNatClampNeg) hx hb hK hP rfl h_41 rfl dX6_readInvoice_97 ?_
          obtain ⟨h_42, hm⟩ := ck_s hm
          refine ast (q0 := 3) (k := (((205 + (7 * (rd 4))) + 2) : Int32).toNatClampNeg) (X' := (wM cI ad thr tpd siz too31 frm32 srt33 num34 flt35 plc36 wrd37 snm lin stp sfo hst tp nw (upd rd38 ((((205 + (7 * (rd 4))) + 2) : Int32).toNatClampNeg) (rd38 ((((205 + (7 * (rd 4))) + 1) : Int32).toNatClampNeg))) kp sn)) hx hb hK hP hD hS rfl h_42 rfl rfl dX6_readInvoice_98 (fun H locs hP hD hS => ?_)
          refine lv_aload_n hx hb dX6_readInvoice_99 rfl (lv_at hl 1 rfl) ?_
          refine gf (q0 := 0) hx hb hts hown hK flX6_readInvoice_73 hP rfl rfl dX6_readInvoice_100 ?_
          refine lv_iconst (v := 4) hx hb dX6_readInvoice_103 (by decide) ?_
          refine lv_dup2_11 hx hb dX6_readInvoice_104 rfl rfl ?_
          refine ald (q0 := 3) (k := 4) hx hb hK hP rfl (by decide) (by decide) dX6_readInvoice_105 ?_
          refine lv_iconst (v := 1) hx hb dX6_readInvoice_106 (by decide) ?_
          refine lv_iadd hx hb dX6_readInvoice_107 ?_
          refine ast (q0 := 3) (k := 4) (X' := (wM cI ad thr tpd siz too31 frm32 srt33 num34 flt35 plc36 wrd37 snm lin stp sfo hst tp nw (upd (upd rd38 ((((205 + (7 * (rd 4))) + 2) : Int32).toNatClampNeg) (rd38 ((((205 + (7 * (rd 4))) + 1) : Int32).toNatClampNeg))) 4 (((upd rd38 ((((205 + (7 * (rd 4))) + 2) : Int32).toNatClampNeg) (rd38 ((((205 + (7 * (rd 4))) + 1) : Int32).toNatClampNeg))) 4) + 1)) kp sn)) hx hb hK hP hD hS rfl (by decide) (by decide) rfl dX6_readInvoice_108 (fun H locs hP hD hS => ?_)
          refine lv_aload_n hx hb dX6_readInvoice_109 rfl (lv_at hl 1 rfl) ?_
          obtain ⟨v43, too44, frm45, srt46, num47, flt48, plc49, wrd50, h_51, hm⟩ := b8_s hm
          refine mu_vi hcf (kX6_readEnd h_51) (cwX6_readInvoice_X6_readEnd hts) hK hP hD hS hA Jn.rf (ci := 6) (q0 := 0) rfl rfl rfl hl.1 rfl (Nat.le_of_ble_eq_true rfl) dX6_readInvoice_110 ⟨Nat.zero_le _, Nat.zero_le _⟩ (fun H locs hP hD hS => ?_)
          obtain ⟨h_52, hm⟩ := ck_s hm
          cases hm
          exact hret _ _ _ _ dX6_readInvoice_113 (bz_n h_52) hP hD hS
        · replace hm := br_p hm c_40
          refine lv_iconst (v := 0) hx hb dX6_readInvoice_81 (by decide) ?_
          cases hm
          exact hret _ _ _ _ dX6_readInvoice_82 rfl hP hD hS
  · replace hm := br_p hm c_1
    refine lv_aload_n hx hb dX6_readInvoice_11 rfl (lv_at hl 0 rfl) ?_
    refine lv_iconst (v := 3) hx hb dX6_readInvoice_12 (by decide) ?_
    obtain ⟨v53, flt54, plc55, h_56, hm⟩ := b3_s hm
    refine mu_vi hcf (kX6_bad h_56) (cwX6_readInvoice_X6_bad hts) hK hP hD hS hA Jn.rf (ci := 6) (q0 := 0) rfl rfl rfl hl.1 rfl (Nat.le_of_ble_eq_true rfl) dX6_readInvoice_13 ⟨Nat.zero_le _, Nat.zero_le _⟩ (fun H locs hP hD hS => ?_)
    obtain ⟨h_57, hm⟩ := ck_s hm
    cases hm
    exact hret _ _ _ _ dX6_readInvoice_16 (bz_n h_57) hP hD hS
/-! X6 isSort(I)Z -/
abbrev rmX6_isSort : Room := { frames := 2, cells := 0, slots := 0, locals := 47 }
theorem hdX6_isSort : yX6_isSort.cls = RX6 ∧ yX6_isSort.cls ≠ "java/lang/invoke/MethodHandle" ∧ yX6_isSort.cls ≠ "java/lang/invoke/VarHandle" ∧ (parseMethodDescriptor yX6_isSort.desc).map (fun d => d.parameters.length) = some 1 := by decide +kernel
theorem cwX6_isSort_X6_four {s : State} {args : Array Value} (hts : ∀ w ∈ wsX6_isSort, w.before args s = true) : CallB rmX6_isSort s args RX6 99 yX6_four cX6_four 4 (some .long) wsX6_four rmX6_four 0 0 4 ∧ (Cond.static yX6_four).before args s = true := va_cwS 4 hts gX6_isSort_X6_four rfl rfl rfl hdX6_four.2 ⟨Nat.le_of_ble_eq_true rfl, Nat.le_of_ble_eq_true rfl⟩
theorem cwX6_isSort_X6_isWord {s : State} {args : Array Value} (hts : ∀ w ∈ wsX6_isSort, w.before args s = true) : CallW rmX6_isSort s args RX6 RX6 103 yX6_isWord cX6_isWord 3 (some .boolean) wsX6_isWord rmX6_isWord 0 0 1 := cwV 1 hts gX6_isSort_X6_isWord rfl rfl rfl hdX6_isWord ⟨Nat.le_of_ble_eq_true rfl, Nat.le_of_ble_eq_true rfl⟩
theorem cwX6_isSort_X6_six {s : State} {args : Array Value} (hts : ∀ w ∈ wsX6_isSort, w.before args s = true) : CallB rmX6_isSort s args RX6 122 yX6_six cX6_six 6 (some .long) wsX6_six rmX6_six 0 0 6 ∧ (Cond.static yX6_six).before args s = true := va_cwS 6 hts gX6_isSort_X6_six rfl rfl rfl hdX6_six.2 ⟨Nat.le_of_ble_eq_true rfl, Nat.le_of_ble_eq_true rfl⟩
theorem kcX6_isSort_126 : Cond.constantLong RX6 126 5 ∈ wsX6_isSort := by decide +kernel
theorem kcX6_isSort_48 : Cond.constantLong RX6 48 27 ∈ wsX6_isSort := by decide +kernel
set_option maxRecDepth 100000 in
set_option maxHeartbeats 4000000 in
theorem kX6_isSort {l : Launch} {D : va_G} {cI cB cL cK : ClassId} {ad : Nat → Nat} {thr : Int32} {tpd : Int32} {siz : Int32} {too : Int32} {frm : Int32} {srt : Int32} {num : Int32} {flt : Int32} {plc : Int32} {wrd : Int64} {snm : Int32} {lin : Int32} {stp : Int32} {sfo : Int32} {hst : Int32} {tp : Nat → Int32} {nw : Nat → Int32} {rd : Nat → Int32} {kp : Nat → Int32} {sn : Nat → Int32} {p1 : Int32} {res : Int32} (hm : mX6_isSort srt wrd p1 = some res) : Rd l D cI cB cL cK yX6_isSort wsX6_isSort rmX6_isSort [.ref (ad 0), .int p1] (wM cI ad thr tpd siz too frm srt num flt plc wrd snm lin stp sfo hst tp nw rd kp sn) res := by
  refine Rd.of (cc := cX6_isSort) (own := RX6) (by decide) rfl rfl (Nat.le_of_ble_eq_true rfl) (fun p e s m below meth c ls Q C hP hl hret => ?_)
  obtain ⟨hx, hb, hr, hml, hown, hts, hlk, hK⟩ := id C
  have hcf : CallFix p m c cX6_isSort 2 s _ wsX6_isSort RX6 := ⟨hx, hb, hml, hown, hts⟩
  have hl : lv_has ls 2 [(0, .ref (ad 0)), (1, .int p1)] := hl
  unfold mX6_isSort at hm
  refine lv_aload_n hx hb dX6_isSort_0 rfl (lv_at hl 0 rfl) ?_
  refine lv_iload_n hx hb dX6_isSort_1 rfl (lv_at hl 1 rfl) ?_
  refine lv_if_ne (tgt := 19) hx hb dX6_isSort_2 (by decide) (fun c_1 => ?_) (fun c_1 => ?_)
  · replace hm := br_n hm c_1
    refine lv_iload_n hx hb dX6_isSort_19 rfl (lv_at hl 1 rfl) ?_
    refine lv_iconst (v := 1) hx hb dX6_isSort_20 (by decide) ?_
    refine lv_icmp_ne (tgt := 42) hx hb dX6_isSort_21 (by decide) (fun c_2 => ?_) (fun c_2 => ?_)
    · replace hm := br_n hm c_2
      refine lv_ldc2 (v := 27) hx hb hown (hts _ kcX6_isSort_48) dX6_isSort_42 ?_
      refine lv_bipush (v := 105) hx hb dX6_isSort_45 (by decide) ?_
      refine lv_bipush (v := 110) hx hb dX6_isSort_47 (by decide) ?_
      refine lv_bipush (v := 118) hx hb dX6_isSort_49 (by decide) ?_
      refine lv_bipush (v := 111) hx hb dX6_isSort_51 (by decide) ?_
      refine lv_bipush (v := 105) hx hb dX6_isSort_53 (by decide) ?_
      refine lv_bipush (v := 99) hx hb dX6_isSort_55 (by decide) ?_
      obtain ⟨v3, h_4, hm⟩ := b1_s hm
      refine rdL_s hcf (kX6_six h_4) (cwX6_isSort_X6_six hts) hK hP Sb.nil rfl hl.1 rfl (Nat.le_of_ble_eq_true rfl) dX6_isSort_57 ⟨Nat.zero_le _, Nat.zero_le _⟩ ?_
      refine lv_lmul hx hb dX6_isSort_60 ?_
      refine lv_ldc2 (v := 5) hx hb hown (hts _ kcX6_isSort_126) dX6_isSort_61 ?_
      refine lv_ladd hx hb dX6_isSort_64 ?_
      obtain ⟨v5, h_6, hm⟩ := b1_s hm
      refine rd_v hcf (kX6_isWord h_6) (cwX6_isSort_X6_isWord hts) hK hP Sb.rf (ci := 6) (q0 := 0) rfl rfl rfl hl.1 rfl (Nat.le_of_ble_eq_true rfl) dX6_isSort_65 ⟨Nat.zero_le _, Nat.zero_le _⟩ ?_
      obtain ⟨h_7, hm⟩ := ck_s hm
      cases hm
      exact hret _ _ dX6_isSort_68 (bz_n h_7)
    · replace hm := br_p hm c_2
      refine lv_bipush (v := 100) hx hb dX6_isSort_24 (by decide) ?_
      refine lv_bipush (v := 101) hx hb dX6_isSort_26 (by decide) ?_
      refine lv_bipush (v := 98) hx hb dX6_isSort_28 (by decide) ?_
      refine lv_bipush (v := 116) hx hb dX6_isSort_30 (by decide) ?_
      refine lv_bipush (v := 111) hx hb dX6_isSort_32 (by decide) ?_
      refine lv_bipush (v := 114) hx hb dX6_isSort_34 (by decide) ?_
      obtain ⟨v8, h_9, hm⟩ := b1_s hm
      refine rdL_s hcf (kX6_six h_9) (cwX6_isSort_X6_six hts) hK hP Sb.nil rfl hl.1 rfl (Nat.le_of_ble_eq_true rfl) dX6_isSort_36 ⟨Nat.zero_le _, Nat.zero_le _⟩ ?_
      refine lv_goto (tgt := 65) hx hb dX6_isSort_39 (by decide) ?_
      obtain ⟨v10, h_11, hm⟩ := b1_s hm
      refine rd_v hcf (kX6_isWord h_11) (cwX6_isSort_X6_isWord hts) hK hP Sb.rf (ci := 6) (q0 := 0) rfl rfl rfl hl.1 rfl (Nat.le_of_ble_eq_true rfl) dX6_isSort_65 ⟨Nat.zero_le _, Nat.zero_le _⟩ ?_
      obtain ⟨h_12, hm⟩ := ck_s hm
      cases hm
      exact hret _ _ dX6_isSort_68 (bz_n h_12)
  · replace hm := br_p hm c_1
    refine lv_bipush (v := 115) hx hb dX6_isSort_5 (by decide) ?_
    refine lv_bipush (v := 116) hx hb dX6_isSort_7 (by decide) ?_
    refine lv_bipush (v := 101) hx hb dX6_isSort_9 (by decide) ?_
    refine lv_bipush (v := 112) hx hb dX6_isSort_11 (by decide) ?_
    obtain ⟨v13, h_14, hm⟩ := b1_s hm
    refine rdL_s hcf (kX6_four h_14) (cwX6_isSort_X6_four hts) hK hP Sb.nil rfl hl.1 rfl (Nat.le_of_ble_eq_true rfl) dX6_isSort_13 ⟨Nat.zero_le _, Nat.zero_le _⟩ ?_
    refine lv_goto (tgt := 65) hx hb dX6_isSort_16 (by decide) ?_
    obtain ⟨v15, h_16, hm⟩ := b1_s hm
    refine rd_v hcf (kX6_isWord h_16) (cwX6_isSort_X6_isWord hts) hK hP Sb.rf (ci := 6) (q0 := 0) rfl rfl rfl hl.1 rfl (Nat.le_of_ble_eq_true rfl) dX6_isSort_65 ⟨Nat.zero_le _, Nat.zero_le _⟩ ?_
    obtain ⟨h_17, hm⟩ := ck_s hm
    cases hm
    exact hret _ _ dX6_isSort_68 (bz_n h_17)
/-! X6 readAll(I)Z -/
abbrev rmX6_readAll : Room := { frames := 4, cells := 0, slots := 0, locals := 89 }
theorem hdX6_readAll : yX6_readAll.cls = RX6 ∧ yX6_readAll.cls ≠ "java/lang/invoke/MethodHandle" ∧ yX6_readAll.cls ≠ "java/lang/invoke/VarHandle" ∧ (parseMethodDescriptor yX6_readAll.desc).map (fun d => d.parameters.length) = some 1 := by decide +kernel
theorem inX6_readAll_X6 : ∀ w ∈ u_ws RX6 TX6 20, w ∈ wsX6_readAll := by decide +kernel
theorem cwX6_readAll_X6_isSort {s : State} {args : Array Value} (hts : ∀ w ∈ wsX6_readAll, w.before args s = true) : CallW rmX6_readAll s args RX6 RX6 107 yX6_isSort cX6_isSort 2 (some .boolean) wsX6_isSort rmX6_isSort 0 0 1 := cwV 1 hts gX6_readAll_X6_isSort rfl rfl rfl hdX6_isSort ⟨Nat.le_of_ble_eq_true rfl, Nat.le_of_ble_eq_true rfl⟩
theorem cwX6_readAll_X6_readDebtor {s : State} {args : Array Value} (hts : ∀ w ∈ wsX6_readAll, w.before args s = true) : CallW rmX6_readAll s args RX6 RX6 113 yX6_readDebtor cX6_readDebtor 2 (some .boolean) wsX6_readDebtor rmX6_readDebtor 0 0 0 := cwV 0 hts gX6_readAll_X6_readDebtor rfl rfl rfl hdX6_readDebtor ⟨Nat.le_of_ble_eq_true rfl, Nat.le_of_ble_eq_true rfl⟩
theorem cwX6_readAll_X6_readInvoice {s : State} {args : Array Value} (hts : ∀ w ∈ wsX6_readAll, w.before args s = true) : CallW rmX6_readAll s args RX6 RX6 116 yX6_readInvoice cX6_readInvoice 2 (some .boolean) wsX6_readInvoice rmX6_readInvoice 0 0 0 := cwV 0 hts gX6_readAll_X6_readInvoice rfl rfl rfl hdX6_readInvoice ⟨Nat.le_of_ble_eq_true rfl, Nat.le_of_ble_eq_true rfl⟩
theorem cwX6_readAll_X6_readStep {s : State} {args : Array Value} (hts : ∀ w ∈ wsX6_readAll, w.before args s = true) : CallW rmX6_readAll s args RX6 RX6 110 yX6_readStep cX6_readStep 2 (some .boolean) wsX6_readStep rmX6_readStep 0 0 0 := cwV 0 hts gX6_readAll_X6_readStep rfl rfl rfl hdX6_readStep ⟨Nat.le_of_ble_eq_true rfl, Nat.le_of_ble_eq_true rfl⟩
theorem flX6_readAll_119 : Fl wsX6_readAll RX6 119 6 16 := ⟨_, _, _, rfl, by decide, inX6_readAll_X6, by decide +kernel⟩
theorem fpX6_readAll_119 : Fp wsX6_readAll RX6 119 6 16 false .int := ⟨_, _, _, tyX6, rfl, by decide, inX6_readAll_X6, by decide +kernel, tyX6_ok, nmX6, rfl, rfl, by decide +kernel⟩
set_option maxRecDepth 100000 in
set_option maxHeartbeats 4000000 in
theorem tX6_readAll_b46 {ad : Nat → Nat} {thr : Int32} {tpd : Int32} {siz : Int32} {snm : Int32} {stp : Int32} {sfo : Int32} {hst : Int32} {tp : Nat → Int32} {nw : Nat → Int32} {kp : Nat → Int32} {sn : Nat → Int32} {res : Int32} {too' : Int32} {frm' : Int32} {srt' : Int32} {num' : Int32} {flt' : Int32} {plc' : Int32} {wrd' : Int64} {lin' : Int32} {rd' : Nat → Int32} {rec0 : Int32 → Int32 → Int32 → Int32 → Int32 → Int32 → Int32 → Int64 → Int32 → (Nat → Int32) → Option (Int32 × Int32 × Int32 × Int32 × Int32 × Int32 × Int32 × Int64 × Int32 × (Nat → Int32))} (C : Cx p s m args meth c cX6_readAll (some .boolean) 2 wsX6_readAll RX6 D cI cB cL cK) (hA : ∀ q : Nat, s.heap.size ≤ q → A q) (hret : ∀ (pc : Nat) (ls : Array Slot) (H : Heap) (locs : List Loc), decode cX6_readAll pc = .ok (.ireturn, 1) → narrow .boolean (.int res) = .int res → va_P D vwCl (wM cI ad thr tpd siz too' frm' srt' num' flt' plc' wrd' snm lin' stp sfo hst tp nw rd' kp sn) H → va_D A (wM cI ad thr tpd siz too' frm' srt' num' flt' plc' wrd' snm lin' stp sfo hst tp nw rd' kp sn) → va_S A s.heap H locs → W p l e rmX6_readAll s m args below meth c H locs 0 0 Q (F0 m pc ls [.int res])) (hrec0 : ∀ (x1 : Int32) (too : Int32) (frm : Int32) (srt : Int32) (num : Int32) (flt : Int32) (plc : Int32) (wrd : Int64) (lin : Int32) (rd : Nat → Int32), rec0 x1 too frm srt num flt plc wrd lin rd = some (res, too', frm', srt', num', flt', plc', wrd', lin', rd') → ∀ (H : Heap) (locs : List Loc) (ls : Array Slot), va_P D vwCl (wM cI ad thr tpd siz too frm srt num flt plc wrd snm lin stp sfo hst tp nw rd kp sn) H → va_D A (wM cI ad thr tpd siz too frm srt num flt plc wrd snm lin stp sfo hst tp nw rd kp sn) → va_S A s.heap H locs → lv_has ls 2 [(0, .ref (ad 0)), (1, .int x1)] → W p l e rmX6_readAll s m args below meth c H locs 0 0 Q (F0 m 0 ls [])) : ∀ (x1 : Int32) (too : Int32) (frm : Int32) (srt : Int32) (num : Int32) (flt : Int32) (plc : Int32) (wrd : Int64) (lin : Int32) (rd : Nat → Int32), mX6_readAll_b46 rec0 siz tp x1 too frm srt num flt plc wrd lin rd = some (res, too', frm', srt', num', flt', plc', wrd', lin', rd') → ∀ (H : Heap) (locs : List Loc) (ls : Array Slot), va_P D vwCl (wM cI ad thr tpd siz too frm srt num flt plc wrd snm lin stp sfo hst tp nw rd kp sn) H → va_D A (wM cI ad thr tpd siz too frm srt num flt plc wrd snm lin stp sfo hst tp nw rd kp sn) → va_S A s.heap H locs → lv_has ls 2 [(0, .ref (ad 0)), (1, .int x1)] → W p l e rmX6_readAll s m args below meth c H locs 0 0 Q (F0 m 46 ls []) := by
  obtain ⟨hx, hb, hr, hml, hown, hts, hlk, hK⟩ := id C
  have hcf : CallFix p m c cX6_readAll 2 s args wsX6_readAll RX6 := ⟨hx, hb, hml, hown, hts⟩
  intro x1 too frm srt num flt plc wrd lin rd hm H locs ls hP hD hS hl
  unfold mX6_readAll_b46 at hm
  refine lv_aload_n hx hb dX6_readAll_46 rfl (lv_at hl 0 rfl) ?_
  refine lv_dup hx hb dX6_readAll_47 rfl ?_
  refine gf (q0 := 0) hx hb hts hown hK flX6_readAll_119 hP rfl rfl dX6_readAll_48 ?_
  refine lv_iconst (v := 1) hx hb dX6_readAll_51 (by decide) ?_
  refine lv_iadd hx hb dX6_readAll_52 ?_
  refine pf (q0 := 0) (X' := (wM cI ad thr tpd siz too frm srt num flt plc wrd snm (lin + 1) stp sfo hst tp nw rd kp sn)) hx hb hts hown hK fpX6_readAll_119 hP hD hS rfl rfl rfl (Nat.le_of_ble_eq_true rfl) rfl dX6_readAll_53 (fun H locs hP hD hS => ?_)
  refine lv_goto (tgt := 0) hx hb dX6_readAll_56 (by decide) ?_
  exact hrec0 _ _ _ _ _ _ _ _ _ _ hm _ _ _ hP hD hS (lv_sub hl [0, 1] rfl)
set_option maxRecDepth 100000 in
set_option maxHeartbeats 4000000 in
theorem tX6_readAll_L0 {ad : Nat → Nat} {thr : Int32} {tpd : Int32} {siz : Int32} {snm : Int32} {stp : Int32} {sfo : Int32} {hst : Int32} {tp : Nat → Int32} {nw : Nat → Int32} {kp : Nat → Int32} {sn : Nat → Int32} {res : Int32} {too' : Int32} {frm' : Int32} {srt' : Int32} {num' : Int32} {flt' : Int32} {plc' : Int32} {wrd' : Int64} {lin' : Int32} {rd' : Nat → Int32} (C : Cx p s m args meth c cX6_readAll (some .boolean) 2 wsX6_readAll RX6 D cI cB cL cK) (hA : ∀ q : Nat, s.heap.size ≤ q → A q) (hret : ∀ (pc : Nat) (ls : Array Slot) (H : Heap) (locs : List Loc), decode cX6_readAll pc = .ok (.ireturn, 1) → narrow .boolean (.int res) = .int res → va_P D vwCl (wM cI ad thr tpd siz too' frm' srt' num' flt' plc' wrd' snm lin' stp sfo hst tp nw rd' kp sn) H → va_D A (wM cI ad thr tpd siz too' frm' srt' num' flt' plc' wrd' snm lin' stp sfo hst tp nw rd' kp sn) → va_S A s.heap H locs → W p l e rmX6_readAll s m args below meth c H locs 0 0 Q (F0 m pc ls [.int res])) : ∀ (n9 : Nat) (x1 : Int32) (too : Int32) (frm : Int32) (srt : Int32) (num : Int32) (flt : Int32) (plc : Int32) (wrd : Int64) (lin : Int32) (rd : Nat → Int32), mX6_readAll_L0 n9 siz tp x1 too frm srt num flt plc wrd lin rd = some (res, too', frm', srt', num', flt', plc', wrd', lin', rd') → ∀ (H : Heap) (locs : List Loc) (ls : Array Slot), va_P D vwCl (wM cI ad thr tpd siz too frm srt num flt plc wrd snm lin stp sfo hst tp nw rd kp sn) H → va_D A (wM cI ad thr tpd siz too frm srt num flt plc wrd snm lin stp sfo hst tp nw rd kp sn) → va_S A s.heap H locs → lv_has ls 2 [(0, .ref (ad 0)), (1, .int x1)] → W p l e rmX6_readAll s m args below meth c H locs 0 0 Q (F0 m 0 ls []) := by
  obtain ⟨hx, hb, hr, hml, hown, hts, hlk, hK⟩ := id C
  have hcf : CallFix p m c cX6_readAll 2 s args wsX6_readAll RX6 := ⟨hx, hb, hml, hown, hts⟩
  intro n9
  induction n9 with
  | zero => intro x1 too frm srt num flt plc wrd lin rd hm; cases hm
  | succ k ih =>
    intro x1 too frm srt num flt plc wrd lin rd hm H locs ls hP hD hS hl
    rw [mX6_readAll_L0.eq_2] at hm
    refine lv_aload_n hx hb dX6_readAll_0 rfl (lv_at hl 0 rfl) ?_
    refine lv_iload_n hx hb dX6_readAll_1 rfl (lv_at hl 1 rfl) ?_
    obtain ⟨v1, h_2, hm⟩ := b1_s hm
    refine rd_v hcf (kX6_isSort h_2) (cwX6_readAll_X6_isSort hts) hK hP Sb.rf (ci := 6) (q0 := 0) rfl rfl rfl hl.1 rfl (Nat.le_of_ble_eq_true rfl) dX6_readAll_2 ⟨Nat.zero_le _, Nat.zero_le _⟩ ?_
    refine lv_if_eq (tgt := 59) hx hb dX6_readAll_5 (by decide) (fun c_3 => ?_) (fun c_3 => ?_)
    · replace hm := br_p hm c_3
      refine lv_iconst (v := 1) hx hb dX6_readAll_59 (by decide) ?_
      cases hm
      exact hret _ _ _ _ dX6_readAll_60 rfl hP hD hS
    · replace hm := br_n hm c_3
      refine lv_iload_n hx hb dX6_readAll_8 rfl (lv_at hl 1 rfl) ?_
      refine lv_if_ne (tgt := 22) hx hb dX6_readAll_9 (by decide) (fun c_4 => ?_) (fun c_4 => ?_)
      · replace hm := br_n hm c_4
        refine lv_iload_n hx hb dX6_readAll_22 rfl (lv_at hl 1 rfl) ?_
        refine lv_iconst (v := 1) hx hb dX6_readAll_23 (by decide) ?_
        refine lv_icmp_ne (tgt := 37) hx hb dX6_readAll_24 (by decide) (fun c_5 => ?_) (fun c_5 => ?_)
        · replace hm := br_n hm c_5
          refine lv_aload_n hx hb dX6_readAll_37 rfl (lv_at hl 0 rfl) ?_
          obtain ⟨v6, too7, frm8, srt9, num10, flt11, plc12, wrd13, rd14, h_15, hm⟩ := b9_s hm
          refine mu_vi hcf (kX6_readInvoice h_15) (cwX6_readAll_X6_readInvoice hts) hK hP hD hS hA Jn.rf (ci := 6) (q0 := 0) rfl rfl rfl hl.1 rfl (Nat.le_of_ble_eq_true rfl) dX6_readAll_38 ⟨Nat.zero_le _, Nat.zero_le _⟩ (fun H locs hP hD hS => ?_)
          refine lv_if_ne (tgt := 46) hx hb dX6_readAll_41 (by decide) (fun c_16 => ?_) (fun c_16 => ?_)
          · replace hm := br_n hm c_16
            exact tX6_readAll_b46 C hA hret ih _ _ _ _ _ _ _ _ _ _ hm _ _ _ hP hD hS (lv_sub hl [0, 1] rfl)
          · replace hm := br_p hm c_16
            refine lv_iconst (v := 0) hx hb dX6_readAll_44 (by decide) ?_
            cases hm
            exact hret _ _ _ _ dX6_readAll_45 rfl hP hD hS
        · replace hm := br_p hm c_5
          refine lv_aload_n hx hb dX6_readAll_27 rfl (lv_at hl 0 rfl) ?_
          obtain ⟨v17, too18, frm19, srt20, num21, flt22, plc23, wrd24, rd25, h_26, hm⟩ := b9_s hm
          refine mu_vi hcf (kX6_readDebtor h_26) (cwX6_readAll_X6_readDebtor hts) hK hP hD hS hA Jn.rf (ci := 6) (q0 := 0) rfl rfl rfl hl.1 rfl (Nat.le_of_ble_eq_true rfl) dX6_readAll_28 ⟨Nat.zero_le _, Nat.zero_le _⟩ (fun H locs hP hD hS => ?_)
          refine lv_if_eq (tgt := 44) hx hb dX6_readAll_31 (by decide) (fun c_27 => ?_) (fun c_27 => ?_)
          · replace hm := br_p hm c_27
            refine lv_iconst (v := 0) hx hb dX6_readAll_44 (by decide) ?_
            cases hm
            exact hret _ _ _ _ dX6_readAll_45 rfl hP hD hS
          · replace hm := br_n hm c_27
            refine lv_goto (tgt := 46) hx hb dX6_readAll_34 (by decide) ?_
            exact tX6_readAll_b46 C hA hret ih _ _ _ _ _ _ _ _ _ _ hm _ _ _ hP hD hS (lv_sub hl [0, 1] rfl)
      · replace hm := br_p hm c_4
        refine lv_aload_n hx hb dX6_readAll_12 rfl (lv_at hl 0 rfl) ?_
        obtain ⟨v28, too29, frm30, srt31, num32, flt33, plc34, wrd35, rd36, h_37, hm⟩ := b9_s hm
        refine mu_vi hcf (kX6_readStep h_37) (cwX6_readAll_X6_readStep hts) hK hP hD hS hA Jn.rf (ci := 6) (q0 := 0) rfl rfl rfl hl.1 rfl (Nat.le_of_ble_eq_true rfl) dX6_readAll_13 ⟨Nat.zero_le _, Nat.zero_le _⟩ (fun H locs hP hD hS => ?_)
        refine lv_if_eq (tgt := 44) hx hb dX6_readAll_16 (by decide) (fun c_38 => ?_) (fun c_38 => ?_)
        · replace hm := br_p hm c_38
          refine lv_iconst (v := 0) hx hb dX6_readAll_44 (by decide) ?_
          cases hm
          exact hret _ _ _ _ dX6_readAll_45 rfl hP hD hS
        · replace hm := br_n hm c_38
          refine lv_goto (tgt := 46) hx hb dX6_readAll_19 (by decide) ?_
          exact tX6_readAll_b46 C hA hret ih _ _ _ _ _ _ _ _ _ _ hm _ _ _ hP hD hS (lv_sub hl [0, 1] rfl)
set_option maxRecDepth 100000 in
set_option maxHeartbeats 4000000 in
theorem kX6_readAll {l : Launch} {D : va_G} {cI cB cL cK : ClassId} {ad : Nat → Nat} {thr : Int32} {tpd : Int32} {siz : Int32} {too : Int32} {frm : Int32} {srt : Int32} {num : Int32} {flt : Int32} {plc : Int32} {wrd : Int64} {snm : Int32} {lin : Int32} {stp : Int32} {sfo : Int32} {hst : Int32} {tp : Nat → Int32} {nw : Nat → Int32} {rd : Nat → Int32} {kp : Nat → Int32} {sn : Nat → Int32} {p1 : Int32} {res : Int32} {too' : Int32} {frm' : Int32} {srt' : Int32} {num' : Int32} {flt' : Int32} {plc' : Int32} {wrd' : Int64} {lin' : Int32} {rd' : Nat → Int32} (hm : mX6_readAll siz too frm srt num flt plc wrd lin tp rd p1 = some (res, too', frm', srt', num', flt', plc', wrd', lin', rd')) : Mu l D cI cB cL cK yX6_readAll wsX6_readAll rmX6_readAll [.ref (ad 0), .int p1] (wM cI ad thr tpd siz too frm srt num flt plc wrd snm lin stp sfo hst tp nw rd kp sn) (wM cI ad thr tpd siz too' frm' srt' num' flt' plc' wrd' snm lin' stp sfo hst tp nw rd' kp sn) (some (.int res)) 0 0 := by
  refine Mu.ofi (cc := cX6_readAll) (own := RX6) (by decide) rfl rfl (Nat.le_of_ble_eq_true rfl) (fun p e s m below meth c ls Q A C hA hP hD hS hl hret => ?_)
  obtain ⟨hx, hb, hr, hml, hown, hts, hlk, hK⟩ := id C
  have hcf : CallFix p m c cX6_readAll 2 s _ wsX6_readAll RX6 := ⟨hx, hb, hml, hown, hts⟩
  have hl : lv_has ls 2 [(0, .ref (ad 0)), (1, .int p1)] := hl
  unfold mX6_readAll at hm
  exact tX6_readAll_L0 C hA hret _ _ _ _ _ _ _ _ _ _ _ hm _ _ _ hP hD hS (lv_sub hl [0, 1] rfl)
/-! X6 readWhole()Z -/
abbrev rmX6_readWhole : Room := { frames := 5, cells := 0, slots := 0, locals := 110 }
theorem hdX6_readWhole : yX6_readWhole.cls = RX6 ∧ yX6_readWhole.cls ≠ "java/lang/invoke/MethodHandle" ∧ yX6_readWhole.cls ≠ "java/lang/invoke/VarHandle" ∧ (parseMethodDescriptor yX6_readWhole.desc).map (fun d => d.parameters.length) = some 0 := by decide +kernel
theorem inX6_readWhole_X6 : ∀ w ∈ u_ws RX6 TX6 20, w ∈ wsX6_readWhole := by decide +kernel
theorem cwX6_readWhole_X6_bad {s : State} {args : Array Value} (hts : ∀ w ∈ wsX6_readWhole, w.before args s = true) : CallW rmX6_readWhole s args RX6 RX6 82 yX6_bad cX6_bad 2 (some .boolean) wsX6_bad rmX6_bad 0 0 1 := cwV 1 hts gX6_readWhole_X6_bad rfl rfl rfl hdX6_bad ⟨Nat.le_of_ble_eq_true rfl, Nat.le_of_ble_eq_true rfl⟩
theorem cwX6_readWhole_X6_readAll {s : State} {args : Array Value} (hts : ∀ w ∈ wsX6_readWhole, w.before args s = true) : CallW rmX6_readWhole s args RX6 RX6 128 yX6_readAll cX6_readAll 2 (some .boolean) wsX6_readAll rmX6_readAll 0 0 1 := cwV 1 hts gX6_readWhole_X6_readAll rfl rfl rfl hdX6_readAll ⟨Nat.le_of_ble_eq_true rfl, Nat.le_of_ble_eq_true rfl⟩
theorem cwX6_readWhole_X6_readHold {s : State} {args : Array Value} (hts : ∀ w ∈ wsX6_readWhole, w.before args s = true) : CallW rmX6_readWhole s args RX6 RX6 131 yX6_readHold cX6_readHold 1 (some .boolean) wsX6_readHold rmX6_readHold 0 0 0 := cwV 0 hts gX6_readWhole_X6_readHold rfl rfl rfl hdX6_readHold ⟨Nat.le_of_ble_eq_true rfl, Nat.le_of_ble_eq_true rfl⟩
theorem flX6_readWhole_119 : Fl wsX6_readWhole RX6 119 6 16 := ⟨_, _, _, rfl, by decide, inX6_readWhole_X6, by decide +kernel⟩
theorem flX6_readWhole_27 : Fl wsX6_readWhole RX6 27 6 6 := ⟨_, _, _, rfl, by decide, inX6_readWhole_X6, by decide +kernel⟩
theorem fpX6_readWhole_119 : Fp wsX6_readWhole RX6 119 6 16 false .int := ⟨_, _, _, tyX6, rfl, by decide, inX6_readWhole_X6, by decide +kernel, tyX6_ok, nmX6, rfl, rfl, by decide +kernel⟩
set_option maxRecDepth 100000 in
set_option maxHeartbeats 4000000 in
theorem kX6_readWhole {l : Launch} {D : va_G} {cI cB cL cK : ClassId} {ad : Nat → Nat} {thr : Int32} {tpd : Int32} {siz : Int32} {too : Int32} {frm : Int32} {srt : Int32} {num : Int32} {flt : Int32} {plc : Int32} {wrd : Int64} {snm : Int32} {lin : Int32} {stp : Int32} {sfo : Int32} {hst : Int32} {tp : Nat → Int32} {nw : Nat → Int32} {rd : Nat → Int32} {kp : Nat → Int32} {sn : Nat → Int32}  {res : Int32} {too' : Int32} {frm' : Int32} {srt' : Int32} {num' : Int32} {flt' : Int32} {plc' : Int32} {wrd' : Int64} {lin' : Int32} {rd' : Nat → Int32} (hm : mX6_readWhole siz too frm srt num flt plc wrd lin tp rd = some (res, too', frm', srt', num', flt', plc', wrd', lin', rd')) : Mu l D cI cB cL cK yX6_readWhole wsX6_readWhole rmX6_readWhole [.ref (ad 0)] (wM cI ad thr tpd siz too frm srt num flt plc wrd snm lin stp sfo hst tp nw rd kp sn) (wM cI ad thr tpd siz too' frm' srt' num' flt' plc' wrd' snm lin' stp sfo hst tp nw rd' kp sn) (some (.int res)) 0 0 := by
  refine Mu.ofi (cc := cX6_readWhole) (own := RX6) (by decide) rfl rfl (Nat.le_of_ble_eq_true rfl) (fun p e s m below meth c ls Q A C hA hP hD hS hl hret => ?_)
  obtain ⟨hx, hb, hr, hml, hown, hts, hlk, hK⟩ := id C
  have hcf : CallFix p m c cX6_readWhole 1 s _ wsX6_readWhole RX6 := ⟨hx, hb, hml, hown, hts⟩
  have hl : lv_has ls 1 [(0, .ref (ad 0))] := hl
  unfold mX6_readWhole at hm
  refine lv_aload_n hx hb dX6_readWhole_0 rfl (lv_at hl 0 rfl) ?_
  refine lv_iconst (v := 0) hx hb dX6_readWhole_1 (by decide) ?_
  obtain ⟨v1, too2, frm3, srt4, num5, flt6, plc7, wrd8, lin9, rd10, h_11, hm⟩ := b10_s hm
  refine mu_vi hcf (kX6_readAll h_11) (cwX6_readWhole_X6_readAll hts) hK hP hD hS hA Jn.rf (ci := 6) (q0 := 0) rfl rfl rfl hl.1 rfl (Nat.le_of_ble_eq_true rfl) dX6_readWhole_2 ⟨Nat.zero_le _, Nat.zero_le _⟩ (fun H locs hP hD hS => ?_)
  refine lv_if_eq (tgt := 15) hx hb dX6_readWhole_5 (by decide) (fun c_12 => ?_) (fun c_12 => ?_)
  · replace hm := br_p hm c_12
    refine lv_iconst (v := 0) hx hb dX6_readWhole_15 (by decide) ?_
    cases hm
    exact hret _ _ _ _ dX6_readWhole_16 rfl hP hD hS
  · replace hm := br_n hm c_12
    refine lv_aload_n hx hb dX6_readWhole_8 rfl (lv_at hl 0 rfl) ?_
    obtain ⟨v13, too14, frm15, srt16, num17, flt18, plc19, wrd20, rd21, h_22, hm⟩ := b9_s hm
    refine mu_vi hcf (kX6_readHold h_22) (cwX6_readWhole_X6_readHold hts) hK hP hD hS hA Jn.rf (ci := 6) (q0 := 0) rfl rfl rfl hl.1 rfl (Nat.le_of_ble_eq_true rfl) dX6_readWhole_9 ⟨Nat.zero_le _, Nat.zero_le _⟩ (fun H locs hP hD hS => ?_)
    refine lv_if_ne (tgt := 17) hx hb dX6_readWhole_12 (by decide) (fun c_23 => ?_) (fun c_23 => ?_)
    · replace hm := br_n hm c_23
      refine lv_aload_n hx hb dX6_readWhole_17 rfl (lv_at hl 0 rfl) ?_
      refine lv_dup hx hb dX6_readWhole_18 rfl ?_
      refine gf (q0 := 0) hx hb hts hown hK flX6_readWhole_119 hP rfl rfl dX6_readWhole_19 ?_
      refine lv_iconst (v := 1) hx hb dX6_readWhole_22 (by decide) ?_
      refine lv_iadd hx hb dX6_readWhole_23 ?_
      refine pf (q0 := 0) (X' := (wM cI ad thr tpd siz too14 frm15 srt16 num17 flt18 plc19 wrd20 snm (lin9 + 1) stp sfo hst tp nw rd21 kp sn)) hx hb hts hown hK fpX6_readWhole_119 hP hD hS rfl rfl rfl (Nat.le_of_ble_eq_true rfl) rfl dX6_readWhole_24 (fun H locs hP hD hS => ?_)
      refine lv_aload_n hx hb dX6_readWhole_27 rfl (lv_at hl 0 rfl) ?_
      refine lv_iconst (v := 1) hx hb dX6_readWhole_28 (by decide) ?_
      obtain ⟨v24, too25, frm26, srt27, num28, flt29, plc30, wrd31, lin32, rd33, h_34, hm⟩ := b10_s hm
      refine mu_vi hcf (kX6_readAll h_34) (cwX6_readWhole_X6_readAll hts) hK hP hD hS hA Jn.rf (ci := 6) (q0 := 0) rfl rfl rfl hl.1 rfl (Nat.le_of_ble_eq_true rfl) dX6_readWhole_29 ⟨Nat.zero_le _, Nat.zero_le _⟩ (fun H locs hP hD hS => ?_)
      refine lv_if_eq (tgt := 62) hx hb dX6_readWhole_32 (by decide) (fun c_35 => ?_) (fun c_35 => ?_)
      · replace hm := br_p hm c_35
        refine lv_iconst (v := 0) hx hb dX6_readWhole_62 (by decide) ?_
        cases hm
        exact hret _ _ _ _ dX6_readWhole_63 rfl hP hD hS
      · replace hm := br_n hm c_35
        refine lv_aload_n hx hb dX6_readWhole_35 rfl (lv_at hl 0 rfl) ?_
        refine lv_iconst (v := 2) hx hb dX6_readWhole_36 (by decide) ?_
        obtain ⟨v36, too37, frm38, srt39, num40, flt41, plc42, wrd43, lin44, rd45, h_46, hm⟩ := b10_s hm
        refine mu_vi hcf (kX6_readAll h_46) (cwX6_readWhole_X6_readAll hts) hK hP hD hS hA Jn.rf (ci := 6) (q0 := 0) rfl rfl rfl hl.1 rfl (Nat.le_of_ble_eq_true rfl) dX6_readWhole_37 ⟨Nat.zero_le _, Nat.zero_le _⟩ (fun H locs hP hD hS => ?_)
        refine lv_if_eq (tgt := 62) hx hb dX6_readWhole_40 (by decide) (fun c_47 => ?_) (fun c_47 => ?_)
        · replace hm := br_p hm c_47
          refine lv_iconst (v := 0) hx hb dX6_readWhole_62 (by decide) ?_
          cases hm
          exact hret _ _ _ _ dX6_readWhole_63 rfl hP hD hS
        · replace hm := br_n hm c_47
          refine lv_aload_n hx hb dX6_readWhole_43 rfl (lv_at hl 0 rfl) ?_
          refine gf (q0 := 0) hx hb hts hown hK flX6_readWhole_27 hP rfl rfl dX6_readWhole_44 ?_
          refine lv_if_eq (tgt := 58) hx hb dX6_readWhole_47 (by decide) (fun c_48 => ?_) (fun c_48 => ?_)
          · replace hm := br_p hm c_48
            refine lv_iconst (v := 1) hx hb dX6_readWhole_58 (by decide) ?_
            refine lv_goto (tgt := 63) hx hb dX6_readWhole_59 (by decide) ?_
            cases hm
            exact hret _ _ _ _ dX6_readWhole_63 rfl hP hD hS
          · replace hm := br_n hm c_48
            refine lv_aload_n hx hb dX6_readWhole_50 rfl (lv_at hl 0 rfl) ?_
            refine lv_iconst (v := 1) hx hb dX6_readWhole_51 (by decide) ?_
            obtain ⟨v49, flt50, plc51, h_52, hm⟩ := b3_s hm
            refine mu_vi hcf (kX6_bad h_52) (cwX6_readWhole_X6_bad hts) hK hP hD hS hA Jn.rf (ci := 6) (q0 := 0) rfl rfl rfl hl.1 rfl (Nat.le_of_ble_eq_true rfl) dX6_readWhole_52 ⟨Nat.zero_le _, Nat.zero_le _⟩ (fun H locs hP hD hS => ?_)
            refine lv_if_eq (tgt := 62) hx hb dX6_readWhole_55 (by decide) (fun c_53 => ?_) (fun c_53 => ?_)
            · replace hm := br_p hm c_53
              refine lv_iconst (v := 0) hx hb dX6_readWhole_62 (by decide) ?_
              cases hm
              exact hret _ _ _ _ dX6_readWhole_63 rfl hP hD hS
            · replace hm := br_n hm c_53
              refine lv_iconst (v := 1) hx hb dX6_readWhole_58 (by decide) ?_
              refine lv_goto (tgt := 63) hx hb dX6_readWhole_59 (by decide) ?_
              cases hm
              exact hret _ _ _ _ dX6_readWhole_63 rfl hP hD hS
    · replace hm := br_p hm c_23
      refine lv_iconst (v := 0) hx hb dX6_readWhole_15 (by decide) ?_
      cases hm
      exact hret _ _ _ _ dX6_readWhole_16 rfl hP hD hS
/-! X6 text()I -/
abbrev rmX6_text : Room := { frames := 6, cells := 0, slots := 0, locals := 130 }
theorem hdX6_text : yX6_text.cls = RX6 ∧ yX6_text.cls ≠ "java/lang/invoke/MethodHandle" ∧ yX6_text.cls ≠ "java/lang/invoke/VarHandle" ∧ (parseMethodDescriptor yX6_text.desc).map (fun d => d.parameters.length) = some 0 := by decide +kernel
theorem inX6_text_X6 : ∀ w ∈ u_ws RX6 TX6 20, w ∈ wsX6_text := by decide +kernel
theorem cwX6_text_X6_go {s : State} {args : Array Value} (hts : ∀ w ∈ wsX6_text, w.before args s = true) : CallW rmX6_text s args RX6 RX6 89 yX6_go cX6_go 5 none wsX6_go rmX6_go 0 0 0 := cwV 0 hts gX6_text_X6_go rfl rfl rfl hdX6_go ⟨Nat.le_of_ble_eq_true rfl, Nat.le_of_ble_eq_true rfl⟩
theorem cwX6_text_X6_readWhole {s : State} {args : Array Value} (hts : ∀ w ∈ wsX6_text, w.before args s = true) : CallW rmX6_text s args RX6 RX6 134 yX6_readWhole cX6_readWhole 1 (some .boolean) wsX6_readWhole rmX6_readWhole 0 0 0 := cwV 0 hts gX6_text_X6_readWhole rfl rfl rfl hdX6_readWhole ⟨Nat.le_of_ble_eq_true rfl, Nat.le_of_ble_eq_true rfl⟩
theorem flX6_text_11 : Fl wsX6_text RX6 11 6 2 := ⟨_, _, _, rfl, by decide, inX6_text_X6, by decide +kernel⟩
theorem flX6_text_119 : Fl wsX6_text RX6 119 6 16 := ⟨_, _, _, rfl, by decide, inX6_text_X6, by decide +kernel⟩
theorem flX6_text_61 : Fl wsX6_text RX6 61 6 9 := ⟨_, _, _, rfl, by decide, inX6_text_X6, by decide +kernel⟩
theorem flX6_text_70 : Fl wsX6_text RX6 70 6 11 := ⟨_, _, _, rfl, by decide, inX6_text_X6, by decide +kernel⟩
theorem flX6_text_73 : Fl wsX6_text RX6 73 6 12 := ⟨_, _, _, rfl, by decide, inX6_text_X6, by decide +kernel⟩
theorem fpX6_text_1 : Fp wsX6_text RX6 1 6 0 false .int := ⟨_, _, _, tyX6, rfl, by decide, inX6_text_X6, by decide +kernel, tyX6_ok, nmX6, rfl, rfl, by decide +kernel⟩
theorem fpX6_text_11 : Fp wsX6_text RX6 11 6 2 false .int := ⟨_, _, _, tyX6, rfl, by decide, inX6_text_X6, by decide +kernel, tyX6_ok, nmX6, rfl, rfl, by decide +kernel⟩
theorem fpX6_text_119 : Fp wsX6_text RX6 119 6 16 false .int := ⟨_, _, _, tyX6, rfl, by decide, inX6_text_X6, by decide +kernel, tyX6_ok, nmX6, rfl, rfl, by decide +kernel⟩
theorem fpX6_text_137 : Fp wsX6_text RX6 137 6 15 false .int := ⟨_, _, _, tyX6, rfl, by decide, inX6_text_X6, by decide +kernel, tyX6_ok, nmX6, rfl, rfl, by decide +kernel⟩
theorem fpX6_text_18 : Fp wsX6_text RX6 18 6 3 false .int := ⟨_, _, _, tyX6, rfl, by decide, inX6_text_X6, by decide +kernel, tyX6_ok, nmX6, rfl, rfl, by decide +kernel⟩
theorem fpX6_text_21 : Fp wsX6_text RX6 21 6 4 false .int := ⟨_, _, _, tyX6, rfl, by decide, inX6_text_X6, by decide +kernel, tyX6_ok, nmX6, rfl, rfl, by decide +kernel⟩
theorem fpX6_text_58 : Fp wsX6_text RX6 58 6 8 false .int := ⟨_, _, _, tyX6, rfl, by decide, inX6_text_X6, by decide +kernel, tyX6_ok, nmX6, rfl, rfl, by decide +kernel⟩
set_option maxRecDepth 100000 in
set_option maxHeartbeats 4000000 in
theorem tX6_text_L75 {ad : Nat → Nat} {stp : Int32} {sfo : Int32} {hst : Int32} {tp : Nat → Int32} {kp : Nat → Int32} {sn : Nat → Int32} {res : Int32} {thr' : Int32} {tpd' : Int32} {siz' : Int32} {too' : Int32} {frm' : Int32} {srt' : Int32} {num' : Int32} {flt' : Int32} {plc' : Int32} {wrd' : Int64} {snm' : Int32} {lin' : Int32} {nw' : Nat → Int32} {rd' : Nat → Int32} (C : Cx p s m args meth c cX6_text (some .int) 2 wsX6_text RX6 D cI cB cL cK) (hA : ∀ q : Nat, s.heap.size ≤ q → A q) (hret : ∀ (pc : Nat) (ls : Array Slot) (H : Heap) (locs : List Loc), decode cX6_text pc = .ok (.ireturn, 1) → narrow .int (.int res) = .int res → va_P D vwCl (wM cI ad thr' tpd' siz' too' frm' srt' num' flt' plc' wrd' snm' lin' stp sfo hst tp nw' rd' kp sn) H → va_D A (wM cI ad thr' tpd' siz' too' frm' srt' num' flt' plc' wrd' snm' lin' stp sfo hst tp nw' rd' kp sn) → va_S A s.heap H locs → W p l e rmX6_text s m args below meth c H locs 0 0 Q (F0 m pc ls [.int res])) : ∀ (n9 : Nat) (x1 : Int32) (thr : Int32) (tpd : Int32) (siz : Int32) (too : Int32) (frm : Int32) (srt : Int32) (num : Int32) (flt : Int32) (plc : Int32) (wrd : Int64) (snm : Int32) (lin : Int32) (nw : Nat → Int32) (rd : Nat → Int32), mX6_text_L75 n9 tp x1 thr tpd siz too frm srt num flt plc wrd snm lin nw rd = some (res, thr', tpd', siz', too', frm', srt', num', flt', plc', wrd', snm', lin', nw', rd') → ∀ (H : Heap) (locs : List Loc) (ls : Array Slot), va_P D vwCl (wM cI ad thr tpd siz too frm srt num flt plc wrd snm lin stp sfo hst tp nw rd kp sn) H → va_D A (wM cI ad thr tpd siz too frm srt num flt plc wrd snm lin stp sfo hst tp nw rd kp sn) → va_S A s.heap H locs → lv_has ls 2 [(0, .ref (ad 0)), (1, .int x1)] → W p l e rmX6_text s m args below meth c H locs 0 0 Q (F0 m 75 ls []) := by
  obtain ⟨hx, hb, hr, hml, hown, hts, hlk, hK⟩ := id C
  have hcf : CallFix p m c cX6_text 2 s args wsX6_text RX6 := ⟨hx, hb, hml, hown, hts⟩
  intro n9
  induction n9 with
  | zero => intro x1 thr tpd siz too frm srt num flt plc wrd snm lin nw rd hm; cases hm
  | succ k ih =>
    intro x1 thr tpd siz too frm srt num flt plc wrd snm lin nw rd hm H locs ls hP hD hS hl
    rw [mX6_text_L75.eq_2] at hm
    refine lv_iload_n hx hb dX6_text_75 rfl (lv_at hl 1 rfl) ?_
    refine lv_sipush (v := 785) hx hb dX6_text_76 (by decide) ?_
    refine lv_icmp_ge (tgt := 100) hx hb dX6_text_79 (by decide) (fun c_21 => ?_) (fun c_21 => ?_)
    · replace hm := br_p hm c_21
      refine lv_aload_n hx hb dX6_text_100 rfl (lv_at hl 0 rfl) ?_
      refine lv_iconst (v := 0) hx hb dX6_text_101 (by decide) ?_
      refine pf (q0 := 0) (X' := (wM cI ad thr tpd siz too frm srt num flt plc wrd 0 lin stp sfo hst tp nw rd kp sn)) hx hb hts hown hK fpX6_text_137 hP hD hS rfl rfl rfl (Nat.le_of_ble_eq_true rfl) rfl dX6_text_102 (fun H locs hP hD hS => ?_)
      refine lv_aload_n hx hb dX6_text_105 rfl (lv_at hl 0 rfl) ?_
      refine gf (q0 := 0) hx hb hts hown hK flX6_text_119 hP rfl rfl dX6_text_106 ?_
      obtain ⟨rfl, rfl, rfl, rfl, rfl, rfl, rfl, rfl, rfl, rfl, rfl, rfl, rfl, rfl, rfl⟩ := pr15 hm
      exact hret _ _ _ _ dX6_text_109 rfl hP hD hS
    · replace hm := br_n hm c_21
      refine lv_aload_n hx hb dX6_text_82 rfl (lv_at hl 0 rfl) ?_
      refine gf (q0 := 0) hx hb hts hown hK flX6_text_70 hP rfl rfl dX6_text_83 ?_
      refine lv_iload_n hx hb dX6_text_86 rfl (lv_at hl 1 rfl) ?_
      refine lv_aload_n hx hb dX6_text_87 rfl (lv_at hl 0 rfl) ?_
      refine gf (q0 := 0) hx hb hts hown hK flX6_text_73 hP rfl rfl dX6_text_88 ?_
      refine lv_iload_n hx hb dX6_text_91 rfl (lv_at hl 1 rfl) ?_
      obtain ⟨h_22, hm⟩ := ck_s hm
      refine ald (q0 := 3) (k := (x1 : Int32).toNatClampNeg) hx hb hK hP rfl h_22 rfl dX6_text_92 ?_
      obtain ⟨h_23, hm⟩ := ck_s hm
      refine ast (q0 := 2) (k := (x1 : Int32).toNatClampNeg) (X' := (wM cI ad thr tpd siz too frm srt num flt plc wrd snm lin stp sfo hst tp (upd nw ((x1 : Int32).toNatClampNeg) (rd ((x1 : Int32).toNatClampNeg))) rd kp sn)) hx hb hK hP hD hS rfl h_23 rfl rfl dX6_text_93 (fun H locs hP hD hS => ?_)
      refine lv_iinc (v := (x1 + 1)) (lv' := [(1, .int (x1 + 1)), (0, .ref (ad 0))]) hx hb dX6_text_94 hl (k := 1) rfl rfl (by decide) rfl (fun ls hl => ?_)
      refine lv_goto (tgt := 75) hx hb dX6_text_97 (by decide) ?_
      exact ih _ _ _ _ _ _ _ _ _ _ _ _ _ _ _ hm _ _ _ hP hD hS (lv_sub hl [1, 0] rfl)
set_option maxRecDepth 100000 in
set_option maxHeartbeats 4000000 in
theorem tX6_text_L35 {ad : Nat → Nat} {stp : Int32} {sfo : Int32} {hst : Int32} {tp : Nat → Int32} {kp : Nat → Int32} {sn : Nat → Int32} {res : Int32} {thr' : Int32} {tpd' : Int32} {siz' : Int32} {too' : Int32} {frm' : Int32} {srt' : Int32} {num' : Int32} {flt' : Int32} {plc' : Int32} {wrd' : Int64} {snm' : Int32} {lin' : Int32} {nw' : Nat → Int32} {rd' : Nat → Int32} (C : Cx p s m args meth c cX6_text (some .int) 2 wsX6_text RX6 D cI cB cL cK) (hA : ∀ q : Nat, s.heap.size ≤ q → A q) (hret : ∀ (pc : Nat) (ls : Array Slot) (H : Heap) (locs : List Loc), decode cX6_text pc = .ok (.ireturn, 1) → narrow .int (.int res) = .int res → va_P D vwCl (wM cI ad thr' tpd' siz' too' frm' srt' num' flt' plc' wrd' snm' lin' stp sfo hst tp nw' rd' kp sn) H → va_D A (wM cI ad thr' tpd' siz' too' frm' srt' num' flt' plc' wrd' snm' lin' stp sfo hst tp nw' rd' kp sn) → va_S A s.heap H locs → W p l e rmX6_text s m args below meth c H locs 0 0 Q (F0 m pc ls [.int res])) : ∀ (n9 : Nat) (x1 : Int32) (thr : Int32) (tpd : Int32) (siz : Int32) (too : Int32) (frm : Int32) (srt : Int32) (num : Int32) (flt : Int32) (plc : Int32) (wrd : Int64) (snm : Int32) (lin : Int32) (nw : Nat → Int32) (rd : Nat → Int32), mX6_text_L35 n9 tp x1 thr tpd siz too frm srt num flt plc wrd snm lin nw rd = some (res, thr', tpd', siz', too', frm', srt', num', flt', plc', wrd', snm', lin', nw', rd') → ∀ (H : Heap) (locs : List Loc) (ls : Array Slot), va_P D vwCl (wM cI ad thr tpd siz too frm srt num flt plc wrd snm lin stp sfo hst tp nw rd kp sn) H → va_D A (wM cI ad thr tpd siz too frm srt num flt plc wrd snm lin stp sfo hst tp nw rd kp sn) → va_S A s.heap H locs → lv_has ls 2 [(0, .ref (ad 0)), (1, .int x1)] → W p l e rmX6_text s m args below meth c H locs 0 0 Q (F0 m 35 ls []) := by
  obtain ⟨hx, hb, hr, hml, hown, hts, hlk, hK⟩ := id C
  have hcf : CallFix p m c cX6_text 2 s args wsX6_text RX6 := ⟨hx, hb, hml, hown, hts⟩
  intro n9
  induction n9 with
  | zero => intro x1 thr tpd siz too frm srt num flt plc wrd snm lin nw rd hm; cases hm
  | succ k ih =>
    intro x1 thr tpd siz too frm srt num flt plc wrd snm lin nw rd hm H locs ls hP hD hS hl
    rw [mX6_text_L35.eq_2] at hm
    refine lv_iload_n hx hb dX6_text_35 rfl (lv_at hl 1 rfl) ?_
    refine lv_sipush (v := 785) hx hb dX6_text_36 (by decide) ?_
    refine lv_icmp_ge (tgt := 55) hx hb dX6_text_39 (by decide) (fun c_1 => ?_) (fun c_1 => ?_)
    · replace hm := br_p hm c_1
      refine lv_aload_n hx hb dX6_text_55 rfl (lv_at hl 0 rfl) ?_
      obtain ⟨too2, frm3, srt4, num5, wrd6, h_7, hm⟩ := b5_s hm
      refine mu_vv hcf (kX6_go h_7) (cwX6_text_X6_go hts) hK hP hD hS hA Jn.rf (ci := 6) (q0 := 0) rfl rfl rfl hl.1 rfl (Nat.le_of_ble_eq_true rfl) dX6_text_56 ⟨Nat.zero_le _, Nat.zero_le _⟩ (fun H locs hP hD hS => ?_)
      refine lv_aload_n hx hb dX6_text_59 rfl (lv_at hl 0 rfl) ?_
      obtain ⟨v8, too9, frm10, srt11, num12, flt13, plc14, wrd15, lin16, rd17, h_18, hm⟩ := b10_s hm
      refine mu_vi hcf (kX6_readWhole h_18) (cwX6_text_X6_readWhole hts) hK hP hD hS hA Jn.rf (ci := 6) (q0 := 0) rfl rfl rfl hl.1 rfl (Nat.le_of_ble_eq_true rfl) dX6_text_60 ⟨Nat.zero_le _, Nat.zero_le _⟩ (fun H locs hP hD hS => ?_)
      refine lv_if_ne (tgt := 73) hx hb dX6_text_63 (by decide) (fun c_19 => ?_) (fun c_19 => ?_)
      · replace hm := br_n hm c_19
        refine lv_iconst (v := 0) hx hb dX6_text_73 (by decide) ?_
        refine lv_istore_n (lv' := [(1, .int 0), (0, .ref (ad 0))]) hx hb dX6_text_74 rfl hl (by decide) rfl (fun ls hl => ?_)
        exact tX6_text_L75 C hA hret _ _ _ _ _ _ _ _ _ _ _ _ _ _ _ _ hm _ _ _ hP hD hS (lv_sub hl [1, 0] rfl)
      · replace hm := br_p hm c_19
        refine lv_iconst (v := (-1)) hx hb dX6_text_66 (by decide) ?_
        refine lv_aload_n hx hb dX6_text_67 rfl (lv_at hl 0 rfl) ?_
        refine gf (q0 := 0) hx hb hts hown hK flX6_text_61 hP rfl rfl dX6_text_68 ?_
        refine lv_isub hx hb dX6_text_71 ?_
        obtain ⟨rfl, rfl, rfl, rfl, rfl, rfl, rfl, rfl, rfl, rfl, rfl, rfl, rfl, rfl, rfl⟩ := pr15 hm
        exact hret _ _ _ _ dX6_text_72 rfl hP hD hS
    · replace hm := br_n hm c_1
      refine lv_aload_n hx hb dX6_text_42 rfl (lv_at hl 0 rfl) ?_
      refine gf (q0 := 0) hx hb hts hown hK flX6_text_73 hP rfl rfl dX6_text_43 ?_
      refine lv_iload_n hx hb dX6_text_46 rfl (lv_at hl 1 rfl) ?_
      refine lv_iconst (v := 0) hx hb dX6_text_47 (by decide) ?_
      obtain ⟨h_20, hm⟩ := ck_s hm
      refine ast (q0 := 3) (k := (x1 : Int32).toNatClampNeg) (X' := (wM cI ad thr tpd siz too frm srt num flt plc wrd snm lin stp sfo hst tp nw (upd rd ((x1 : Int32).toNatClampNeg) 0) kp sn)) hx hb hK hP hD hS rfl h_20 rfl rfl dX6_text_48 (fun H locs hP hD hS => ?_)
      refine lv_iinc (v := (x1 + 1)) (lv' := [(1, .int (x1 + 1)), (0, .ref (ad 0))]) hx hb dX6_text_49 hl (k := 1) rfl rfl (by decide) rfl (fun ls hl => ?_)
      refine lv_goto (tgt := 35) hx hb dX6_text_52 (by decide) ?_
      exact ih _ _ _ _ _ _ _ _ _ _ _ _ _ _ _ hm _ _ _ hP hD hS (lv_sub hl [1, 0] rfl)
set_option maxRecDepth 100000 in
set_option maxHeartbeats 4000000 in
theorem kX6_text {l : Launch} {D : va_G} {cI cB cL cK : ClassId} {ad : Nat → Nat} {thr : Int32} {tpd : Int32} {siz : Int32} {too : Int32} {frm : Int32} {srt : Int32} {num : Int32} {flt : Int32} {plc : Int32} {wrd : Int64} {snm : Int32} {lin : Int32} {stp : Int32} {sfo : Int32} {hst : Int32} {tp : Nat → Int32} {nw : Nat → Int32} {rd : Nat → Int32} {kp : Nat → Int32} {sn : Nat → Int32}  {res : Int32} {thr' : Int32} {tpd' : Int32} {siz' : Int32} {too' : Int32} {frm' : Int32} {srt' : Int32} {num' : Int32} {flt' : Int32} {plc' : Int32} {wrd' : Int64} {snm' : Int32} {lin' : Int32} {nw' : Nat → Int32} {rd' : Nat → Int32} (hm : mX6_text thr tpd siz too frm srt num flt plc wrd snm lin tp nw rd = some (res, thr', tpd', siz', too', frm', srt', num', flt', plc', wrd', snm', lin', nw', rd')) : Mu l D cI cB cL cK yX6_text wsX6_text rmX6_text [.ref (ad 0)] (wM cI ad thr tpd siz too frm srt num flt plc wrd snm lin stp sfo hst tp nw rd kp sn) (wM cI ad thr' tpd' siz' too' frm' srt' num' flt' plc' wrd' snm' lin' stp sfo hst tp nw' rd' kp sn) (some (.int res)) 0 0 := by
  refine Mu.ofi (cc := cX6_text) (own := RX6) (by decide) rfl rfl (Nat.le_of_ble_eq_true rfl) (fun p e s m below meth c ls Q A C hA hP hD hS hl hret => ?_)
  obtain ⟨hx, hb, hr, hml, hown, hts, hlk, hK⟩ := id C
  have hcf : CallFix p m c cX6_text 2 s _ wsX6_text RX6 := ⟨hx, hb, hml, hown, hts⟩
  have hl : lv_has ls 2 [(0, .ref (ad 0))] := hl
  unfold mX6_text at hm
  refine lv_aload_n hx hb dX6_text_0 rfl (lv_at hl 0 rfl) ?_
  refine lv_iconst (v := 0) hx hb dX6_text_1 (by decide) ?_
  refine pf (q0 := 0) (X' := (wM cI ad 0 tpd siz too frm srt num flt plc wrd snm lin stp sfo hst tp nw rd kp sn)) hx hb hts hown hK fpX6_text_1 hP hD hS rfl rfl rfl (Nat.le_of_ble_eq_true rfl) rfl dX6_text_2 (fun H locs hP hD hS => ?_)
  refine lv_aload_n hx hb dX6_text_5 rfl (lv_at hl 0 rfl) ?_
  refine lv_aload_n hx hb dX6_text_6 rfl (lv_at hl 0 rfl) ?_
  refine gf (q0 := 0) hx hb hts hown hK flX6_text_11 hP rfl rfl dX6_text_7 ?_
  refine pf (q0 := 0) (X' := (wM cI ad 0 tpd tpd too frm srt num flt plc wrd snm lin stp sfo hst tp nw rd kp sn)) hx hb hts hown hK fpX6_text_18 hP hD hS rfl rfl rfl (Nat.le_of_ble_eq_true rfl) rfl dX6_text_10 (fun H locs hP hD hS => ?_)
  refine lv_aload_n hx hb dX6_text_13 rfl (lv_at hl 0 rfl) ?_
  refine lv_iconst (v := 0) hx hb dX6_text_14 (by decide) ?_
  refine pf (q0 := 0) (X' := (wM cI ad 0 0 tpd too frm srt num flt plc wrd snm lin stp sfo hst tp nw rd kp sn)) hx hb hts hown hK fpX6_text_11 hP hD hS rfl rfl rfl (Nat.le_of_ble_eq_true rfl) rfl dX6_text_15 (fun H locs hP hD hS => ?_)
  refine lv_aload_n hx hb dX6_text_18 rfl (lv_at hl 0 rfl) ?_
  refine lv_iconst (v := 0) hx hb dX6_text_19 (by decide) ?_
  refine pf (q0 := 0) (X' := (wM cI ad 0 0 tpd too frm srt num 0 plc wrd snm lin stp sfo hst tp nw rd kp sn)) hx hb hts hown hK fpX6_text_58 hP hD hS rfl rfl rfl (Nat.le_of_ble_eq_true rfl) rfl dX6_text_20 (fun H locs hP hD hS => ?_)
  refine lv_aload_n hx hb dX6_text_23 rfl (lv_at hl 0 rfl) ?_
  refine lv_iconst (v := 0) hx hb dX6_text_24 (by decide) ?_
  refine pf (q0 := 0) (X' := (wM cI ad 0 0 tpd 0 frm srt num 0 plc wrd snm lin stp sfo hst tp nw rd kp sn)) hx hb hts hown hK fpX6_text_21 hP hD hS rfl rfl rfl (Nat.le_of_ble_eq_true rfl) rfl dX6_text_25 (fun H locs hP hD hS => ?_)
  refine lv_aload_n hx hb dX6_text_28 rfl (lv_at hl 0 rfl) ?_
  refine lv_iconst (v := 0) hx hb dX6_text_29 (by decide) ?_
  refine pf (q0 := 0) (X' := (wM cI ad 0 0 tpd 0 frm srt num 0 plc wrd snm 0 stp sfo hst tp nw rd kp sn)) hx hb hts hown hK fpX6_text_119 hP hD hS rfl rfl rfl (Nat.le_of_ble_eq_true rfl) rfl dX6_text_30 (fun H locs hP hD hS => ?_)
  refine lv_iconst (v := 0) hx hb dX6_text_33 (by decide) ?_
  refine lv_istore_n (lv' := [(1, .int 0), (0, .ref (ad 0))]) hx hb dX6_text_34 rfl hl (by decide) rfl (fun ls hl => ?_)
  exact tX6_text_L35 C hA hret _ _ _ _ _ _ _ _ _ _ _ _ _ _ _ _ hm _ _ _ hP hD hS (lv_sub hl [1, 0] rfl)
/-! X6 fault()I -/
abbrev rmX6_fault : Room := { frames := 0, cells := 0, slots := 0, locals := 0 }
theorem hdX6_fault : yX6_fault.cls = RX6 ∧ yX6_fault.cls ≠ "java/lang/invoke/MethodHandle" ∧ yX6_fault.cls ≠ "java/lang/invoke/VarHandle" ∧ (parseMethodDescriptor yX6_fault.desc).map (fun d => d.parameters.length) = some 0 := by decide +kernel
theorem inX6_fault_X6 : ∀ w ∈ u_ws RX6 TX6 20, w ∈ wsX6_fault := by decide +kernel
theorem flX6_fault_58 : Fl wsX6_fault RX6 58 6 8 := ⟨_, _, _, rfl, by decide, inX6_fault_X6, by decide +kernel⟩
theorem fpX6_fault_1 : Fp wsX6_fault RX6 1 6 0 false .int := ⟨_, _, _, tyX6, rfl, by decide, inX6_fault_X6, by decide +kernel, tyX6_ok, nmX6, rfl, rfl, by decide +kernel⟩
set_option maxRecDepth 100000 in
set_option maxHeartbeats 4000000 in
theorem kX6_fault {l : Launch} {D : va_G} {cI cB cL cK : ClassId} {ad : Nat → Nat} {thr : Int32} {tpd : Int32} {siz : Int32} {too : Int32} {frm : Int32} {srt : Int32} {num : Int32} {flt : Int32} {plc : Int32} {wrd : Int64} {snm : Int32} {lin : Int32} {stp : Int32} {sfo : Int32} {hst : Int32} {tp : Nat → Int32} {nw : Nat → Int32} {rd : Nat → Int32} {kp : Nat → Int32} {sn : Nat → Int32}  {res : Int32} {thr' : Int32} (hm : mX6_fault thr flt = some (res, thr')) : Mu l D cI cB cL cK yX6_fault wsX6_fault rmX6_fault [.ref (ad 0)] (wM cI ad thr tpd siz too frm srt num flt plc wrd snm lin stp sfo hst tp nw rd kp sn) (wM cI ad thr' tpd siz too frm srt num flt plc wrd snm lin stp sfo hst tp nw rd kp sn) (some (.int res)) 0 0 := by
  refine Mu.ofi (cc := cX6_fault) (own := RX6) (by decide) rfl rfl (Nat.le_of_ble_eq_true rfl) (fun p e s m below meth c ls Q A C hA hP hD hS hl hret => ?_)
  obtain ⟨hx, hb, hr, hml, hown, hts, hlk, hK⟩ := id C
  have hcf : CallFix p m c cX6_fault 1 s _ wsX6_fault RX6 := ⟨hx, hb, hml, hown, hts⟩
  have hl : lv_has ls 1 [(0, .ref (ad 0))] := hl
  unfold mX6_fault at hm
  refine lv_aload_n hx hb dX6_fault_0 rfl (lv_at hl 0 rfl) ?_
  refine lv_iconst (v := 0) hx hb dX6_fault_1 (by decide) ?_
  refine pf (q0 := 0) (X' := (wM cI ad 0 tpd siz too frm srt num flt plc wrd snm lin stp sfo hst tp nw rd kp sn)) hx hb hts hown hK fpX6_fault_1 hP hD hS rfl rfl rfl (Nat.le_of_ble_eq_true rfl) rfl dX6_fault_2 (fun H locs hP hD hS => ?_)
  refine lv_aload_n hx hb dX6_fault_5 rfl (lv_at hl 0 rfl) ?_
  refine gf (q0 := 0) hx hb hts hown hK flX6_fault_58 hP rfl rfl dX6_fault_6 ?_
  cases hm
  exact hret _ _ _ _ dX6_fault_9 rfl hP hD hS
/-! X6 today()I -/
abbrev rmX6_today : Room := { frames := 0, cells := 0, slots := 0, locals := 0 }
theorem hdX6_today : yX6_today.cls = RX6 ∧ yX6_today.cls ≠ "java/lang/invoke/MethodHandle" ∧ yX6_today.cls ≠ "java/lang/invoke/VarHandle" ∧ (parseMethodDescriptor yX6_today.desc).map (fun d => d.parameters.length) = some 0 := by decide +kernel
theorem inX6_today_X6 : ∀ w ∈ u_ws RX6 TX6 20, w ∈ wsX6_today := by decide +kernel
theorem flX6_today_70 : Fl wsX6_today RX6 70 6 11 := ⟨_, _, _, rfl, by decide, inX6_today_X6, by decide +kernel⟩
set_option maxRecDepth 100000 in
set_option maxHeartbeats 4000000 in
theorem kX6_today {l : Launch} {D : va_G} {cI cB cL cK : ClassId} {ad : Nat → Nat} {thr : Int32} {tpd : Int32} {siz : Int32} {too : Int32} {frm : Int32} {srt : Int32} {num : Int32} {flt : Int32} {plc : Int32} {wrd : Int64} {snm : Int32} {lin : Int32} {stp : Int32} {sfo : Int32} {hst : Int32} {tp : Nat → Int32} {nw : Nat → Int32} {rd : Nat → Int32} {kp : Nat → Int32} {sn : Nat → Int32}  {res : Int32} (hm : mX6_today nw = some res) : Rd l D cI cB cL cK yX6_today wsX6_today rmX6_today [.ref (ad 0)] (wM cI ad thr tpd siz too frm srt num flt plc wrd snm lin stp sfo hst tp nw rd kp sn) res := by
  refine Rd.of (cc := cX6_today) (own := RX6) (by decide) rfl rfl (Nat.le_of_ble_eq_true rfl) (fun p e s m below meth c ls Q C hP hl hret => ?_)
  obtain ⟨hx, hb, hr, hml, hown, hts, hlk, hK⟩ := id C
  have hcf : CallFix p m c cX6_today 1 s _ wsX6_today RX6 := ⟨hx, hb, hml, hown, hts⟩
  have hl : lv_has ls 1 [(0, .ref (ad 0))] := hl
  unfold mX6_today at hm
  refine lv_aload_n hx hb dX6_today_0 rfl (lv_at hl 0 rfl) ?_
  refine gf (q0 := 0) hx hb hts hown hK flX6_today_70 hP rfl rfl dX6_today_1 ?_
  refine lv_iconst (v := 0) hx hb dX6_today_4 (by decide) ?_
  refine ald (q0 := 2) (k := 0) hx hb hK hP rfl (by decide) (by decide) dX6_today_5 ?_
  cases hm
  exact hret _ _ dX6_today_6 rfl
/-! X6 isDebtor(I)Z -/
abbrev rmX6_isDebtor : Room := { frames := 1, cells := 0, slots := 0, locals := 22 }
theorem hdX6_isDebtor : yX6_isDebtor.cls = RX6 ∧ yX6_isDebtor.cls ≠ "java/lang/invoke/MethodHandle" ∧ yX6_isDebtor.cls ≠ "java/lang/invoke/VarHandle" ∧ (parseMethodDescriptor yX6_isDebtor.desc).map (fun d => d.parameters.length) = some 1 := by decide +kernel
theorem inX6_isDebtor_X6 : ∀ w ∈ u_ws RX6 TX6 20, w ∈ wsX6_isDebtor := by decide +kernel
theorem cwX6_isDebtor_X6_isIn {s : State} {args : Array Value} (hts : ∀ w ∈ wsX6_isDebtor, w.before args s = true) : CallB rmX6_isDebtor s args RX6 85 yX6_isIn cX6_isIn 3 (some .boolean) wsX6_isIn rmX6_isIn 0 0 3 ∧ (Cond.static yX6_isIn).before args s = true := va_cwS 3 hts gX6_isDebtor_X6_isIn rfl rfl rfl hdX6_isIn.2 ⟨Nat.le_of_ble_eq_true rfl, Nat.le_of_ble_eq_true rfl⟩
theorem flX6_isDebtor_70 : Fl wsX6_isDebtor RX6 70 6 11 := ⟨_, _, _, rfl, by decide, inX6_isDebtor_X6, by decide +kernel⟩
set_option maxRecDepth 100000 in
set_option maxHeartbeats 4000000 in
theorem kX6_isDebtor {l : Launch} {D : va_G} {cI cB cL cK : ClassId} {ad : Nat → Nat} {thr : Int32} {tpd : Int32} {siz : Int32} {too : Int32} {frm : Int32} {srt : Int32} {num : Int32} {flt : Int32} {plc : Int32} {wrd : Int64} {snm : Int32} {lin : Int32} {stp : Int32} {sfo : Int32} {hst : Int32} {tp : Nat → Int32} {nw : Nat → Int32} {rd : Nat → Int32} {kp : Nat → Int32} {sn : Nat → Int32} {p1 : Int32} {res : Int32} (hm : mX6_isDebtor nw p1 = some res) : Rd l D cI cB cL cK yX6_isDebtor wsX6_isDebtor rmX6_isDebtor [.ref (ad 0), .int p1] (wM cI ad thr tpd siz too frm srt num flt plc wrd snm lin stp sfo hst tp nw rd kp sn) res := by
  refine Rd.of (cc := cX6_isDebtor) (own := RX6) (by decide) rfl rfl (Nat.le_of_ble_eq_true rfl) (fun p e s m below meth c ls Q C hP hl hret => ?_)
  obtain ⟨hx, hb, hr, hml, hown, hts, hlk, hK⟩ := id C
  have hcf : CallFix p m c cX6_isDebtor 2 s _ wsX6_isDebtor RX6 := ⟨hx, hb, hml, hown, hts⟩
  have hl : lv_has ls 2 [(0, .ref (ad 0)), (1, .int p1)] := hl
  unfold mX6_isDebtor at hm
  refine lv_iload_n hx hb dX6_isDebtor_0 rfl (lv_at hl 1 rfl) ?_
  refine lv_iconst (v := 0) hx hb dX6_isDebtor_1 (by decide) ?_
  refine lv_aload_n hx hb dX6_isDebtor_2 rfl (lv_at hl 0 rfl) ?_
  refine gf (q0 := 0) hx hb hts hown hK flX6_isDebtor_70 hP rfl rfl dX6_isDebtor_3 ?_
  refine lv_iconst (v := 3) hx hb dX6_isDebtor_6 (by decide) ?_
  refine ald (q0 := 2) (k := 3) hx hb hK hP rfl (by decide) (by decide) dX6_isDebtor_7 ?_
  refine lv_iconst (v := 1) hx hb dX6_isDebtor_8 (by decide) ?_
  refine lv_isub hx hb dX6_isDebtor_9 ?_
  obtain ⟨v1, h_2, hm⟩ := b1_s hm
  refine rd_s hcf (kX6_isIn h_2) (cwX6_isDebtor_X6_isIn hts) hK hP Sb.nil rfl hl.1 rfl (Nat.le_of_ble_eq_true rfl) dX6_isDebtor_10 ⟨Nat.zero_le _, Nat.zero_le _⟩ ?_
  obtain ⟨h_3, hm⟩ := ck_s hm
  cases hm
  exact hret _ _ dX6_isDebtor_13 (bz_n h_3)
/-! X6 isInvoice(I)Z -/
abbrev rmX6_isInvoice : Room := { frames := 1, cells := 0, slots := 0, locals := 22 }
theorem hdX6_isInvoice : yX6_isInvoice.cls = RX6 ∧ yX6_isInvoice.cls ≠ "java/lang/invoke/MethodHandle" ∧ yX6_isInvoice.cls ≠ "java/lang/invoke/VarHandle" ∧ (parseMethodDescriptor yX6_isInvoice.desc).map (fun d => d.parameters.length) = some 1 := by decide +kernel
theorem inX6_isInvoice_X6 : ∀ w ∈ u_ws RX6 TX6 20, w ∈ wsX6_isInvoice := by decide +kernel
theorem cwX6_isInvoice_X6_isIn {s : State} {args : Array Value} (hts : ∀ w ∈ wsX6_isInvoice, w.before args s = true) : CallB rmX6_isInvoice s args RX6 85 yX6_isIn cX6_isIn 3 (some .boolean) wsX6_isIn rmX6_isIn 0 0 3 ∧ (Cond.static yX6_isIn).before args s = true := va_cwS 3 hts gX6_isInvoice_X6_isIn rfl rfl rfl hdX6_isIn.2 ⟨Nat.le_of_ble_eq_true rfl, Nat.le_of_ble_eq_true rfl⟩
theorem flX6_isInvoice_70 : Fl wsX6_isInvoice RX6 70 6 11 := ⟨_, _, _, rfl, by decide, inX6_isInvoice_X6, by decide +kernel⟩
set_option maxRecDepth 100000 in
set_option maxHeartbeats 4000000 in
theorem kX6_isInvoice {l : Launch} {D : va_G} {cI cB cL cK : ClassId} {ad : Nat → Nat} {thr : Int32} {tpd : Int32} {siz : Int32} {too : Int32} {frm : Int32} {srt : Int32} {num : Int32} {flt : Int32} {plc : Int32} {wrd : Int64} {snm : Int32} {lin : Int32} {stp : Int32} {sfo : Int32} {hst : Int32} {tp : Nat → Int32} {nw : Nat → Int32} {rd : Nat → Int32} {kp : Nat → Int32} {sn : Nat → Int32} {p1 : Int32} {res : Int32} (hm : mX6_isInvoice nw p1 = some res) : Rd l D cI cB cL cK yX6_isInvoice wsX6_isInvoice rmX6_isInvoice [.ref (ad 0), .int p1] (wM cI ad thr tpd siz too frm srt num flt plc wrd snm lin stp sfo hst tp nw rd kp sn) res := by
  refine Rd.of (cc := cX6_isInvoice) (own := RX6) (by decide) rfl rfl (Nat.le_of_ble_eq_true rfl) (fun p e s m below meth c ls Q C hP hl hret => ?_)
  obtain ⟨hx, hb, hr, hml, hown, hts, hlk, hK⟩ := id C
  have hcf : CallFix p m c cX6_isInvoice 2 s _ wsX6_isInvoice RX6 := ⟨hx, hb, hml, hown, hts⟩
  have hl : lv_has ls 2 [(0, .ref (ad 0)), (1, .int p1)] := hl
  unfold mX6_isInvoice at hm
  refine lv_iload_n hx hb dX6_isInvoice_0 rfl (lv_at hl 1 rfl) ?_
  refine lv_iconst (v := 0) hx hb dX6_isInvoice_1 (by decide) ?_
  refine lv_aload_n hx hb dX6_isInvoice_2 rfl (lv_at hl 0 rfl) ?_
  refine gf (q0 := 0) hx hb hts hown hK flX6_isInvoice_70 hP rfl rfl dX6_isInvoice_3 ?_
  refine lv_iconst (v := 4) hx hb dX6_isInvoice_6 (by decide) ?_
  refine ald (q0 := 2) (k := 4) hx hb hK hP rfl (by decide) (by decide) dX6_isInvoice_7 ?_
  refine lv_iconst (v := 1) hx hb dX6_isInvoice_8 (by decide) ?_
  refine lv_isub hx hb dX6_isInvoice_9 ?_
  obtain ⟨v1, h_2, hm⟩ := b1_s hm
  refine rd_s hcf (kX6_isIn h_2) (cwX6_isInvoice_X6_isIn hts) hK hP Sb.nil rfl hl.1 rfl (Nat.le_of_ble_eq_true rfl) dX6_isInvoice_10 ⟨Nat.zero_le _, Nat.zero_le _⟩ ?_
  obtain ⟨h_3, hm⟩ := ck_s hm
  cases hm
  exact hret _ _ dX6_isInvoice_13 (bz_n h_3)
/-! X6 isOrder(I)Z -/
abbrev rmX6_isOrder : Room := { frames := 1, cells := 0, slots := 0, locals := 22 }
theorem hdX6_isOrder : yX6_isOrder.cls = RX6 ∧ yX6_isOrder.cls ≠ "java/lang/invoke/MethodHandle" ∧ yX6_isOrder.cls ≠ "java/lang/invoke/VarHandle" ∧ (parseMethodDescriptor yX6_isOrder.desc).map (fun d => d.parameters.length) = some 1 := by decide +kernel
theorem inX6_isOrder_X6 : ∀ w ∈ u_ws RX6 TX6 20, w ∈ wsX6_isOrder := by decide +kernel
theorem cwX6_isOrder_X6_isIn {s : State} {args : Array Value} (hts : ∀ w ∈ wsX6_isOrder, w.before args s = true) : CallB rmX6_isOrder s args RX6 85 yX6_isIn cX6_isIn 3 (some .boolean) wsX6_isIn rmX6_isIn 0 0 3 ∧ (Cond.static yX6_isIn).before args s = true := va_cwS 3 hts gX6_isOrder_X6_isIn rfl rfl rfl hdX6_isIn.2 ⟨Nat.le_of_ble_eq_true rfl, Nat.le_of_ble_eq_true rfl⟩
theorem flX6_isOrder_70 : Fl wsX6_isOrder RX6 70 6 11 := ⟨_, _, _, rfl, by decide, inX6_isOrder_X6, by decide +kernel⟩
set_option maxRecDepth 100000 in
set_option maxHeartbeats 4000000 in
theorem kX6_isOrder {l : Launch} {D : va_G} {cI cB cL cK : ClassId} {ad : Nat → Nat} {thr : Int32} {tpd : Int32} {siz : Int32} {too : Int32} {frm : Int32} {srt : Int32} {num : Int32} {flt : Int32} {plc : Int32} {wrd : Int64} {snm : Int32} {lin : Int32} {stp : Int32} {sfo : Int32} {hst : Int32} {tp : Nat → Int32} {nw : Nat → Int32} {rd : Nat → Int32} {kp : Nat → Int32} {sn : Nat → Int32} {p1 : Int32} {res : Int32} (hm : mX6_isOrder nw p1 = some res) : Rd l D cI cB cL cK yX6_isOrder wsX6_isOrder rmX6_isOrder [.ref (ad 0), .int p1] (wM cI ad thr tpd siz too frm srt num flt plc wrd snm lin stp sfo hst tp nw rd kp sn) res := by
  refine Rd.of (cc := cX6_isOrder) (own := RX6) (by decide) rfl rfl (Nat.le_of_ble_eq_true rfl) (fun p e s m below meth c ls Q C hP hl hret => ?_)
  obtain ⟨hx, hb, hr, hml, hown, hts, hlk, hK⟩ := id C
  have hcf : CallFix p m c cX6_isOrder 2 s _ wsX6_isOrder RX6 := ⟨hx, hb, hml, hown, hts⟩
  have hl : lv_has ls 2 [(0, .ref (ad 0)), (1, .int p1)] := hl
  unfold mX6_isOrder at hm
  refine lv_iload_n hx hb dX6_isOrder_0 rfl (lv_at hl 1 rfl) ?_
  refine lv_iconst (v := 0) hx hb dX6_isOrder_1 (by decide) ?_
  refine lv_aload_n hx hb dX6_isOrder_2 rfl (lv_at hl 0 rfl) ?_
  refine gf (q0 := 0) hx hb hts hown hK flX6_isOrder_70 hP rfl rfl dX6_isOrder_3 ?_
  refine lv_iconst (v := 5) hx hb dX6_isOrder_6 (by decide) ?_
  refine ald (q0 := 2) (k := 5) hx hb hK hP rfl (by decide) (by decide) dX6_isOrder_7 ?_
  refine lv_iconst (v := 1) hx hb dX6_isOrder_8 (by decide) ?_
  refine lv_isub hx hb dX6_isOrder_9 ?_
  obtain ⟨v1, h_2, hm⟩ := b1_s hm
  refine rd_s hcf (kX6_isIn h_2) (cwX6_isOrder_X6_isIn hts) hK hP Sb.nil rfl hl.1 rfl (Nat.le_of_ble_eq_true rfl) dX6_isOrder_10 ⟨Nat.zero_le _, Nat.zero_le _⟩ ?_
  obtain ⟨h_3, hm⟩ := ck_s hm
  cases hm
  exact hret _ _ dX6_isOrder_13 (bz_n h_3)
/-! X6 its(II)I -/
abbrev rmX6_its : Room := { frames := 0, cells := 0, slots := 0, locals := 0 }
theorem hdX6_its : yX6_its.cls = RX6 ∧ yX6_its.cls ≠ "java/lang/invoke/MethodHandle" ∧ yX6_its.cls ≠ "java/lang/invoke/VarHandle" ∧ (parseMethodDescriptor yX6_its.desc).map (fun d => d.parameters.length) = some 2 := by decide +kernel
theorem inX6_its_X6 : ∀ w ∈ u_ws RX6 TX6 20, w ∈ wsX6_its := by decide +kernel
theorem flX6_its_70 : Fl wsX6_its RX6 70 6 11 := ⟨_, _, _, rfl, by decide, inX6_its_X6, by decide +kernel⟩
set_option maxRecDepth 100000 in
set_option maxHeartbeats 4000000 in
theorem kX6_its {l : Launch} {D : va_G} {cI cB cL cK : ClassId} {ad : Nat → Nat} {thr : Int32} {tpd : Int32} {siz : Int32} {too : Int32} {frm : Int32} {srt : Int32} {num : Int32} {flt : Int32} {plc : Int32} {wrd : Int64} {snm : Int32} {lin : Int32} {stp : Int32} {sfo : Int32} {hst : Int32} {tp : Nat → Int32} {nw : Nat → Int32} {rd : Nat → Int32} {kp : Nat → Int32} {sn : Nat → Int32} {p1 : Int32} {p2 : Int32} {res : Int32} (hm : mX6_its nw p1 p2 = some res) : Rd l D cI cB cL cK yX6_its wsX6_its rmX6_its [.ref (ad 0), .int p1, .int p2] (wM cI ad thr tpd siz too frm srt num flt plc wrd snm lin stp sfo hst tp nw rd kp sn) res := by
  refine Rd.of (cc := cX6_its) (own := RX6) (by decide) rfl rfl (Nat.le_of_ble_eq_true rfl) (fun p e s m below meth c ls Q C hP hl hret => ?_)
  obtain ⟨hx, hb, hr, hml, hown, hts, hlk, hK⟩ := id C
  have hcf : CallFix p m c cX6_its 3 s _ wsX6_its RX6 := ⟨hx, hb, hml, hown, hts⟩
  have hl : lv_has ls 3 [(0, .ref (ad 0)), (1, .int p1), (2, .int p2)] := hl
  unfold mX6_its at hm
  refine lv_aload_n hx hb dX6_its_0 rfl (lv_at hl 0 rfl) ?_
  refine gf (q0 := 0) hx hb hts hown hK flX6_its_70 hP rfl rfl dX6_its_1 ?_
  refine lv_bipush (v := 25) hx hb dX6_its_4 (by decide) ?_
  refine lv_bipush (v := 30) hx hb dX6_its_6 (by decide) ?_
  refine lv_iload_n hx hb dX6_its_8 rfl (lv_at hl 1 rfl) ?_
  refine lv_imul hx hb dX6_its_9 ?_
  refine lv_iadd hx hb dX6_its_10 ?_
  refine lv_iload_n hx hb dX6_its_11 rfl (lv_at hl 2 rfl) ?_
  refine lv_iadd hx hb dX6_its_12 ?_
  obtain ⟨h_1, hm⟩ := ck_s hm
  refine ald (q0 := 2) (k := (((25 + (30 * p1)) + p2) : Int32).toNatClampNeg) hx hb hK hP rfl h_1 rfl dX6_its_13 ?_
  cases hm
  exact hret _ _ dX6_its_14 rfl
/-! X6 puts(III)V -/
abbrev rmX6_puts : Room := { frames := 0, cells := 0, slots := 0, locals := 0 }
theorem hdX6_puts : yX6_puts.cls = RX6 ∧ yX6_puts.cls ≠ "java/lang/invoke/MethodHandle" ∧ yX6_puts.cls ≠ "java/lang/invoke/VarHandle" ∧ (parseMethodDescriptor yX6_puts.desc).map (fun d => d.parameters.length) = some 3 := by decide +kernel
theorem inX6_puts_X6 : ∀ w ∈ u_ws RX6 TX6 20, w ∈ wsX6_puts := by decide +kernel
theorem flX6_puts_70 : Fl wsX6_puts RX6 70 6 11 := ⟨_, _, _, rfl, by decide, inX6_puts_X6, by decide +kernel⟩
set_option maxRecDepth 100000 in
set_option maxHeartbeats 4000000 in
theorem kX6_puts {l : Launch} {D : va_G} {cI cB cL cK : ClassId} {ad : Nat → Nat} {thr : Int32} {tpd : Int32} {siz : Int32} {too : Int32} {frm : Int32} {srt : Int32} {num : Int32} {flt : Int32} {plc : Int32} {wrd : Int64} {snm : Int32} {lin : Int32} {stp : Int32} {sfo : Int32} {hst : Int32} {tp : Nat → Int32} {nw : Nat → Int32} {rd : Nat → Int32} {kp : Nat → Int32} {sn : Nat → Int32} {p1 : Int32} {p2 : Int32} {p3 : Int32} {nw' : Nat → Int32} (hm : mX6_puts nw p1 p2 p3 = some nw') : Mu l D cI cB cL cK yX6_puts wsX6_puts rmX6_puts [.ref (ad 0), .int p1, .int p2, .int p3] (wM cI ad thr tpd siz too frm srt num flt plc wrd snm lin stp sfo hst tp nw rd kp sn) (wM cI ad thr tpd siz too frm srt num flt plc wrd snm lin stp sfo hst tp nw' rd kp sn) none 0 0 := by
  refine Mu.ofv (cc := cX6_puts) (own := RX6) (by decide) rfl rfl (Nat.le_of_ble_eq_true rfl) (fun p e s m below meth c ls Q A C _ hA hP hD hS hl hret => ?_)
  obtain ⟨hx, hb, hr, hml, hown, hts, hlk, hK⟩ := id C
  have hcf : CallFix p m c cX6_puts 4 s _ wsX6_puts RX6 := ⟨hx, hb, hml, hown, hts⟩
  have hl : lv_has ls 4 [(0, .ref (ad 0)), (1, .int p1), (2, .int p2), (3, .int p3)] := hl
  unfold mX6_puts at hm
  refine lv_aload_n hx hb dX6_puts_0 rfl (lv_at hl 0 rfl) ?_
  refine gf (q0 := 0) hx hb hts hown hK flX6_puts_70 hP rfl rfl dX6_puts_1 ?_
  refine lv_bipush (v := 25) hx hb dX6_puts_4 (by decide) ?_
  refine lv_bipush (v := 30) hx hb dX6_puts_6 (by decide) ?_
  refine lv_iload_n hx hb dX6_puts_8 rfl (lv_at hl 1 rfl) ?_
  refine lv_imul hx hb dX6_puts_9 ?_
  refine lv_iadd hx hb dX6_puts_10 ?_
  refine lv_iload_n hx hb dX6_puts_11 rfl (lv_at hl 2 rfl) ?_
  refine lv_iadd hx hb dX6_puts_12 ?_
  refine lv_iload_n hx hb dX6_puts_13 rfl (lv_at hl 3 rfl) ?_
  obtain ⟨h_1, hm⟩ := ck_s hm
  refine ast (q0 := 2) (k := (((25 + (30 * p1)) + p2) : Int32).toNatClampNeg) (X' := (wM cI ad thr tpd siz too frm srt num flt plc wrd snm lin stp sfo hst tp (upd nw ((((25 + (30 * p1)) + p2) : Int32).toNatClampNeg) p3) rd kp sn)) hx hb hK hP hD hS rfl h_1 rfl rfl dX6_puts_14 (fun H locs hP hD hS => ?_)
  cases hm
  exact hret _ _ _ _ dX6_puts_15 hP hD hS
/-! X6 billed(II)I -/
abbrev rmX6_billed : Room := { frames := 0, cells := 0, slots := 0, locals := 0 }
theorem hdX6_billed : yX6_billed.cls = RX6 ∧ yX6_billed.cls ≠ "java/lang/invoke/MethodHandle" ∧ yX6_billed.cls ≠ "java/lang/invoke/VarHandle" ∧ (parseMethodDescriptor yX6_billed.desc).map (fun d => d.parameters.length) = some 2 := by decide +kernel
theorem inX6_billed_X6 : ∀ w ∈ u_ws RX6 TX6 20, w ∈ wsX6_billed := by decide +kernel
theorem flX6_billed_70 : Fl wsX6_billed RX6 70 6 11 := ⟨_, _, _, rfl, by decide, inX6_billed_X6, by decide +kernel⟩
set_option maxRecDepth 100000 in
set_option maxHeartbeats 4000000 in
theorem kX6_billed {l : Launch} {D : va_G} {cI cB cL cK : ClassId} {ad : Nat → Nat} {thr : Int32} {tpd : Int32} {siz : Int32} {too : Int32} {frm : Int32} {srt : Int32} {num : Int32} {flt : Int32} {plc : Int32} {wrd : Int64} {snm : Int32} {lin : Int32} {stp : Int32} {sfo : Int32} {hst : Int32} {tp : Nat → Int32} {nw : Nat → Int32} {rd : Nat → Int32} {kp : Nat → Int32} {sn : Nat → Int32} {p1 : Int32} {p2 : Int32} {res : Int32} (hm : mX6_billed nw p1 p2 = some res) : Rd l D cI cB cL cK yX6_billed wsX6_billed rmX6_billed [.ref (ad 0), .int p1, .int p2] (wM cI ad thr tpd siz too frm srt num flt plc wrd snm lin stp sfo hst tp nw rd kp sn) res := by
  refine Rd.of (cc := cX6_billed) (own := RX6) (by decide) rfl rfl (Nat.le_of_ble_eq_true rfl) (fun p e s m below meth c ls Q C hP hl hret => ?_)
  obtain ⟨hx, hb, hr, hml, hown, hts, hlk, hK⟩ := id C
  have hcf : CallFix p m c cX6_billed 3 s _ wsX6_billed RX6 := ⟨hx, hb, hml, hown, hts⟩
  have hl : lv_has ls 3 [(0, .ref (ad 0)), (1, .int p1), (2, .int p2)] := hl
  unfold mX6_billed at hm
  refine lv_aload_n hx hb dX6_billed_0 rfl (lv_at hl 0 rfl) ?_
  refine gf (q0 := 0) hx hb hts hown hK flX6_billed_70 hP rfl rfl dX6_billed_1 ?_
  refine lv_sipush (v := 205) hx hb dX6_billed_4 (by decide) ?_
  refine lv_bipush (v := 7) hx hb dX6_billed_7 (by decide) ?_
  refine lv_iload_n hx hb dX6_billed_9 rfl (lv_at hl 1 rfl) ?_
  refine lv_imul hx hb dX6_billed_10 ?_
  refine lv_iadd hx hb dX6_billed_11 ?_
  refine lv_iload_n hx hb dX6_billed_12 rfl (lv_at hl 2 rfl) ?_
  refine lv_iadd hx hb dX6_billed_13 ?_
  obtain ⟨h_1, hm⟩ := ck_s hm
  refine ald (q0 := 2) (k := (((205 + (7 * p1)) + p2) : Int32).toNatClampNeg) hx hb hK hP rfl h_1 rfl dX6_billed_14 ?_
  cases hm
  exact hret _ _ dX6_billed_15 rfl
/-! X6 ordered(II)I -/
abbrev rmX6_ordered : Room := { frames := 0, cells := 0, slots := 0, locals := 0 }
theorem hdX6_ordered : yX6_ordered.cls = RX6 ∧ yX6_ordered.cls ≠ "java/lang/invoke/MethodHandle" ∧ yX6_ordered.cls ≠ "java/lang/invoke/VarHandle" ∧ (parseMethodDescriptor yX6_ordered.desc).map (fun d => d.parameters.length) = some 2 := by decide +kernel
theorem inX6_ordered_X6 : ∀ w ∈ u_ws RX6 TX6 20, w ∈ wsX6_ordered := by decide +kernel
theorem flX6_ordered_70 : Fl wsX6_ordered RX6 70 6 11 := ⟨_, _, _, rfl, by decide, inX6_ordered_X6, by decide +kernel⟩
set_option maxRecDepth 100000 in
set_option maxHeartbeats 4000000 in
theorem kX6_ordered {l : Launch} {D : va_G} {cI cB cL cK : ClassId} {ad : Nat → Nat} {thr : Int32} {tpd : Int32} {siz : Int32} {too : Int32} {frm : Int32} {srt : Int32} {num : Int32} {flt : Int32} {plc : Int32} {wrd : Int64} {snm : Int32} {lin : Int32} {stp : Int32} {sfo : Int32} {hst : Int32} {tp : Nat → Int32} {nw : Nat → Int32} {rd : Nat → Int32} {kp : Nat → Int32} {sn : Nat → Int32} {p1 : Int32} {p2 : Int32} {res : Int32} (hm : mX6_ordered nw p1 p2 = some res) : Rd l D cI cB cL cK yX6_ordered wsX6_ordered rmX6_ordered [.ref (ad 0), .int p1, .int p2] (wM cI ad thr tpd siz too frm srt num flt plc wrd snm lin stp sfo hst tp nw rd kp sn) res := by
  refine Rd.of (cc := cX6_ordered) (own := RX6) (by decide) rfl rfl (Nat.le_of_ble_eq_true rfl) (fun p e s m below meth c ls Q C hP hl hret => ?_)
  obtain ⟨hx, hb, hr, hml, hown, hts, hlk, hK⟩ := id C
  have hcf : CallFix p m c cX6_ordered 3 s _ wsX6_ordered RX6 := ⟨hx, hb, hml, hown, hts⟩
  have hl : lv_has ls 3 [(0, .ref (ad 0)), (1, .int p1), (2, .int p2)] := hl
  unfold mX6_ordered at hm
  refine lv_aload_n hx hb dX6_ordered_0 rfl (lv_at hl 0 rfl) ?_
  refine gf (q0 := 0) hx hb hts hown hK flX6_ordered_70 hP rfl rfl dX6_ordered_1 ?_
  refine lv_sipush (v := 625) hx hb dX6_ordered_4 (by decide) ?_
  refine lv_iconst (v := 4) hx hb dX6_ordered_7 (by decide) ?_
  refine lv_iload_n hx hb dX6_ordered_8 rfl (lv_at hl 1 rfl) ?_
  refine lv_imul hx hb dX6_ordered_9 ?_
  refine lv_iadd hx hb dX6_ordered_10 ?_
  refine lv_iload_n hx hb dX6_ordered_11 rfl (lv_at hl 2 rfl) ?_
  refine lv_iadd hx hb dX6_ordered_12 ?_
  obtain ⟨h_1, hm⟩ := ck_s hm
  refine ald (q0 := 2) (k := (((625 + (4 * p1)) + p2) : Int32).toNatClampNeg) hx hb hK hP rfl h_1 rfl dX6_ordered_13 ?_
  cases hm
  exact hret _ _ dX6_ordered_14 rfl
/-! X6 owes(I)I -/
abbrev rmX6_owes : Room := { frames := 1, cells := 0, slots := 0, locals := 22 }
theorem hdX6_owes : yX6_owes.cls = RX6 ∧ yX6_owes.cls ≠ "java/lang/invoke/MethodHandle" ∧ yX6_owes.cls ≠ "java/lang/invoke/VarHandle" ∧ (parseMethodDescriptor yX6_owes.desc).map (fun d => d.parameters.length) = some 1 := by decide +kernel
theorem inX6_owes_X6 : ∀ w ∈ u_ws RX6 TX6 20, w ∈ wsX6_owes := by decide +kernel
theorem cwX6_owes_X6_billed {s : State} {args : Array Value} (hts : ∀ w ∈ wsX6_owes, w.before args s = true) : CallW rmX6_owes s args RX6 RX6 140 yX6_billed cX6_billed 3 (some .int) wsX6_billed rmX6_billed 0 0 2 := cwV 2 hts gX6_owes_X6_billed rfl rfl rfl hdX6_billed ⟨Nat.le_of_ble_eq_true rfl, Nat.le_of_ble_eq_true rfl⟩
theorem flX6_owes_70 : Fl wsX6_owes RX6 70 6 11 := ⟨_, _, _, rfl, by decide, inX6_owes_X6, by decide +kernel⟩
set_option maxRecDepth 100000 in
set_option maxHeartbeats 4000000 in
theorem tX6_owes_L4 {ad : Nat → Nat} {thr : Int32} {tpd : Int32} {siz : Int32} {too : Int32} {frm : Int32} {srt : Int32} {num : Int32} {flt : Int32} {plc : Int32} {wrd : Int64} {snm : Int32} {lin : Int32} {stp : Int32} {sfo : Int32} {hst : Int32} {tp : Nat → Int32} {nw : Nat → Int32} {rd : Nat → Int32} {kp : Nat → Int32} {sn : Nat → Int32} {res : Int32} (C : Cx p s m args meth c cX6_owes (some .int) 4 wsX6_owes RX6 D cI cB cL cK) (hP : va_P D vwCl (wM cI ad thr tpd siz too frm srt num flt plc wrd snm lin stp sfo hst tp nw rd kp sn) s.heap) (hret : ∀ (pc : Nat) (ls : Array Slot), decode cX6_owes pc = .ok (.ireturn, 1) → narrow .int (.int res) = .int res → W p l e rmX6_owes s m args below meth c s.heap [] 0 0 Q (F0 m pc ls [.int res])) : ∀ (n9 : Nat) (x1 : Int32) (x2 : Int32) (x3 : Int32), mX6_owes_L4 n9 nw x1 x2 x3 = some res → ∀ (ls : Array Slot), lv_has ls 4 [(0, .ref (ad 0)), (1, .int x1), (2, .int x2), (3, .int x3)] → W p l e rmX6_owes s m args below meth c s.heap [] 0 0 Q (F0 m 4 ls []) := by
  obtain ⟨hx, hb, hr, hml, hown, hts, hlk, hK⟩ := id C
  have hcf : CallFix p m c cX6_owes 4 s args wsX6_owes RX6 := ⟨hx, hb, hml, hown, hts⟩
  intro n9
  induction n9 with
  | zero => intro x1 x2 x3 hm; cases hm
  | succ k ih =>
    intro x1 x2 x3 hm ls hl
    rw [mX6_owes_L4.eq_2] at hm
    refine lv_iload_n hx hb dX6_owes_4 rfl (lv_at hl 3 rfl) ?_
    refine lv_aload_n hx hb dX6_owes_5 rfl (lv_at hl 0 rfl) ?_
    refine gf (q0 := 0) hx hb hts hown hK flX6_owes_70 hP rfl rfl dX6_owes_6 ?_
    refine lv_iconst (v := 4) hx hb dX6_owes_9 (by decide) ?_
    refine ald (q0 := 2) (k := 4) hx hb hK hP rfl (by decide) (by decide) dX6_owes_10 ?_
    refine lv_icmp_ge (tgt := 39) hx hb dX6_owes_11 (by decide) (fun c_1 => ?_) (fun c_1 => ?_)
    · replace hm := br_p hm c_1
      refine lv_iload_n hx hb dX6_owes_39 rfl (lv_at hl 2 rfl) ?_
      cases hm
      exact hret _ _ dX6_owes_40 rfl
    · replace hm := br_n hm c_1
      refine lv_aload_n hx hb dX6_owes_14 rfl (lv_at hl 0 rfl) ?_
      refine lv_iload_n hx hb dX6_owes_15 rfl (lv_at hl 3 rfl) ?_
      refine lv_iconst (v := 0) hx hb dX6_owes_16 (by decide) ?_
      obtain ⟨v2, h_3, hm⟩ := b1_s hm
      refine rd_v hcf (kX6_billed h_3) (cwX6_owes_X6_billed hts) hK hP Sb.rf (ci := 6) (q0 := 0) rfl rfl rfl hl.1 rfl (Nat.le_of_ble_eq_true rfl) dX6_owes_17 ⟨Nat.zero_le _, Nat.zero_le _⟩ ?_
      refine lv_iload_n hx hb dX6_owes_20 rfl (lv_at hl 1 rfl) ?_
      refine lv_icmp_ne (tgt := 33) hx hb dX6_owes_21 (by decide) (fun c_4 => ?_) (fun c_4 => ?_)
      · replace hm := br_n hm c_4
        refine lv_iinc (v := (x3 + 1)) (lv' := [(3, .int (x3 + 1)), (0, .ref (ad 0)), (1, .int x1), (2, .int x2)]) hx hb dX6_owes_33 hl (k := 3) rfl rfl (by decide) rfl (fun ls hl => ?_)
        refine lv_goto (tgt := 4) hx hb dX6_owes_36 (by decide) ?_
        exact ih _ _ _ hm _ (lv_sub hl [1, 2, 3, 0] rfl)
      · replace hm := br_p hm c_4
        refine lv_iload_n hx hb dX6_owes_24 rfl (lv_at hl 2 rfl) ?_
        refine lv_aload_n hx hb dX6_owes_25 rfl (lv_at hl 0 rfl) ?_
        refine lv_iload_n hx hb dX6_owes_26 rfl (lv_at hl 3 rfl) ?_
        refine lv_iconst (v := 2) hx hb dX6_owes_27 (by decide) ?_
        obtain ⟨v5, h_6, hm⟩ := b1_s hm
        refine rd_v hcf (kX6_billed h_6) (cwX6_owes_X6_billed hts) hK hP Sb.rf (ci := 6) (q0 := 0) rfl rfl rfl hl.1 rfl (Nat.le_of_ble_eq_true rfl) dX6_owes_28 ⟨Nat.zero_le _, Nat.zero_le _⟩ ?_
        refine lv_iadd hx hb dX6_owes_31 ?_
        refine lv_istore_n (lv' := [(2, .int (x2 + v5)), (0, .ref (ad 0)), (1, .int x1), (3, .int x3)]) hx hb dX6_owes_32 rfl hl (by decide) rfl (fun ls hl => ?_)
        refine lv_iinc (v := (x3 + 1)) (lv' := [(3, .int (x3 + 1)), (2, .int (x2 + v5)), (0, .ref (ad 0)), (1, .int x1)]) hx hb dX6_owes_33 hl (k := 3) rfl rfl (by decide) rfl (fun ls hl => ?_)
        refine lv_goto (tgt := 4) hx hb dX6_owes_36 (by decide) ?_
        exact ih _ _ _ hm _ (lv_sub hl [2, 3, 1, 0] rfl)
set_option maxRecDepth 100000 in
set_option maxHeartbeats 4000000 in
theorem kX6_owes {l : Launch} {D : va_G} {cI cB cL cK : ClassId} {ad : Nat → Nat} {thr : Int32} {tpd : Int32} {siz : Int32} {too : Int32} {frm : Int32} {srt : Int32} {num : Int32} {flt : Int32} {plc : Int32} {wrd : Int64} {snm : Int32} {lin : Int32} {stp : Int32} {sfo : Int32} {hst : Int32} {tp : Nat → Int32} {nw : Nat → Int32} {rd : Nat → Int32} {kp : Nat → Int32} {sn : Nat → Int32} {p1 : Int32} {res : Int32} (hm : mX6_owes nw p1 = some res) : Rd l D cI cB cL cK yX6_owes wsX6_owes rmX6_owes [.ref (ad 0), .int p1] (wM cI ad thr tpd siz too frm srt num flt plc wrd snm lin stp sfo hst tp nw rd kp sn) res := by
  refine Rd.of (cc := cX6_owes) (own := RX6) (by decide) rfl rfl (Nat.le_of_ble_eq_true rfl) (fun p e s m below meth c ls Q C hP hl hret => ?_)
  obtain ⟨hx, hb, hr, hml, hown, hts, hlk, hK⟩ := id C
  have hcf : CallFix p m c cX6_owes 4 s _ wsX6_owes RX6 := ⟨hx, hb, hml, hown, hts⟩
  have hl : lv_has ls 4 [(0, .ref (ad 0)), (1, .int p1)] := hl
  unfold mX6_owes at hm
  refine lv_iconst (v := 0) hx hb dX6_owes_0 (by decide) ?_
  refine lv_istore_n (lv' := [(2, .int 0), (0, .ref (ad 0)), (1, .int p1)]) hx hb dX6_owes_1 rfl hl (by decide) rfl (fun ls hl => ?_)
  refine lv_iconst (v := 0) hx hb dX6_owes_2 (by decide) ?_
  refine lv_istore_n (lv' := [(3, .int 0), (2, .int 0), (0, .ref (ad 0)), (1, .int p1)]) hx hb dX6_owes_3 rfl hl (by decide) rfl (fun ls hl => ?_)
  exact tX6_owes_L4 C hP hret _ _ _ _ hm _ (lv_sub hl [2, 3, 1, 0] rfl)
/-! X6 counts(II)Z -/
abbrev rmX6_counts : Room := { frames := 1, cells := 0, slots := 0, locals := 22 }
theorem hdX6_counts : yX6_counts.cls = RX6 ∧ yX6_counts.cls ≠ "java/lang/invoke/MethodHandle" ∧ yX6_counts.cls ≠ "java/lang/invoke/VarHandle" ∧ (parseMethodDescriptor yX6_counts.desc).map (fun d => d.parameters.length) = some 2 := by decide +kernel
theorem cwX6_counts_X6_billed {s : State} {args : Array Value} (hts : ∀ w ∈ wsX6_counts, w.before args s = true) : CallW rmX6_counts s args RX6 RX6 140 yX6_billed cX6_billed 3 (some .int) wsX6_billed rmX6_billed 0 0 2 := cwV 2 hts gX6_counts_X6_billed rfl rfl rfl hdX6_billed ⟨Nat.le_of_ble_eq_true rfl, Nat.le_of_ble_eq_true rfl⟩
set_option maxRecDepth 100000 in
set_option maxHeartbeats 4000000 in
theorem kX6_counts {l : Launch} {D : va_G} {cI cB cL cK : ClassId} {ad : Nat → Nat} {thr : Int32} {tpd : Int32} {siz : Int32} {too : Int32} {frm : Int32} {srt : Int32} {num : Int32} {flt : Int32} {plc : Int32} {wrd : Int64} {snm : Int32} {lin : Int32} {stp : Int32} {sfo : Int32} {hst : Int32} {tp : Nat → Int32} {nw : Nat → Int32} {rd : Nat → Int32} {kp : Nat → Int32} {sn : Nat → Int32} {p1 : Int32} {p2 : Int32} {res : Int32} (hm : mX6_counts nw p1 p2 = some res) : Rd l D cI cB cL cK yX6_counts wsX6_counts rmX6_counts [.ref (ad 0), .int p1, .int p2] (wM cI ad thr tpd siz too frm srt num flt plc wrd snm lin stp sfo hst tp nw rd kp sn) res := by
  refine Rd.of (cc := cX6_counts) (own := RX6) (by decide) rfl rfl (Nat.le_of_ble_eq_true rfl) (fun p e s m below meth c ls Q C hP hl hret => ?_)
  obtain ⟨hx, hb, hr, hml, hown, hts, hlk, hK⟩ := id C
  have hcf : CallFix p m c cX6_counts 3 s _ wsX6_counts RX6 := ⟨hx, hb, hml, hown, hts⟩
  have hl : lv_has ls 3 [(0, .ref (ad 0)), (1, .int p1), (2, .int p2)] := hl
  unfold mX6_counts at hm
  refine lv_aload_n hx hb dX6_counts_0 rfl (lv_at hl 0 rfl) ?_
  refine lv_iload_n hx hb dX6_counts_1 rfl (lv_at hl 1 rfl) ?_
  refine lv_iconst (v := 0) hx hb dX6_counts_2 (by decide) ?_
  obtain ⟨v1, h_2, hm⟩ := b1_s hm
  refine rd_v hcf (kX6_billed h_2) (cwX6_counts_X6_billed hts) hK hP Sb.rf (ci := 6) (q0 := 0) rfl rfl rfl hl.1 rfl (Nat.le_of_ble_eq_true rfl) dX6_counts_3 ⟨Nat.zero_le _, Nat.zero_le _⟩ ?_
  refine lv_iload_n hx hb dX6_counts_6 rfl (lv_at hl 2 rfl) ?_
  refine lv_icmp_ne (tgt := 32) hx hb dX6_counts_7 (by decide) (fun c_3 => ?_) (fun c_3 => ?_)
  · replace hm := br_n hm c_3
    refine lv_iconst (v := 0) hx hb dX6_counts_32 (by decide) ?_
    cases hm
    exact hret _ _ dX6_counts_33 rfl
  · replace hm := br_p hm c_3
    refine lv_aload_n hx hb dX6_counts_10 rfl (lv_at hl 0 rfl) ?_
    refine lv_iload_n hx hb dX6_counts_11 rfl (lv_at hl 1 rfl) ?_
    refine lv_iconst (v := 2) hx hb dX6_counts_12 (by decide) ?_
    obtain ⟨v4, h_5, hm⟩ := b1_s hm
    refine rd_v hcf (kX6_billed h_5) (cwX6_counts_X6_billed hts) hK hP Sb.rf (ci := 6) (q0 := 0) rfl rfl rfl hl.1 rfl (Nat.le_of_ble_eq_true rfl) dX6_counts_13 ⟨Nat.zero_le _, Nat.zero_le _⟩ ?_
    refine lv_if_le (tgt := 32) hx hb dX6_counts_16 (by decide) (fun c_6 => ?_) (fun c_6 => ?_)
    · replace hm := br_p hm c_6
      refine lv_iconst (v := 0) hx hb dX6_counts_32 (by decide) ?_
      cases hm
      exact hret _ _ dX6_counts_33 rfl
    · replace hm := br_n hm c_6
      refine lv_aload_n hx hb dX6_counts_19 rfl (lv_at hl 0 rfl) ?_
      refine lv_iload_n hx hb dX6_counts_20 rfl (lv_at hl 1 rfl) ?_
      refine lv_iconst (v := 5) hx hb dX6_counts_21 (by decide) ?_
      obtain ⟨v7, h_8, hm⟩ := b1_s hm
      refine rd_v hcf (kX6_billed h_8) (cwX6_counts_X6_billed hts) hK hP Sb.rf (ci := 6) (q0 := 0) rfl rfl rfl hl.1 rfl (Nat.le_of_ble_eq_true rfl) dX6_counts_22 ⟨Nat.zero_le _, Nat.zero_le _⟩ ?_
      refine lv_if_ne (tgt := 32) hx hb dX6_counts_25 (by decide) (fun c_9 => ?_) (fun c_9 => ?_)
      · replace hm := br_n hm c_9
        refine lv_iconst (v := 0) hx hb dX6_counts_32 (by decide) ?_
        cases hm
        exact hret _ _ dX6_counts_33 rfl
      · replace hm := br_p hm c_9
        refine lv_iconst (v := 1) hx hb dX6_counts_28 (by decide) ?_
        refine lv_goto (tgt := 33) hx hb dX6_counts_29 (by decide) ?_
        cases hm
        exact hret _ _ dX6_counts_33 rfl
/-! X6 debt(I)I -/
abbrev rmX6_debt : Room := { frames := 2, cells := 0, slots := 0, locals := 44 }
theorem hdX6_debt : yX6_debt.cls = RX6 ∧ yX6_debt.cls ≠ "java/lang/invoke/MethodHandle" ∧ yX6_debt.cls ≠ "java/lang/invoke/VarHandle" ∧ (parseMethodDescriptor yX6_debt.desc).map (fun d => d.parameters.length) = some 1 := by decide +kernel
theorem inX6_debt_X6 : ∀ w ∈ u_ws RX6 TX6 20, w ∈ wsX6_debt := by decide +kernel
theorem cwX6_debt_X6_billed {s : State} {args : Array Value} (hts : ∀ w ∈ wsX6_debt, w.before args s = true) : CallW rmX6_debt s args RX6 RX6 140 yX6_billed cX6_billed 3 (some .int) wsX6_billed rmX6_billed 0 0 2 := cwV 2 hts gX6_debt_X6_billed rfl rfl rfl hdX6_billed ⟨Nat.le_of_ble_eq_true rfl, Nat.le_of_ble_eq_true rfl⟩
theorem cwX6_debt_X6_counts {s : State} {args : Array Value} (hts : ∀ w ∈ wsX6_debt, w.before args s = true) : CallW rmX6_debt s args RX6 RX6 144 yX6_counts cX6_counts 3 (some .boolean) wsX6_counts rmX6_counts 0 0 2 := cwV 2 hts gX6_debt_X6_counts rfl rfl rfl hdX6_counts ⟨Nat.le_of_ble_eq_true rfl, Nat.le_of_ble_eq_true rfl⟩
theorem flX6_debt_70 : Fl wsX6_debt RX6 70 6 11 := ⟨_, _, _, rfl, by decide, inX6_debt_X6, by decide +kernel⟩
set_option maxRecDepth 100000 in
set_option maxHeartbeats 4000000 in
theorem tX6_debt_L4 {ad : Nat → Nat} {thr : Int32} {tpd : Int32} {siz : Int32} {too : Int32} {frm : Int32} {srt : Int32} {num : Int32} {flt : Int32} {plc : Int32} {wrd : Int64} {snm : Int32} {lin : Int32} {stp : Int32} {sfo : Int32} {hst : Int32} {tp : Nat → Int32} {nw : Nat → Int32} {rd : Nat → Int32} {kp : Nat → Int32} {sn : Nat → Int32} {res : Int32} (C : Cx p s m args meth c cX6_debt (some .int) 4 wsX6_debt RX6 D cI cB cL cK) (hP : va_P D vwCl (wM cI ad thr tpd siz too frm srt num flt plc wrd snm lin stp sfo hst tp nw rd kp sn) s.heap) (hret : ∀ (pc : Nat) (ls : Array Slot), decode cX6_debt pc = .ok (.ireturn, 1) → narrow .int (.int res) = .int res → W p l e rmX6_debt s m args below meth c s.heap [] 0 0 Q (F0 m pc ls [.int res])) : ∀ (n9 : Nat) (x1 : Int32) (x2 : Int32) (x3 : Int32), mX6_debt_L4 n9 nw x1 x2 x3 = some res → ∀ (ls : Array Slot), lv_has ls 4 [(0, .ref (ad 0)), (1, .int x1), (2, .int x2), (3, .int x3)] → W p l e rmX6_debt s m args below meth c s.heap [] 0 0 Q (F0 m 4 ls []) := by
  obtain ⟨hx, hb, hr, hml, hown, hts, hlk, hK⟩ := id C
  have hcf : CallFix p m c cX6_debt 4 s args wsX6_debt RX6 := ⟨hx, hb, hml, hown, hts⟩
  intro n9
  induction n9 with
  | zero => intro x1 x2 x3 hm; cases hm
  | succ k ih =>
    intro x1 x2 x3 hm ls hl
    rw [mX6_debt_L4.eq_2] at hm
    refine lv_iload_n hx hb dX6_debt_4 rfl (lv_at hl 3 rfl) ?_
    refine lv_aload_n hx hb dX6_debt_5 rfl (lv_at hl 0 rfl) ?_
    refine gf (q0 := 0) hx hb hts hown hK flX6_debt_70 hP rfl rfl dX6_debt_6 ?_
    refine lv_iconst (v := 4) hx hb dX6_debt_9 (by decide) ?_
    refine ald (q0 := 2) (k := 4) hx hb hK hP rfl (by decide) (by decide) dX6_debt_10 ?_
    refine lv_icmp_ge (tgt := 38) hx hb dX6_debt_11 (by decide) (fun c_1 => ?_) (fun c_1 => ?_)
    · replace hm := br_p hm c_1
      refine lv_iload_n hx hb dX6_debt_38 rfl (lv_at hl 2 rfl) ?_
      cases hm
      exact hret _ _ dX6_debt_39 rfl
    · replace hm := br_n hm c_1
      refine lv_aload_n hx hb dX6_debt_14 rfl (lv_at hl 0 rfl) ?_
      refine lv_iload_n hx hb dX6_debt_15 rfl (lv_at hl 3 rfl) ?_
      refine lv_iload_n hx hb dX6_debt_16 rfl (lv_at hl 1 rfl) ?_
      obtain ⟨v2, h_3, hm⟩ := b1_s hm
      refine rd_v hcf (kX6_counts h_3) (cwX6_debt_X6_counts hts) hK hP Sb.rf (ci := 6) (q0 := 0) rfl rfl rfl hl.1 rfl (Nat.le_of_ble_eq_true rfl) dX6_debt_17 ⟨Nat.zero_le _, Nat.zero_le _⟩ ?_
      refine lv_if_eq (tgt := 32) hx hb dX6_debt_20 (by decide) (fun c_4 => ?_) (fun c_4 => ?_)
      · replace hm := br_p hm c_4
        refine lv_iinc (v := (x3 + 1)) (lv' := [(3, .int (x3 + 1)), (0, .ref (ad 0)), (1, .int x1), (2, .int x2)]) hx hb dX6_debt_32 hl (k := 3) rfl rfl (by decide) rfl (fun ls hl => ?_)
        refine lv_goto (tgt := 4) hx hb dX6_debt_35 (by decide) ?_
        exact ih _ _ _ hm _ (lv_sub hl [1, 2, 3, 0] rfl)
      · replace hm := br_n hm c_4
        refine lv_iload_n hx hb dX6_debt_23 rfl (lv_at hl 2 rfl) ?_
        refine lv_aload_n hx hb dX6_debt_24 rfl (lv_at hl 0 rfl) ?_
        refine lv_iload_n hx hb dX6_debt_25 rfl (lv_at hl 3 rfl) ?_
        refine lv_iconst (v := 2) hx hb dX6_debt_26 (by decide) ?_
        obtain ⟨v5, h_6, hm⟩ := b1_s hm
        refine rd_v hcf (kX6_billed h_6) (cwX6_debt_X6_billed hts) hK hP Sb.rf (ci := 6) (q0 := 0) rfl rfl rfl hl.1 rfl (Nat.le_of_ble_eq_true rfl) dX6_debt_27 ⟨Nat.zero_le _, Nat.zero_le _⟩ ?_
        refine lv_iadd hx hb dX6_debt_30 ?_
        refine lv_istore_n (lv' := [(2, .int (x2 + v5)), (0, .ref (ad 0)), (1, .int x1), (3, .int x3)]) hx hb dX6_debt_31 rfl hl (by decide) rfl (fun ls hl => ?_)
        refine lv_iinc (v := (x3 + 1)) (lv' := [(3, .int (x3 + 1)), (2, .int (x2 + v5)), (0, .ref (ad 0)), (1, .int x1)]) hx hb dX6_debt_32 hl (k := 3) rfl rfl (by decide) rfl (fun ls hl => ?_)
        refine lv_goto (tgt := 4) hx hb dX6_debt_35 (by decide) ?_
        exact ih _ _ _ hm _ (lv_sub hl [2, 3, 1, 0] rfl)
set_option maxRecDepth 100000 in
set_option maxHeartbeats 4000000 in
theorem kX6_debt {l : Launch} {D : va_G} {cI cB cL cK : ClassId} {ad : Nat → Nat} {thr : Int32} {tpd : Int32} {siz : Int32} {too : Int32} {frm : Int32} {srt : Int32} {num : Int32} {flt : Int32} {plc : Int32} {wrd : Int64} {snm : Int32} {lin : Int32} {stp : Int32} {sfo : Int32} {hst : Int32} {tp : Nat → Int32} {nw : Nat → Int32} {rd : Nat → Int32} {kp : Nat → Int32} {sn : Nat → Int32} {p1 : Int32} {res : Int32} (hm : mX6_debt nw p1 = some res) : Rd l D cI cB cL cK yX6_debt wsX6_debt rmX6_debt [.ref (ad 0), .int p1] (wM cI ad thr tpd siz too frm srt num flt plc wrd snm lin stp sfo hst tp nw rd kp sn) res := by
  refine Rd.of (cc := cX6_debt) (own := RX6) (by decide) rfl rfl (Nat.le_of_ble_eq_true rfl) (fun p e s m below meth c ls Q C hP hl hret => ?_)
  obtain ⟨hx, hb, hr, hml, hown, hts, hlk, hK⟩ := id C
  have hcf : CallFix p m c cX6_debt 4 s _ wsX6_debt RX6 := ⟨hx, hb, hml, hown, hts⟩
  have hl : lv_has ls 4 [(0, .ref (ad 0)), (1, .int p1)] := hl
  unfold mX6_debt at hm
  refine lv_iconst (v := 0) hx hb dX6_debt_0 (by decide) ?_
  refine lv_istore_n (lv' := [(2, .int 0), (0, .ref (ad 0)), (1, .int p1)]) hx hb dX6_debt_1 rfl hl (by decide) rfl (fun ls hl => ?_)
  refine lv_iconst (v := 0) hx hb dX6_debt_2 (by decide) ?_
  refine lv_istore_n (lv' := [(3, .int 0), (2, .int 0), (0, .ref (ad 0)), (1, .int p1)]) hx hb dX6_debt_3 rfl hl (by decide) rfl (fun ls hl => ?_)
  exact tX6_debt_L4 C hP hret _ _ _ _ hm _ (lv_sub hl [2, 3, 1, 0] rfl)
/-! X6 eldest(I)I -/
abbrev rmX6_eldest : Room := { frames := 2, cells := 0, slots := 0, locals := 44 }
theorem hdX6_eldest : yX6_eldest.cls = RX6 ∧ yX6_eldest.cls ≠ "java/lang/invoke/MethodHandle" ∧ yX6_eldest.cls ≠ "java/lang/invoke/VarHandle" ∧ (parseMethodDescriptor yX6_eldest.desc).map (fun d => d.parameters.length) = some 1 := by decide +kernel
theorem inX6_eldest_X6 : ∀ w ∈ u_ws RX6 TX6 20, w ∈ wsX6_eldest := by decide +kernel
theorem cwX6_eldest_X6_billed {s : State} {args : Array Value} (hts : ∀ w ∈ wsX6_eldest, w.before args s = true) : CallW rmX6_eldest s args RX6 RX6 140 yX6_billed cX6_billed 3 (some .int) wsX6_billed rmX6_billed 0 0 2 := cwV 2 hts gX6_eldest_X6_billed rfl rfl rfl hdX6_billed ⟨Nat.le_of_ble_eq_true rfl, Nat.le_of_ble_eq_true rfl⟩
theorem cwX6_eldest_X6_counts {s : State} {args : Array Value} (hts : ∀ w ∈ wsX6_eldest, w.before args s = true) : CallW rmX6_eldest s args RX6 RX6 144 yX6_counts cX6_counts 3 (some .boolean) wsX6_counts rmX6_counts 0 0 2 := cwV 2 hts gX6_eldest_X6_counts rfl rfl rfl hdX6_counts ⟨Nat.le_of_ble_eq_true rfl, Nat.le_of_ble_eq_true rfl⟩
theorem flX6_eldest_70 : Fl wsX6_eldest RX6 70 6 11 := ⟨_, _, _, rfl, by decide, inX6_eldest_X6, by decide +kernel⟩
set_option maxRecDepth 100000 in
set_option maxHeartbeats 4000000 in
theorem tX6_eldest_L4 {ad : Nat → Nat} {thr : Int32} {tpd : Int32} {siz : Int32} {too : Int32} {frm : Int32} {srt : Int32} {num : Int32} {flt : Int32} {plc : Int32} {wrd : Int64} {snm : Int32} {lin : Int32} {stp : Int32} {sfo : Int32} {hst : Int32} {tp : Nat → Int32} {nw : Nat → Int32} {rd : Nat → Int32} {kp : Nat → Int32} {sn : Nat → Int32} {res : Int32} (C : Cx p s m args meth c cX6_eldest (some .int) 4 wsX6_eldest RX6 D cI cB cL cK) (hP : va_P D vwCl (wM cI ad thr tpd siz too frm srt num flt plc wrd snm lin stp sfo hst tp nw rd kp sn) s.heap) (hret : ∀ (pc : Nat) (ls : Array Slot), decode cX6_eldest pc = .ok (.ireturn, 1) → narrow .int (.int res) = .int res → W p l e rmX6_eldest s m args below meth c s.heap [] 0 0 Q (F0 m pc ls [.int res])) : ∀ (n9 : Nat) (x1 : Int32) (x2 : Int32) (x3 : Int32), mX6_eldest_L4 n9 nw x1 x2 x3 = some res → ∀ (ls : Array Slot), lv_has ls 4 [(0, .ref (ad 0)), (1, .int x1), (2, .int x2), (3, .int x3)] → W p l e rmX6_eldest s m args below meth c s.heap [] 0 0 Q (F0 m 4 ls []) := by
  obtain ⟨hx, hb, hr, hml, hown, hts, hlk, hK⟩ := id C
  have hcf : CallFix p m c cX6_eldest 4 s args wsX6_eldest RX6 := ⟨hx, hb, hml, hown, hts⟩
  intro n9
  induction n9 with
  | zero => intro x1 x2 x3 hm; cases hm
  | succ k ih =>
    intro x1 x2 x3 hm ls hl
    rw [mX6_eldest_L4.eq_2] at hm
    refine lv_iload_n hx hb dX6_eldest_4 rfl (lv_at hl 3 rfl) ?_
    refine lv_aload_n hx hb dX6_eldest_5 rfl (lv_at hl 0 rfl) ?_
    refine gf (q0 := 0) hx hb hts hown hK flX6_eldest_70 hP rfl rfl dX6_eldest_6 ?_
    refine lv_iconst (v := 4) hx hb dX6_eldest_9 (by decide) ?_
    refine ald (q0 := 2) (k := 4) hx hb hK hP rfl (by decide) (by decide) dX6_eldest_10 ?_
    refine lv_icmp_ge (tgt := 46) hx hb dX6_eldest_11 (by decide) (fun c_1 => ?_) (fun c_1 => ?_)
    · replace hm := br_p hm c_1
      refine lv_iload_n hx hb dX6_eldest_46 rfl (lv_at hl 2 rfl) ?_
      cases hm
      exact hret _ _ dX6_eldest_47 rfl
    · replace hm := br_n hm c_1
      refine lv_aload_n hx hb dX6_eldest_14 rfl (lv_at hl 0 rfl) ?_
      refine lv_iload_n hx hb dX6_eldest_15 rfl (lv_at hl 3 rfl) ?_
      refine lv_iload_n hx hb dX6_eldest_16 rfl (lv_at hl 1 rfl) ?_
      obtain ⟨v2, h_3, hm⟩ := b1_s hm
      refine rd_v hcf (kX6_counts h_3) (cwX6_eldest_X6_counts hts) hK hP Sb.rf (ci := 6) (q0 := 0) rfl rfl rfl hl.1 rfl (Nat.le_of_ble_eq_true rfl) dX6_eldest_17 ⟨Nat.zero_le _, Nat.zero_le _⟩ ?_
      refine lv_if_eq (tgt := 40) hx hb dX6_eldest_20 (by decide) (fun c_4 => ?_) (fun c_4 => ?_)
      · replace hm := br_p hm c_4
        refine lv_iinc (v := (x3 + 1)) (lv' := [(3, .int (x3 + 1)), (0, .ref (ad 0)), (1, .int x1), (2, .int x2)]) hx hb dX6_eldest_40 hl (k := 3) rfl rfl (by decide) rfl (fun ls hl => ?_)
        refine lv_goto (tgt := 4) hx hb dX6_eldest_43 (by decide) ?_
        exact ih _ _ _ hm _ (lv_sub hl [1, 2, 3, 0] rfl)
      · replace hm := br_n hm c_4
        refine lv_aload_n hx hb dX6_eldest_23 rfl (lv_at hl 0 rfl) ?_
        refine lv_iload_n hx hb dX6_eldest_24 rfl (lv_at hl 3 rfl) ?_
        refine lv_iconst (v := 4) hx hb dX6_eldest_25 (by decide) ?_
        obtain ⟨v5, h_6, hm⟩ := b1_s hm
        refine rd_v hcf (kX6_billed h_6) (cwX6_eldest_X6_billed hts) hK hP Sb.rf (ci := 6) (q0 := 0) rfl rfl rfl hl.1 rfl (Nat.le_of_ble_eq_true rfl) dX6_eldest_26 ⟨Nat.zero_le _, Nat.zero_le _⟩ ?_
        refine lv_iload_n hx hb dX6_eldest_29 rfl (lv_at hl 2 rfl) ?_
        refine lv_icmp_le (tgt := 40) hx hb dX6_eldest_30 (by decide) (fun c_7 => ?_) (fun c_7 => ?_)
        · replace hm := br_p hm c_7
          refine lv_iinc (v := (x3 + 1)) (lv' := [(3, .int (x3 + 1)), (0, .ref (ad 0)), (1, .int x1), (2, .int x2)]) hx hb dX6_eldest_40 hl (k := 3) rfl rfl (by decide) rfl (fun ls hl => ?_)
          refine lv_goto (tgt := 4) hx hb dX6_eldest_43 (by decide) ?_
          exact ih _ _ _ hm _ (lv_sub hl [1, 2, 3, 0] rfl)
        · replace hm := br_n hm c_7
          refine lv_aload_n hx hb dX6_eldest_33 rfl (lv_at hl 0 rfl) ?_
          refine lv_iload_n hx hb dX6_eldest_34 rfl (lv_at hl 3 rfl) ?_
          refine lv_iconst (v := 4) hx hb dX6_eldest_35 (by decide) ?_
          obtain ⟨v8, h_9, hm⟩ := b1_s hm
          refine rd_v hcf (kX6_billed h_9) (cwX6_eldest_X6_billed hts) hK hP Sb.rf (ci := 6) (q0 := 0) rfl rfl rfl hl.1 rfl (Nat.le_of_ble_eq_true rfl) dX6_eldest_36 ⟨Nat.zero_le _, Nat.zero_le _⟩ ?_
          refine lv_istore_n (lv' := [(2, .int v8), (0, .ref (ad 0)), (1, .int x1), (3, .int x3)]) hx hb dX6_eldest_39 rfl hl (by decide) rfl (fun ls hl => ?_)
          refine lv_iinc (v := (x3 + 1)) (lv' := [(3, .int (x3 + 1)), (2, .int v8), (0, .ref (ad 0)), (1, .int x1)]) hx hb dX6_eldest_40 hl (k := 3) rfl rfl (by decide) rfl (fun ls hl => ?_)
          refine lv_goto (tgt := 4) hx hb dX6_eldest_43 (by decide) ?_
          exact ih _ _ _ hm _ (lv_sub hl [2, 3, 1, 0] rfl)
set_option maxRecDepth 100000 in
set_option maxHeartbeats 4000000 in
theorem kX6_eldest {l : Launch} {D : va_G} {cI cB cL cK : ClassId} {ad : Nat → Nat} {thr : Int32} {tpd : Int32} {siz : Int32} {too : Int32} {frm : Int32} {srt : Int32} {num : Int32} {flt : Int32} {plc : Int32} {wrd : Int64} {snm : Int32} {lin : Int32} {stp : Int32} {sfo : Int32} {hst : Int32} {tp : Nat → Int32} {nw : Nat → Int32} {rd : Nat → Int32} {kp : Nat → Int32} {sn : Nat → Int32} {p1 : Int32} {res : Int32} (hm : mX6_eldest nw p1 = some res) : Rd l D cI cB cL cK yX6_eldest wsX6_eldest rmX6_eldest [.ref (ad 0), .int p1] (wM cI ad thr tpd siz too frm srt num flt plc wrd snm lin stp sfo hst tp nw rd kp sn) res := by
  refine Rd.of (cc := cX6_eldest) (own := RX6) (by decide) rfl rfl (Nat.le_of_ble_eq_true rfl) (fun p e s m below meth c ls Q C hP hl hret => ?_)
  obtain ⟨hx, hb, hr, hml, hown, hts, hlk, hK⟩ := id C
  have hcf : CallFix p m c cX6_eldest 4 s _ wsX6_eldest RX6 := ⟨hx, hb, hml, hown, hts⟩
  have hl : lv_has ls 4 [(0, .ref (ad 0)), (1, .int p1)] := hl
  unfold mX6_eldest at hm
  refine lv_iconst (v := 0) hx hb dX6_eldest_0 (by decide) ?_
  refine lv_istore_n (lv' := [(2, .int 0), (0, .ref (ad 0)), (1, .int p1)]) hx hb dX6_eldest_1 rfl hl (by decide) rfl (fun ls hl => ?_)
  refine lv_iconst (v := 0) hx hb dX6_eldest_2 (by decide) ?_
  refine lv_istore_n (lv' := [(3, .int 0), (2, .int 0), (0, .ref (ad 0)), (1, .int p1)]) hx hb dX6_eldest_3 rfl hl (by decide) rfl (fun ls hl => ?_)
  exact tX6_eldest_L4 C hP hret _ _ _ _ hm _ (lv_sub hl [2, 3, 1, 0] rfl)
/-! X6 isAtCourt(I)Z -/
abbrev rmX6_isAtCourt : Room := { frames := 1, cells := 0, slots := 0, locals := 22 }
theorem hdX6_isAtCourt : yX6_isAtCourt.cls = RX6 ∧ yX6_isAtCourt.cls ≠ "java/lang/invoke/MethodHandle" ∧ yX6_isAtCourt.cls ≠ "java/lang/invoke/VarHandle" ∧ (parseMethodDescriptor yX6_isAtCourt.desc).map (fun d => d.parameters.length) = some 1 := by decide +kernel
theorem inX6_isAtCourt_X6 : ∀ w ∈ u_ws RX6 TX6 20, w ∈ wsX6_isAtCourt := by decide +kernel
theorem cwX6_isAtCourt_X6_its {s : State} {args : Array Value} (hts : ∀ w ∈ wsX6_isAtCourt, w.before args s = true) : CallW rmX6_isAtCourt s args RX6 RX6 148 yX6_its cX6_its 3 (some .int) wsX6_its rmX6_its 0 0 2 := cwV 2 hts gX6_isAtCourt_X6_its rfl rfl rfl hdX6_its ⟨Nat.le_of_ble_eq_true rfl, Nat.le_of_ble_eq_true rfl⟩
theorem flX6_isAtCourt_70 : Fl wsX6_isAtCourt RX6 70 6 11 := ⟨_, _, _, rfl, by decide, inX6_isAtCourt_X6, by decide +kernel⟩
set_option maxRecDepth 100000 in
set_option maxHeartbeats 4000000 in
theorem kX6_isAtCourt {l : Launch} {D : va_G} {cI cB cL cK : ClassId} {ad : Nat → Nat} {thr : Int32} {tpd : Int32} {siz : Int32} {too : Int32} {frm : Int32} {srt : Int32} {num : Int32} {flt : Int32} {plc : Int32} {wrd : Int64} {snm : Int32} {lin : Int32} {stp : Int32} {sfo : Int32} {hst : Int32} {tp : Nat → Int32} {nw : Nat → Int32} {rd : Nat → Int32} {kp : Nat → Int32} {sn : Nat → Int32} {p1 : Int32} {res : Int32} (hm : mX6_isAtCourt nw p1 = some res) : Rd l D cI cB cL cK yX6_isAtCourt wsX6_isAtCourt rmX6_isAtCourt [.ref (ad 0), .int p1] (wM cI ad thr tpd siz too frm srt num flt plc wrd snm lin stp sfo hst tp nw rd kp sn) res := by
  refine Rd.of (cc := cX6_isAtCourt) (own := RX6) (by decide) rfl rfl (Nat.le_of_ble_eq_true rfl) (fun p e s m below meth c ls Q C hP hl hret => ?_)
  obtain ⟨hx, hb, hr, hml, hown, hts, hlk, hK⟩ := id C
  have hcf : CallFix p m c cX6_isAtCourt 2 s _ wsX6_isAtCourt RX6 := ⟨hx, hb, hml, hown, hts⟩
  have hl : lv_has ls 2 [(0, .ref (ad 0)), (1, .int p1)] := hl
  unfold mX6_isAtCourt at hm
  refine lv_aload_n hx hb dX6_isAtCourt_0 rfl (lv_at hl 0 rfl) ?_
  refine gf (q0 := 0) hx hb hts hown hK flX6_isAtCourt_70 hP rfl rfl dX6_isAtCourt_1 ?_
  refine lv_iconst (v := 2) hx hb dX6_isAtCourt_4 (by decide) ?_
  refine ald (q0 := 2) (k := 2) hx hb hK hP rfl (by decide) (by decide) dX6_isAtCourt_5 ?_
  refine lv_if_le (tgt := 28) hx hb dX6_isAtCourt_6 (by decide) (fun c_1 => ?_) (fun c_1 => ?_)
  · replace hm := br_p hm c_1
    refine lv_iconst (v := 0) hx hb dX6_isAtCourt_28 (by decide) ?_
    cases hm
    exact hret _ _ dX6_isAtCourt_29 rfl
  · replace hm := br_n hm c_1
    refine lv_aload_n hx hb dX6_isAtCourt_9 rfl (lv_at hl 0 rfl) ?_
    refine lv_iload_n hx hb dX6_isAtCourt_10 rfl (lv_at hl 1 rfl) ?_
    refine lv_iconst (v := 3) hx hb dX6_isAtCourt_11 (by decide) ?_
    obtain ⟨v2, h_3, hm⟩ := b1_s hm
    refine rd_v hcf (kX6_its h_3) (cwX6_isAtCourt_X6_its hts) hK hP Sb.rf (ci := 6) (q0 := 0) rfl rfl rfl hl.1 rfl (Nat.le_of_ble_eq_true rfl) dX6_isAtCourt_12 ⟨Nat.zero_le _, Nat.zero_le _⟩ ?_
    refine lv_aload_n hx hb dX6_isAtCourt_15 rfl (lv_at hl 0 rfl) ?_
    refine gf (q0 := 0) hx hb hts hown hK flX6_isAtCourt_70 hP rfl rfl dX6_isAtCourt_16 ?_
    refine lv_iconst (v := 2) hx hb dX6_isAtCourt_19 (by decide) ?_
    refine ald (q0 := 2) (k := 2) hx hb hK hP rfl (by decide) (by decide) dX6_isAtCourt_20 ?_
    refine lv_icmp_ne (tgt := 28) hx hb dX6_isAtCourt_21 (by decide) (fun c_4 => ?_) (fun c_4 => ?_)
    · replace hm := br_n hm c_4
      refine lv_iconst (v := 0) hx hb dX6_isAtCourt_28 (by decide) ?_
      cases hm
      exact hret _ _ dX6_isAtCourt_29 rfl
    · replace hm := br_p hm c_4
      refine lv_iconst (v := 1) hx hb dX6_isAtCourt_24 (by decide) ?_
      refine lv_goto (tgt := 29) hx hb dX6_isAtCourt_25 (by decide) ?_
      cases hm
      exact hret _ _ dX6_isAtCourt_29 rfl
/-! X6 isStopped(I)Z -/
abbrev rmX6_isStopped : Room := { frames := 1, cells := 0, slots := 0, locals := 22 }
theorem hdX6_isStopped : yX6_isStopped.cls = RX6 ∧ yX6_isStopped.cls ≠ "java/lang/invoke/MethodHandle" ∧ yX6_isStopped.cls ≠ "java/lang/invoke/VarHandle" ∧ (parseMethodDescriptor yX6_isStopped.desc).map (fun d => d.parameters.length) = some 1 := by decide +kernel
theorem cwX6_isStopped_X6_its {s : State} {args : Array Value} (hts : ∀ w ∈ wsX6_isStopped, w.before args s = true) : CallW rmX6_isStopped s args RX6 RX6 148 yX6_its cX6_its 3 (some .int) wsX6_its rmX6_its 0 0 2 := cwV 2 hts gX6_isStopped_X6_its rfl rfl rfl hdX6_its ⟨Nat.le_of_ble_eq_true rfl, Nat.le_of_ble_eq_true rfl⟩
set_option maxRecDepth 100000 in
set_option maxHeartbeats 4000000 in
theorem kX6_isStopped {l : Launch} {D : va_G} {cI cB cL cK : ClassId} {ad : Nat → Nat} {thr : Int32} {tpd : Int32} {siz : Int32} {too : Int32} {frm : Int32} {srt : Int32} {num : Int32} {flt : Int32} {plc : Int32} {wrd : Int64} {snm : Int32} {lin : Int32} {stp : Int32} {sfo : Int32} {hst : Int32} {tp : Nat → Int32} {nw : Nat → Int32} {rd : Nat → Int32} {kp : Nat → Int32} {sn : Nat → Int32} {p1 : Int32} {res : Int32} (hm : mX6_isStopped nw p1 = some res) : Rd l D cI cB cL cK yX6_isStopped wsX6_isStopped rmX6_isStopped [.ref (ad 0), .int p1] (wM cI ad thr tpd siz too frm srt num flt plc wrd snm lin stp sfo hst tp nw rd kp sn) res := by
  refine Rd.of (cc := cX6_isStopped) (own := RX6) (by decide) rfl rfl (Nat.le_of_ble_eq_true rfl) (fun p e s m below meth c ls Q C hP hl hret => ?_)
  obtain ⟨hx, hb, hr, hml, hown, hts, hlk, hK⟩ := id C
  have hcf : CallFix p m c cX6_isStopped 2 s _ wsX6_isStopped RX6 := ⟨hx, hb, hml, hown, hts⟩
  have hl : lv_has ls 2 [(0, .ref (ad 0)), (1, .int p1)] := hl
  unfold mX6_isStopped at hm
  refine lv_aload_n hx hb dX6_isStopped_0 rfl (lv_at hl 0 rfl) ?_
  refine lv_iload_n hx hb dX6_isStopped_1 rfl (lv_at hl 1 rfl) ?_
  refine lv_iconst (v := 5) hx hb dX6_isStopped_2 (by decide) ?_
  obtain ⟨v1, h_2, hm⟩ := b1_s hm
  refine rd_v hcf (kX6_its h_2) (cwX6_isStopped_X6_its hts) hK hP Sb.rf (ci := 6) (q0 := 0) rfl rfl rfl hl.1 rfl (Nat.le_of_ble_eq_true rfl) dX6_isStopped_3 ⟨Nat.zero_le _, Nat.zero_le _⟩ ?_
  refine lv_if_gt (tgt := 19) hx hb dX6_isStopped_6 (by decide) (fun c_3 => ?_) (fun c_3 => ?_)
  · replace hm := br_p hm c_3
    refine lv_iconst (v := 1) hx hb dX6_isStopped_19 (by decide) ?_
    refine lv_goto (tgt := 24) hx hb dX6_isStopped_20 (by decide) ?_
    cases hm
    exact hret _ _ dX6_isStopped_24 rfl
  · replace hm := br_n hm c_3
    refine lv_aload_n hx hb dX6_isStopped_9 rfl (lv_at hl 0 rfl) ?_
    refine lv_iload_n hx hb dX6_isStopped_10 rfl (lv_at hl 1 rfl) ?_
    refine lv_bipush (v := 9) hx hb dX6_isStopped_11 (by decide) ?_
    obtain ⟨v4, h_5, hm⟩ := b1_s hm
    refine rd_v hcf (kX6_its h_5) (cwX6_isStopped_X6_its hts) hK hP Sb.rf (ci := 6) (q0 := 0) rfl rfl rfl hl.1 rfl (Nat.le_of_ble_eq_true rfl) dX6_isStopped_13 ⟨Nat.zero_le _, Nat.zero_le _⟩ ?_
    refine lv_if_le (tgt := 23) hx hb dX6_isStopped_16 (by decide) (fun c_6 => ?_) (fun c_6 => ?_)
    · replace hm := br_p hm c_6
      refine lv_iconst (v := 0) hx hb dX6_isStopped_23 (by decide) ?_
      cases hm
      exact hret _ _ dX6_isStopped_24 rfl
    · replace hm := br_n hm c_6
      refine lv_iconst (v := 1) hx hb dX6_isStopped_19 (by decide) ?_
      refine lv_goto (tgt := 24) hx hb dX6_isStopped_20 (by decide) ?_
      cases hm
      exact hret _ _ dX6_isStopped_24 rfl
end
