section
variable {p : Program} {l : Launch} {e : Env} {s : State} {m : MethodId} {args : Array Value} {below : List Frame} {meth : Method} {c : Code} {Q : State → Prop} {A : Nat → Prop} {D : va_G} {cI cB cL cK : ClassId}
/-! X5 feed(IIIII)I -/
abbrev rmX5_feed : Room := { frames := 1, cells := 0, slots := 0, locals := 22 }
theorem hdX5_feed : yX5_feed.cls = RX5 ∧ yX5_feed.cls ≠ "java/lang/invoke/MethodHandle" ∧ yX5_feed.cls ≠ "java/lang/invoke/VarHandle" ∧ (parseMethodDescriptor yX5_feed.desc).map (fun d => d.parameters.length) = some 5 := by decide +kernel
theorem inX5_feed_X5 : ∀ w ∈ u_ws RX5 TX5 5, w ∈ wsX5_feed := by decide +kernel
theorem cwX5_feed_X4_append {s : State} {args : Array Value} (hts : ∀ w ∈ wsX5_feed, w.before args s = true) : CallW rmX5_feed s args RX5 RX4 41 yX4_append cX4_append 3 none wsX4_append rmX4_append 0 0 1 := cwV 1 hts gX5_feed_X4_append rfl rfl rfl hdX4_append ⟨Nat.le_of_ble_eq_true rfl, Nat.le_of_ble_eq_true rfl⟩
theorem cwX5_feed_X4_hasRoom {s : State} {args : Array Value} (hts : ∀ w ∈ wsX5_feed, w.before args s = true) : CallW rmX5_feed s args RX5 RX4 37 yX4_hasRoom cX4_hasRoom 1 (some .boolean) wsX4_hasRoom rmX4_hasRoom 0 0 0 := cwV 0 hts gX5_feed_X4_hasRoom rfl rfl rfl hdX4_hasRoom ⟨Nat.le_of_ble_eq_true rfl, Nat.le_of_ble_eq_true rfl⟩
theorem cwX5_feed_X4_length {s : State} {args : Array Value} (hts : ∀ w ∈ wsX5_feed, w.before args s = true) : CallW rmX5_feed s args RX5 RX4 45 yX4_length cX4_length 1 (some .int) wsX4_length rmX4_length 0 0 0 := cwV 0 hts gX5_feed_X4_length rfl rfl rfl hdX4_length ⟨Nat.le_of_ble_eq_true rfl, Nat.le_of_ble_eq_true rfl⟩
theorem flX5_feed_12 : Fl wsX5_feed RX5 12 5 0 := ⟨_, _, _, rfl, by decide, inX5_feed_X5, by decide +kernel⟩
set_option maxRecDepth 100000 in
set_option maxHeartbeats 4000000 in
theorem kX5_feed {l : Launch} {D : va_G} {cI cB cL cK : ClassId} {ha : Nat} {a : Nat} {b : Nat} {ad : Nat → Nat} {pa : Nat → Nat} {hh : Nat} {hq : Nat} {kad : Nat → Nat → Nat} {lf : Int32} {us : Int32} {tf : Nat → Int32} {ho : Int32} {td : Int32} {pd : Int32} {sr : Int32} {dr : Int32} {ir : Int32} {qr : Int32} {sf : Nat → Int32} {df : Nat → Int32} {jf : Nat → Int32} {qf : Nat → Int32} {oho : Int32} {otd : Int32} {opd : Int32} {osr : Int32} {odr : Int32} {oir : Int32} {oqr : Int32} {osf : Nat → Int32} {odf : Nat → Int32} {ojf : Nat → Int32} {oqf : Nat → Int32} {ct : Int32} {tpp : Int32} {kv : Nat → BV} {p1 : Int32} {p2 : Int32} {p3 : Int32} {p4 : Int32} {p5 : Int32} {res : Int32} {us' : Int32} {tf' : Nat → Int32} (hm : mX5_feed us tf p1 p2 p3 p4 p5 = some (res, us', tf')) : Mu l D cI cB cL cK yX5_feed wsX5_feed rmX5_feed [.ref ha, .int p1, .int p2, .int p3, .int p4, .int p5] (wH cI cB cK ha a b ad pa hh hq kad lf us tf ho td pd sr dr ir qr sf df jf qf oho otd opd osr odr oir oqr osf odf ojf oqf ct tpp kv) (wH cI cB cK ha a b ad pa hh hq kad lf us' tf' ho td pd sr dr ir qr sf df jf qf oho otd opd osr odr oir oqr osf odf ojf oqf ct tpp kv) (some (.int res)) 0 0 := by
  refine Mu.ofi (cc := cX5_feed) (own := RX5) (by decide) rfl rfl (Nat.le_of_ble_eq_true rfl) (fun p e s m below meth c ls Q A C hA hP hD hS hl hret => ?_)
  obtain ⟨hx, hb, hr, hml, hown, hts, hlk, hK⟩ := id C
  have hcf : CallFix p m c cX5_feed 6 s _ wsX5_feed RX5 := ⟨hx, hb, hml, hown, hts⟩
  have hl : lv_has ls 6 [(0, .ref ha), (1, .int p1), (2, .int p2), (3, .int p3), (4, .int p4), (5, .int p5)] := hl
  unfold mX5_feed at hm
  refine lv_aload_n hx hb dX5_feed_0 rfl (lv_at hl 0 rfl) ?_
  refine gf (q0 := 0) hx hb hts hown hK flX5_feed_12 hP rfl rfl dX5_feed_1 ?_
  obtain ⟨v1, h_2, hm⟩ := b1_s hm
  refine rd_v hcf (kX4_hasRoom h_2) (cwX5_feed_X4_hasRoom hts) hK hP sH_p (ci := 4) (q0 := 1) rfl rfl rfl hl.1 rfl (Nat.le_of_ble_eq_true rfl) dX5_feed_4 ⟨Nat.zero_le _, Nat.zero_le _⟩ ?_
  refine lv_if_ne (tgt := 12) hx hb dX5_feed_7 (by decide) (fun c_3 => ?_) (fun c_3 => ?_)
  · replace hm := br_n hm c_3
    refine lv_aload_n hx hb dX5_feed_12 rfl (lv_at hl 0 rfl) ?_
    refine gf (q0 := 0) hx hb hts hown hK flX5_feed_12 hP rfl rfl dX5_feed_13 ?_
    refine lv_iload_n hx hb dX5_feed_16 rfl (lv_at hl 1 rfl) ?_
    obtain ⟨us4, tf5, h_6, hm⟩ := b2_s hm
    refine mu_vv hcf (kX4_append h_6) (cwX5_feed_X4_append hts) hK hP hD hS hA jH_p (ci := 4) (q0 := 1) rfl rfl rfl hl.1 rfl (Nat.le_of_ble_eq_true rfl) dX5_feed_17 ⟨Nat.zero_le _, Nat.zero_le _⟩ (fun H locs hP hD hS => ?_)
    refine lv_aload_n hx hb dX5_feed_20 rfl (lv_at hl 0 rfl) ?_
    refine gf (q0 := 0) hx hb hts hown hK flX5_feed_12 hP rfl rfl dX5_feed_21 ?_
    refine lv_iload_n hx hb dX5_feed_24 rfl (lv_at hl 2 rfl) ?_
    obtain ⟨us7, tf8, h_9, hm⟩ := b2_s hm
    refine mu_vv hcf (kX4_append h_9) (cwX5_feed_X4_append hts) hK hP hD hS hA jH_p (ci := 4) (q0 := 1) rfl rfl rfl hl.1 rfl (Nat.le_of_ble_eq_true rfl) dX5_feed_25 ⟨Nat.zero_le _, Nat.zero_le _⟩ (fun H locs hP hD hS => ?_)
    refine lv_aload_n hx hb dX5_feed_28 rfl (lv_at hl 0 rfl) ?_
    refine gf (q0 := 0) hx hb hts hown hK flX5_feed_12 hP rfl rfl dX5_feed_29 ?_
    refine lv_iload_n hx hb dX5_feed_32 rfl (lv_at hl 3 rfl) ?_
    obtain ⟨us10, tf11, h_12, hm⟩ := b2_s hm
    refine mu_vv hcf (kX4_append h_12) (cwX5_feed_X4_append hts) hK hP hD hS hA jH_p (ci := 4) (q0 := 1) rfl rfl rfl hl.1 rfl (Nat.le_of_ble_eq_true rfl) dX5_feed_33 ⟨Nat.zero_le _, Nat.zero_le _⟩ (fun H locs hP hD hS => ?_)
    refine lv_aload_n hx hb dX5_feed_36 rfl (lv_at hl 0 rfl) ?_
    refine gf (q0 := 0) hx hb hts hown hK flX5_feed_12 hP rfl rfl dX5_feed_37 ?_
    refine lv_iload hx hb dX5_feed_40 (lv_at hl 4 rfl) ?_
    obtain ⟨us13, tf14, h_15, hm⟩ := b2_s hm
    refine mu_vv hcf (kX4_append h_15) (cwX5_feed_X4_append hts) hK hP hD hS hA jH_p (ci := 4) (q0 := 1) rfl rfl rfl hl.1 rfl (Nat.le_of_ble_eq_true rfl) dX5_feed_42 ⟨Nat.zero_le _, Nat.zero_le _⟩ (fun H locs hP hD hS => ?_)
    refine lv_aload_n hx hb dX5_feed_45 rfl (lv_at hl 0 rfl) ?_
    refine gf (q0 := 0) hx hb hts hown hK flX5_feed_12 hP rfl rfl dX5_feed_46 ?_
    refine lv_iload hx hb dX5_feed_49 (lv_at hl 5 rfl) ?_
    obtain ⟨us16, tf17, h_18, hm⟩ := b2_s hm
    refine mu_vv hcf (kX4_append h_18) (cwX5_feed_X4_append hts) hK hP hD hS hA jH_p (ci := 4) (q0 := 1) rfl rfl rfl hl.1 rfl (Nat.le_of_ble_eq_true rfl) dX5_feed_51 ⟨Nat.zero_le _, Nat.zero_le _⟩ (fun H locs hP hD hS => ?_)
    refine lv_aload_n hx hb dX5_feed_54 rfl (lv_at hl 0 rfl) ?_
    refine gf (q0 := 0) hx hb hts hown hK flX5_feed_12 hP rfl rfl dX5_feed_55 ?_
    obtain ⟨v19, h_20, hm⟩ := b1_s hm
    refine rd_v hcf (kX4_length h_20) (cwX5_feed_X4_length hts) hK hP sH_p (ci := 4) (q0 := 1) rfl rfl rfl hl.1 rfl (Nat.le_of_ble_eq_true rfl) dX5_feed_58 ⟨Nat.zero_le _, Nat.zero_le _⟩ ?_
    cases hm
    exact hret _ _ _ _ dX5_feed_61 rfl hP hD hS
  · replace hm := br_p hm c_3
    refine lv_iconst (v := (-1)) hx hb dX5_feed_10 (by decide) ?_
    cases hm
    exact hret _ _ _ _ dX5_feed_11 rfl hP hD hS
/-! X5 end(I)Z -/
abbrev rmX5_end : Room := { frames := 1, cells := 0, slots := 0, locals := 21 }
theorem hdX5_end : yX5_end.cls = RX5 ∧ yX5_end.cls ≠ "java/lang/invoke/MethodHandle" ∧ yX5_end.cls ≠ "java/lang/invoke/VarHandle" ∧ (parseMethodDescriptor yX5_end.desc).map (fun d => d.parameters.length) = some 1 := by decide +kernel
theorem inX5_end_X5 : ∀ w ∈ u_ws RX5 TX5 5, w ∈ wsX5_end := by decide +kernel
theorem cwX5_end_X4_cut {s : State} {args : Array Value} (hts : ∀ w ∈ wsX5_end, w.before args s = true) : CallW rmX5_end s args RX5 RX4 49 yX4_cut cX4_cut 2 (some .boolean) wsX4_cut rmX4_cut 0 0 1 := cwV 1 hts gX5_end_X4_cut rfl rfl rfl hdX4_cut ⟨Nat.le_of_ble_eq_true rfl, Nat.le_of_ble_eq_true rfl⟩
theorem flX5_end_12 : Fl wsX5_end RX5 12 5 0 := ⟨_, _, _, rfl, by decide, inX5_end_X5, by decide +kernel⟩
set_option maxRecDepth 100000 in
set_option maxHeartbeats 4000000 in
theorem kX5_end {l : Launch} {D : va_G} {cI cB cL cK : ClassId} {ha : Nat} {a : Nat} {b : Nat} {ad : Nat → Nat} {pa : Nat → Nat} {hh : Nat} {hq : Nat} {kad : Nat → Nat → Nat} {lf : Int32} {us : Int32} {tf : Nat → Int32} {ho : Int32} {td : Int32} {pd : Int32} {sr : Int32} {dr : Int32} {ir : Int32} {qr : Int32} {sf : Nat → Int32} {df : Nat → Int32} {jf : Nat → Int32} {qf : Nat → Int32} {oho : Int32} {otd : Int32} {opd : Int32} {osr : Int32} {odr : Int32} {oir : Int32} {oqr : Int32} {osf : Nat → Int32} {odf : Nat → Int32} {ojf : Nat → Int32} {oqf : Nat → Int32} {ct : Int32} {tpp : Int32} {kv : Nat → BV} {p1 : Int32} {res : Int32} {us' : Int32} (hm : mX5_end us p1 = some (res, us')) : Mu l D cI cB cL cK yX5_end wsX5_end rmX5_end [.ref ha, .int p1] (wH cI cB cK ha a b ad pa hh hq kad lf us tf ho td pd sr dr ir qr sf df jf qf oho otd opd osr odr oir oqr osf odf ojf oqf ct tpp kv) (wH cI cB cK ha a b ad pa hh hq kad lf us' tf ho td pd sr dr ir qr sf df jf qf oho otd opd osr odr oir oqr osf odf ojf oqf ct tpp kv) (some (.int res)) 0 0 := by
  refine Mu.ofi (cc := cX5_end) (own := RX5) (by decide) rfl rfl (Nat.le_of_ble_eq_true rfl) (fun p e s m below meth c ls Q A C hA hP hD hS hl hret => ?_)
  obtain ⟨hx, hb, hr, hml, hown, hts, hlk, hK⟩ := id C
  have hcf : CallFix p m c cX5_end 2 s _ wsX5_end RX5 := ⟨hx, hb, hml, hown, hts⟩
  have hl : lv_has ls 2 [(0, .ref ha), (1, .int p1)] := hl
  unfold mX5_end at hm
  refine lv_aload_n hx hb dX5_end_0 rfl (lv_at hl 0 rfl) ?_
  refine gf (q0 := 0) hx hb hts hown hK flX5_end_12 hP rfl rfl dX5_end_1 ?_
  refine lv_iload_n hx hb dX5_end_4 rfl (lv_at hl 1 rfl) ?_
  obtain ⟨v1, us2, h_3, hm⟩ := b2_s hm
  refine mu_vi hcf (kX4_cut h_3) (cwX5_end_X4_cut hts) hK hP hD hS hA jH_p (ci := 4) (q0 := 1) rfl rfl rfl hl.1 rfl (Nat.le_of_ble_eq_true rfl) dX5_end_5 ⟨Nat.zero_le _, Nat.zero_le _⟩ (fun H locs hP hD hS => ?_)
  obtain ⟨h_4, hm⟩ := ck_s hm
  cases hm
  exact hret _ _ _ _ dX5_end_8 (bz_n h_4) hP hD hS
/-! X5 fault()I -/
abbrev rmX5_fault : Room := { frames := 0, cells := 0, slots := 0, locals := 0 }
theorem hdX5_fault : yX5_fault.cls = RX5 ∧ yX5_fault.cls ≠ "java/lang/invoke/MethodHandle" ∧ yX5_fault.cls ≠ "java/lang/invoke/VarHandle" ∧ (parseMethodDescriptor yX5_fault.desc).map (fun d => d.parameters.length) = some 0 := by decide +kernel
theorem inX5_fault_X5 : ∀ w ∈ u_ws RX5 TX5 5, w ∈ wsX5_fault := by decide +kernel
theorem flX5_fault_33 : Fl wsX5_fault RX5 33 5 4 := ⟨_, _, _, rfl, by decide, inX5_fault_X5, by decide +kernel⟩
set_option maxRecDepth 100000 in
set_option maxHeartbeats 4000000 in
theorem kX5_fault {l : Launch} {D : va_G} {cI cB cL cK : ClassId} {ha : Nat} {a : Nat} {b : Nat} {ad : Nat → Nat} {pa : Nat → Nat} {hh : Nat} {hq : Nat} {kad : Nat → Nat → Nat} {lf : Int32} {us : Int32} {tf : Nat → Int32} {ho : Int32} {td : Int32} {pd : Int32} {sr : Int32} {dr : Int32} {ir : Int32} {qr : Int32} {sf : Nat → Int32} {df : Nat → Int32} {jf : Nat → Int32} {qf : Nat → Int32} {oho : Int32} {otd : Int32} {opd : Int32} {osr : Int32} {odr : Int32} {oir : Int32} {oqr : Int32} {osf : Nat → Int32} {odf : Nat → Int32} {ojf : Nat → Int32} {oqf : Nat → Int32} {ct : Int32} {tpp : Int32} {kv : Nat → BV}  {res : Int32} (hm : mX5_fault lf = some res) : Rd l D cI cB cL cK yX5_fault wsX5_fault rmX5_fault [.ref ha] (wH cI cB cK ha a b ad pa hh hq kad lf us tf ho td pd sr dr ir qr sf df jf qf oho otd opd osr odr oir oqr osf odf ojf oqf ct tpp kv) res := by
  refine Rd.of (cc := cX5_fault) (own := RX5) (by decide) rfl rfl (Nat.le_of_ble_eq_true rfl) (fun p e s m below meth c ls Q C hP hl hret => ?_)
  obtain ⟨hx, hb, hr, hml, hown, hts, hlk, hK⟩ := id C
  have hcf : CallFix p m c cX5_fault 1 s _ wsX5_fault RX5 := ⟨hx, hb, hml, hown, hts⟩
  have hl : lv_has ls 1 [(0, .ref ha)] := hl
  unfold mX5_fault at hm
  refine lv_aload_n hx hb dX5_fault_0 rfl (lv_at hl 0 rfl) ?_
  refine gf (q0 := 0) hx hb hts hown hK flX5_fault_33 hP rfl rfl dX5_fault_1 ?_
  cases hm
  exact hret _ _ dX5_fault_4 rfl
/-! X5 now(I)I -/
abbrev rmX5_now : Room := { frames := 2, cells := 0, slots := 0, locals := 45 }
theorem hdX5_now : yX5_now.cls = RX5 ∧ yX5_now.cls ≠ "java/lang/invoke/MethodHandle" ∧ yX5_now.cls ≠ "java/lang/invoke/VarHandle" ∧ (parseMethodDescriptor yX5_now.desc).map (fun d => d.parameters.length) = some 1 := by decide +kernel
theorem inX5_now_X0 : ∀ w ∈ u_ws RX0 TX0 7, w ∈ wsX5_now := by decide +kernel
theorem inX5_now_X5 : ∀ w ∈ u_ws RX5 TX5 5, w ∈ wsX5_now := by decide +kernel
theorem cwX5_now_X0_cashOfAll {s : State} {args : Array Value} (hts : ∀ w ∈ wsX5_now, w.before args s = true) : CallW rmX5_now s args RX5 RX0 101 yX0_cashOfAll cX0_cashOfAll 3 (some .int) wsX0_cashOfAll rmX0_cashOfAll 0 0 0 := cwV 0 hts gX5_now_X0_cashOfAll rfl rfl rfl hdX0_cashOfAll ⟨Nat.le_of_ble_eq_true rfl, Nat.le_of_ble_eq_true rfl⟩
theorem cwX5_now_X0_owedByAll {s : State} {args : Array Value} (hts : ∀ w ∈ wsX5_now, w.before args s = true) : CallW rmX5_now s args RX5 RX0 98 yX0_owedByAll cX0_owedByAll 3 (some .int) wsX0_owedByAll rmX0_owedByAll 0 0 0 := cwV 0 hts gX5_now_X0_owedByAll rfl rfl rfl hdX0_owedByAll ⟨Nat.le_of_ble_eq_true rfl, Nat.le_of_ble_eq_true rfl⟩
theorem cwX5_now_X0_waiting {s : State} {args : Array Value} (hts : ∀ w ∈ wsX5_now, w.before args s = true) : CallW rmX5_now s args RX5 RX0 95 yX0_waiting cX0_waiting 3 (some .int) wsX0_waiting rmX0_waiting 0 0 0 := cwV 0 hts gX5_now_X0_waiting rfl rfl rfl hdX0_waiting ⟨Nat.le_of_ble_eq_true rfl, Nat.le_of_ble_eq_true rfl⟩
theorem cwX5_now_X1_size {s : State} {args : Array Value} (hts : ∀ w ∈ wsX5_now, w.before args s = true) : CallW rmX5_now s args RX5 RX1 107 yX1_size cX1_size 1 (some .int) wsX1_size rmX1_size 0 0 0 := cwV 0 hts gX5_now_X1_size rfl rfl rfl hdX1_size ⟨Nat.le_of_ble_eq_true rfl, Nat.le_of_ble_eq_true rfl⟩
theorem cwX5_now_X3_size {s : State} {args : Array Value} (hts : ∀ w ∈ wsX5_now, w.before args s = true) : CallW rmX5_now s args RX5 RX3 81 yX3_size cX3_size 1 (some .int) wsX3_size rmX3_size 0 0 0 := cwV 0 hts gX5_now_X3_size rfl rfl rfl hdX3_size ⟨Nat.le_of_ble_eq_true rfl, Nat.le_of_ble_eq_true rfl⟩
theorem cwX5_now_X4_length {s : State} {args : Array Value} (hts : ∀ w ∈ wsX5_now, w.before args s = true) : CallW rmX5_now s args RX5 RX4 45 yX4_length cX4_length 1 (some .int) wsX4_length rmX4_length 0 0 0 := cwV 0 hts gX5_now_X4_length rfl rfl rfl hdX4_length ⟨Nat.le_of_ble_eq_true rfl, Nat.le_of_ble_eq_true rfl⟩
theorem flX5_now_104 : Fl wsX5_now RX5 104 0 6 := ⟨_, _, _, rfl, by decide, inX5_now_X0, by decide +kernel⟩
theorem flX5_now_12 : Fl wsX5_now RX5 12 5 0 := ⟨_, _, _, rfl, by decide, inX5_now_X5, by decide +kernel⟩
theorem flX5_now_19 : Fl wsX5_now RX5 19 5 1 := ⟨_, _, _, rfl, by decide, inX5_now_X5, by decide +kernel⟩
theorem flX5_now_29 : Fl wsX5_now RX5 29 5 3 := ⟨_, _, _, rfl, by decide, inX5_now_X5, by decide +kernel⟩
theorem flX5_now_74 : Fl wsX5_now RX5 74 0 5 := ⟨_, _, _, rfl, by decide, inX5_now_X0, by decide +kernel⟩
theorem flX5_now_77 : Fl wsX5_now RX5 77 0 0 := ⟨_, _, _, rfl, by decide, inX5_now_X0, by decide +kernel⟩
theorem flX5_now_86 : Fl wsX5_now RX5 86 0 1 := ⟨_, _, _, rfl, by decide, inX5_now_X0, by decide +kernel⟩
theorem flX5_now_89 : Fl wsX5_now RX5 89 0 2 := ⟨_, _, _, rfl, by decide, inX5_now_X0, by decide +kernel⟩
theorem flX5_now_92 : Fl wsX5_now RX5 92 0 3 := ⟨_, _, _, rfl, by decide, inX5_now_X0, by decide +kernel⟩
set_option maxRecDepth 100000 in
set_option maxHeartbeats 4000000 in
theorem kX5_now {l : Launch} {D : va_G} {cI cB cL cK : ClassId} {ha : Nat} {a : Nat} {b : Nat} {ad : Nat → Nat} {pa : Nat → Nat} {hh : Nat} {hq : Nat} {kad : Nat → Nat → Nat} {lf : Int32} {us : Int32} {tf : Nat → Int32} {ho : Int32} {td : Int32} {pd : Int32} {sr : Int32} {dr : Int32} {ir : Int32} {qr : Int32} {sf : Nat → Int32} {df : Nat → Int32} {jf : Nat → Int32} {qf : Nat → Int32} {oho : Int32} {otd : Int32} {opd : Int32} {osr : Int32} {odr : Int32} {oir : Int32} {oqr : Int32} {osf : Nat → Int32} {odf : Nat → Int32} {ojf : Nat → Int32} {oqf : Nat → Int32} {ct : Int32} {tpp : Int32} {kv : Nat → BV} {p1 : Int32} {res : Int32} (hm : mX5_now us td pd sr dr ir qr df jf qf ct p1 = some res) : Rd l D cI cB cL cK yX5_now wsX5_now rmX5_now [.ref ha, .int p1] (wH cI cB cK ha a b ad pa hh hq kad lf us tf ho td pd sr dr ir qr sf df jf qf oho otd opd osr odr oir oqr osf odf ojf oqf ct tpp kv) res := by
  refine Rd.of (cc := cX5_now) (own := RX5) (by decide) rfl rfl (Nat.le_of_ble_eq_true rfl) (fun p e s m below meth c ls Q C hP hl hret => ?_)
  obtain ⟨hx, hb, hr, hml, hown, hts, hlk, hK⟩ := id C
  have hcf : CallFix p m c cX5_now 2 s _ wsX5_now RX5 := ⟨hx, hb, hml, hown, hts⟩
  have hl : lv_has ls 2 [(0, .ref ha), (1, .int p1)] := hl
  unfold mX5_now at hm
  refine lv_iload_n hx hb dX5_now_0 rfl (lv_at hl 1 rfl) ?_
  by_cases c_1 : p1 = 0
  · replace hm := br_p hm c_1
    refine lv_tableIn (tgt := 60) hx hb dX5_now_1 (by rw [c_1]; decide) (by rw [c_1]; decide) (by rw [c_1]; rfl) (by decide) ?_
    refine lv_aload_n hx hb dX5_now_60 rfl (lv_at hl 0 rfl) ?_
    refine gf (q0 := 0) hx hb hts hown hK flX5_now_19 hP rfl rfl dX5_now_61 ?_
    refine gf (q0 := 3) hx hb hts hown hK flX5_now_74 hP rfl rfl dX5_now_64 ?_
    cases hm
    exact hret _ _ dX5_now_67 rfl
  · replace hm := br_n hm c_1
    by_cases c_2 : p1 = 1
    · replace hm := br_p hm c_2
      refine lv_tableIn (tgt := 68) hx hb dX5_now_1 (by rw [c_2]; decide) (by rw [c_2]; decide) (by rw [c_2]; rfl) (by decide) ?_
      refine lv_aload_n hx hb dX5_now_68 rfl (lv_at hl 0 rfl) ?_
      refine gf (q0 := 0) hx hb hts hown hK flX5_now_19 hP rfl rfl dX5_now_69 ?_
      refine gf (q0 := 3) hx hb hts hown hK flX5_now_77 hP rfl rfl dX5_now_72 ?_
      obtain ⟨v3, h_4, hm⟩ := b1_s hm
      refine rd_v hcf (kX3_size h_4) (cwX5_now_X3_size hts) hK hP sH_s (ci := 3) (q0 := 4) rfl rfl rfl hl.1 rfl (Nat.le_of_ble_eq_true rfl) dX5_now_75 ⟨Nat.zero_le _, Nat.zero_le _⟩ ?_
      cases hm
      exact hret _ _ dX5_now_78 rfl
    · replace hm := br_n hm c_2
      by_cases c_5 : p1 = 2
      · replace hm := br_p hm c_5
        refine lv_tableIn (tgt := 79) hx hb dX5_now_1 (by rw [c_5]; decide) (by rw [c_5]; decide) (by rw [c_5]; rfl) (by decide) ?_
        refine lv_aload_n hx hb dX5_now_79 rfl (lv_at hl 0 rfl) ?_
        refine gf (q0 := 0) hx hb hts hown hK flX5_now_19 hP rfl rfl dX5_now_80 ?_
        refine gf (q0 := 3) hx hb hts hown hK flX5_now_86 hP rfl rfl dX5_now_83 ?_
        obtain ⟨v6, h_7, hm⟩ := b1_s hm
        refine rd_v hcf (kX3_size h_7) (cwX5_now_X3_size hts) hK hP sH_d (ci := 3) (q0 := 6) rfl rfl rfl hl.1 rfl (Nat.le_of_ble_eq_true rfl) dX5_now_86 ⟨Nat.zero_le _, Nat.zero_le _⟩ ?_
        cases hm
        exact hret _ _ dX5_now_89 rfl
      · replace hm := br_n hm c_5
        by_cases c_8 : p1 = 3
        · replace hm := br_p hm c_8
          refine lv_tableIn (tgt := 90) hx hb dX5_now_1 (by rw [c_8]; decide) (by rw [c_8]; decide) (by rw [c_8]; rfl) (by decide) ?_
          refine lv_aload_n hx hb dX5_now_90 rfl (lv_at hl 0 rfl) ?_
          refine gf (q0 := 0) hx hb hts hown hK flX5_now_19 hP rfl rfl dX5_now_91 ?_
          refine gf (q0 := 3) hx hb hts hown hK flX5_now_89 hP rfl rfl dX5_now_94 ?_
          obtain ⟨v9, h_10, hm⟩ := b1_s hm
          refine rd_v hcf (kX3_size h_10) (cwX5_now_X3_size hts) hK hP sH_j (ci := 3) (q0 := 8) rfl rfl rfl hl.1 rfl (Nat.le_of_ble_eq_true rfl) dX5_now_97 ⟨Nat.zero_le _, Nat.zero_le _⟩ ?_
          cases hm
          exact hret _ _ dX5_now_100 rfl
        · replace hm := br_n hm c_8
          by_cases c_11 : p1 = 4
          · replace hm := br_p hm c_11
            refine lv_tableIn (tgt := 101) hx hb dX5_now_1 (by rw [c_11]; decide) (by rw [c_11]; decide) (by rw [c_11]; rfl) (by decide) ?_
            refine lv_aload_n hx hb dX5_now_101 rfl (lv_at hl 0 rfl) ?_
            refine gf (q0 := 0) hx hb hts hown hK flX5_now_19 hP rfl rfl dX5_now_102 ?_
            refine gf (q0 := 3) hx hb hts hown hK flX5_now_92 hP rfl rfl dX5_now_105 ?_
            obtain ⟨v12, h_13, hm⟩ := b1_s hm
            refine rd_v hcf (kX3_size h_13) (cwX5_now_X3_size hts) hK hP sH_q (ci := 3) (q0 := 10) rfl rfl rfl hl.1 rfl (Nat.le_of_ble_eq_true rfl) dX5_now_108 ⟨Nat.zero_le _, Nat.zero_le _⟩ ?_
            cases hm
            exact hret _ _ dX5_now_111 rfl
          · replace hm := br_n hm c_11
            by_cases c_14 : p1 = 5
            · replace hm := br_p hm c_14
              refine lv_tableIn (tgt := 112) hx hb dX5_now_1 (by rw [c_14]; decide) (by rw [c_14]; decide) (by rw [c_14]; rfl) (by decide) ?_
              refine lv_aload_n hx hb dX5_now_112 rfl (lv_at hl 0 rfl) ?_
              refine gf (q0 := 0) hx hb hts hown hK flX5_now_19 hP rfl rfl dX5_now_113 ?_
              obtain ⟨v15, h_16, hm⟩ := b1_s hm
              refine rd_v hcf (kX0_waiting h_16) (cwX5_now_X0_waiting hts) hK hP sH_b (ci := 0) (q0 := 3) rfl rfl rfl hl.1 rfl (Nat.le_of_ble_eq_true rfl) dX5_now_116 ⟨Nat.zero_le _, Nat.zero_le _⟩ ?_
              cases hm
              exact hret _ _ dX5_now_119 rfl
            · replace hm := br_n hm c_14
              by_cases c_17 : p1 = 6
              · replace hm := br_p hm c_17
                refine lv_tableIn (tgt := 120) hx hb dX5_now_1 (by rw [c_17]; decide) (by rw [c_17]; decide) (by rw [c_17]; rfl) (by decide) ?_
                refine lv_aload_n hx hb dX5_now_120 rfl (lv_at hl 0 rfl) ?_
                refine gf (q0 := 0) hx hb hts hown hK flX5_now_19 hP rfl rfl dX5_now_121 ?_
                obtain ⟨v18, h_19, hm⟩ := b1_s hm
                refine rd_v hcf (kX0_owedByAll h_19) (cwX5_now_X0_owedByAll hts) hK hP sH_b (ci := 0) (q0 := 3) rfl rfl rfl hl.1 rfl (Nat.le_of_ble_eq_true rfl) dX5_now_124 ⟨Nat.zero_le _, Nat.zero_le _⟩ ?_
                cases hm
                exact hret _ _ dX5_now_127 rfl
              · replace hm := br_n hm c_17
                by_cases c_20 : p1 = 7
                · replace hm := br_p hm c_20
                  refine lv_tableIn (tgt := 128) hx hb dX5_now_1 (by rw [c_20]; decide) (by rw [c_20]; decide) (by rw [c_20]; rfl) (by decide) ?_
                  refine lv_aload_n hx hb dX5_now_128 rfl (lv_at hl 0 rfl) ?_
                  refine gf (q0 := 0) hx hb hts hown hK flX5_now_19 hP rfl rfl dX5_now_129 ?_
                  obtain ⟨v21, h_22, hm⟩ := b1_s hm
                  refine rd_v hcf (kX0_cashOfAll h_22) (cwX5_now_X0_cashOfAll hts) hK hP sH_b (ci := 0) (q0 := 3) rfl rfl rfl hl.1 rfl (Nat.le_of_ble_eq_true rfl) dX5_now_132 ⟨Nat.zero_le _, Nat.zero_le _⟩ ?_
                  cases hm
                  exact hret _ _ dX5_now_135 rfl
                · replace hm := br_n hm c_20
                  by_cases c_23 : p1 = 8
                  · replace hm := br_p hm c_23
                    refine lv_tableIn (tgt := 136) hx hb dX5_now_1 (by rw [c_23]; decide) (by rw [c_23]; decide) (by rw [c_23]; rfl) (by decide) ?_
                    refine lv_aload_n hx hb dX5_now_136 rfl (lv_at hl 0 rfl) ?_
                    refine gf (q0 := 0) hx hb hts hown hK flX5_now_19 hP rfl rfl dX5_now_137 ?_
                    refine gf (q0 := 3) hx hb hts hown hK flX5_now_104 hP rfl rfl dX5_now_140 ?_
                    cases hm
                    exact hret _ _ dX5_now_143 rfl
                  · replace hm := br_n hm c_23
                    by_cases c_24 : p1 = 9
                    · replace hm := br_p hm c_24
                      refine lv_tableIn (tgt := 144) hx hb dX5_now_1 (by rw [c_24]; decide) (by rw [c_24]; decide) (by rw [c_24]; rfl) (by decide) ?_
                      refine lv_aload_n hx hb dX5_now_144 rfl (lv_at hl 0 rfl) ?_
                      refine gf (q0 := 0) hx hb hts hown hK flX5_now_29 hP rfl rfl dX5_now_145 ?_
                      obtain ⟨v25, h_26, hm⟩ := b1_s hm
                      refine rd_v hcf (kX1_size h_26) (cwX5_now_X1_size hts) hK hP sH_h (ci := 1) (q0 := 21) rfl rfl rfl hl.1 rfl (Nat.le_of_ble_eq_true rfl) dX5_now_148 ⟨Nat.zero_le _, Nat.zero_le _⟩ ?_
                      cases hm
                      exact hret _ _ dX5_now_151 rfl
                    · replace hm := br_n hm c_24
                      by_cases c_27 : p1 = 10
                      · replace hm := br_p hm c_27
                        refine lv_tableIn (tgt := 152) hx hb dX5_now_1 (by rw [c_27]; decide) (by rw [c_27]; decide) (by rw [c_27]; rfl) (by decide) ?_
                        refine lv_aload_n hx hb dX5_now_152 rfl (lv_at hl 0 rfl) ?_
                        refine gf (q0 := 0) hx hb hts hown hK flX5_now_12 hP rfl rfl dX5_now_153 ?_
                        obtain ⟨v28, h_29, hm⟩ := b1_s hm
                        refine rd_v hcf (kX4_length h_29) (cwX5_now_X4_length hts) hK hP sH_p (ci := 4) (q0 := 1) rfl rfl rfl hl.1 rfl (Nat.le_of_ble_eq_true rfl) dX5_now_156 ⟨Nat.zero_le _, Nat.zero_le _⟩ ?_
                        cases hm
                        exact hret _ _ dX5_now_159 rfl
                      · replace hm := br_n hm c_27
                        refine lv_tableOut (tgt := 160) hx hb dX5_now_1 (by have q0 := ne_ti (z := 0) (by decide) c_1; have q1 := ne_ti (z := 1) (by decide) c_2; have q2 := ne_ti (z := 2) (by decide) c_5; have q3 := ne_ti (z := 3) (by decide) c_8; have q4 := ne_ti (z := 4) (by decide) c_11; have q5 := ne_ti (z := 5) (by decide) c_14; have q6 := ne_ti (z := 6) (by decide) c_17; have q7 := ne_ti (z := 7) (by decide) c_20; have q8 := ne_ti (z := 8) (by decide) c_23; have q9 := ne_ti (z := 9) (by decide) c_24; have q10 := ne_ti (z := 10) (by decide) c_27; omega) (by decide) ?_
                        refine lv_iconst (v := (-1)) hx hb dX5_now_160 (by decide) ?_
                        cases hm
                        exact hret _ _ dX5_now_161 rfl
/-! X5 step(II)I -/
abbrev rmX5_step : Room := { frames := 1, cells := 0, slots := 0, locals := 23 }
theorem hdX5_step : yX5_step.cls = RX5 ∧ yX5_step.cls ≠ "java/lang/invoke/MethodHandle" ∧ yX5_step.cls ≠ "java/lang/invoke/VarHandle" ∧ (parseMethodDescriptor yX5_step.desc).map (fun d => d.parameters.length) = some 2 := by decide +kernel
theorem inX5_step_X0 : ∀ w ∈ u_ws RX0 TX0 7, w ∈ wsX5_step := by decide +kernel
theorem inX5_step_X5 : ∀ w ∈ u_ws RX5 TX5 5, w ∈ wsX5_step := by decide +kernel
theorem cwX5_step_X3_get {s : State} {args : Array Value} (hts : ∀ w ∈ wsX5_step, w.before args s = true) : CallW rmX5_step s args RX5 RX3 108 yX3_get cX3_get 4 (some .int) wsX3_get rmX3_get 0 0 2 := cwV 2 hts gX5_step_X3_get rfl rfl rfl hdX3_get ⟨Nat.le_of_ble_eq_true rfl, Nat.le_of_ble_eq_true rfl⟩
theorem flX5_step_19 : Fl wsX5_step RX5 19 5 1 := ⟨_, _, _, rfl, by decide, inX5_step_X5, by decide +kernel⟩
theorem flX5_step_77 : Fl wsX5_step RX5 77 0 0 := ⟨_, _, _, rfl, by decide, inX5_step_X0, by decide +kernel⟩
set_option maxRecDepth 100000 in
set_option maxHeartbeats 4000000 in
theorem kX5_step {l : Launch} {D : va_G} {cI cB cL cK : ClassId} {ha : Nat} {a : Nat} {b : Nat} {ad : Nat → Nat} {pa : Nat → Nat} {hh : Nat} {hq : Nat} {kad : Nat → Nat → Nat} {lf : Int32} {us : Int32} {tf : Nat → Int32} {ho : Int32} {td : Int32} {pd : Int32} {sr : Int32} {dr : Int32} {ir : Int32} {qr : Int32} {sf : Nat → Int32} {df : Nat → Int32} {jf : Nat → Int32} {qf : Nat → Int32} {oho : Int32} {otd : Int32} {opd : Int32} {osr : Int32} {odr : Int32} {oir : Int32} {oqr : Int32} {osf : Nat → Int32} {odf : Nat → Int32} {ojf : Nat → Int32} {oqf : Nat → Int32} {ct : Int32} {tpp : Int32} {kv : Nat → BV} {p1 : Int32} {p2 : Int32} {res : Int32} (hm : mX5_step sr sf p1 p2 = some res) : Rd l D cI cB cL cK yX5_step wsX5_step rmX5_step [.ref ha, .int p1, .int p2] (wH cI cB cK ha a b ad pa hh hq kad lf us tf ho td pd sr dr ir qr sf df jf qf oho otd opd osr odr oir oqr osf odf ojf oqf ct tpp kv) res := by
  refine Rd.of (cc := cX5_step) (own := RX5) (by decide) rfl rfl (Nat.le_of_ble_eq_true rfl) (fun p e s m below meth c ls Q C hP hl hret => ?_)
  obtain ⟨hx, hb, hr, hml, hown, hts, hlk, hK⟩ := id C
  have hcf : CallFix p m c cX5_step 3 s _ wsX5_step RX5 := ⟨hx, hb, hml, hown, hts⟩
  have hl : lv_has ls 3 [(0, .ref ha), (1, .int p1), (2, .int p2)] := hl
  unfold mX5_step at hm
  refine lv_aload_n hx hb dX5_step_0 rfl (lv_at hl 0 rfl) ?_
  refine gf (q0 := 0) hx hb hts hown hK flX5_step_19 hP rfl rfl dX5_step_1 ?_
  refine gf (q0 := 3) hx hb hts hown hK flX5_step_77 hP rfl rfl dX5_step_4 ?_
  refine lv_iload_n hx hb dX5_step_7 rfl (lv_at hl 1 rfl) ?_
  refine lv_iload_n hx hb dX5_step_8 rfl (lv_at hl 2 rfl) ?_
  obtain ⟨v1, h_2, hm⟩ := b1_s hm
  refine rd_v hcf (kX3_get h_2) (cwX5_step_X3_get hts) hK hP sH_s (ci := 3) (q0 := 4) rfl rfl rfl hl.1 rfl (Nat.le_of_ble_eq_true rfl) dX5_step_9 ⟨Nat.zero_le _, Nat.zero_le _⟩ ?_
  cases hm
  exact hret _ _ dX5_step_12 rfl
/-! X5 invoice(II)I -/
abbrev rmX5_invoice : Room := { frames := 1, cells := 0, slots := 0, locals := 23 }
theorem hdX5_invoice : yX5_invoice.cls = RX5 ∧ yX5_invoice.cls ≠ "java/lang/invoke/MethodHandle" ∧ yX5_invoice.cls ≠ "java/lang/invoke/VarHandle" ∧ (parseMethodDescriptor yX5_invoice.desc).map (fun d => d.parameters.length) = some 2 := by decide +kernel
theorem inX5_invoice_X0 : ∀ w ∈ u_ws RX0 TX0 7, w ∈ wsX5_invoice := by decide +kernel
theorem inX5_invoice_X5 : ∀ w ∈ u_ws RX5 TX5 5, w ∈ wsX5_invoice := by decide +kernel
theorem cwX5_invoice_X3_get {s : State} {args : Array Value} (hts : ∀ w ∈ wsX5_invoice, w.before args s = true) : CallW rmX5_invoice s args RX5 RX3 108 yX3_get cX3_get 4 (some .int) wsX3_get rmX3_get 0 0 2 := cwV 2 hts gX5_invoice_X3_get rfl rfl rfl hdX3_get ⟨Nat.le_of_ble_eq_true rfl, Nat.le_of_ble_eq_true rfl⟩
theorem flX5_invoice_19 : Fl wsX5_invoice RX5 19 5 1 := ⟨_, _, _, rfl, by decide, inX5_invoice_X5, by decide +kernel⟩
theorem flX5_invoice_89 : Fl wsX5_invoice RX5 89 0 2 := ⟨_, _, _, rfl, by decide, inX5_invoice_X0, by decide +kernel⟩
set_option maxRecDepth 100000 in
set_option maxHeartbeats 4000000 in
theorem kX5_invoice {l : Launch} {D : va_G} {cI cB cL cK : ClassId} {ha : Nat} {a : Nat} {b : Nat} {ad : Nat → Nat} {pa : Nat → Nat} {hh : Nat} {hq : Nat} {kad : Nat → Nat → Nat} {lf : Int32} {us : Int32} {tf : Nat → Int32} {ho : Int32} {td : Int32} {pd : Int32} {sr : Int32} {dr : Int32} {ir : Int32} {qr : Int32} {sf : Nat → Int32} {df : Nat → Int32} {jf : Nat → Int32} {qf : Nat → Int32} {oho : Int32} {otd : Int32} {opd : Int32} {osr : Int32} {odr : Int32} {oir : Int32} {oqr : Int32} {osf : Nat → Int32} {odf : Nat → Int32} {ojf : Nat → Int32} {oqf : Nat → Int32} {ct : Int32} {tpp : Int32} {kv : Nat → BV} {p1 : Int32} {p2 : Int32} {res : Int32} (hm : mX5_invoice ir jf p1 p2 = some res) : Rd l D cI cB cL cK yX5_invoice wsX5_invoice rmX5_invoice [.ref ha, .int p1, .int p2] (wH cI cB cK ha a b ad pa hh hq kad lf us tf ho td pd sr dr ir qr sf df jf qf oho otd opd osr odr oir oqr osf odf ojf oqf ct tpp kv) res := by
  refine Rd.of (cc := cX5_invoice) (own := RX5) (by decide) rfl rfl (Nat.le_of_ble_eq_true rfl) (fun p e s m below meth c ls Q C hP hl hret => ?_)
  obtain ⟨hx, hb, hr, hml, hown, hts, hlk, hK⟩ := id C
  have hcf : CallFix p m c cX5_invoice 3 s _ wsX5_invoice RX5 := ⟨hx, hb, hml, hown, hts⟩
  have hl : lv_has ls 3 [(0, .ref ha), (1, .int p1), (2, .int p2)] := hl
  unfold mX5_invoice at hm
  refine lv_aload_n hx hb dX5_invoice_0 rfl (lv_at hl 0 rfl) ?_
  refine gf (q0 := 0) hx hb hts hown hK flX5_invoice_19 hP rfl rfl dX5_invoice_1 ?_
  refine gf (q0 := 3) hx hb hts hown hK flX5_invoice_89 hP rfl rfl dX5_invoice_4 ?_
  refine lv_iload_n hx hb dX5_invoice_7 rfl (lv_at hl 1 rfl) ?_
  refine lv_iload_n hx hb dX5_invoice_8 rfl (lv_at hl 2 rfl) ?_
  obtain ⟨v1, h_2, hm⟩ := b1_s hm
  refine rd_v hcf (kX3_get h_2) (cwX5_invoice_X3_get hts) hK hP sH_j (ci := 3) (q0 := 8) rfl rfl rfl hl.1 rfl (Nat.le_of_ble_eq_true rfl) dX5_invoice_9 ⟨Nat.zero_le _, Nat.zero_le _⟩ ?_
  cases hm
  exact hret _ _ dX5_invoice_12 rfl
/-! X5 promised(II)I -/
abbrev rmX5_promised : Room := { frames := 2, cells := 0, slots := 0, locals := 44 }
theorem hdX5_promised : yX5_promised.cls = RX5 ∧ yX5_promised.cls ≠ "java/lang/invoke/MethodHandle" ∧ yX5_promised.cls ≠ "java/lang/invoke/VarHandle" ∧ (parseMethodDescriptor yX5_promised.desc).map (fun d => d.parameters.length) = some 2 := by decide +kernel
theorem inX5_promised_X0 : ∀ w ∈ u_ws RX0 TX0 7, w ∈ wsX5_promised := by decide +kernel
theorem inX5_promised_X5 : ∀ w ∈ u_ws RX5 TX5 5, w ∈ wsX5_promised := by decide +kernel
theorem cwX5_promised_X0_hasPromise {s : State} {args : Array Value} (hts : ∀ w ∈ wsX5_promised, w.before args s = true) : CallW rmX5_promised s args RX5 RX0 140 yX0_hasPromise cX0_hasPromise 2 (some .boolean) wsX0_hasPromise rmX0_hasPromise 0 0 1 := cwV 1 hts gX5_promised_X0_hasPromise rfl rfl rfl hdX0_hasPromise ⟨Nat.le_of_ble_eq_true rfl, Nat.le_of_ble_eq_true rfl⟩
theorem cwX5_promised_X3_get {s : State} {args : Array Value} (hts : ∀ w ∈ wsX5_promised, w.before args s = true) : CallW rmX5_promised s args RX5 RX3 108 yX3_get cX3_get 4 (some .int) wsX3_get rmX3_get 0 0 2 := cwV 2 hts gX5_promised_X3_get rfl rfl rfl hdX3_get ⟨Nat.le_of_ble_eq_true rfl, Nat.le_of_ble_eq_true rfl⟩
theorem cwX5_promised_X3_has {s : State} {args : Array Value} (hts : ∀ w ∈ wsX5_promised, w.before args s = true) : CallW rmX5_promised s args RX5 RX3 112 yX3_has cX3_has 2 (some .boolean) wsX3_has rmX3_has 0 0 1 := cwV 1 hts gX5_promised_X3_has rfl rfl rfl hdX3_has ⟨Nat.le_of_ble_eq_true rfl, Nat.le_of_ble_eq_true rfl⟩
theorem flX5_promised_19 : Fl wsX5_promised RX5 19 5 1 := ⟨_, _, _, rfl, by decide, inX5_promised_X5, by decide +kernel⟩
theorem flX5_promised_86 : Fl wsX5_promised RX5 86 0 1 := ⟨_, _, _, rfl, by decide, inX5_promised_X0, by decide +kernel⟩
set_option maxRecDepth 100000 in
set_option maxHeartbeats 4000000 in
theorem kX5_promised {l : Launch} {D : va_G} {cI cB cL cK : ClassId} {ha : Nat} {a : Nat} {b : Nat} {ad : Nat → Nat} {pa : Nat → Nat} {hh : Nat} {hq : Nat} {kad : Nat → Nat → Nat} {lf : Int32} {us : Int32} {tf : Nat → Int32} {ho : Int32} {td : Int32} {pd : Int32} {sr : Int32} {dr : Int32} {ir : Int32} {qr : Int32} {sf : Nat → Int32} {df : Nat → Int32} {jf : Nat → Int32} {qf : Nat → Int32} {oho : Int32} {otd : Int32} {opd : Int32} {osr : Int32} {odr : Int32} {oir : Int32} {oqr : Int32} {osf : Nat → Int32} {odf : Nat → Int32} {ojf : Nat → Int32} {oqf : Nat → Int32} {ct : Int32} {tpp : Int32} {kv : Nat → BV} {p1 : Int32} {p2 : Int32} {res : Int32} (hm : mX5_promised dr df p1 p2 = some res) : Rd l D cI cB cL cK yX5_promised wsX5_promised rmX5_promised [.ref ha, .int p1, .int p2] (wH cI cB cK ha a b ad pa hh hq kad lf us tf ho td pd sr dr ir qr sf df jf qf oho otd opd osr odr oir oqr osf odf ojf oqf ct tpp kv) res := by
  refine Rd.of (cc := cX5_promised) (own := RX5) (by decide) rfl rfl (Nat.le_of_ble_eq_true rfl) (fun p e s m below meth c ls Q C hP hl hret => ?_)
  obtain ⟨hx, hb, hr, hml, hown, hts, hlk, hK⟩ := id C
  have hcf : CallFix p m c cX5_promised 3 s _ wsX5_promised RX5 := ⟨hx, hb, hml, hown, hts⟩
  have hl : lv_has ls 3 [(0, .ref ha), (1, .int p1), (2, .int p2)] := hl
  unfold mX5_promised at hm
  refine lv_aload_n hx hb dX5_promised_0 rfl (lv_at hl 0 rfl) ?_
  refine gf (q0 := 0) hx hb hts hown hK flX5_promised_19 hP rfl rfl dX5_promised_1 ?_
  refine gf (q0 := 3) hx hb hts hown hK flX5_promised_86 hP rfl rfl dX5_promised_4 ?_
  refine lv_iload_n hx hb dX5_promised_7 rfl (lv_at hl 1 rfl) ?_
  obtain ⟨v1, h_2, hm⟩ := b1_s hm
  refine rd_v hcf (kX3_has h_2) (cwX5_promised_X3_has hts) hK hP sH_d (ci := 3) (q0 := 6) rfl rfl rfl hl.1 rfl (Nat.le_of_ble_eq_true rfl) dX5_promised_8 ⟨Nat.zero_le _, Nat.zero_le _⟩ ?_
  refine lv_if_eq (tgt := 25) hx hb dX5_promised_11 (by decide) (fun c_3 => ?_) (fun c_3 => ?_)
  · replace hm := br_p hm c_3
    refine lv_iconst (v := (-1)) hx hb dX5_promised_25 (by decide) ?_
    cases hm
    exact hret _ _ dX5_promised_26 rfl
  · replace hm := br_n hm c_3
    refine lv_aload_n hx hb dX5_promised_14 rfl (lv_at hl 0 rfl) ?_
    refine gf (q0 := 0) hx hb hts hown hK flX5_promised_19 hP rfl rfl dX5_promised_15 ?_
    refine lv_iload_n hx hb dX5_promised_18 rfl (lv_at hl 1 rfl) ?_
    obtain ⟨v4, h_5, hm⟩ := b1_s hm
    refine rd_v hcf (kX0_hasPromise h_5) (cwX5_promised_X0_hasPromise hts) hK hP sH_b (ci := 0) (q0 := 3) rfl rfl rfl hl.1 rfl (Nat.le_of_ble_eq_true rfl) dX5_promised_19 ⟨Nat.zero_le _, Nat.zero_le _⟩ ?_
    refine lv_if_ne (tgt := 27) hx hb dX5_promised_22 (by decide) (fun c_6 => ?_) (fun c_6 => ?_)
    · replace hm := br_n hm c_6
      refine lv_iload_n hx hb dX5_promised_27 rfl (lv_at hl 2 rfl) ?_
      by_cases c_7 : p2 = 0
      · replace hm := br_p hm c_7
        refine lv_tableIn (tgt := 56) hx hb dX5_promised_28 (by rw [c_7]; decide) (by rw [c_7]; decide) (by rw [c_7]; rfl) (by decide) ?_
        refine lv_aload_n hx hb dX5_promised_56 rfl (lv_at hl 0 rfl) ?_
        refine gf (q0 := 0) hx hb hts hown hK flX5_promised_19 hP rfl rfl dX5_promised_57 ?_
        refine gf (q0 := 3) hx hb hts hown hK flX5_promised_86 hP rfl rfl dX5_promised_60 ?_
        refine lv_iload_n hx hb dX5_promised_63 rfl (lv_at hl 1 rfl) ?_
        refine lv_bipush (v := 6) hx hb dX5_promised_64 (by decide) ?_
        obtain ⟨v8, h_9, hm⟩ := b1_s hm
        refine rd_v hcf (kX3_get h_9) (cwX5_promised_X3_get hts) hK hP sH_d (ci := 3) (q0 := 6) rfl rfl rfl hl.1 rfl (Nat.le_of_ble_eq_true rfl) dX5_promised_66 ⟨Nat.zero_le _, Nat.zero_le _⟩ ?_
        cases hm
        exact hret _ _ dX5_promised_69 rfl
      · replace hm := br_n hm c_7
        by_cases c_10 : p2 = 1
        · replace hm := br_p hm c_10
          refine lv_tableIn (tgt := 70) hx hb dX5_promised_28 (by rw [c_10]; decide) (by rw [c_10]; decide) (by rw [c_10]; rfl) (by decide) ?_
          refine lv_aload_n hx hb dX5_promised_70 rfl (lv_at hl 0 rfl) ?_
          refine gf (q0 := 0) hx hb hts hown hK flX5_promised_19 hP rfl rfl dX5_promised_71 ?_
          refine gf (q0 := 3) hx hb hts hown hK flX5_promised_86 hP rfl rfl dX5_promised_74 ?_
          refine lv_iload_n hx hb dX5_promised_77 rfl (lv_at hl 1 rfl) ?_
          refine lv_bipush (v := 7) hx hb dX5_promised_78 (by decide) ?_
          obtain ⟨v11, h_12, hm⟩ := b1_s hm
          refine rd_v hcf (kX3_get h_12) (cwX5_promised_X3_get hts) hK hP sH_d (ci := 3) (q0 := 6) rfl rfl rfl hl.1 rfl (Nat.le_of_ble_eq_true rfl) dX5_promised_80 ⟨Nat.zero_le _, Nat.zero_le _⟩ ?_
          cases hm
          exact hret _ _ dX5_promised_83 rfl
        · replace hm := br_n hm c_10
          by_cases c_13 : p2 = 2
          · replace hm := br_p hm c_13
            refine lv_tableIn (tgt := 84) hx hb dX5_promised_28 (by rw [c_13]; decide) (by rw [c_13]; decide) (by rw [c_13]; rfl) (by decide) ?_
            refine lv_aload_n hx hb dX5_promised_84 rfl (lv_at hl 0 rfl) ?_
            refine gf (q0 := 0) hx hb hts hown hK flX5_promised_19 hP rfl rfl dX5_promised_85 ?_
            refine gf (q0 := 3) hx hb hts hown hK flX5_promised_86 hP rfl rfl dX5_promised_88 ?_
            refine lv_iload_n hx hb dX5_promised_91 rfl (lv_at hl 1 rfl) ?_
            refine lv_bipush (v := 12) hx hb dX5_promised_92 (by decide) ?_
            obtain ⟨v14, h_15, hm⟩ := b1_s hm
            refine rd_v hcf (kX3_get h_15) (cwX5_promised_X3_get hts) hK hP sH_d (ci := 3) (q0 := 6) rfl rfl rfl hl.1 rfl (Nat.le_of_ble_eq_true rfl) dX5_promised_94 ⟨Nat.zero_le _, Nat.zero_le _⟩ ?_
            cases hm
            exact hret _ _ dX5_promised_97 rfl
          · replace hm := br_n hm c_13
            refine lv_tableOut (tgt := 98) hx hb dX5_promised_28 (by have q0 := ne_ti (z := 0) (by decide) c_7; have q1 := ne_ti (z := 1) (by decide) c_10; have q2 := ne_ti (z := 2) (by decide) c_13; omega) (by decide) ?_
            refine lv_iconst (v := (-1)) hx hb dX5_promised_98 (by decide) ?_
            cases hm
            exact hret _ _ dX5_promised_99 rfl
    · replace hm := br_p hm c_6
      refine lv_iconst (v := (-1)) hx hb dX5_promised_25 (by decide) ?_
      cases hm
      exact hret _ _ dX5_promised_26 rfl
/-! X5 planned(II)I -/
abbrev rmX5_planned : Room := { frames := 3, cells := 0, slots := 0, locals := 69 }
theorem hdX5_planned : yX5_planned.cls = RX5 ∧ yX5_planned.cls ≠ "java/lang/invoke/MethodHandle" ∧ yX5_planned.cls ≠ "java/lang/invoke/VarHandle" ∧ (parseMethodDescriptor yX5_planned.desc).map (fun d => d.parameters.length) = some 2 := by decide +kernel
theorem inX5_planned_X0 : ∀ w ∈ u_ws RX0 TX0 7, w ∈ wsX5_planned := by decide +kernel
theorem inX5_planned_X5 : ∀ w ∈ u_ws RX5 TX5 5, w ∈ wsX5_planned := by decide +kernel
theorem cwX5_planned_X0_hasPlan {s : State} {args : Array Value} (hts : ∀ w ∈ wsX5_planned, w.before args s = true) : CallW rmX5_planned s args RX5 RX0 143 yX0_hasPlan cX0_hasPlan 2 (some .boolean) wsX0_hasPlan rmX0_hasPlan 0 0 1 := cwV 1 hts gX5_planned_X0_hasPlan rfl rfl rfl hdX0_hasPlan ⟨Nat.le_of_ble_eq_true rfl, Nat.le_of_ble_eq_true rfl⟩
theorem cwX5_planned_X0_instalment {s : State} {args : Array Value} (hts : ∀ w ∈ wsX5_planned, w.before args s = true) : CallW rmX5_planned s args RX5 RX0 146 yX0_instalment cX0_instalment 3 (some .int) wsX0_instalment rmX0_instalment 0 0 2 := cwV 2 hts gX5_planned_X0_instalment rfl rfl rfl hdX0_instalment ⟨Nat.le_of_ble_eq_true rfl, Nat.le_of_ble_eq_true rfl⟩
theorem cwX5_planned_X0_instalmentDay {s : State} {args : Array Value} (hts : ∀ w ∈ wsX5_planned, w.before args s = true) : CallW rmX5_planned s args RX5 RX0 149 yX0_instalmentDay cX0_instalmentDay 3 (some .int) wsX0_instalmentDay rmX0_instalmentDay 0 0 2 := cwV 2 hts gX5_planned_X0_instalmentDay rfl rfl rfl hdX0_instalmentDay ⟨Nat.le_of_ble_eq_true rfl, Nat.le_of_ble_eq_true rfl⟩
theorem cwX5_planned_X0_nextInstalmentDay {s : State} {args : Array Value} (hts : ∀ w ∈ wsX5_planned, w.before args s = true) : CallW rmX5_planned s args RX5 RX0 152 yX0_nextInstalmentDay cX0_nextInstalmentDay 5 (some .int) wsX0_nextInstalmentDay rmX0_nextInstalmentDay 0 0 1 := cwV 1 hts gX5_planned_X0_nextInstalmentDay rfl rfl rfl hdX0_nextInstalmentDay ⟨Nat.le_of_ble_eq_true rfl, Nat.le_of_ble_eq_true rfl⟩
theorem cwX5_planned_X3_get {s : State} {args : Array Value} (hts : ∀ w ∈ wsX5_planned, w.before args s = true) : CallW rmX5_planned s args RX5 RX3 108 yX3_get cX3_get 4 (some .int) wsX3_get rmX3_get 0 0 2 := cwV 2 hts gX5_planned_X3_get rfl rfl rfl hdX3_get ⟨Nat.le_of_ble_eq_true rfl, Nat.le_of_ble_eq_true rfl⟩
theorem cwX5_planned_X3_has {s : State} {args : Array Value} (hts : ∀ w ∈ wsX5_planned, w.before args s = true) : CallW rmX5_planned s args RX5 RX3 112 yX3_has cX3_has 2 (some .boolean) wsX3_has rmX3_has 0 0 1 := cwV 1 hts gX5_planned_X3_has rfl rfl rfl hdX3_has ⟨Nat.le_of_ble_eq_true rfl, Nat.le_of_ble_eq_true rfl⟩
theorem flX5_planned_19 : Fl wsX5_planned RX5 19 5 1 := ⟨_, _, _, rfl, by decide, inX5_planned_X5, by decide +kernel⟩
theorem flX5_planned_86 : Fl wsX5_planned RX5 86 0 1 := ⟨_, _, _, rfl, by decide, inX5_planned_X0, by decide +kernel⟩
set_option maxRecDepth 100000 in
set_option maxHeartbeats 4000000 in
theorem tX5_planned_b95 {ha : Nat} {a : Nat} {b : Nat} {ad : Nat → Nat} {pa : Nat → Nat} {hh : Nat} {hq : Nat} {kad : Nat → Nat → Nat} {lf : Int32} {us : Int32} {tf : Nat → Int32} {ho : Int32} {td : Int32} {pd : Int32} {sr : Int32} {dr : Int32} {ir : Int32} {qr : Int32} {sf : Nat → Int32} {df : Nat → Int32} {jf : Nat → Int32} {qf : Nat → Int32} {oho : Int32} {otd : Int32} {opd : Int32} {osr : Int32} {odr : Int32} {oir : Int32} {oqr : Int32} {osf : Nat → Int32} {odf : Nat → Int32} {ojf : Nat → Int32} {oqf : Nat → Int32} {ct : Int32} {tpp : Int32} {kv : Nat → BV} {res : Int32} (C : Cx p s m args meth c cX5_planned (some .int) 4 wsX5_planned RX5 D cI cB cL cK) (hP : va_P D vwCl (wH cI cB cK ha a b ad pa hh hq kad lf us tf ho td pd sr dr ir qr sf df jf qf oho otd opd osr odr oir oqr osf odf ojf oqf ct tpp kv) s.heap) (hret : ∀ (pc : Nat) (ls : Array Slot), decode cX5_planned pc = .ok (.ireturn, 1) → narrow .int (.int res) = .int res → W p l e rmX5_planned s m args below meth c s.heap [] 0 0 Q (F0 m pc ls [.int res])) : ∀ (x1 : Int32) (x2 : Int32) (x3 : Int32), mX5_planned_b95 td dr df x1 x2 x3 = some res → ∀ (ls : Array Slot), lv_has ls 4 [(0, .ref ha), (1, .int x1), (2, .int x2), (3, .int x3)] → W p l e rmX5_planned s m args below meth c s.heap [] 0 0 Q (F0 m 95 ls []) := by
  obtain ⟨hx, hb, hr, hml, hown, hts, hlk, hK⟩ := id C
  have hcf : CallFix p m c cX5_planned 4 s args wsX5_planned RX5 := ⟨hx, hb, hml, hown, hts⟩
  intro x1 x2 x3 hm ls hl
  unfold mX5_planned_b95 at hm
  refine lv_iload_n hx hb dX5_planned_95 rfl (lv_at hl 2 rfl) ?_
  by_cases c_17 : x2 = 0
  · replace hm := br_p hm c_17
    refine lv_tableIn (tgt := 124) hx hb dX5_planned_96 (by rw [c_17]; decide) (by rw [c_17]; decide) (by rw [c_17]; rfl) (by decide) ?_
    refine lv_iload_n hx hb dX5_planned_124 rfl (lv_at hl 3 rfl) ?_
    cases hm
    exact hret _ _ dX5_planned_125 rfl
  · replace hm := br_n hm c_17
    by_cases c_18 : x2 = 1
    · replace hm := br_p hm c_18
      refine lv_tableIn (tgt := 126) hx hb dX5_planned_96 (by rw [c_18]; decide) (by rw [c_18]; decide) (by rw [c_18]; rfl) (by decide) ?_
      refine lv_aload_n hx hb dX5_planned_126 rfl (lv_at hl 0 rfl) ?_
      refine gf (q0 := 0) hx hb hts hown hK flX5_planned_19 hP rfl rfl dX5_planned_127 ?_
      refine gf (q0 := 3) hx hb hts hown hK flX5_planned_86 hP rfl rfl dX5_planned_130 ?_
      refine lv_iload_n hx hb dX5_planned_133 rfl (lv_at hl 1 rfl) ?_
      refine lv_bipush (v := 12) hx hb dX5_planned_134 (by decide) ?_
      obtain ⟨v19, h_20, hm⟩ := b1_s hm
      refine rd_v hcf (kX3_get h_20) (cwX5_planned_X3_get hts) hK hP sH_d (ci := 3) (q0 := 6) rfl rfl rfl hl.1 rfl (Nat.le_of_ble_eq_true rfl) dX5_planned_136 ⟨Nat.zero_le _, Nat.zero_le _⟩ ?_
      cases hm
      exact hret _ _ dX5_planned_139 rfl
    · replace hm := br_n hm c_18
      by_cases c_21 : x2 = 2
      · replace hm := br_p hm c_21
        refine lv_tableIn (tgt := 140) hx hb dX5_planned_96 (by rw [c_21]; decide) (by rw [c_21]; decide) (by rw [c_21]; rfl) (by decide) ?_
        refine lv_aload_n hx hb dX5_planned_140 rfl (lv_at hl 0 rfl) ?_
        refine gf (q0 := 0) hx hb hts hown hK flX5_planned_19 hP rfl rfl dX5_planned_141 ?_
        refine lv_iload_n hx hb dX5_planned_144 rfl (lv_at hl 1 rfl) ?_
        obtain ⟨v22, h_23, hm⟩ := b1_s hm
        refine rd_v hcf (kX0_nextInstalmentDay h_23) (cwX5_planned_X0_nextInstalmentDay hts) hK hP sH_b (ci := 0) (q0 := 3) rfl rfl rfl hl.1 rfl (Nat.le_of_ble_eq_true rfl) dX5_planned_145 ⟨Nat.zero_le _, Nat.zero_le _⟩ ?_
        cases hm
        exact hret _ _ dX5_planned_148 rfl
      · replace hm := br_n hm c_21
        refine lv_tableOut (tgt := 149) hx hb dX5_planned_96 (by have q0 := ne_ti (z := 0) (by decide) c_17; have q1 := ne_ti (z := 1) (by decide) c_18; have q2 := ne_ti (z := 2) (by decide) c_21; omega) (by decide) ?_
        refine lv_iconst (v := (-1)) hx hb dX5_planned_149 (by decide) ?_
        cases hm
        exact hret _ _ dX5_planned_150 rfl
set_option maxRecDepth 100000 in
set_option maxHeartbeats 4000000 in
theorem tX5_planned_b68 {ha : Nat} {a : Nat} {b : Nat} {ad : Nat → Nat} {pa : Nat → Nat} {hh : Nat} {hq : Nat} {kad : Nat → Nat → Nat} {lf : Int32} {us : Int32} {tf : Nat → Int32} {ho : Int32} {td : Int32} {pd : Int32} {sr : Int32} {dr : Int32} {ir : Int32} {qr : Int32} {sf : Nat → Int32} {df : Nat → Int32} {jf : Nat → Int32} {qf : Nat → Int32} {oho : Int32} {otd : Int32} {opd : Int32} {osr : Int32} {odr : Int32} {oir : Int32} {oqr : Int32} {osf : Nat → Int32} {odf : Nat → Int32} {ojf : Nat → Int32} {oqf : Nat → Int32} {ct : Int32} {tpp : Int32} {kv : Nat → BV} {res : Int32} (C : Cx p s m args meth c cX5_planned (some .int) 4 wsX5_planned RX5 D cI cB cL cK) (hP : va_P D vwCl (wH cI cB cK ha a b ad pa hh hq kad lf us tf ho td pd sr dr ir qr sf df jf qf oho otd opd osr odr oir oqr osf odf ojf oqf ct tpp kv) s.heap) (hret : ∀ (pc : Nat) (ls : Array Slot), decode cX5_planned pc = .ok (.ireturn, 1) → narrow .int (.int res) = .int res → W p l e rmX5_planned s m args below meth c s.heap [] 0 0 Q (F0 m pc ls [.int res])) : ∀ (x1 : Int32) (x2 : Int32) (x3 : Int32), mX5_planned_b68 td dr df x1 x2 x3 = some res → ∀ (ls : Array Slot), lv_has ls 4 [(0, .ref ha), (1, .int x1), (2, .int x2), (3, .int x3)] → W p l e rmX5_planned s m args below meth c s.heap [] 0 0 Q (F0 m 68 ls []) := by
  obtain ⟨hx, hb, hr, hml, hown, hts, hlk, hK⟩ := id C
  have hcf : CallFix p m c cX5_planned 4 s args wsX5_planned RX5 := ⟨hx, hb, hml, hown, hts⟩
  intro x1 x2 x3 hm ls hl
  unfold mX5_planned_b68 at hm
  refine lv_iload_n hx hb dX5_planned_68 rfl (lv_at hl 2 rfl) ?_
  refine lv_bipush (v := 30) hx hb dX5_planned_69 (by decide) ?_
  refine lv_icmp_lt (tgt := 95) hx hb dX5_planned_71 (by decide) (fun c_13 => ?_) (fun c_13 => ?_)
  · replace hm := br_p hm c_13
    exact tX5_planned_b95 C hP hret _ _ _ hm _ (lv_sub hl [0, 1, 2, 3] rfl)
  · replace hm := br_n hm c_13
    refine lv_iload_n hx hb dX5_planned_74 rfl (lv_at hl 2 rfl) ?_
    refine lv_bipush (v := 30) hx hb dX5_planned_75 (by decide) ?_
    refine lv_iload_n hx hb dX5_planned_77 rfl (lv_at hl 3 rfl) ?_
    refine lv_iadd hx hb dX5_planned_78 ?_
    refine lv_icmp_ge (tgt := 95) hx hb dX5_planned_79 (by decide) (fun c_14 => ?_) (fun c_14 => ?_)
    · replace hm := br_p hm c_14
      exact tX5_planned_b95 C hP hret _ _ _ hm _ (lv_sub hl [0, 1, 2, 3] rfl)
    · replace hm := br_n hm c_14
      refine lv_aload_n hx hb dX5_planned_82 rfl (lv_at hl 0 rfl) ?_
      refine gf (q0 := 0) hx hb hts hown hK flX5_planned_19 hP rfl rfl dX5_planned_83 ?_
      refine lv_iload_n hx hb dX5_planned_86 rfl (lv_at hl 1 rfl) ?_
      refine lv_iload_n hx hb dX5_planned_87 rfl (lv_at hl 2 rfl) ?_
      refine lv_bipush (v := 30) hx hb dX5_planned_88 (by decide) ?_
      refine lv_isub hx hb dX5_planned_90 ?_
      obtain ⟨v15, h_16, hm⟩ := b1_s hm
      refine rd_v hcf (kX0_instalmentDay h_16) (cwX5_planned_X0_instalmentDay hts) hK hP sH_b (ci := 0) (q0 := 3) rfl rfl rfl hl.1 rfl (Nat.le_of_ble_eq_true rfl) dX5_planned_91 ⟨Nat.zero_le _, Nat.zero_le _⟩ ?_
      cases hm
      exact hret _ _ dX5_planned_94 rfl
set_option maxRecDepth 100000 in
set_option maxHeartbeats 4000000 in
theorem kX5_planned {l : Launch} {D : va_G} {cI cB cL cK : ClassId} {ha : Nat} {a : Nat} {b : Nat} {ad : Nat → Nat} {pa : Nat → Nat} {hh : Nat} {hq : Nat} {kad : Nat → Nat → Nat} {lf : Int32} {us : Int32} {tf : Nat → Int32} {ho : Int32} {td : Int32} {pd : Int32} {sr : Int32} {dr : Int32} {ir : Int32} {qr : Int32} {sf : Nat → Int32} {df : Nat → Int32} {jf : Nat → Int32} {qf : Nat → Int32} {oho : Int32} {otd : Int32} {opd : Int32} {osr : Int32} {odr : Int32} {oir : Int32} {oqr : Int32} {osf : Nat → Int32} {odf : Nat → Int32} {ojf : Nat → Int32} {oqf : Nat → Int32} {ct : Int32} {tpp : Int32} {kv : Nat → BV} {p1 : Int32} {p2 : Int32} {res : Int32} (hm : mX5_planned td dr df p1 p2 = some res) : Rd l D cI cB cL cK yX5_planned wsX5_planned rmX5_planned [.ref ha, .int p1, .int p2] (wH cI cB cK ha a b ad pa hh hq kad lf us tf ho td pd sr dr ir qr sf df jf qf oho otd opd osr odr oir oqr osf odf ojf oqf ct tpp kv) res := by
  refine Rd.of (cc := cX5_planned) (own := RX5) (by decide) rfl rfl (Nat.le_of_ble_eq_true rfl) (fun p e s m below meth c ls Q C hP hl hret => ?_)
  obtain ⟨hx, hb, hr, hml, hown, hts, hlk, hK⟩ := id C
  have hcf : CallFix p m c cX5_planned 4 s _ wsX5_planned RX5 := ⟨hx, hb, hml, hown, hts⟩
  have hl : lv_has ls 4 [(0, .ref ha), (1, .int p1), (2, .int p2)] := hl
  unfold mX5_planned at hm
  refine lv_aload_n hx hb dX5_planned_0 rfl (lv_at hl 0 rfl) ?_
  refine gf (q0 := 0) hx hb hts hown hK flX5_planned_19 hP rfl rfl dX5_planned_1 ?_
  refine gf (q0 := 3) hx hb hts hown hK flX5_planned_86 hP rfl rfl dX5_planned_4 ?_
  refine lv_iload_n hx hb dX5_planned_7 rfl (lv_at hl 1 rfl) ?_
  obtain ⟨v1, h_2, hm⟩ := b1_s hm
  refine rd_v hcf (kX3_has h_2) (cwX5_planned_X3_has hts) hK hP sH_d (ci := 3) (q0 := 6) rfl rfl rfl hl.1 rfl (Nat.le_of_ble_eq_true rfl) dX5_planned_8 ⟨Nat.zero_le _, Nat.zero_le _⟩ ?_
  refine lv_if_eq (tgt := 25) hx hb dX5_planned_11 (by decide) (fun c_3 => ?_) (fun c_3 => ?_)
  · replace hm := br_p hm c_3
    refine lv_iconst (v := (-1)) hx hb dX5_planned_25 (by decide) ?_
    cases hm
    exact hret _ _ dX5_planned_26 rfl
  · replace hm := br_n hm c_3
    refine lv_aload_n hx hb dX5_planned_14 rfl (lv_at hl 0 rfl) ?_
    refine gf (q0 := 0) hx hb hts hown hK flX5_planned_19 hP rfl rfl dX5_planned_15 ?_
    refine lv_iload_n hx hb dX5_planned_18 rfl (lv_at hl 1 rfl) ?_
    obtain ⟨v4, h_5, hm⟩ := b1_s hm
    refine rd_v hcf (kX0_hasPlan h_5) (cwX5_planned_X0_hasPlan hts) hK hP sH_b (ci := 0) (q0 := 3) rfl rfl rfl hl.1 rfl (Nat.le_of_ble_eq_true rfl) dX5_planned_19 ⟨Nat.zero_le _, Nat.zero_le _⟩ ?_
    refine lv_if_ne (tgt := 27) hx hb dX5_planned_22 (by decide) (fun c_6 => ?_) (fun c_6 => ?_)
    · replace hm := br_n hm c_6
      refine lv_aload_n hx hb dX5_planned_27 rfl (lv_at hl 0 rfl) ?_
      refine gf (q0 := 0) hx hb hts hown hK flX5_planned_19 hP rfl rfl dX5_planned_28 ?_
      refine gf (q0 := 3) hx hb hts hown hK flX5_planned_86 hP rfl rfl dX5_planned_31 ?_
      refine lv_iload_n hx hb dX5_planned_34 rfl (lv_at hl 1 rfl) ?_
      refine lv_bipush (v := 8) hx hb dX5_planned_35 (by decide) ?_
      obtain ⟨v7, h_8, hm⟩ := b1_s hm
      refine rd_v hcf (kX3_get h_8) (cwX5_planned_X3_get hts) hK hP sH_d (ci := 3) (q0 := 6) rfl rfl rfl hl.1 rfl (Nat.le_of_ble_eq_true rfl) dX5_planned_37 ⟨Nat.zero_le _, Nat.zero_le _⟩ ?_
      refine lv_istore_n (lv' := [(3, .int v7), (0, .ref ha), (1, .int p1), (2, .int p2)]) hx hb dX5_planned_40 rfl hl (by decide) rfl (fun ls hl => ?_)
      refine lv_iload_n hx hb dX5_planned_41 rfl (lv_at hl 3 rfl) ?_
      refine lv_bipush (v := 10) hx hb dX5_planned_42 (by decide) ?_
      refine lv_icmp_lt (tgt := 68) hx hb dX5_planned_44 (by decide) (fun c_9 => ?_) (fun c_9 => ?_)
      · replace hm := br_p hm c_9
        exact tX5_planned_b68 C hP hret _ _ _ hm _ (lv_sub hl [1, 2, 3, 0] rfl)
      · replace hm := br_n hm c_9
        refine lv_iload_n hx hb dX5_planned_47 rfl (lv_at hl 3 rfl) ?_
        refine lv_bipush (v := 10) hx hb dX5_planned_48 (by decide) ?_
        refine lv_iload_n hx hb dX5_planned_50 rfl (lv_at hl 0 rfl) ?_
        refine lv_iadd hx hb dX5_planned_51 ?_
        refine lv_icmp_ge (tgt := 68) hx hb dX5_planned_52 (by decide) (fun c_10 => ?_) (fun c_10 => ?_)
        · replace hm := br_p hm c_10
          exact tX5_planned_b68 C hP hret _ _ _ hm _ (lv_sub hl [1, 2, 3, 0] rfl)
        · replace hm := br_n hm c_10
          refine lv_aload_n hx hb dX5_planned_55 rfl (lv_at hl 1 rfl) ?_
          refine gf (q0 := 0) hx hb hts hown hK flX5_planned_19 hP rfl rfl dX5_planned_56 ?_
          refine lv_iload_n hx hb dX5_planned_59 rfl (lv_at hl 2 rfl) ?_
          refine lv_iload_n hx hb dX5_planned_60 rfl (lv_at hl 3 rfl) ?_
          refine lv_bipush (v := 10) hx hb dX5_planned_61 (by decide) ?_
          refine lv_isub hx hb dX5_planned_63 ?_
          obtain ⟨v11, h_12, hm⟩ := b1_s hm
          refine rd_v hcf (kX0_instalment h_12) (cwX5_planned_X0_instalment hts) hK hP sH_b (ci := 0) (q0 := 3) rfl rfl rfl hl.1 rfl (Nat.le_of_ble_eq_true rfl) dX5_planned_64 ⟨Nat.zero_le _, Nat.zero_le _⟩ ?_
          cases hm
          exact hret _ _ dX5_planned_67 rfl
    · replace hm := br_p hm c_6
      refine lv_iconst (v := (-1)) hx hb dX5_planned_25 (by decide) ?_
      cases hm
      exact hret _ _ dX5_planned_26 rfl
/-! X5 order(II)I -/
abbrev rmX5_order : Room := { frames := 1, cells := 0, slots := 0, locals := 23 }
theorem hdX5_order : yX5_order.cls = RX5 ∧ yX5_order.cls ≠ "java/lang/invoke/MethodHandle" ∧ yX5_order.cls ≠ "java/lang/invoke/VarHandle" ∧ (parseMethodDescriptor yX5_order.desc).map (fun d => d.parameters.length) = some 2 := by decide +kernel
theorem inX5_order_X0 : ∀ w ∈ u_ws RX0 TX0 7, w ∈ wsX5_order := by decide +kernel
theorem inX5_order_X5 : ∀ w ∈ u_ws RX5 TX5 5, w ∈ wsX5_order := by decide +kernel
theorem cwX5_order_X3_get {s : State} {args : Array Value} (hts : ∀ w ∈ wsX5_order, w.before args s = true) : CallW rmX5_order s args RX5 RX3 108 yX3_get cX3_get 4 (some .int) wsX3_get rmX3_get 0 0 2 := cwV 2 hts gX5_order_X3_get rfl rfl rfl hdX3_get ⟨Nat.le_of_ble_eq_true rfl, Nat.le_of_ble_eq_true rfl⟩
theorem flX5_order_19 : Fl wsX5_order RX5 19 5 1 := ⟨_, _, _, rfl, by decide, inX5_order_X5, by decide +kernel⟩
theorem flX5_order_92 : Fl wsX5_order RX5 92 0 3 := ⟨_, _, _, rfl, by decide, inX5_order_X0, by decide +kernel⟩
set_option maxRecDepth 100000 in
set_option maxHeartbeats 4000000 in
theorem kX5_order {l : Launch} {D : va_G} {cI cB cL cK : ClassId} {ha : Nat} {a : Nat} {b : Nat} {ad : Nat → Nat} {pa : Nat → Nat} {hh : Nat} {hq : Nat} {kad : Nat → Nat → Nat} {lf : Int32} {us : Int32} {tf : Nat → Int32} {ho : Int32} {td : Int32} {pd : Int32} {sr : Int32} {dr : Int32} {ir : Int32} {qr : Int32} {sf : Nat → Int32} {df : Nat → Int32} {jf : Nat → Int32} {qf : Nat → Int32} {oho : Int32} {otd : Int32} {opd : Int32} {osr : Int32} {odr : Int32} {oir : Int32} {oqr : Int32} {osf : Nat → Int32} {odf : Nat → Int32} {ojf : Nat → Int32} {oqf : Nat → Int32} {ct : Int32} {tpp : Int32} {kv : Nat → BV} {p1 : Int32} {p2 : Int32} {res : Int32} (hm : mX5_order qr qf p1 p2 = some res) : Rd l D cI cB cL cK yX5_order wsX5_order rmX5_order [.ref ha, .int p1, .int p2] (wH cI cB cK ha a b ad pa hh hq kad lf us tf ho td pd sr dr ir qr sf df jf qf oho otd opd osr odr oir oqr osf odf ojf oqf ct tpp kv) res := by
  refine Rd.of (cc := cX5_order) (own := RX5) (by decide) rfl rfl (Nat.le_of_ble_eq_true rfl) (fun p e s m below meth c ls Q C hP hl hret => ?_)
  obtain ⟨hx, hb, hr, hml, hown, hts, hlk, hK⟩ := id C
  have hcf : CallFix p m c cX5_order 3 s _ wsX5_order RX5 := ⟨hx, hb, hml, hown, hts⟩
  have hl : lv_has ls 3 [(0, .ref ha), (1, .int p1), (2, .int p2)] := hl
  unfold mX5_order at hm
  refine lv_aload_n hx hb dX5_order_0 rfl (lv_at hl 0 rfl) ?_
  refine gf (q0 := 0) hx hb hts hown hK flX5_order_19 hP rfl rfl dX5_order_1 ?_
  refine gf (q0 := 3) hx hb hts hown hK flX5_order_92 hP rfl rfl dX5_order_4 ?_
  refine lv_iload_n hx hb dX5_order_7 rfl (lv_at hl 1 rfl) ?_
  refine lv_iload_n hx hb dX5_order_8 rfl (lv_at hl 2 rfl) ?_
  obtain ⟨v1, h_2, hm⟩ := b1_s hm
  refine rd_v hcf (kX3_get h_2) (cwX5_order_X3_get hts) hK hP sH_q (ci := 3) (q0 := 10) rfl rfl rfl hl.1 rfl (Nat.le_of_ble_eq_true rfl) dX5_order_9 ⟨Nat.zero_le _, Nat.zero_le _⟩ ?_
  cases hm
  exact hret _ _ dX5_order_12 rfl
/-! X5 aged(II)I -/
abbrev rmX5_aged : Room := { frames := 3, cells := 0, slots := 0, locals := 70 }
theorem hdX5_aged : yX5_aged.cls = RX5 ∧ yX5_aged.cls ≠ "java/lang/invoke/MethodHandle" ∧ yX5_aged.cls ≠ "java/lang/invoke/VarHandle" ∧ (parseMethodDescriptor yX5_aged.desc).map (fun d => d.parameters.length) = some 2 := by decide +kernel
theorem inX5_aged_X0 : ∀ w ∈ u_ws RX0 TX0 7, w ∈ wsX5_aged := by decide +kernel
theorem inX5_aged_X5 : ∀ w ∈ u_ws RX5 TX5 5, w ∈ wsX5_aged := by decide +kernel
theorem cwX5_aged_X0_openInBracket {s : State} {args : Array Value} (hts : ∀ w ∈ wsX5_aged, w.before args s = true) : CallW rmX5_aged s args RX5 RX0 156 yX0_openInBracket cX0_openInBracket 6 (some .int) wsX0_openInBracket rmX0_openInBracket 0 0 2 := cwV 2 hts gX5_aged_X0_openInBracket rfl rfl rfl hdX0_openInBracket ⟨Nat.le_of_ble_eq_true rfl, Nat.le_of_ble_eq_true rfl⟩
theorem cwX5_aged_X3_has {s : State} {args : Array Value} (hts : ∀ w ∈ wsX5_aged, w.before args s = true) : CallW rmX5_aged s args RX5 RX3 112 yX3_has cX3_has 2 (some .boolean) wsX3_has rmX3_has 0 0 1 := cwV 1 hts gX5_aged_X3_has rfl rfl rfl hdX3_has ⟨Nat.le_of_ble_eq_true rfl, Nat.le_of_ble_eq_true rfl⟩
theorem flX5_aged_19 : Fl wsX5_aged RX5 19 5 1 := ⟨_, _, _, rfl, by decide, inX5_aged_X5, by decide +kernel⟩
theorem flX5_aged_86 : Fl wsX5_aged RX5 86 0 1 := ⟨_, _, _, rfl, by decide, inX5_aged_X0, by decide +kernel⟩
theorem kcX5_aged_155 : Cond.constant RX5 155 (-100000000) ∈ wsX5_aged := by decide +kernel
set_option maxRecDepth 100000 in
set_option maxHeartbeats 4000000 in
theorem tX5_aged_b24 {ha : Nat} {a : Nat} {b : Nat} {ad : Nat → Nat} {pa : Nat → Nat} {hh : Nat} {hq : Nat} {kad : Nat → Nat → Nat} {lf : Int32} {us : Int32} {tf : Nat → Int32} {ho : Int32} {td : Int32} {pd : Int32} {sr : Int32} {dr : Int32} {ir : Int32} {qr : Int32} {sf : Nat → Int32} {df : Nat → Int32} {jf : Nat → Int32} {qf : Nat → Int32} {oho : Int32} {otd : Int32} {opd : Int32} {osr : Int32} {odr : Int32} {oir : Int32} {oqr : Int32} {osf : Nat → Int32} {odf : Nat → Int32} {ojf : Nat → Int32} {oqf : Nat → Int32} {ct : Int32} {tpp : Int32} {kv : Nat → BV} {res : Int32} (C : Cx p s m args meth c cX5_aged (some .int) 4 wsX5_aged RX5 D cI cB cL cK) (hP : va_P D vwCl (wH cI cB cK ha a b ad pa hh hq kad lf us tf ho td pd sr dr ir qr sf df jf qf oho otd opd osr odr oir oqr osf odf ojf oqf ct tpp kv) s.heap) (hret : ∀ (pc : Nat) (ls : Array Slot), decode cX5_aged pc = .ok (.ireturn, 1) → narrow .int (.int res) = .int res → W p l e rmX5_aged s m args below meth c s.heap [] 0 0 Q (F0 m pc ls [.int res])) : ∀ (x1 : Int32) (x2 : Int32) (k0 : Int32), mX5_aged_b24 dr ir jf x1 x2 k0 = some res → ∀ (ls : Array Slot), lv_has ls 4 [(0, .ref ha), (1, .int x1), (2, .int x2)] → W p l e rmX5_aged s m args below meth c s.heap [] 0 0 Q (F0 m 24 ls [.int k0]) := by
  obtain ⟨hx, hb, hr, hml, hown, hts, hlk, hK⟩ := id C
  have hcf : CallFix p m c cX5_aged 4 s args wsX5_aged RX5 := ⟨hx, hb, hml, hown, hts⟩
  intro x1 x2 k0 hm ls hl
  unfold mX5_aged_b24 at hm
  refine lv_istore_n (lv' := [(3, .int k0), (0, .ref ha), (1, .int x1), (2, .int x2)]) hx hb dX5_aged_24 rfl hl (by decide) rfl (fun ls hl => ?_)
  refine lv_iload_n hx hb dX5_aged_25 rfl (lv_at hl 0 rfl) ?_
  refine lv_if_eq (tgt := 38) hx hb dX5_aged_26 (by decide) (fun c_5 => ?_) (fun c_5 => ?_)
  · replace hm := br_p hm c_5
    refine lv_ldc (v := (-100000000)) hx hb hown (hts _ kcX5_aged_155) dX5_aged_38 ?_
    cases hm
    exact hret _ _ dX5_aged_40 rfl
  · replace hm := br_n hm c_5
    refine lv_iload_n hx hb dX5_aged_29 rfl (lv_at hl 3 rfl) ?_
    refine lv_if_lt (tgt := 38) hx hb dX5_aged_30 (by decide) (fun c_6 => ?_) (fun c_6 => ?_)
    · replace hm := br_p hm c_6
      refine lv_ldc (v := (-100000000)) hx hb hown (hts _ kcX5_aged_155) dX5_aged_38 ?_
      cases hm
      exact hret _ _ dX5_aged_40 rfl
    · replace hm := br_n hm c_6
      refine lv_iload_n hx hb dX5_aged_33 rfl (lv_at hl 3 rfl) ?_
      refine lv_iconst (v := 4) hx hb dX5_aged_34 (by decide) ?_
      refine lv_icmp_le (tgt := 41) hx hb dX5_aged_35 (by decide) (fun c_7 => ?_) (fun c_7 => ?_)
      · replace hm := br_p hm c_7
        refine lv_aload_n hx hb dX5_aged_41 rfl (lv_at hl 1 rfl) ?_
        refine gf (q0 := 0) hx hb hts hown hK flX5_aged_19 hP rfl rfl dX5_aged_42 ?_
        refine lv_iload_n hx hb dX5_aged_45 rfl (lv_at hl 2 rfl) ?_
        refine lv_iload_n hx hb dX5_aged_46 rfl (lv_at hl 3 rfl) ?_
        obtain ⟨v8, h_9, hm⟩ := b1_s hm
        refine rd_v hcf (kX0_openInBracket h_9) (cwX5_aged_X0_openInBracket hts) hK hP sH_b (ci := 0) (q0 := 3) rfl rfl rfl hl.1 rfl (Nat.le_of_ble_eq_true rfl) dX5_aged_47 ⟨Nat.zero_le _, Nat.zero_le _⟩ ?_
        cases hm
        exact hret _ _ dX5_aged_50 rfl
      · replace hm := br_n hm c_7
        refine lv_ldc (v := (-100000000)) hx hb hown (hts _ kcX5_aged_155) dX5_aged_38 ?_
        cases hm
        exact hret _ _ dX5_aged_40 rfl
set_option maxRecDepth 100000 in
set_option maxHeartbeats 4000000 in
theorem kX5_aged {l : Launch} {D : va_G} {cI cB cL cK : ClassId} {ha : Nat} {a : Nat} {b : Nat} {ad : Nat → Nat} {pa : Nat → Nat} {hh : Nat} {hq : Nat} {kad : Nat → Nat → Nat} {lf : Int32} {us : Int32} {tf : Nat → Int32} {ho : Int32} {td : Int32} {pd : Int32} {sr : Int32} {dr : Int32} {ir : Int32} {qr : Int32} {sf : Nat → Int32} {df : Nat → Int32} {jf : Nat → Int32} {qf : Nat → Int32} {oho : Int32} {otd : Int32} {opd : Int32} {osr : Int32} {odr : Int32} {oir : Int32} {oqr : Int32} {osf : Nat → Int32} {odf : Nat → Int32} {ojf : Nat → Int32} {oqf : Nat → Int32} {ct : Int32} {tpp : Int32} {kv : Nat → BV} {p1 : Int32} {p2 : Int32} {res : Int32} (hm : mX5_aged dr ir jf p1 p2 = some res) : Rd l D cI cB cL cK yX5_aged wsX5_aged rmX5_aged [.ref ha, .int p1, .int p2] (wH cI cB cK ha a b ad pa hh hq kad lf us tf ho td pd sr dr ir qr sf df jf qf oho otd opd osr odr oir oqr osf odf ojf oqf ct tpp kv) res := by
  refine Rd.of (cc := cX5_aged) (own := RX5) (by decide) rfl rfl (Nat.le_of_ble_eq_true rfl) (fun p e s m below meth c ls Q C hP hl hret => ?_)
  obtain ⟨hx, hb, hr, hml, hown, hts, hlk, hK⟩ := id C
  have hcf : CallFix p m c cX5_aged 4 s _ wsX5_aged RX5 := ⟨hx, hb, hml, hown, hts⟩
  have hl : lv_has ls 4 [(0, .ref ha), (1, .int p1), (2, .int p2)] := hl
  unfold mX5_aged at hm
  refine lv_iload_n hx hb dX5_aged_0 rfl (lv_at hl 1 rfl) ?_
  refine lv_iconst (v := (-1)) hx hb dX5_aged_1 (by decide) ?_
  refine lv_icmp_eq (tgt := 19) hx hb dX5_aged_2 (by decide) (fun c_1 => ?_) (fun c_1 => ?_)
  · replace hm := br_p hm c_1
    refine lv_iconst (v := 1) hx hb dX5_aged_19 (by decide) ?_
    refine lv_goto (tgt := 24) hx hb dX5_aged_20 (by decide) ?_
    exact tX5_aged_b24 C hP hret _ _ _ hm _ (lv_sub hl [0, 1, 2] rfl)
  · replace hm := br_n hm c_1
    refine lv_aload_n hx hb dX5_aged_5 rfl (lv_at hl 0 rfl) ?_
    refine gf (q0 := 0) hx hb hts hown hK flX5_aged_19 hP rfl rfl dX5_aged_6 ?_
    refine gf (q0 := 3) hx hb hts hown hK flX5_aged_86 hP rfl rfl dX5_aged_9 ?_
    refine lv_iload_n hx hb dX5_aged_12 rfl (lv_at hl 1 rfl) ?_
    obtain ⟨v2, h_3, hm⟩ := b1_s hm
    refine rd_v hcf (kX3_has h_3) (cwX5_aged_X3_has hts) hK hP sH_d (ci := 3) (q0 := 6) rfl rfl rfl hl.1 rfl (Nat.le_of_ble_eq_true rfl) dX5_aged_13 ⟨Nat.zero_le _, Nat.zero_le _⟩ ?_
    refine lv_if_eq (tgt := 23) hx hb dX5_aged_16 (by decide) (fun c_4 => ?_) (fun c_4 => ?_)
    · replace hm := br_p hm c_4
      refine lv_iconst (v := 0) hx hb dX5_aged_23 (by decide) ?_
      exact tX5_aged_b24 C hP hret _ _ _ hm _ (lv_sub hl [0, 1, 2] rfl)
    · replace hm := br_n hm c_4
      refine lv_iconst (v := 1) hx hb dX5_aged_19 (by decide) ?_
      refine lv_goto (tgt := 24) hx hb dX5_aged_20 (by decide) ?_
      exact tX5_aged_b24 C hP hret _ _ _ hm _ (lv_sub hl [0, 1, 2] rfl)
/-! X5 next(I)I -/
abbrev rmX5_next : Room := { frames := 6, cells := 0, slots := 0, locals := 138 }
theorem hdX5_next : yX5_next.cls = RX5 ∧ yX5_next.cls ≠ "java/lang/invoke/MethodHandle" ∧ yX5_next.cls ≠ "java/lang/invoke/VarHandle" ∧ (parseMethodDescriptor yX5_next.desc).map (fun d => d.parameters.length) = some 1 := by decide +kernel
theorem inX5_next_X0 : ∀ w ∈ u_ws RX0 TX0 7, w ∈ wsX5_next := by decide +kernel
theorem inX5_next_X5 : ∀ w ∈ u_ws RX5 TX5 5, w ∈ wsX5_next := by decide +kernel
theorem cwX5_next_X0_copyFrom {s : State} {args : Array Value} (hts : ∀ w ∈ wsX5_next, w.before args s = true) : CallW rmX5_next s args RX5 RX0 67 yX0_copyFrom cX0_copyFrom 2 none wsX0_copyFrom rmX0_copyFrom 0 0 1 := cwV 1 hts gX5_next_X0_copyFrom rfl rfl rfl hdX0_copyFrom ⟨Nat.le_of_ble_eq_true rfl, Nat.le_of_ble_eq_true rfl⟩
theorem cwX5_next_X0_endDayOf {s : State} {args : Array Value} (hts : ∀ w ∈ wsX5_next, w.before args s = true) : CallW rmX5_next s args RX5 RX0 159 yX0_endDayOf cX0_endDayOf 2 (some .boolean) wsX0_endDayOf rmX0_endDayOf 0 0 1 := cwV 1 hts gX5_next_X0_endDayOf rfl rfl rfl hdX0_endDayOf ⟨Nat.le_of_ble_eq_true rfl, Nat.le_of_ble_eq_true rfl⟩
theorem cwX5_next_X3_has {s : State} {args : Array Value} (hts : ∀ w ∈ wsX5_next, w.before args s = true) : CallW rmX5_next s args RX5 RX3 112 yX3_has cX3_has 2 (some .boolean) wsX3_has rmX3_has 0 0 1 := cwV 1 hts gX5_next_X3_has rfl rfl rfl hdX3_has ⟨Nat.le_of_ble_eq_true rfl, Nat.le_of_ble_eq_true rfl⟩
theorem flX5_next_19 : Fl wsX5_next RX5 19 5 1 := ⟨_, _, _, rfl, by decide, inX5_next_X5, by decide +kernel⟩
theorem flX5_next_23 : Fl wsX5_next RX5 23 5 2 := ⟨_, _, _, rfl, by decide, inX5_next_X5, by decide +kernel⟩
theorem flX5_next_86 : Fl wsX5_next RX5 86 0 1 := ⟨_, _, _, rfl, by decide, inX5_next_X0, by decide +kernel⟩
set_option maxRecDepth 100000 in
set_option maxHeartbeats 4000000 in
theorem tX5_next_L29 {ha : Nat} {a : Nat} {b : Nat} {ad : Nat → Nat} {pa : Nat → Nat} {hh : Nat} {hq : Nat} {kad : Nat → Nat → Nat} {lf : Int32} {us : Int32} {tf : Nat → Int32} {ho : Int32} {td : Int32} {pd : Int32} {sr : Int32} {dr : Int32} {ir : Int32} {qr : Int32} {sf : Nat → Int32} {df : Nat → Int32} {jf : Nat → Int32} {qf : Nat → Int32} {ct : Int32} {tpp : Int32} {kv : Nat → BV} {res : Int32} {oho' : Int32} {otd' : Int32} {opd' : Int32} {osr' : Int32} {odr' : Int32} {oir' : Int32} {oqr' : Int32} {osf' : Nat → Int32} {odf' : Nat → Int32} {ojf' : Nat → Int32} {oqf' : Nat → Int32} (C : Cx p s m args meth c cX5_next (some .int) 3 wsX5_next RX5 D cI cB cL cK) (hA : ∀ q : Nat, s.heap.size ≤ q → A q) (hret : ∀ (pc : Nat) (ls : Array Slot) (H : Heap) (locs : List Loc), decode cX5_next pc = .ok (.ireturn, 1) → narrow .int (.int res) = .int res → va_P D vwCl (wH cI cB cK ha a b ad pa hh hq kad lf us tf ho td pd sr dr ir qr sf df jf qf oho' otd' opd' osr' odr' oir' oqr' osf' odf' ojf' oqf' ct tpp kv) H → va_D A (wH cI cB cK ha a b ad pa hh hq kad lf us tf ho td pd sr dr ir qr sf df jf qf oho' otd' opd' osr' odr' oir' oqr' osf' odf' ojf' oqf' ct tpp kv) → va_S A s.heap H locs → W p l e rmX5_next s m args below meth c H locs 0 0 Q (F0 m pc ls [.int res])) : ∀ (n9 : Nat) (x1 : Int32) (x2 : Int32) (oho : Int32) (otd : Int32) (opd : Int32) (osr : Int32) (odr : Int32) (oir : Int32) (oqr : Int32) (osf : Nat → Int32) (odf : Nat → Int32) (ojf : Nat → Int32) (oqf : Nat → Int32), mX5_next_L29 n9 ho td pd sr dr ir qr sf df jf qf x1 x2 oho otd opd osr odr oir oqr osf odf ojf oqf = some (res, oho', otd', opd', osr', odr', oir', oqr', osf', odf', ojf', oqf') → ∀ (H : Heap) (locs : List Loc) (ls : Array Slot), va_P D vwCl (wH cI cB cK ha a b ad pa hh hq kad lf us tf ho td pd sr dr ir qr sf df jf qf oho otd opd osr odr oir oqr osf odf ojf oqf ct tpp kv) H → va_D A (wH cI cB cK ha a b ad pa hh hq kad lf us tf ho td pd sr dr ir qr sf df jf qf oho otd opd osr odr oir oqr osf odf ojf oqf ct tpp kv) → va_S A s.heap H locs → lv_has ls 3 [(0, .ref ha), (1, .int x1), (2, .int x2)] → W p l e rmX5_next s m args below meth c H locs 0 0 Q (F0 m 29 ls []) := by
  obtain ⟨hx, hb, hr, hml, hown, hts, hlk, hK⟩ := id C
  have hcf : CallFix p m c cX5_next 3 s args wsX5_next RX5 := ⟨hx, hb, hml, hown, hts⟩
  intro n9
  induction n9 with
  | zero => intro x1 x2 oho otd opd osr odr oir oqr osf odf ojf oqf hm; cases hm
  | succ k ih =>
    intro x1 x2 oho otd opd osr odr oir oqr osf odf ojf oqf hm H locs ls hP hD hS hl
    rw [mX5_next_L29.eq_2] at hm
    refine lv_iload_n hx hb dX5_next_29 rfl (lv_at hl 2 rfl) ?_
    refine lv_sipush (v := 200) hx hb dX5_next_30 (by decide) ?_
    refine lv_icmp_gt (tgt := 55) hx hb dX5_next_33 (by decide) (fun c_16 => ?_) (fun c_16 => ?_)
    · replace hm := br_p hm c_16
      refine lv_bipush (v := (-2)) hx hb dX5_next_55 (by decide) ?_
      cases hm
      exact hret _ _ _ _ dX5_next_57 rfl hP hD hS
    · replace hm := br_n hm c_16
      refine lv_aload_n hx hb dX5_next_36 rfl (lv_at hl 0 rfl) ?_
      refine gf (q0 := 0) hx hb hts hown hK flX5_next_23 hP rfl rfl dX5_next_37 ?_
      refine lv_iload_n hx hb dX5_next_40 rfl (lv_at hl 1 rfl) ?_
      obtain ⟨v17, otd18, oir19, odf20, ojf21, h_22, hm⟩ := b5_s hm
      refine mu_vi hcf (kX0_endDayOf h_22) (cwX5_next_X0_endDayOf hts) hK hP hD hS hA jH_o (ci := 0) (q0 := 12) rfl rfl rfl hl.1 rfl (Nat.le_of_ble_eq_true rfl) dX5_next_41 ⟨Nat.zero_le _, Nat.zero_le _⟩ (fun H locs hP hD hS => ?_)
      refine lv_if_eq (tgt := 49) hx hb dX5_next_44 (by decide) (fun c_23 => ?_) (fun c_23 => ?_)
      · replace hm := br_p hm c_23
        refine lv_iinc (v := (x2 + 1)) (lv' := [(2, .int (x2 + 1)), (0, .ref ha), (1, .int x1)]) hx hb dX5_next_49 hl (k := 2) rfl rfl (by decide) rfl (fun ls hl => ?_)
        refine lv_goto (tgt := 29) hx hb dX5_next_52 (by decide) ?_
        exact ih _ _ _ _ _ _ _ _ _ _ _ _ _ hm _ _ _ hP hD hS (lv_sub hl [1, 2, 0] rfl)
      · replace hm := br_n hm c_23
        refine lv_iload_n hx hb dX5_next_47 rfl (lv_at hl 2 rfl) ?_
        cases hm
        exact hret _ _ _ _ dX5_next_48 rfl hP hD hS
set_option maxRecDepth 100000 in
set_option maxHeartbeats 4000000 in
theorem kX5_next {l : Launch} {D : va_G} {cI cB cL cK : ClassId} {ha : Nat} {a : Nat} {b : Nat} {ad : Nat → Nat} {pa : Nat → Nat} {hh : Nat} {hq : Nat} {kad : Nat → Nat → Nat} {lf : Int32} {us : Int32} {tf : Nat → Int32} {ho : Int32} {td : Int32} {pd : Int32} {sr : Int32} {dr : Int32} {ir : Int32} {qr : Int32} {sf : Nat → Int32} {df : Nat → Int32} {jf : Nat → Int32} {qf : Nat → Int32} {oho : Int32} {otd : Int32} {opd : Int32} {osr : Int32} {odr : Int32} {oir : Int32} {oqr : Int32} {osf : Nat → Int32} {odf : Nat → Int32} {ojf : Nat → Int32} {oqf : Nat → Int32} {ct : Int32} {tpp : Int32} {kv : Nat → BV} {p1 : Int32} {res : Int32} {oho' : Int32} {otd' : Int32} {opd' : Int32} {osr' : Int32} {odr' : Int32} {oir' : Int32} {oqr' : Int32} {osf' : Nat → Int32} {odf' : Nat → Int32} {ojf' : Nat → Int32} {oqf' : Nat → Int32} (hm : mX5_next ho td pd sr dr ir qr sf df jf qf oho otd opd osr odr oir oqr osf odf ojf oqf p1 = some (res, oho', otd', opd', osr', odr', oir', oqr', osf', odf', ojf', oqf')) : Mu l D cI cB cL cK yX5_next wsX5_next rmX5_next [.ref ha, .int p1] (wH cI cB cK ha a b ad pa hh hq kad lf us tf ho td pd sr dr ir qr sf df jf qf oho otd opd osr odr oir oqr osf odf ojf oqf ct tpp kv) (wH cI cB cK ha a b ad pa hh hq kad lf us tf ho td pd sr dr ir qr sf df jf qf oho' otd' opd' osr' odr' oir' oqr' osf' odf' ojf' oqf' ct tpp kv) (some (.int res)) 0 0 := by
  refine Mu.ofi (cc := cX5_next) (own := RX5) (by decide) rfl rfl (Nat.le_of_ble_eq_true rfl) (fun p e s m below meth c ls Q A C hA hP hD hS hl hret => ?_)
  obtain ⟨hx, hb, hr, hml, hown, hts, hlk, hK⟩ := id C
  have hcf : CallFix p m c cX5_next 3 s _ wsX5_next RX5 := ⟨hx, hb, hml, hown, hts⟩
  have hl : lv_has ls 3 [(0, .ref ha), (1, .int p1)] := hl
  unfold mX5_next at hm
  refine lv_aload_n hx hb dX5_next_0 rfl (lv_at hl 0 rfl) ?_
  refine gf (q0 := 0) hx hb hts hown hK flX5_next_19 hP rfl rfl dX5_next_1 ?_
  refine gf (q0 := 3) hx hb hts hown hK flX5_next_86 hP rfl rfl dX5_next_4 ?_
  refine lv_iload_n hx hb dX5_next_7 rfl (lv_at hl 1 rfl) ?_
  obtain ⟨v1, h_2, hm⟩ := b1_s hm
  refine rd_v hcf (kX3_has h_2) (cwX5_next_X3_has hts) hK hP sH_d (ci := 3) (q0 := 6) rfl rfl rfl hl.1 rfl (Nat.le_of_ble_eq_true rfl) dX5_next_8 ⟨Nat.zero_le _, Nat.zero_le _⟩ ?_
  refine lv_if_ne (tgt := 16) hx hb dX5_next_11 (by decide) (fun c_3 => ?_) (fun c_3 => ?_)
  · replace hm := br_n hm c_3
    refine lv_aload_n hx hb dX5_next_16 rfl (lv_at hl 0 rfl) ?_
    refine gf (q0 := 0) hx hb hts hown hK flX5_next_23 hP rfl rfl dX5_next_17 ?_
    refine lv_aload_n hx hb dX5_next_20 rfl (lv_at hl 0 rfl) ?_
    refine gf (q0 := 0) hx hb hts hown hK flX5_next_19 hP rfl rfl dX5_next_21 ?_
    obtain ⟨oho4, otd5, opd6, osr7, odr8, oir9, oqr10, osf11, odf12, ojf13, oqf14, h_15, hm⟩ := b11_s hm
    refine mu_vv hcf (kX0_copyFrom h_15) (cwX5_next_X0_copyFrom hts) hK hP hD hS hA jH_ob (ci := 0) (q0 := 12) rfl rfl rfl hl.1 rfl (Nat.le_of_ble_eq_true rfl) dX5_next_24 ⟨Nat.zero_le _, Nat.zero_le _⟩ (fun H locs hP hD hS => ?_)
    refine lv_iconst (v := 1) hx hb dX5_next_27 (by decide) ?_
    refine lv_istore_n (lv' := [(2, .int 1), (0, .ref ha), (1, .int p1)]) hx hb dX5_next_28 rfl hl (by decide) rfl (fun ls hl => ?_)
    exact tX5_next_L29 C hA hret _ _ _ _ _ _ _ _ _ _ _ _ _ _ hm _ _ _ hP hD hS (lv_sub hl [1, 2, 0] rfl)
  · replace hm := br_p hm c_3
    refine lv_iconst (v := (-1)) hx hb dX5_next_14 (by decide) ?_
    cases hm
    exact hret _ _ _ _ dX5_next_15 rfl hP hD hS
/-! X5 mayPay(II)Z -/
abbrev rmX5_mayPay : Room := { frames := 1, cells := 0, slots := 0, locals := 21 }
theorem hdX5_mayPay : yX5_mayPay.cls = RX5 ∧ yX5_mayPay.cls ≠ "java/lang/invoke/MethodHandle" ∧ yX5_mayPay.cls ≠ "java/lang/invoke/VarHandle" ∧ (parseMethodDescriptor yX5_mayPay.desc).map (fun d => d.parameters.length) = some 2 := by decide +kernel
theorem inX5_mayPay_X0 : ∀ w ∈ u_ws RX0 TX0 7, w ∈ wsX5_mayPay := by decide +kernel
theorem inX5_mayPay_X5 : ∀ w ∈ u_ws RX5 TX5 5, w ∈ wsX5_mayPay := by decide +kernel
theorem cwX5_mayPay_X3_has {s : State} {args : Array Value} (hts : ∀ w ∈ wsX5_mayPay, w.before args s = true) : CallW rmX5_mayPay s args RX5 RX3 112 yX3_has cX3_has 2 (some .boolean) wsX3_has rmX3_has 0 0 1 := cwV 1 hts gX5_mayPay_X3_has rfl rfl rfl hdX3_has ⟨Nat.le_of_ble_eq_true rfl, Nat.le_of_ble_eq_true rfl⟩
theorem flX5_mayPay_19 : Fl wsX5_mayPay RX5 19 5 1 := ⟨_, _, _, rfl, by decide, inX5_mayPay_X5, by decide +kernel⟩
theorem flX5_mayPay_86 : Fl wsX5_mayPay RX5 86 0 1 := ⟨_, _, _, rfl, by decide, inX5_mayPay_X0, by decide +kernel⟩
theorem kcX5_mayPay_217 : Cond.constant RX5 217 99999 ∈ wsX5_mayPay := by decide +kernel
set_option maxRecDepth 100000 in
set_option maxHeartbeats 4000000 in
theorem kX5_mayPay {l : Launch} {D : va_G} {cI cB cL cK : ClassId} {ha : Nat} {a : Nat} {b : Nat} {ad : Nat → Nat} {pa : Nat → Nat} {hh : Nat} {hq : Nat} {kad : Nat → Nat → Nat} {lf : Int32} {us : Int32} {tf : Nat → Int32} {ho : Int32} {td : Int32} {pd : Int32} {sr : Int32} {dr : Int32} {ir : Int32} {qr : Int32} {sf : Nat → Int32} {df : Nat → Int32} {jf : Nat → Int32} {qf : Nat → Int32} {oho : Int32} {otd : Int32} {opd : Int32} {osr : Int32} {odr : Int32} {oir : Int32} {oqr : Int32} {osf : Nat → Int32} {odf : Nat → Int32} {ojf : Nat → Int32} {oqf : Nat → Int32} {ct : Int32} {tpp : Int32} {kv : Nat → BV} {p1 : Int32} {p2 : Int32} {res : Int32} (hm : mX5_mayPay dr p1 p2 = some res) : Rd l D cI cB cL cK yX5_mayPay wsX5_mayPay rmX5_mayPay [.ref ha, .int p1, .int p2] (wH cI cB cK ha a b ad pa hh hq kad lf us tf ho td pd sr dr ir qr sf df jf qf oho otd opd osr odr oir oqr osf odf ojf oqf ct tpp kv) res := by
  refine Rd.of (cc := cX5_mayPay) (own := RX5) (by decide) rfl rfl (Nat.le_of_ble_eq_true rfl) (fun p e s m below meth c ls Q C hP hl hret => ?_)
  obtain ⟨hx, hb, hr, hml, hown, hts, hlk, hK⟩ := id C
  have hcf : CallFix p m c cX5_mayPay 3 s _ wsX5_mayPay RX5 := ⟨hx, hb, hml, hown, hts⟩
  have hl : lv_has ls 3 [(0, .ref ha), (1, .int p1), (2, .int p2)] := hl
  unfold mX5_mayPay at hm
  refine lv_aload_n hx hb dX5_mayPay_0 rfl (lv_at hl 0 rfl) ?_
  refine gf (q0 := 0) hx hb hts hown hK flX5_mayPay_19 hP rfl rfl dX5_mayPay_1 ?_
  refine gf (q0 := 3) hx hb hts hown hK flX5_mayPay_86 hP rfl rfl dX5_mayPay_4 ?_
  refine lv_iload_n hx hb dX5_mayPay_7 rfl (lv_at hl 1 rfl) ?_
  obtain ⟨v1, h_2, hm⟩ := b1_s hm
  refine rd_v hcf (kX3_has h_2) (cwX5_mayPay_X3_has hts) hK hP sH_d (ci := 3) (q0 := 6) rfl rfl rfl hl.1 rfl (Nat.le_of_ble_eq_true rfl) dX5_mayPay_8 ⟨Nat.zero_le _, Nat.zero_le _⟩ ?_
  refine lv_if_eq (tgt := 29) hx hb dX5_mayPay_11 (by decide) (fun c_3 => ?_) (fun c_3 => ?_)
  · replace hm := br_p hm c_3
    refine lv_iconst (v := 0) hx hb dX5_mayPay_29 (by decide) ?_
    cases hm
    exact hret _ _ dX5_mayPay_30 rfl
  · replace hm := br_n hm c_3
    refine lv_iload_n hx hb dX5_mayPay_14 rfl (lv_at hl 2 rfl) ?_
    refine lv_iconst (v := 1) hx hb dX5_mayPay_15 (by decide) ?_
    refine lv_icmp_lt (tgt := 29) hx hb dX5_mayPay_16 (by decide) (fun c_4 => ?_) (fun c_4 => ?_)
    · replace hm := br_p hm c_4
      refine lv_iconst (v := 0) hx hb dX5_mayPay_29 (by decide) ?_
      cases hm
      exact hret _ _ dX5_mayPay_30 rfl
    · replace hm := br_n hm c_4
      refine lv_iload_n hx hb dX5_mayPay_19 rfl (lv_at hl 2 rfl) ?_
      refine lv_ldc (v := 99999) hx hb hown (hts _ kcX5_mayPay_217) dX5_mayPay_20 ?_
      refine lv_icmp_gt (tgt := 29) hx hb dX5_mayPay_22 (by decide) (fun c_5 => ?_) (fun c_5 => ?_)
      · replace hm := br_p hm c_5
        refine lv_iconst (v := 0) hx hb dX5_mayPay_29 (by decide) ?_
        cases hm
        exact hret _ _ dX5_mayPay_30 rfl
      · replace hm := br_n hm c_5
        refine lv_iconst (v := 1) hx hb dX5_mayPay_25 (by decide) ?_
        refine lv_goto (tgt := 30) hx hb dX5_mayPay_26 (by decide) ?_
        cases hm
        exact hret _ _ dX5_mayPay_30 rfl
/-! X5 would(II)I -/
abbrev rmX5_would : Room := { frames := 6, cells := 0, slots := 0, locals := 136 }
theorem hdX5_would : yX5_would.cls = RX5 ∧ yX5_would.cls ≠ "java/lang/invoke/MethodHandle" ∧ yX5_would.cls ≠ "java/lang/invoke/VarHandle" ∧ (parseMethodDescriptor yX5_would.desc).map (fun d => d.parameters.length) = some 2 := by decide +kernel
theorem inX5_would_X5 : ∀ w ∈ u_ws RX5 TX5 5, w ∈ wsX5_would := by decide +kernel
theorem cwX5_would_X0_copyFrom {s : State} {args : Array Value} (hts : ∀ w ∈ wsX5_would, w.before args s = true) : CallW rmX5_would s args RX5 RX0 67 yX0_copyFrom cX0_copyFrom 2 none wsX0_copyFrom rmX0_copyFrom 0 0 1 := cwV 1 hts gX5_would_X0_copyFrom rfl rfl rfl hdX0_copyFrom ⟨Nat.le_of_ble_eq_true rfl, Nat.le_of_ble_eq_true rfl⟩
theorem cwX5_would_X0_receive {s : State} {args : Array Value} (hts : ∀ w ∈ wsX5_would, w.before args s = true) : CallW rmX5_would s args RX5 RX0 166 yX0_receive cX0_receive 3 (some .int) wsX0_receive rmX0_receive 0 0 2 := cwV 2 hts gX5_would_X0_receive rfl rfl rfl hdX0_receive ⟨Nat.le_of_ble_eq_true rfl, Nat.le_of_ble_eq_true rfl⟩
theorem cwX5_would_X5_mayPay {s : State} {args : Array Value} (hts : ∀ w ∈ wsX5_would, w.before args s = true) : CallW rmX5_would s args RX5 RX5 162 yX5_mayPay cX5_mayPay 3 (some .boolean) wsX5_mayPay rmX5_mayPay 0 0 2 := cwV 2 hts gX5_would_X5_mayPay rfl rfl rfl hdX5_mayPay ⟨Nat.le_of_ble_eq_true rfl, Nat.le_of_ble_eq_true rfl⟩
theorem flX5_would_19 : Fl wsX5_would RX5 19 5 1 := ⟨_, _, _, rfl, by decide, inX5_would_X5, by decide +kernel⟩
theorem flX5_would_23 : Fl wsX5_would RX5 23 5 2 := ⟨_, _, _, rfl, by decide, inX5_would_X5, by decide +kernel⟩
set_option maxRecDepth 100000 in
set_option maxHeartbeats 4000000 in
theorem kX5_would {l : Launch} {D : va_G} {cI cB cL cK : ClassId} {ha : Nat} {a : Nat} {b : Nat} {ad : Nat → Nat} {pa : Nat → Nat} {hh : Nat} {hq : Nat} {kad : Nat → Nat → Nat} {lf : Int32} {us : Int32} {tf : Nat → Int32} {ho : Int32} {td : Int32} {pd : Int32} {sr : Int32} {dr : Int32} {ir : Int32} {qr : Int32} {sf : Nat → Int32} {df : Nat → Int32} {jf : Nat → Int32} {qf : Nat → Int32} {oho : Int32} {otd : Int32} {opd : Int32} {osr : Int32} {odr : Int32} {oir : Int32} {oqr : Int32} {osf : Nat → Int32} {odf : Nat → Int32} {ojf : Nat → Int32} {oqf : Nat → Int32} {ct : Int32} {tpp : Int32} {kv : Nat → BV} {p1 : Int32} {p2 : Int32} {res : Int32} {oho' : Int32} {otd' : Int32} {opd' : Int32} {osr' : Int32} {odr' : Int32} {oir' : Int32} {oqr' : Int32} {osf' : Nat → Int32} {odf' : Nat → Int32} {ojf' : Nat → Int32} {oqf' : Nat → Int32} (hm : mX5_would ho td pd sr dr ir qr sf df jf qf oho otd opd osr odr oir oqr osf odf ojf oqf p1 p2 = some (res, oho', otd', opd', osr', odr', oir', oqr', osf', odf', ojf', oqf')) : Mu l D cI cB cL cK yX5_would wsX5_would rmX5_would [.ref ha, .int p1, .int p2] (wH cI cB cK ha a b ad pa hh hq kad lf us tf ho td pd sr dr ir qr sf df jf qf oho otd opd osr odr oir oqr osf odf ojf oqf ct tpp kv) (wH cI cB cK ha a b ad pa hh hq kad lf us tf ho td pd sr dr ir qr sf df jf qf oho' otd' opd' osr' odr' oir' oqr' osf' odf' ojf' oqf' ct tpp kv) (some (.int res)) 0 0 := by
  refine Mu.ofi (cc := cX5_would) (own := RX5) (by decide) rfl rfl (Nat.le_of_ble_eq_true rfl) (fun p e s m below meth c ls Q A C hA hP hD hS hl hret => ?_)
  obtain ⟨hx, hb, hr, hml, hown, hts, hlk, hK⟩ := id C
  have hcf : CallFix p m c cX5_would 3 s _ wsX5_would RX5 := ⟨hx, hb, hml, hown, hts⟩
  have hl : lv_has ls 3 [(0, .ref ha), (1, .int p1), (2, .int p2)] := hl
  unfold mX5_would at hm
  refine lv_aload_n hx hb dX5_would_0 rfl (lv_at hl 0 rfl) ?_
  refine lv_iload_n hx hb dX5_would_1 rfl (lv_at hl 1 rfl) ?_
  refine lv_iload_n hx hb dX5_would_2 rfl (lv_at hl 2 rfl) ?_
  obtain ⟨v1, h_2, hm⟩ := b1_s hm
  refine rd_v hcf (kX5_mayPay h_2) (cwX5_would_X5_mayPay hts) hK hP Sb.rf (ci := 5) (q0 := 0) rfl rfl rfl hl.1 rfl (Nat.le_of_ble_eq_true rfl) dX5_would_3 ⟨Nat.zero_le _, Nat.zero_le _⟩ ?_
  refine lv_if_ne (tgt := 11) hx hb dX5_would_6 (by decide) (fun c_3 => ?_) (fun c_3 => ?_)
  · replace hm := br_n hm c_3
    refine lv_aload_n hx hb dX5_would_11 rfl (lv_at hl 0 rfl) ?_
    refine gf (q0 := 0) hx hb hts hown hK flX5_would_23 hP rfl rfl dX5_would_12 ?_
    refine lv_aload_n hx hb dX5_would_15 rfl (lv_at hl 0 rfl) ?_
    refine gf (q0 := 0) hx hb hts hown hK flX5_would_19 hP rfl rfl dX5_would_16 ?_
    obtain ⟨oho4, otd5, opd6, osr7, odr8, oir9, oqr10, osf11, odf12, ojf13, oqf14, h_15, hm⟩ := b11_s hm
    refine mu_vv hcf (kX0_copyFrom h_15) (cwX5_would_X0_copyFrom hts) hK hP hD hS hA jH_ob (ci := 0) (q0 := 12) rfl rfl rfl hl.1 rfl (Nat.le_of_ble_eq_true rfl) dX5_would_19 ⟨Nat.zero_le _, Nat.zero_le _⟩ (fun H locs hP hD hS => ?_)
    refine lv_aload_n hx hb dX5_would_22 rfl (lv_at hl 0 rfl) ?_
    refine gf (q0 := 0) hx hb hts hown hK flX5_would_23 hP rfl rfl dX5_would_23 ?_
    refine lv_iload_n hx hb dX5_would_26 rfl (lv_at hl 1 rfl) ?_
    refine lv_iload_n hx hb dX5_would_27 rfl (lv_at hl 2 rfl) ?_
    obtain ⟨v16, opd17, odf18, ojf19, oqf20, h_21, hm⟩ := b5_s hm
    refine mu_vi hcf (kX0_receive h_21) (cwX5_would_X0_receive hts) hK hP hD hS hA jH_o (ci := 0) (q0 := 12) rfl rfl rfl hl.1 rfl (Nat.le_of_ble_eq_true rfl) dX5_would_28 ⟨Nat.zero_le _, Nat.zero_le _⟩ (fun H locs hP hD hS => ?_)
    cases hm
    exact hret _ _ _ _ dX5_would_31 rfl hP hD hS
  · replace hm := br_p hm c_3
    refine lv_iconst (v := (-1)) hx hb dX5_would_9 (by decide) ?_
    cases hm
    exact hret _ _ _ _ dX5_would_10 rfl hP hD hS
/-! X5 isSum(I)Z -/
abbrev rmX5_isSum : Room := { frames := 0, cells := 0, slots := 0, locals := 0 }
theorem hdX5_isSum : yX5_isSum.cls = RX5 ∧ yX5_isSum.cls ≠ "java/lang/invoke/MethodHandle" ∧ yX5_isSum.cls ≠ "java/lang/invoke/VarHandle" ∧ (parseMethodDescriptor yX5_isSum.desc).map (fun d => d.parameters.length) = some 1 := by decide +kernel
set_option maxRecDepth 100000 in
set_option maxHeartbeats 4000000 in
theorem kX5_isSum {l : Launch} {D : va_G} {cI cB cL cK : ClassId}   {p1 : Int32} {res : Int32} (hm : mX5_isSum p1 = some res) : Rd l D cI cB cL cK yX5_isSum wsX5_isSum rmX5_isSum [.int p1] [] res := by
  refine Rd.of (cc := cX5_isSum) (own := RX5) (by decide) rfl rfl (Nat.le_of_ble_eq_true rfl) (fun p e s m below meth c ls Q C hP hl hret => ?_)
  obtain ⟨hx, hb, hr, hml, hown, hts, hlk, hK⟩ := id C
  have hcf : CallFix p m c cX5_isSum 1 s _ wsX5_isSum RX5 := ⟨hx, hb, hml, hown, hts⟩
  have hl : lv_has ls 1 [(0, .int p1)] := hl
  unfold mX5_isSum at hm
  refine lv_iload_n hx hb dX5_isSum_0 rfl (lv_at hl 0 rfl) ?_
  refine lv_iconst (v := 1) hx hb dX5_isSum_1 (by decide) ?_
  refine lv_icmp_lt (tgt := 16) hx hb dX5_isSum_2 (by decide) (fun c_1 => ?_) (fun c_1 => ?_)
  · replace hm := br_p hm c_1
    refine lv_iconst (v := 0) hx hb dX5_isSum_16 (by decide) ?_
    cases hm
    exact hret _ _ dX5_isSum_17 rfl
  · replace hm := br_n hm c_1
    refine lv_iload_n hx hb dX5_isSum_5 rfl (lv_at hl 0 rfl) ?_
    refine lv_sipush (v := 9999) hx hb dX5_isSum_6 (by decide) ?_
    refine lv_icmp_gt (tgt := 16) hx hb dX5_isSum_9 (by decide) (fun c_2 => ?_) (fun c_2 => ?_)
    · replace hm := br_p hm c_2
      refine lv_iconst (v := 0) hx hb dX5_isSum_16 (by decide) ?_
      cases hm
      exact hret _ _ dX5_isSum_17 rfl
    · replace hm := br_n hm c_2
      refine lv_iconst (v := 1) hx hb dX5_isSum_12 (by decide) ?_
      refine lv_goto (tgt := 17) hx hb dX5_isSum_13 (by decide) ?_
      cases hm
      exact hret _ _ dX5_isSum_17 rfl
/-! X5 bill(III)I -/
abbrev rmX5_bill : Room := { frames := 4, cells := 0, slots := 0, locals := 124 }
theorem hdX5_bill : yX5_bill.cls = RX5 ∧ yX5_bill.cls ≠ "java/lang/invoke/MethodHandle" ∧ yX5_bill.cls ≠ "java/lang/invoke/VarHandle" ∧ (parseMethodDescriptor yX5_bill.desc).map (fun d => d.parameters.length) = some 3 := by decide +kernel
theorem inX5_bill_X0 : ∀ w ∈ u_ws RX0 TX0 7, w ∈ wsX5_bill := by decide +kernel
theorem inX5_bill_X5 : ∀ w ∈ u_ws RX5 TX5 5, w ∈ wsX5_bill := by decide +kernel
theorem cwX5_bill_X0_addInvoice {s : State} {args : Array Value} (hts : ∀ w ∈ wsX5_bill, w.before args s = true) : CallW rmX5_bill s args RX5 RX0 178 yX0_addInvoice cX0_addInvoice 6 (some .int) wsX0_addInvoice rmX0_addInvoice 0 0 4 := cwV 4 hts gX5_bill_X0_addInvoice rfl rfl rfl hdX0_addInvoice ⟨Nat.le_of_ble_eq_true rfl, Nat.le_of_ble_eq_true rfl⟩
theorem cwX5_bill_X0_placeCash {s : State} {args : Array Value} (hts : ∀ w ∈ wsX5_bill, w.before args s = true) : CallW rmX5_bill s args RX5 RX0 182 yX0_placeCash cX0_placeCash 6 none wsX0_placeCash rmX0_placeCash 0 0 1 := cwV 1 hts gX5_bill_X0_placeCash rfl rfl rfl hdX0_placeCash ⟨Nat.le_of_ble_eq_true rfl, Nat.le_of_ble_eq_true rfl⟩
theorem cwX5_bill_X1_keep {s : State} {args : Array Value} (hts : ∀ w ∈ wsX5_bill, w.before args s = true) : CallW rmX5_bill s args RX5 RX1 175 yX1_keep cX1_keep 2 none wsX1_keep rmX1_keep 0 0 1 := cwV 1 hts gX5_bill_X1_keep rfl rfl rfl hdX1_keep ⟨Nat.le_of_ble_eq_true rfl, Nat.le_of_ble_eq_true rfl⟩
theorem cwX5_bill_X3_has {s : State} {args : Array Value} (hts : ∀ w ∈ wsX5_bill, w.before args s = true) : CallW rmX5_bill s args RX5 RX3 112 yX3_has cX3_has 2 (some .boolean) wsX3_has rmX3_has 0 0 1 := cwV 1 hts gX5_bill_X3_has rfl rfl rfl hdX3_has ⟨Nat.le_of_ble_eq_true rfl, Nat.le_of_ble_eq_true rfl⟩
theorem cwX5_bill_X3_isFull {s : State} {args : Array Value} (hts : ∀ w ∈ wsX5_bill, w.before args s = true) : CallW rmX5_bill s args RX5 RX3 172 yX3_isFull cX3_isFull 1 (some .boolean) wsX3_isFull rmX3_isFull 0 0 0 := cwV 0 hts gX5_bill_X3_isFull rfl rfl rfl hdX3_isFull ⟨Nat.le_of_ble_eq_true rfl, Nat.le_of_ble_eq_true rfl⟩
theorem cwX5_bill_X5_isSum {s : State} {args : Array Value} (hts : ∀ w ∈ wsX5_bill, w.before args s = true) : CallB rmX5_bill s args RX5 169 yX5_isSum cX5_isSum 1 (some .boolean) wsX5_isSum rmX5_isSum 0 0 1 ∧ (Cond.static yX5_isSum).before args s = true := va_cwS 1 hts gX5_bill_X5_isSum rfl rfl rfl hdX5_isSum.2 ⟨Nat.le_of_ble_eq_true rfl, Nat.le_of_ble_eq_true rfl⟩
theorem flX5_bill_19 : Fl wsX5_bill RX5 19 5 1 := ⟨_, _, _, rfl, by decide, inX5_bill_X5, by decide +kernel⟩
theorem flX5_bill_29 : Fl wsX5_bill RX5 29 5 3 := ⟨_, _, _, rfl, by decide, inX5_bill_X5, by decide +kernel⟩
theorem flX5_bill_74 : Fl wsX5_bill RX5 74 0 5 := ⟨_, _, _, rfl, by decide, inX5_bill_X0, by decide +kernel⟩
theorem flX5_bill_86 : Fl wsX5_bill RX5 86 0 1 := ⟨_, _, _, rfl, by decide, inX5_bill_X0, by decide +kernel⟩
theorem flX5_bill_89 : Fl wsX5_bill RX5 89 0 2 := ⟨_, _, _, rfl, by decide, inX5_bill_X0, by decide +kernel⟩
set_option maxRecDepth 100000 in
set_option maxHeartbeats 4000000 in
theorem kX5_bill {l : Launch} {D : va_G} {cI cB cL cK : ClassId} {ha : Nat} {a : Nat} {b : Nat} {ad : Nat → Nat} {pa : Nat → Nat} {hh : Nat} {hq : Nat} {kad : Nat → Nat → Nat} {lf : Int32} {us : Int32} {tf : Nat → Int32} {ho : Int32} {td : Int32} {pd : Int32} {sr : Int32} {dr : Int32} {ir : Int32} {qr : Int32} {sf : Nat → Int32} {df : Nat → Int32} {jf : Nat → Int32} {qf : Nat → Int32} {oho : Int32} {otd : Int32} {opd : Int32} {osr : Int32} {odr : Int32} {oir : Int32} {oqr : Int32} {osf : Nat → Int32} {odf : Nat → Int32} {ojf : Nat → Int32} {oqf : Nat → Int32} {ct : Int32} {tpp : Int32} {kv : Nat → BV} {p1 : Int32} {p2 : Int32} {p3 : Int32} {res : Int32} {ir' : Int32} {df' : Nat → Int32} {jf' : Nat → Int32} {ct' : Int32} {tpp' : Int32} {kv' : Nat → BV} (hm : mX5_bill ho td pd sr dr ir qr sf df jf qf ct tpp kv p1 p2 p3 = some (res, ir', df', jf', ct', tpp', kv')) : Mu l D cI cB cL cK yX5_bill wsX5_bill rmX5_bill [.ref ha, .int p1, .int p2, .int p3] (wH cI cB cK ha a b ad pa hh hq kad lf us tf ho td pd sr dr ir qr sf df jf qf oho otd opd osr odr oir oqr osf odf ojf oqf ct tpp kv) (wH cI cB cK ha a b ad pa hh hq kad lf us tf ho td pd sr dr ir' qr sf df' jf' qf oho otd opd osr odr oir oqr osf odf ojf oqf ct' tpp' kv') (some (.int res)) 0 0 := by
  refine Mu.ofi (cc := cX5_bill) (own := RX5) (by decide) rfl rfl (Nat.le_of_ble_eq_true rfl) (fun p e s m below meth c ls Q A C hA hP hD hS hl hret => ?_)
  obtain ⟨hx, hb, hr, hml, hown, hts, hlk, hK⟩ := id C
  have hcf : CallFix p m c cX5_bill 5 s _ wsX5_bill RX5 := ⟨hx, hb, hml, hown, hts⟩
  have hl : lv_has ls 5 [(0, .ref ha), (1, .int p1), (2, .int p2), (3, .int p3)] := hl
  unfold mX5_bill at hm
  refine lv_aload_n hx hb dX5_bill_0 rfl (lv_at hl 0 rfl) ?_
  refine gf (q0 := 0) hx hb hts hown hK flX5_bill_19 hP rfl rfl dX5_bill_1 ?_
  refine gf (q0 := 3) hx hb hts hown hK flX5_bill_86 hP rfl rfl dX5_bill_4 ?_
  refine lv_iload_n hx hb dX5_bill_7 rfl (lv_at hl 1 rfl) ?_
  obtain ⟨v1, h_2, hm⟩ := b1_s hm
  refine rd_v hcf (kX3_has h_2) (cwX5_bill_X3_has hts) hK hP sH_d (ci := 3) (q0 := 6) rfl rfl rfl hl.1 rfl (Nat.le_of_ble_eq_true rfl) dX5_bill_8 ⟨Nat.zero_le _, Nat.zero_le _⟩ ?_
  refine lv_if_eq (tgt := 31) hx hb dX5_bill_11 (by decide) (fun c_3 => ?_) (fun c_3 => ?_)
  · replace hm := br_p hm c_3
    refine lv_iconst (v := (-1)) hx hb dX5_bill_31 (by decide) ?_
    cases hm
    exact hret _ _ _ _ dX5_bill_32 rfl hP hD hS
  · replace hm := br_n hm c_3
    refine lv_iload_n hx hb dX5_bill_14 rfl (lv_at hl 2 rfl) ?_
    obtain ⟨v4, h_5, hm⟩ := b1_s hm
    refine rd_s hcf (kX5_isSum h_5) (cwX5_bill_X5_isSum hts) hK hP Sb.nil rfl hl.1 rfl (Nat.le_of_ble_eq_true rfl) dX5_bill_15 ⟨Nat.zero_le _, Nat.zero_le _⟩ ?_
    refine lv_if_eq (tgt := 31) hx hb dX5_bill_18 (by decide) (fun c_6 => ?_) (fun c_6 => ?_)
    · replace hm := br_p hm c_6
      refine lv_iconst (v := (-1)) hx hb dX5_bill_31 (by decide) ?_
      cases hm
      exact hret _ _ _ _ dX5_bill_32 rfl hP hD hS
    · replace hm := br_n hm c_6
      refine lv_iload_n hx hb dX5_bill_21 rfl (lv_at hl 3 rfl) ?_
      refine lv_if_lt (tgt := 31) hx hb dX5_bill_22 (by decide) (fun c_7 => ?_) (fun c_7 => ?_)
      · replace hm := br_p hm c_7
        refine lv_iconst (v := (-1)) hx hb dX5_bill_31 (by decide) ?_
        cases hm
        exact hret _ _ _ _ dX5_bill_32 rfl hP hD hS
      · replace hm := br_n hm c_7
        refine lv_iload_n hx hb dX5_bill_25 rfl (lv_at hl 3 rfl) ?_
        refine lv_bipush (v := 99) hx hb dX5_bill_26 (by decide) ?_
        refine lv_icmp_le (tgt := 33) hx hb dX5_bill_28 (by decide) (fun c_8 => ?_) (fun c_8 => ?_)
        · replace hm := br_p hm c_8
          refine lv_aload_n hx hb dX5_bill_33 rfl (lv_at hl 0 rfl) ?_
          refine gf (q0 := 0) hx hb hts hown hK flX5_bill_19 hP rfl rfl dX5_bill_34 ?_
          refine gf (q0 := 3) hx hb hts hown hK flX5_bill_89 hP rfl rfl dX5_bill_37 ?_
          obtain ⟨v9, h_10, hm⟩ := b1_s hm
          refine rd_v hcf (kX3_isFull h_10) (cwX5_bill_X3_isFull hts) hK hP sH_j (ci := 3) (q0 := 8) rfl rfl rfl hl.1 rfl (Nat.le_of_ble_eq_true rfl) dX5_bill_40 ⟨Nat.zero_le _, Nat.zero_le _⟩ ?_
          refine lv_if_eq (tgt := 49) hx hb dX5_bill_43 (by decide) (fun c_11 => ?_) (fun c_11 => ?_)
          · replace hm := br_p hm c_11
            refine lv_aload_n hx hb dX5_bill_49 rfl (lv_at hl 0 rfl) ?_
            refine gf (q0 := 0) hx hb hts hown hK flX5_bill_29 hP rfl rfl dX5_bill_50 ?_
            refine lv_aload_n hx hb dX5_bill_53 rfl (lv_at hl 0 rfl) ?_
            refine gf (q0 := 0) hx hb hts hown hK flX5_bill_19 hP rfl rfl dX5_bill_54 ?_
            obtain ⟨ct12, tpp13, kv14, h_15, hm⟩ := b3_s hm
            refine mu_vv hcf (kX1_keep h_15) (cwX5_bill_X1_keep hts) hK hP hD hS hA jH_hs (ci := 1) (q0 := 21) rfl rfl rfl hl.1 rfl (Nat.le_of_ble_eq_true rfl) dX5_bill_57 ⟨Nat.zero_le _, Nat.zero_le _⟩ (fun H locs hP hD hS => ?_)
            refine lv_aload_n hx hb dX5_bill_60 rfl (lv_at hl 0 rfl) ?_
            refine gf (q0 := 0) hx hb hts hown hK flX5_bill_19 hP rfl rfl dX5_bill_61 ?_
            refine lv_iload_n hx hb dX5_bill_64 rfl (lv_at hl 1 rfl) ?_
            refine lv_iload_n hx hb dX5_bill_65 rfl (lv_at hl 2 rfl) ?_
            refine lv_aload_n hx hb dX5_bill_66 rfl (lv_at hl 0 rfl) ?_
            refine gf (q0 := 0) hx hb hts hown hK flX5_bill_19 hP rfl rfl dX5_bill_67 ?_
            refine gf (q0 := 3) hx hb hts hown hK flX5_bill_74 hP rfl rfl dX5_bill_70 ?_
            refine lv_iload_n hx hb dX5_bill_73 rfl (lv_at hl 3 rfl) ?_
            refine lv_iadd hx hb dX5_bill_74 ?_
            refine lv_iconst (v := 0) hx hb dX5_bill_75 (by decide) ?_
            obtain ⟨v16, ir17, jf18, h_19, hm⟩ := b3_s hm
            refine mu_vi hcf (kX0_addInvoice h_19) (cwX5_bill_X0_addInvoice hts) hK hP hD hS hA jH_b (ci := 0) (q0 := 3) rfl rfl rfl hl.1 rfl (Nat.le_of_ble_eq_true rfl) dX5_bill_76 ⟨Nat.zero_le _, Nat.zero_le _⟩ (fun H locs hP hD hS => ?_)
            refine lv_istore (lv' := [(4, .int v16), (0, .ref ha), (1, .int p1), (2, .int p2), (3, .int p3)]) hx hb dX5_bill_79 hl (by decide) rfl (fun ls hl => ?_)
            refine lv_aload_n hx hb dX5_bill_81 rfl (lv_at hl 1 rfl) ?_
            refine gf (q0 := 0) hx hb hts hown hK flX5_bill_19 hP rfl rfl dX5_bill_82 ?_
            refine lv_iload_n hx hb dX5_bill_85 rfl (lv_at hl 2 rfl) ?_
            obtain ⟨df20, jf21, h_22, hm⟩ := b2_s hm
            refine mu_vv hcf (kX0_placeCash h_22) (cwX5_bill_X0_placeCash hts) hK hP hD hS hA jH_b (ci := 0) (q0 := 3) rfl rfl rfl hl.1 rfl (Nat.le_of_ble_eq_true rfl) dX5_bill_86 ⟨Nat.zero_le _, Nat.zero_le _⟩ (fun H locs hP hD hS => ?_)
            refine lv_iload hx hb dX5_bill_89 (lv_at hl 0 rfl) ?_
            cases hm
            exact hret _ _ _ _ dX5_bill_91 rfl hP hD hS
          · replace hm := br_n hm c_11
            refine lv_bipush (v := (-2)) hx hb dX5_bill_46 (by decide) ?_
            cases hm
            exact hret _ _ _ _ dX5_bill_48 rfl hP hD hS
        · replace hm := br_n hm c_8
          refine lv_iconst (v := (-1)) hx hb dX5_bill_31 (by decide) ?_
          cases hm
          exact hret _ _ _ _ dX5_bill_32 rfl hP hD hS
/-! X5 pay(II)I -/
abbrev rmX5_pay : Room := { frames := 6, cells := 0, slots := 0, locals := 136 }
theorem hdX5_pay : yX5_pay.cls = RX5 ∧ yX5_pay.cls ≠ "java/lang/invoke/MethodHandle" ∧ yX5_pay.cls ≠ "java/lang/invoke/VarHandle" ∧ (parseMethodDescriptor yX5_pay.desc).map (fun d => d.parameters.length) = some 2 := by decide +kernel
theorem inX5_pay_X0 : ∀ w ∈ u_ws RX0 TX0 7, w ∈ wsX5_pay := by decide +kernel
theorem inX5_pay_X5 : ∀ w ∈ u_ws RX5 TX5 5, w ∈ wsX5_pay := by decide +kernel
theorem cwX5_pay_X0_receive {s : State} {args : Array Value} (hts : ∀ w ∈ wsX5_pay, w.before args s = true) : CallW rmX5_pay s args RX5 RX0 166 yX0_receive cX0_receive 3 (some .int) wsX0_receive rmX0_receive 0 0 2 := cwV 2 hts gX5_pay_X0_receive rfl rfl rfl hdX0_receive ⟨Nat.le_of_ble_eq_true rfl, Nat.le_of_ble_eq_true rfl⟩
theorem cwX5_pay_X1_keep {s : State} {args : Array Value} (hts : ∀ w ∈ wsX5_pay, w.before args s = true) : CallW rmX5_pay s args RX5 RX1 175 yX1_keep cX1_keep 2 none wsX1_keep rmX1_keep 0 0 1 := cwV 1 hts gX5_pay_X1_keep rfl rfl rfl hdX1_keep ⟨Nat.le_of_ble_eq_true rfl, Nat.le_of_ble_eq_true rfl⟩
theorem cwX5_pay_X3_get {s : State} {args : Array Value} (hts : ∀ w ∈ wsX5_pay, w.before args s = true) : CallW rmX5_pay s args RX5 RX3 108 yX3_get cX3_get 4 (some .int) wsX3_get rmX3_get 0 0 2 := cwV 2 hts gX5_pay_X3_get rfl rfl rfl hdX3_get ⟨Nat.le_of_ble_eq_true rfl, Nat.le_of_ble_eq_true rfl⟩
theorem cwX5_pay_X5_mayPay {s : State} {args : Array Value} (hts : ∀ w ∈ wsX5_pay, w.before args s = true) : CallW rmX5_pay s args RX5 RX5 162 yX5_mayPay cX5_mayPay 3 (some .boolean) wsX5_mayPay rmX5_mayPay 0 0 2 := cwV 2 hts gX5_pay_X5_mayPay rfl rfl rfl hdX5_mayPay ⟨Nat.le_of_ble_eq_true rfl, Nat.le_of_ble_eq_true rfl⟩
theorem flX5_pay_19 : Fl wsX5_pay RX5 19 5 1 := ⟨_, _, _, rfl, by decide, inX5_pay_X5, by decide +kernel⟩
theorem flX5_pay_29 : Fl wsX5_pay RX5 29 5 3 := ⟨_, _, _, rfl, by decide, inX5_pay_X5, by decide +kernel⟩
theorem flX5_pay_86 : Fl wsX5_pay RX5 86 0 1 := ⟨_, _, _, rfl, by decide, inX5_pay_X0, by decide +kernel⟩
set_option maxRecDepth 100000 in
set_option maxHeartbeats 4000000 in
theorem kX5_pay {l : Launch} {D : va_G} {cI cB cL cK : ClassId} {ha : Nat} {a : Nat} {b : Nat} {ad : Nat → Nat} {pa : Nat → Nat} {hh : Nat} {hq : Nat} {kad : Nat → Nat → Nat} {lf : Int32} {us : Int32} {tf : Nat → Int32} {ho : Int32} {td : Int32} {pd : Int32} {sr : Int32} {dr : Int32} {ir : Int32} {qr : Int32} {sf : Nat → Int32} {df : Nat → Int32} {jf : Nat → Int32} {qf : Nat → Int32} {oho : Int32} {otd : Int32} {opd : Int32} {osr : Int32} {odr : Int32} {oir : Int32} {oqr : Int32} {osf : Nat → Int32} {odf : Nat → Int32} {ojf : Nat → Int32} {oqf : Nat → Int32} {ct : Int32} {tpp : Int32} {kv : Nat → BV} {p1 : Int32} {p2 : Int32} {res : Int32} {pd' : Int32} {df' : Nat → Int32} {jf' : Nat → Int32} {qf' : Nat → Int32} {ct' : Int32} {tpp' : Int32} {kv' : Nat → BV} (hm : mX5_pay ho td pd sr dr ir qr sf df jf qf ct tpp kv p1 p2 = some (res, pd', df', jf', qf', ct', tpp', kv')) : Mu l D cI cB cL cK yX5_pay wsX5_pay rmX5_pay [.ref ha, .int p1, .int p2] (wH cI cB cK ha a b ad pa hh hq kad lf us tf ho td pd sr dr ir qr sf df jf qf oho otd opd osr odr oir oqr osf odf ojf oqf ct tpp kv) (wH cI cB cK ha a b ad pa hh hq kad lf us tf ho td pd' sr dr ir qr sf df' jf' qf' oho otd opd osr odr oir oqr osf odf ojf oqf ct' tpp' kv') (some (.int res)) 0 0 := by
  refine Mu.ofi (cc := cX5_pay) (own := RX5) (by decide) rfl rfl (Nat.le_of_ble_eq_true rfl) (fun p e s m below meth c ls Q A C hA hP hD hS hl hret => ?_)
  obtain ⟨hx, hb, hr, hml, hown, hts, hlk, hK⟩ := id C
  have hcf : CallFix p m c cX5_pay 3 s _ wsX5_pay RX5 := ⟨hx, hb, hml, hown, hts⟩
  have hl : lv_has ls 3 [(0, .ref ha), (1, .int p1), (2, .int p2)] := hl
  unfold mX5_pay at hm
  refine lv_aload_n hx hb dX5_pay_0 rfl (lv_at hl 0 rfl) ?_
  refine lv_iload_n hx hb dX5_pay_1 rfl (lv_at hl 1 rfl) ?_
  refine lv_iload_n hx hb dX5_pay_2 rfl (lv_at hl 2 rfl) ?_
  obtain ⟨v1, h_2, hm⟩ := b1_s hm
  refine rd_v hcf (kX5_mayPay h_2) (cwX5_pay_X5_mayPay hts) hK hP Sb.rf (ci := 5) (q0 := 0) rfl rfl rfl hl.1 rfl (Nat.le_of_ble_eq_true rfl) dX5_pay_3 ⟨Nat.zero_le _, Nat.zero_le _⟩ ?_
  refine lv_if_ne (tgt := 11) hx hb dX5_pay_6 (by decide) (fun c_3 => ?_) (fun c_3 => ?_)
  · replace hm := br_n hm c_3
    refine lv_aload_n hx hb dX5_pay_11 rfl (lv_at hl 0 rfl) ?_
    refine gf (q0 := 0) hx hb hts hown hK flX5_pay_29 hP rfl rfl dX5_pay_12 ?_
    refine lv_aload_n hx hb dX5_pay_15 rfl (lv_at hl 0 rfl) ?_
    refine gf (q0 := 0) hx hb hts hown hK flX5_pay_19 hP rfl rfl dX5_pay_16 ?_
    obtain ⟨ct4, tpp5, kv6, h_7, hm⟩ := b3_s hm
    refine mu_vv hcf (kX1_keep h_7) (cwX5_pay_X1_keep hts) hK hP hD hS hA jH_hs (ci := 1) (q0 := 21) rfl rfl rfl hl.1 rfl (Nat.le_of_ble_eq_true rfl) dX5_pay_19 ⟨Nat.zero_le _, Nat.zero_le _⟩ (fun H locs hP hD hS => ?_)
    refine lv_aload_n hx hb dX5_pay_22 rfl (lv_at hl 0 rfl) ?_
    refine gf (q0 := 0) hx hb hts hown hK flX5_pay_19 hP rfl rfl dX5_pay_23 ?_
    refine lv_iload_n hx hb dX5_pay_26 rfl (lv_at hl 1 rfl) ?_
    refine lv_iload_n hx hb dX5_pay_27 rfl (lv_at hl 2 rfl) ?_
    obtain ⟨v8, pd9, df10, jf11, qf12, h_13, hm⟩ := b5_s hm
    refine mu_vi hcf (kX0_receive h_13) (cwX5_pay_X0_receive hts) hK hP hD hS hA jH_b (ci := 0) (q0 := 3) rfl rfl rfl hl.1 rfl (Nat.le_of_ble_eq_true rfl) dX5_pay_28 ⟨Nat.zero_le _, Nat.zero_le _⟩ (fun H locs hP hD hS => ?_)
    refine lv_pop hx hb dX5_pay_31 rfl ?_
    refine lv_aload_n hx hb dX5_pay_32 rfl (lv_at hl 0 rfl) ?_
    refine gf (q0 := 0) hx hb hts hown hK flX5_pay_19 hP rfl rfl dX5_pay_33 ?_
    refine gf (q0 := 3) hx hb hts hown hK flX5_pay_86 hP rfl rfl dX5_pay_36 ?_
    refine lv_iload_n hx hb dX5_pay_39 rfl (lv_at hl 1 rfl) ?_
    refine lv_iconst (v := 2) hx hb dX5_pay_40 (by decide) ?_
    obtain ⟨v14, h_15, hm⟩ := b1_s hm
    refine rd_v hcf (kX3_get h_15) (cwX5_pay_X3_get hts) hK hP sH_d (ci := 3) (q0 := 6) rfl rfl rfl hl.1 rfl (Nat.le_of_ble_eq_true rfl) dX5_pay_41 ⟨Nat.zero_le _, Nat.zero_le _⟩ ?_
    cases hm
    exact hret _ _ _ _ dX5_pay_44 rfl hP hD hS
  · replace hm := br_p hm c_3
    refine lv_iconst (v := (-1)) hx hb dX5_pay_9 (by decide) ?_
    cases hm
    exact hret _ _ _ _ dX5_pay_10 rfl hP hD hS
/-! X5 dispute(I)Z -/
abbrev rmX5_dispute : Room := { frames := 4, cells := 0, slots := 0, locals := 124 }
theorem hdX5_dispute : yX5_dispute.cls = RX5 ∧ yX5_dispute.cls ≠ "java/lang/invoke/MethodHandle" ∧ yX5_dispute.cls ≠ "java/lang/invoke/VarHandle" ∧ (parseMethodDescriptor yX5_dispute.desc).map (fun d => d.parameters.length) = some 1 := by decide +kernel
theorem inX5_dispute_X0 : ∀ w ∈ u_ws RX0 TX0 7, w ∈ wsX5_dispute := by decide +kernel
theorem inX5_dispute_X5 : ∀ w ∈ u_ws RX5 TX5 5, w ∈ wsX5_dispute := by decide +kernel
theorem cwX5_dispute_X0_hasPlan {s : State} {args : Array Value} (hts : ∀ w ∈ wsX5_dispute, w.before args s = true) : CallW rmX5_dispute s args RX5 RX0 143 yX0_hasPlan cX0_hasPlan 2 (some .boolean) wsX0_hasPlan rmX0_hasPlan 0 0 1 := cwV 1 hts gX5_dispute_X0_hasPlan rfl rfl rfl hdX0_hasPlan ⟨Nat.le_of_ble_eq_true rfl, Nat.le_of_ble_eq_true rfl⟩
theorem cwX5_dispute_X1_keep {s : State} {args : Array Value} (hts : ∀ w ∈ wsX5_dispute, w.before args s = true) : CallW rmX5_dispute s args RX5 RX1 175 yX1_keep cX1_keep 2 none wsX1_keep rmX1_keep 0 0 1 := cwV 1 hts gX5_dispute_X1_keep rfl rfl rfl hdX1_keep ⟨Nat.le_of_ble_eq_true rfl, Nat.le_of_ble_eq_true rfl⟩
theorem cwX5_dispute_X3_get {s : State} {args : Array Value} (hts : ∀ w ∈ wsX5_dispute, w.before args s = true) : CallW rmX5_dispute s args RX5 RX3 108 yX3_get cX3_get 4 (some .int) wsX3_get rmX3_get 0 0 2 := cwV 2 hts gX5_dispute_X3_get rfl rfl rfl hdX3_get ⟨Nat.le_of_ble_eq_true rfl, Nat.le_of_ble_eq_true rfl⟩
theorem cwX5_dispute_X3_has {s : State} {args : Array Value} (hts : ∀ w ∈ wsX5_dispute, w.before args s = true) : CallW rmX5_dispute s args RX5 RX3 112 yX3_has cX3_has 2 (some .boolean) wsX3_has rmX3_has 0 0 1 := cwV 1 hts gX5_dispute_X3_has rfl rfl rfl hdX3_has ⟨Nat.le_of_ble_eq_true rfl, Nat.le_of_ble_eq_true rfl⟩
theorem cwX5_dispute_X3_set {s : State} {args : Array Value} (hts : ∀ w ∈ wsX5_dispute, w.before args s = true) : CallW rmX5_dispute s args RX5 RX3 185 yX3_set cX3_set 5 none wsX3_set rmX3_set 0 0 3 := cwV 3 hts gX5_dispute_X3_set rfl rfl rfl hdX3_set ⟨Nat.le_of_ble_eq_true rfl, Nat.le_of_ble_eq_true rfl⟩
theorem flX5_dispute_19 : Fl wsX5_dispute RX5 19 5 1 := ⟨_, _, _, rfl, by decide, inX5_dispute_X5, by decide +kernel⟩
theorem flX5_dispute_29 : Fl wsX5_dispute RX5 29 5 3 := ⟨_, _, _, rfl, by decide, inX5_dispute_X5, by decide +kernel⟩
theorem flX5_dispute_89 : Fl wsX5_dispute RX5 89 0 2 := ⟨_, _, _, rfl, by decide, inX5_dispute_X0, by decide +kernel⟩
set_option maxRecDepth 100000 in
set_option maxHeartbeats 4000000 in
theorem kX5_dispute {l : Launch} {D : va_G} {cI cB cL cK : ClassId} {ha : Nat} {a : Nat} {b : Nat} {ad : Nat → Nat} {pa : Nat → Nat} {hh : Nat} {hq : Nat} {kad : Nat → Nat → Nat} {lf : Int32} {us : Int32} {tf : Nat → Int32} {ho : Int32} {td : Int32} {pd : Int32} {sr : Int32} {dr : Int32} {ir : Int32} {qr : Int32} {sf : Nat → Int32} {df : Nat → Int32} {jf : Nat → Int32} {qf : Nat → Int32} {oho : Int32} {otd : Int32} {opd : Int32} {osr : Int32} {odr : Int32} {oir : Int32} {oqr : Int32} {osf : Nat → Int32} {odf : Nat → Int32} {ojf : Nat → Int32} {oqf : Nat → Int32} {ct : Int32} {tpp : Int32} {kv : Nat → BV} {p1 : Int32} {res : Int32} {jf' : Nat → Int32} {ct' : Int32} {tpp' : Int32} {kv' : Nat → BV} (hm : mX5_dispute ho td pd sr dr ir qr sf df jf qf ct tpp kv p1 = some (res, jf', ct', tpp', kv')) : Mu l D cI cB cL cK yX5_dispute wsX5_dispute rmX5_dispute [.ref ha, .int p1] (wH cI cB cK ha a b ad pa hh hq kad lf us tf ho td pd sr dr ir qr sf df jf qf oho otd opd osr odr oir oqr osf odf ojf oqf ct tpp kv) (wH cI cB cK ha a b ad pa hh hq kad lf us tf ho td pd sr dr ir qr sf df jf' qf oho otd opd osr odr oir oqr osf odf ojf oqf ct' tpp' kv') (some (.int res)) 0 0 := by
  refine Mu.ofi (cc := cX5_dispute) (own := RX5) (by decide) rfl rfl (Nat.le_of_ble_eq_true rfl) (fun p e s m below meth c ls Q A C hA hP hD hS hl hret => ?_)
  obtain ⟨hx, hb, hr, hml, hown, hts, hlk, hK⟩ := id C
  have hcf : CallFix p m c cX5_dispute 2 s _ wsX5_dispute RX5 := ⟨hx, hb, hml, hown, hts⟩
  have hl : lv_has ls 2 [(0, .ref ha), (1, .int p1)] := hl
  unfold mX5_dispute at hm
  refine lv_aload_n hx hb dX5_dispute_0 rfl (lv_at hl 0 rfl) ?_
  refine gf (q0 := 0) hx hb hts hown hK flX5_dispute_19 hP rfl rfl dX5_dispute_1 ?_
  refine gf (q0 := 3) hx hb hts hown hK flX5_dispute_89 hP rfl rfl dX5_dispute_4 ?_
  refine lv_iload_n hx hb dX5_dispute_7 rfl (lv_at hl 1 rfl) ?_
  obtain ⟨v1, h_2, hm⟩ := b1_s hm
  refine rd_v hcf (kX3_has h_2) (cwX5_dispute_X3_has hts) hK hP sH_j (ci := 3) (q0 := 8) rfl rfl rfl hl.1 rfl (Nat.le_of_ble_eq_true rfl) dX5_dispute_8 ⟨Nat.zero_le _, Nat.zero_le _⟩ ?_
  refine lv_if_eq (tgt := 67) hx hb dX5_dispute_11 (by decide) (fun c_3 => ?_) (fun c_3 => ?_)
  · replace hm := br_p hm c_3
    refine lv_iconst (v := 0) hx hb dX5_dispute_67 (by decide) ?_
    cases hm
    exact hret _ _ _ _ dX5_dispute_68 rfl hP hD hS
  · replace hm := br_n hm c_3
    refine lv_aload_n hx hb dX5_dispute_14 rfl (lv_at hl 0 rfl) ?_
    refine gf (q0 := 0) hx hb hts hown hK flX5_dispute_19 hP rfl rfl dX5_dispute_15 ?_
    refine gf (q0 := 3) hx hb hts hown hK flX5_dispute_89 hP rfl rfl dX5_dispute_18 ?_
    refine lv_iload_n hx hb dX5_dispute_21 rfl (lv_at hl 1 rfl) ?_
    refine lv_iconst (v := 2) hx hb dX5_dispute_22 (by decide) ?_
    obtain ⟨v4, h_5, hm⟩ := b1_s hm
    refine rd_v hcf (kX3_get h_5) (cwX5_dispute_X3_get hts) hK hP sH_j (ci := 3) (q0 := 8) rfl rfl rfl hl.1 rfl (Nat.le_of_ble_eq_true rfl) dX5_dispute_23 ⟨Nat.zero_le _, Nat.zero_le _⟩ ?_
    refine lv_if_eq (tgt := 67) hx hb dX5_dispute_26 (by decide) (fun c_6 => ?_) (fun c_6 => ?_)
    · replace hm := br_p hm c_6
      refine lv_iconst (v := 0) hx hb dX5_dispute_67 (by decide) ?_
      cases hm
      exact hret _ _ _ _ dX5_dispute_68 rfl hP hD hS
    · replace hm := br_n hm c_6
      refine lv_aload_n hx hb dX5_dispute_29 rfl (lv_at hl 0 rfl) ?_
      refine gf (q0 := 0) hx hb hts hown hK flX5_dispute_19 hP rfl rfl dX5_dispute_30 ?_
      refine gf (q0 := 3) hx hb hts hown hK flX5_dispute_89 hP rfl rfl dX5_dispute_33 ?_
      refine lv_iload_n hx hb dX5_dispute_36 rfl (lv_at hl 1 rfl) ?_
      refine lv_iconst (v := 5) hx hb dX5_dispute_37 (by decide) ?_
      obtain ⟨v7, h_8, hm⟩ := b1_s hm
      refine rd_v hcf (kX3_get h_8) (cwX5_dispute_X3_get hts) hK hP sH_j (ci := 3) (q0 := 8) rfl rfl rfl hl.1 rfl (Nat.le_of_ble_eq_true rfl) dX5_dispute_38 ⟨Nat.zero_le _, Nat.zero_le _⟩ ?_
      refine lv_iconst (v := 1) hx hb dX5_dispute_41 (by decide) ?_
      refine lv_icmp_eq (tgt := 67) hx hb dX5_dispute_42 (by decide) (fun c_9 => ?_) (fun c_9 => ?_)
      · replace hm := br_p hm c_9
        refine lv_iconst (v := 0) hx hb dX5_dispute_67 (by decide) ?_
        cases hm
        exact hret _ _ _ _ dX5_dispute_68 rfl hP hD hS
      · replace hm := br_n hm c_9
        refine lv_aload_n hx hb dX5_dispute_45 rfl (lv_at hl 0 rfl) ?_
        refine gf (q0 := 0) hx hb hts hown hK flX5_dispute_19 hP rfl rfl dX5_dispute_46 ?_
        refine lv_aload_n hx hb dX5_dispute_49 rfl (lv_at hl 0 rfl) ?_
        refine gf (q0 := 0) hx hb hts hown hK flX5_dispute_19 hP rfl rfl dX5_dispute_50 ?_
        refine gf (q0 := 3) hx hb hts hown hK flX5_dispute_89 hP rfl rfl dX5_dispute_53 ?_
        refine lv_iload_n hx hb dX5_dispute_56 rfl (lv_at hl 1 rfl) ?_
        refine lv_iconst (v := 0) hx hb dX5_dispute_57 (by decide) ?_
        obtain ⟨v10, h_11, hm⟩ := b1_s hm
        refine rd_v hcf (kX3_get h_11) (cwX5_dispute_X3_get hts) hK hP sH_j (ci := 3) (q0 := 8) rfl rfl rfl hl.1 rfl (Nat.le_of_ble_eq_true rfl) dX5_dispute_58 ⟨Nat.zero_le _, Nat.zero_le _⟩ ?_
        obtain ⟨v12, h_13, hm⟩ := b1_s hm
        refine rd_v hcf (kX0_hasPlan h_13) (cwX5_dispute_X0_hasPlan hts) hK hP sH_b (ci := 0) (q0 := 3) rfl rfl rfl hl.1 rfl (Nat.le_of_ble_eq_true rfl) dX5_dispute_61 ⟨Nat.zero_le _, Nat.zero_le _⟩ ?_
        refine lv_if_eq (tgt := 69) hx hb dX5_dispute_64 (by decide) (fun c_14 => ?_) (fun c_14 => ?_)
        · replace hm := br_p hm c_14
          refine lv_aload_n hx hb dX5_dispute_69 rfl (lv_at hl 0 rfl) ?_
          refine gf (q0 := 0) hx hb hts hown hK flX5_dispute_29 hP rfl rfl dX5_dispute_70 ?_
          refine lv_aload_n hx hb dX5_dispute_73 rfl (lv_at hl 0 rfl) ?_
          refine gf (q0 := 0) hx hb hts hown hK flX5_dispute_19 hP rfl rfl dX5_dispute_74 ?_
          obtain ⟨ct15, tpp16, kv17, h_18, hm⟩ := b3_s hm
          refine mu_vv hcf (kX1_keep h_18) (cwX5_dispute_X1_keep hts) hK hP hD hS hA jH_hs (ci := 1) (q0 := 21) rfl rfl rfl hl.1 rfl (Nat.le_of_ble_eq_true rfl) dX5_dispute_77 ⟨Nat.zero_le _, Nat.zero_le _⟩ (fun H locs hP hD hS => ?_)
          refine lv_aload_n hx hb dX5_dispute_80 rfl (lv_at hl 0 rfl) ?_
          refine gf (q0 := 0) hx hb hts hown hK flX5_dispute_19 hP rfl rfl dX5_dispute_81 ?_
          refine gf (q0 := 3) hx hb hts hown hK flX5_dispute_89 hP rfl rfl dX5_dispute_84 ?_
          refine lv_iload_n hx hb dX5_dispute_87 rfl (lv_at hl 1 rfl) ?_
          refine lv_iconst (v := 5) hx hb dX5_dispute_88 (by decide) ?_
          refine lv_iconst (v := 1) hx hb dX5_dispute_89 (by decide) ?_
          obtain ⟨jf19, h_20, hm⟩ := b1_s hm
          refine mu_vv hcf (kX3_set h_20) (cwX5_dispute_X3_set hts) hK hP hD hS hA jH_j (ci := 3) (q0 := 8) rfl rfl rfl hl.1 rfl (Nat.le_of_ble_eq_true rfl) dX5_dispute_90 ⟨Nat.zero_le _, Nat.zero_le _⟩ (fun H locs hP hD hS => ?_)
          refine lv_iconst (v := 1) hx hb dX5_dispute_93 (by decide) ?_
          cases hm
          exact hret _ _ _ _ dX5_dispute_94 rfl hP hD hS
        · replace hm := br_n hm c_14
          refine lv_iconst (v := 0) hx hb dX5_dispute_67 (by decide) ?_
          cases hm
          exact hret _ _ _ _ dX5_dispute_68 rfl hP hD hS
/-! X5 settle(II)I -/
abbrev rmX5_settle : Room := { frames := 6, cells := 0, slots := 0, locals := 137 }
theorem hdX5_settle : yX5_settle.cls = RX5 ∧ yX5_settle.cls ≠ "java/lang/invoke/MethodHandle" ∧ yX5_settle.cls ≠ "java/lang/invoke/VarHandle" ∧ (parseMethodDescriptor yX5_settle.desc).map (fun d => d.parameters.length) = some 2 := by decide +kernel
theorem inX5_settle_X0 : ∀ w ∈ u_ws RX0 TX0 7, w ∈ wsX5_settle := by decide +kernel
theorem inX5_settle_X5 : ∀ w ∈ u_ws RX5 TX5 5, w ∈ wsX5_settle := by decide +kernel
theorem cwX5_settle_X0_takeOff {s : State} {args : Array Value} (hts : ∀ w ∈ wsX5_settle, w.before args s = true) : CallW rmX5_settle s args RX5 RX0 189 yX0_takeOff cX0_takeOff 4 none wsX0_takeOff rmX0_takeOff 0 0 2 := cwV 2 hts gX5_settle_X0_takeOff rfl rfl rfl hdX0_takeOff ⟨Nat.le_of_ble_eq_true rfl, Nat.le_of_ble_eq_true rfl⟩
theorem cwX5_settle_X1_keep {s : State} {args : Array Value} (hts : ∀ w ∈ wsX5_settle, w.before args s = true) : CallW rmX5_settle s args RX5 RX1 175 yX1_keep cX1_keep 2 none wsX1_keep rmX1_keep 0 0 1 := cwV 1 hts gX5_settle_X1_keep rfl rfl rfl hdX1_keep ⟨Nat.le_of_ble_eq_true rfl, Nat.le_of_ble_eq_true rfl⟩
theorem cwX5_settle_X3_get {s : State} {args : Array Value} (hts : ∀ w ∈ wsX5_settle, w.before args s = true) : CallW rmX5_settle s args RX5 RX3 108 yX3_get cX3_get 4 (some .int) wsX3_get rmX3_get 0 0 2 := cwV 2 hts gX5_settle_X3_get rfl rfl rfl hdX3_get ⟨Nat.le_of_ble_eq_true rfl, Nat.le_of_ble_eq_true rfl⟩
theorem cwX5_settle_X3_has {s : State} {args : Array Value} (hts : ∀ w ∈ wsX5_settle, w.before args s = true) : CallW rmX5_settle s args RX5 RX3 112 yX3_has cX3_has 2 (some .boolean) wsX3_has rmX3_has 0 0 1 := cwV 1 hts gX5_settle_X3_has rfl rfl rfl hdX3_has ⟨Nat.le_of_ble_eq_true rfl, Nat.le_of_ble_eq_true rfl⟩
theorem flX5_settle_19 : Fl wsX5_settle RX5 19 5 1 := ⟨_, _, _, rfl, by decide, inX5_settle_X5, by decide +kernel⟩
theorem flX5_settle_29 : Fl wsX5_settle RX5 29 5 3 := ⟨_, _, _, rfl, by decide, inX5_settle_X5, by decide +kernel⟩
theorem flX5_settle_89 : Fl wsX5_settle RX5 89 0 2 := ⟨_, _, _, rfl, by decide, inX5_settle_X0, by decide +kernel⟩
set_option maxRecDepth 100000 in
set_option maxHeartbeats 4000000 in
theorem kX5_settle {l : Launch} {D : va_G} {cI cB cL cK : ClassId} {ha : Nat} {a : Nat} {b : Nat} {ad : Nat → Nat} {pa : Nat → Nat} {hh : Nat} {hq : Nat} {kad : Nat → Nat → Nat} {lf : Int32} {us : Int32} {tf : Nat → Int32} {ho : Int32} {td : Int32} {pd : Int32} {sr : Int32} {dr : Int32} {ir : Int32} {qr : Int32} {sf : Nat → Int32} {df : Nat → Int32} {jf : Nat → Int32} {qf : Nat → Int32} {oho : Int32} {otd : Int32} {opd : Int32} {osr : Int32} {odr : Int32} {oir : Int32} {oqr : Int32} {osf : Nat → Int32} {odf : Nat → Int32} {ojf : Nat → Int32} {oqf : Nat → Int32} {ct : Int32} {tpp : Int32} {kv : Nat → BV} {p1 : Int32} {p2 : Int32} {res : Int32} {df' : Nat → Int32} {jf' : Nat → Int32} {qf' : Nat → Int32} {ct' : Int32} {tpp' : Int32} {kv' : Nat → BV} (hm : mX5_settle ho td pd sr dr ir qr sf df jf qf ct tpp kv p1 p2 = some (res, df', jf', qf', ct', tpp', kv')) : Mu l D cI cB cL cK yX5_settle wsX5_settle rmX5_settle [.ref ha, .int p1, .int p2] (wH cI cB cK ha a b ad pa hh hq kad lf us tf ho td pd sr dr ir qr sf df jf qf oho otd opd osr odr oir oqr osf odf ojf oqf ct tpp kv) (wH cI cB cK ha a b ad pa hh hq kad lf us tf ho td pd sr dr ir qr sf df' jf' qf' oho otd opd osr odr oir oqr osf odf ojf oqf ct' tpp' kv') (some (.int res)) 0 0 := by
  refine Mu.ofi (cc := cX5_settle) (own := RX5) (by decide) rfl rfl (Nat.le_of_ble_eq_true rfl) (fun p e s m below meth c ls Q A C hA hP hD hS hl hret => ?_)
  obtain ⟨hx, hb, hr, hml, hown, hts, hlk, hK⟩ := id C
  have hcf : CallFix p m c cX5_settle 3 s _ wsX5_settle RX5 := ⟨hx, hb, hml, hown, hts⟩
  have hl : lv_has ls 3 [(0, .ref ha), (1, .int p1), (2, .int p2)] := hl
  unfold mX5_settle at hm
  refine lv_aload_n hx hb dX5_settle_0 rfl (lv_at hl 0 rfl) ?_
  refine gf (q0 := 0) hx hb hts hown hK flX5_settle_19 hP rfl rfl dX5_settle_1 ?_
  refine gf (q0 := 3) hx hb hts hown hK flX5_settle_89 hP rfl rfl dX5_settle_4 ?_
  refine lv_iload_n hx hb dX5_settle_7 rfl (lv_at hl 1 rfl) ?_
  obtain ⟨v1, h_2, hm⟩ := b1_s hm
  refine rd_v hcf (kX3_has h_2) (cwX5_settle_X3_has hts) hK hP sH_j (ci := 3) (q0 := 8) rfl rfl rfl hl.1 rfl (Nat.le_of_ble_eq_true rfl) dX5_settle_8 ⟨Nat.zero_le _, Nat.zero_le _⟩ ?_
  refine lv_if_eq (tgt := 49) hx hb dX5_settle_11 (by decide) (fun c_3 => ?_) (fun c_3 => ?_)
  · replace hm := br_p hm c_3
    refine lv_iconst (v := (-1)) hx hb dX5_settle_49 (by decide) ?_
    cases hm
    exact hret _ _ _ _ dX5_settle_50 rfl hP hD hS
  · replace hm := br_n hm c_3
    refine lv_aload_n hx hb dX5_settle_14 rfl (lv_at hl 0 rfl) ?_
    refine gf (q0 := 0) hx hb hts hown hK flX5_settle_19 hP rfl rfl dX5_settle_15 ?_
    refine gf (q0 := 3) hx hb hts hown hK flX5_settle_89 hP rfl rfl dX5_settle_18 ?_
    refine lv_iload_n hx hb dX5_settle_21 rfl (lv_at hl 1 rfl) ?_
    refine lv_iconst (v := 5) hx hb dX5_settle_22 (by decide) ?_
    obtain ⟨v4, h_5, hm⟩ := b1_s hm
    refine rd_v hcf (kX3_get h_5) (cwX5_settle_X3_get hts) hK hP sH_j (ci := 3) (q0 := 8) rfl rfl rfl hl.1 rfl (Nat.le_of_ble_eq_true rfl) dX5_settle_23 ⟨Nat.zero_le _, Nat.zero_le _⟩ ?_
    refine lv_if_eq (tgt := 49) hx hb dX5_settle_26 (by decide) (fun c_6 => ?_) (fun c_6 => ?_)
    · replace hm := br_p hm c_6
      refine lv_iconst (v := (-1)) hx hb dX5_settle_49 (by decide) ?_
      cases hm
      exact hret _ _ _ _ dX5_settle_50 rfl hP hD hS
    · replace hm := br_n hm c_6
      refine lv_iload_n hx hb dX5_settle_29 rfl (lv_at hl 2 rfl) ?_
      refine lv_if_lt (tgt := 49) hx hb dX5_settle_30 (by decide) (fun c_7 => ?_) (fun c_7 => ?_)
      · replace hm := br_p hm c_7
        refine lv_iconst (v := (-1)) hx hb dX5_settle_49 (by decide) ?_
        cases hm
        exact hret _ _ _ _ dX5_settle_50 rfl hP hD hS
      · replace hm := br_n hm c_7
        refine lv_iload_n hx hb dX5_settle_33 rfl (lv_at hl 2 rfl) ?_
        refine lv_aload_n hx hb dX5_settle_34 rfl (lv_at hl 0 rfl) ?_
        refine gf (q0 := 0) hx hb hts hown hK flX5_settle_19 hP rfl rfl dX5_settle_35 ?_
        refine gf (q0 := 3) hx hb hts hown hK flX5_settle_89 hP rfl rfl dX5_settle_38 ?_
        refine lv_iload_n hx hb dX5_settle_41 rfl (lv_at hl 1 rfl) ?_
        refine lv_iconst (v := 2) hx hb dX5_settle_42 (by decide) ?_
        obtain ⟨v8, h_9, hm⟩ := b1_s hm
        refine rd_v hcf (kX3_get h_9) (cwX5_settle_X3_get hts) hK hP sH_j (ci := 3) (q0 := 8) rfl rfl rfl hl.1 rfl (Nat.le_of_ble_eq_true rfl) dX5_settle_43 ⟨Nat.zero_le _, Nat.zero_le _⟩ ?_
        refine lv_icmp_le (tgt := 51) hx hb dX5_settle_46 (by decide) (fun c_10 => ?_) (fun c_10 => ?_)
        · replace hm := br_p hm c_10
          refine lv_aload_n hx hb dX5_settle_51 rfl (lv_at hl 0 rfl) ?_
          refine gf (q0 := 0) hx hb hts hown hK flX5_settle_29 hP rfl rfl dX5_settle_52 ?_
          refine lv_aload_n hx hb dX5_settle_55 rfl (lv_at hl 0 rfl) ?_
          refine gf (q0 := 0) hx hb hts hown hK flX5_settle_19 hP rfl rfl dX5_settle_56 ?_
          obtain ⟨ct11, tpp12, kv13, h_14, hm⟩ := b3_s hm
          refine mu_vv hcf (kX1_keep h_14) (cwX5_settle_X1_keep hts) hK hP hD hS hA jH_hs (ci := 1) (q0 := 21) rfl rfl rfl hl.1 rfl (Nat.le_of_ble_eq_true rfl) dX5_settle_59 ⟨Nat.zero_le _, Nat.zero_le _⟩ (fun H locs hP hD hS => ?_)
          refine lv_aload_n hx hb dX5_settle_62 rfl (lv_at hl 0 rfl) ?_
          refine gf (q0 := 0) hx hb hts hown hK flX5_settle_19 hP rfl rfl dX5_settle_63 ?_
          refine lv_iload_n hx hb dX5_settle_66 rfl (lv_at hl 1 rfl) ?_
          refine lv_iload_n hx hb dX5_settle_67 rfl (lv_at hl 2 rfl) ?_
          obtain ⟨df15, jf16, qf17, h_18, hm⟩ := b3_s hm
          refine mu_vv hcf (kX0_takeOff h_18) (cwX5_settle_X0_takeOff hts) hK hP hD hS hA jH_b (ci := 0) (q0 := 3) rfl rfl rfl hl.1 rfl (Nat.le_of_ble_eq_true rfl) dX5_settle_68 ⟨Nat.zero_le _, Nat.zero_le _⟩ (fun H locs hP hD hS => ?_)
          refine lv_aload_n hx hb dX5_settle_71 rfl (lv_at hl 0 rfl) ?_
          refine gf (q0 := 0) hx hb hts hown hK flX5_settle_19 hP rfl rfl dX5_settle_72 ?_
          refine gf (q0 := 3) hx hb hts hown hK flX5_settle_89 hP rfl rfl dX5_settle_75 ?_
          refine lv_iload_n hx hb dX5_settle_78 rfl (lv_at hl 1 rfl) ?_
          refine lv_iconst (v := 2) hx hb dX5_settle_79 (by decide) ?_
          obtain ⟨v19, h_20, hm⟩ := b1_s hm
          refine rd_v hcf (kX3_get h_20) (cwX5_settle_X3_get hts) hK hP sH_j (ci := 3) (q0 := 8) rfl rfl rfl hl.1 rfl (Nat.le_of_ble_eq_true rfl) dX5_settle_80 ⟨Nat.zero_le _, Nat.zero_le _⟩ ?_
          cases hm
          exact hret _ _ _ _ dX5_settle_83 rfl hP hD hS
        · replace hm := br_n hm c_10
          refine lv_iconst (v := (-1)) hx hb dX5_settle_49 (by decide) ?_
          cases hm
          exact hret _ _ _ _ dX5_settle_50 rfl hP hD hS
end
