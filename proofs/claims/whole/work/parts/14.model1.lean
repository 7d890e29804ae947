section
variable {p : Program} {l : Launch} {e : Env} {s : State} {m : MethodId} {args : Array Value} {below : List Frame} {meth : Method} {c : Code} {Q : State → Prop} {A : Nat → Prop} {D : va_G} {cI cB cL cK : ClassId}
/-! X6 thrown()I -/
abbrev rmX6_thrown : Room := { frames := 0, cells := 0, slots := 0, locals := 0 }
theorem hdX6_thrown : yX6_thrown.cls = RX6 ∧ yX6_thrown.cls ≠ "java/lang/invoke/MethodHandle" ∧ yX6_thrown.cls ≠ "java/lang/invoke/VarHandle" ∧ (parseMethodDescriptor yX6_thrown.desc).map (fun d => d.parameters.length) = some 0 := by decide +kernel
theorem inX6_thrown_X6 : ∀ w ∈ u_ws RX6 TX6 20, w ∈ wsX6_thrown := by decide +kernel
theorem flX6_thrown_1 : Fl wsX6_thrown RX6 1 6 0 := ⟨_, _, _, rfl, by decide, inX6_thrown_X6, by decide +kernel⟩
set_option maxRecDepth 100000 in
set_option maxHeartbeats 4000000 in
theorem kX6_thrown {l : Launch} {D : va_G} {cI cB cL cK : ClassId} {ad : Nat → Nat} {thr : Int32} {tpd : Int32} {siz : Int32} {too : Int32} {frm : Int32} {srt : Int32} {num : Int32} {flt : Int32} {plc : Int32} {wrd : Int64} {snm : Int32} {lin : Int32} {stp : Int32} {sfo : Int32} {hst : Int32} {tp : Nat → Int32} {nw : Nat → Int32} {rd : Nat → Int32} {kp : Nat → Int32} {sn : Nat → Int32}  {res : Int32} (hm : mX6_thrown thr = some res) : Rd l D cI cB cL cK yX6_thrown wsX6_thrown rmX6_thrown [.ref (ad 0)] (wM cI ad thr tpd siz too frm srt num flt plc wrd snm lin stp sfo hst tp nw rd kp sn) res := by
  refine Rd.of (cc := cX6_thrown) (own := RX6) (by decide) rfl rfl (Nat.le_of_ble_eq_true rfl) (fun p e s m below meth c ls Q C hP hl hret => ?_)
  obtain ⟨hx, hb, hr, hml, hown, hts, hlk, hK⟩ := id C
  have hcf : CallFix p m c cX6_thrown 1 s _ wsX6_thrown RX6 := ⟨hx, hb, hml, hown, hts⟩
  have hl : lv_has ls 1 [(0, .ref (ad 0))] := hl
  unfold mX6_thrown at hm
  refine lv_aload_n hx hb dX6_thrown_0 rfl (lv_at hl 0 rfl) ?_
  refine gf (q0 := 0) hx hb hts hown hK flX6_thrown_1 hP rfl rfl dX6_thrown_1 ?_
  cases hm
  exact hret _ _ dX6_thrown_4 rfl
/-! X6 refuse()I -/
abbrev rmX6_refuse : Room := { frames := 0, cells := 0, slots := 0, locals := 0 }
theorem hdX6_refuse : yX6_refuse.cls = RX6 ∧ yX6_refuse.cls ≠ "java/lang/invoke/MethodHandle" ∧ yX6_refuse.cls ≠ "java/lang/invoke/VarHandle" ∧ (parseMethodDescriptor yX6_refuse.desc).map (fun d => d.parameters.length) = some 0 := by decide +kernel
theorem inX6_refuse_X6 : ∀ w ∈ u_ws RX6 TX6 20, w ∈ wsX6_refuse := by decide +kernel
theorem fpX6_refuse_1 : Fp wsX6_refuse RX6 1 6 0 false .int := ⟨_, _, _, tyX6, rfl, by decide, inX6_refuse_X6, by decide +kernel, tyX6_ok, nmX6, rfl, rfl, by decide +kernel⟩
set_option maxRecDepth 100000 in
set_option maxHeartbeats 4000000 in
theorem kX6_refuse {l : Launch} {D : va_G} {cI cB cL cK : ClassId} {ad : Nat → Nat} {thr : Int32} {tpd : Int32} {siz : Int32} {too : Int32} {frm : Int32} {srt : Int32} {num : Int32} {flt : Int32} {plc : Int32} {wrd : Int64} {snm : Int32} {lin : Int32} {stp : Int32} {sfo : Int32} {hst : Int32} {tp : Nat → Int32} {nw : Nat → Int32} {rd : Nat → Int32} {kp : Nat → Int32} {sn : Nat → Int32}  {res : Int32} {thr' : Int32} (hm : mX6_refuse thr = some (res, thr')) : Mu l D cI cB cL cK yX6_refuse wsX6_refuse rmX6_refuse [.ref (ad 0)] (wM cI ad thr tpd siz too frm srt num flt plc wrd snm lin stp sfo hst tp nw rd kp sn) (wM cI ad thr' tpd siz too frm srt num flt plc wrd snm lin stp sfo hst tp nw rd kp sn) (some (.int res)) 0 0 := by
  refine Mu.ofi (cc := cX6_refuse) (own := RX6) (by decide) rfl rfl (Nat.le_of_ble_eq_true rfl) (fun p e s m below meth c ls Q A C hA hP hD hS hl hret => ?_)
  obtain ⟨hx, hb, hr, hml, hown, hts, hlk, hK⟩ := id C
  have hcf : CallFix p m c cX6_refuse 1 s _ wsX6_refuse RX6 := ⟨hx, hb, hml, hown, hts⟩
  have hl : lv_has ls 1 [(0, .ref (ad 0))] := hl
  unfold mX6_refuse at hm
  refine lv_aload_n hx hb dX6_refuse_0 rfl (lv_at hl 0 rfl) ?_
  refine lv_iconst (v := 1) hx hb dX6_refuse_1 (by decide) ?_
  refine pf (q0 := 0) (X' := (wM cI ad 1 tpd siz too frm srt num flt plc wrd snm lin stp sfo hst tp nw rd kp sn)) hx hb hts hown hK fpX6_refuse_1 hP hD hS rfl rfl rfl (Nat.le_of_ble_eq_true rfl) rfl dX6_refuse_2 (fun H locs hP hD hS => ?_)
  refine lv_iconst (v := 0) hx hb dX6_refuse_5 (by decide) ?_
  cases hm
  exact hret _ _ _ _ dX6_refuse_6 rfl hP hD hS
/-! X6 isIn(III)Z -/
abbrev rmX6_isIn : Room := { frames := 0, cells := 0, slots := 0, locals := 0 }
theorem hdX6_isIn : yX6_isIn.cls = RX6 ∧ yX6_isIn.cls ≠ "java/lang/invoke/MethodHandle" ∧ yX6_isIn.cls ≠ "java/lang/invoke/VarHandle" ∧ (parseMethodDescriptor yX6_isIn.desc).map (fun d => d.parameters.length) = some 3 := by decide +kernel
set_option maxRecDepth 100000 in
set_option maxHeartbeats 4000000 in
theorem kX6_isIn {l : Launch} {D : va_G} {cI cB cL cK : ClassId}   {p1 : Int32} {p2 : Int32} {p3 : Int32} {res : Int32} (hm : mX6_isIn p1 p2 p3 = some res) : Rd l D cI cB cL cK yX6_isIn wsX6_isIn rmX6_isIn [.int p1, .int p2, .int p3] [] res := by
  refine Rd.of (cc := cX6_isIn) (own := RX6) (by decide) rfl rfl (Nat.le_of_ble_eq_true rfl) (fun p e s m below meth c ls Q C hP hl hret => ?_)
  obtain ⟨hx, hb, hr, hml, hown, hts, hlk, hK⟩ := id C
  have hcf : CallFix p m c cX6_isIn 3 s _ wsX6_isIn RX6 := ⟨hx, hb, hml, hown, hts⟩
  have hl : lv_has ls 3 [(0, .int p1), (1, .int p2), (2, .int p3)] := hl
  unfold mX6_isIn at hm
  refine lv_iload_n hx hb dX6_isIn_0 rfl (lv_at hl 0 rfl) ?_
  refine lv_iload_n hx hb dX6_isIn_1 rfl (lv_at hl 1 rfl) ?_
  refine lv_icmp_lt (tgt := 14) hx hb dX6_isIn_2 (by decide) (fun c_1 => ?_) (fun c_1 => ?_)
  · replace hm := br_p hm c_1
    refine lv_iconst (v := 0) hx hb dX6_isIn_14 (by decide) ?_
    cases hm
    exact hret _ _ dX6_isIn_15 rfl
  · replace hm := br_n hm c_1
    refine lv_iload_n hx hb dX6_isIn_5 rfl (lv_at hl 0 rfl) ?_
    refine lv_iload_n hx hb dX6_isIn_6 rfl (lv_at hl 2 rfl) ?_
    refine lv_icmp_gt (tgt := 14) hx hb dX6_isIn_7 (by decide) (fun c_2 => ?_) (fun c_2 => ?_)
    · replace hm := br_p hm c_2
      refine lv_iconst (v := 0) hx hb dX6_isIn_14 (by decide) ?_
      cases hm
      exact hret _ _ dX6_isIn_15 rfl
    · replace hm := br_n hm c_2
      refine lv_iconst (v := 1) hx hb dX6_isIn_10 (by decide) ?_
      refine lv_goto (tgt := 15) hx hb dX6_isIn_11 (by decide) ?_
      cases hm
      exact hret _ _ dX6_isIn_15 rfl
/-! X6 lays(I)V -/
abbrev rmX6_lays : Room := { frames := 0, cells := 0, slots := 0, locals := 0 }
theorem hdX6_lays : yX6_lays.cls = RX6 ∧ yX6_lays.cls ≠ "java/lang/invoke/MethodHandle" ∧ yX6_lays.cls ≠ "java/lang/invoke/VarHandle" ∧ (parseMethodDescriptor yX6_lays.desc).map (fun d => d.parameters.length) = some 1 := by decide +kernel
theorem inX6_lays_X6 : ∀ w ∈ u_ws RX6 TX6 20, w ∈ wsX6_lays := by decide +kernel
theorem flX6_lays_11 : Fl wsX6_lays RX6 11 6 2 := ⟨_, _, _, rfl, by decide, inX6_lays_X6, by decide +kernel⟩
theorem flX6_lays_7 : Fl wsX6_lays RX6 7 6 1 := ⟨_, _, _, rfl, by decide, inX6_lays_X6, by decide +kernel⟩
theorem fpX6_lays_11 : Fp wsX6_lays RX6 11 6 2 false .int := ⟨_, _, _, tyX6, rfl, by decide, inX6_lays_X6, by decide +kernel, tyX6_ok, nmX6, rfl, rfl, by decide +kernel⟩
set_option maxRecDepth 100000 in
set_option maxHeartbeats 4000000 in
theorem tX6_lays_L3 {ad : Nat → Nat} {thr : Int32} {siz : Int32} {too : Int32} {frm : Int32} {srt : Int32} {num : Int32} {flt : Int32} {plc : Int32} {wrd : Int64} {snm : Int32} {lin : Int32} {stp : Int32} {sfo : Int32} {hst : Int32} {nw : Nat → Int32} {rd : Nat → Int32} {kp : Nat → Int32} {sn : Nat → Int32} {tpd' : Int32} {tp' : Nat → Int32} (C : Cx p s m args meth c cX6_lays none 3 wsX6_lays RX6 D cI cB cL cK) (hA : ∀ q : Nat, s.heap.size ≤ q → A q) (hret : ∀ (pc : Nat) (ls : Array Slot) (H : Heap) (locs : List Loc), decode cX6_lays pc = .ok (.return_, 1) → va_P D vwCl (wM cI ad thr tpd' siz too frm srt num flt plc wrd snm lin stp sfo hst tp' nw rd kp sn) H → va_D A (wM cI ad thr tpd' siz too frm srt num flt plc wrd snm lin stp sfo hst tp' nw rd kp sn) → va_S A s.heap H locs → W p l e rmX6_lays s m args below meth c H locs 0 0 Q (F0 m pc ls [])) : ∀ (n9 : Nat) (x1 : Int32) (x2 : Int32) (tpd : Int32) (tp : Nat → Int32), mX6_lays_L3 n9 x1 x2 tpd tp = some (tpd', tp') → ∀ (H : Heap) (locs : List Loc) (ls : Array Slot), va_P D vwCl (wM cI ad thr tpd siz too frm srt num flt plc wrd snm lin stp sfo hst tp nw rd kp sn) H → va_D A (wM cI ad thr tpd siz too frm srt num flt plc wrd snm lin stp sfo hst tp nw rd kp sn) → va_S A s.heap H locs → lv_has ls 3 [(0, .ref (ad 0)), (1, .int x1), (2, .int x2)] → W p l e rmX6_lays s m args below meth c H locs 0 0 Q (F0 m 3 ls []) := by
  obtain ⟨hx, hb, hr, hml, hown, hts, hlk, hK⟩ := id C
  have hcf : CallFix p m c cX6_lays 3 s args wsX6_lays RX6 := ⟨hx, hb, hml, hown, hts⟩
  intro n9
  induction n9 with
  | zero => intro x1 x2 tpd tp hm; cases hm
  | succ k ih =>
    intro x1 x2 tpd tp hm H locs ls hP hD hS hl
    rw [mX6_lays_L3.eq_2] at hm
    refine lv_iload_n hx hb dX6_lays_3 rfl (lv_at hl 2 rfl) ?_
    refine lv_if_lt (tgt := 39) hx hb dX6_lays_4 (by decide) (fun c_1 => ?_) (fun c_1 => ?_)
    · replace hm := br_p hm c_1
      cases hm
      exact hret _ _ _ _ dX6_lays_39 hP hD hS
    · replace hm := br_n hm c_1
      refine lv_aload_n hx hb dX6_lays_7 rfl (lv_at hl 0 rfl) ?_
      refine gf (q0 := 0) hx hb hts hown hK flX6_lays_7 hP rfl rfl dX6_lays_8 ?_
      refine lv_aload_n hx hb dX6_lays_11 rfl (lv_at hl 0 rfl) ?_
      refine gf (q0 := 0) hx hb hts hown hK flX6_lays_11 hP rfl rfl dX6_lays_12 ?_
      refine lv_iload_n hx hb dX6_lays_15 rfl (lv_at hl 1 rfl) ?_
      refine lv_iload_n hx hb dX6_lays_16 rfl (lv_at hl 2 rfl) ?_
      refine lv_iushr (v := ((x1 : Int32).toUInt32 >>> ((x2 : Int32).toUInt32 &&& Int32.toUInt32 31)).toInt32) hx hb dX6_lays_17 rfl ?_
      refine lv_sipush (v := 255) hx hb dX6_lays_18 (by decide) ?_
      refine lv_iand hx hb dX6_lays_21 ?_
      obtain ⟨h_2, hm⟩ := ck_s hm
      refine ast (q0 := 1) (k := (tpd : Int32).toNatClampNeg) (X' := (wM cI ad thr tpd siz too frm srt num flt plc wrd snm lin stp sfo hst (upd tp ((tpd : Int32).toNatClampNeg) ((((x1 : Int32).toUInt32 >>> ((x2 : Int32).toUInt32 &&& Int32.toUInt32 31)).toInt32) &&& 255)) nw rd kp sn)) hx hb hK hP hD hS rfl h_2 rfl rfl dX6_lays_22 (fun H locs hP hD hS => ?_)
      refine lv_aload_n hx hb dX6_lays_23 rfl (lv_at hl 0 rfl) ?_
      refine lv_dup hx hb dX6_lays_24 rfl ?_
      refine gf (q0 := 0) hx hb hts hown hK flX6_lays_11 hP rfl rfl dX6_lays_25 ?_
      refine lv_iconst (v := 1) hx hb dX6_lays_28 (by decide) ?_
      refine lv_iadd hx hb dX6_lays_29 ?_
      refine pf (q0 := 0) (X' := (wM cI ad thr (tpd + 1) siz too frm srt num flt plc wrd snm lin stp sfo hst (upd tp ((tpd : Int32).toNatClampNeg) ((((x1 : Int32).toUInt32 >>> ((x2 : Int32).toUInt32 &&& Int32.toUInt32 31)).toInt32) &&& 255)) nw rd kp sn)) hx hb hts hown hK fpX6_lays_11 hP hD hS rfl rfl rfl (Nat.le_of_ble_eq_true rfl) rfl dX6_lays_30 (fun H locs hP hD hS => ?_)
      refine lv_iinc (v := (x2 + (-8))) (lv' := [(2, .int (x2 + (-8))), (0, .ref (ad 0)), (1, .int x1)]) hx hb dX6_lays_33 hl (k := 2) rfl rfl (by decide) rfl (fun ls hl => ?_)
      refine lv_goto (tgt := 3) hx hb dX6_lays_36 (by decide) ?_
      exact ih _ _ _ _ hm _ _ _ hP hD hS (lv_sub hl [1, 2, 0] rfl)
set_option maxRecDepth 100000 in
set_option maxHeartbeats 4000000 in
theorem kX6_lays {l : Launch} {D : va_G} {cI cB cL cK : ClassId} {ad : Nat → Nat} {thr : Int32} {tpd : Int32} {siz : Int32} {too : Int32} {frm : Int32} {srt : Int32} {num : Int32} {flt : Int32} {plc : Int32} {wrd : Int64} {snm : Int32} {lin : Int32} {stp : Int32} {sfo : Int32} {hst : Int32} {tp : Nat → Int32} {nw : Nat → Int32} {rd : Nat → Int32} {kp : Nat → Int32} {sn : Nat → Int32} {p1 : Int32} {tpd' : Int32} {tp' : Nat → Int32} (hm : mX6_lays tpd tp p1 = some (tpd', tp')) : Mu l D cI cB cL cK yX6_lays wsX6_lays rmX6_lays [.ref (ad 0), .int p1] (wM cI ad thr tpd siz too frm srt num flt plc wrd snm lin stp sfo hst tp nw rd kp sn) (wM cI ad thr tpd' siz too frm srt num flt plc wrd snm lin stp sfo hst tp' nw rd kp sn) none 0 0 := by
  refine Mu.ofv (cc := cX6_lays) (own := RX6) (by decide) rfl rfl (Nat.le_of_ble_eq_true rfl) (fun p e s m below meth c ls Q A C _ hA hP hD hS hl hret => ?_)
  obtain ⟨hx, hb, hr, hml, hown, hts, hlk, hK⟩ := id C
  have hcf : CallFix p m c cX6_lays 3 s _ wsX6_lays RX6 := ⟨hx, hb, hml, hown, hts⟩
  have hl : lv_has ls 3 [(0, .ref (ad 0)), (1, .int p1)] := hl
  unfold mX6_lays at hm
  refine lv_bipush (v := 24) hx hb dX6_lays_0 (by decide) ?_
  refine lv_istore_n (lv' := [(2, .int 24), (0, .ref (ad 0)), (1, .int p1)]) hx hb dX6_lays_2 rfl hl (by decide) rfl (fun ls hl => ?_)
  exact tX6_lays_L3 C hA hret _ _ _ _ _ hm _ _ _ hP hD hS (lv_sub hl [1, 2, 0] rfl)
/-! X6 feed(IIIII)I -/
abbrev rmX6_feed : Room := { frames := 1, cells := 0, slots := 0, locals := 22 }
theorem hdX6_feed : yX6_feed.cls = RX6 ∧ yX6_feed.cls ≠ "java/lang/invoke/MethodHandle" ∧ yX6_feed.cls ≠ "java/lang/invoke/VarHandle" ∧ (parseMethodDescriptor yX6_feed.desc).map (fun d => d.parameters.length) = some 5 := by decide +kernel
theorem inX6_feed_X6 : ∀ w ∈ u_ws RX6 TX6 20, w ∈ wsX6_feed := by decide +kernel
theorem cwX6_feed_X6_lays {s : State} {args : Array Value} (hts : ∀ w ∈ wsX6_feed, w.before args s = true) : CallW rmX6_feed s args RX6 RX6 14 yX6_lays cX6_lays 3 none wsX6_lays rmX6_lays 0 0 1 := cwV 1 hts gX6_feed_X6_lays rfl rfl rfl hdX6_lays ⟨Nat.le_of_ble_eq_true rfl, Nat.le_of_ble_eq_true rfl⟩
theorem flX6_feed_11 : Fl wsX6_feed RX6 11 6 2 := ⟨_, _, _, rfl, by decide, inX6_feed_X6, by decide +kernel⟩
theorem fpX6_feed_1 : Fp wsX6_feed RX6 1 6 0 false .int := ⟨_, _, _, tyX6, rfl, by decide, inX6_feed_X6, by decide +kernel, tyX6_ok, nmX6, rfl, rfl, by decide +kernel⟩
set_option maxRecDepth 100000 in
set_option maxHeartbeats 4000000 in
theorem kX6_feed {l : Launch} {D : va_G} {cI cB cL cK : ClassId} {ad : Nat → Nat} {thr : Int32} {tpd : Int32} {siz : Int32} {too : Int32} {frm : Int32} {srt : Int32} {num : Int32} {flt : Int32} {plc : Int32} {wrd : Int64} {snm : Int32} {lin : Int32} {stp : Int32} {sfo : Int32} {hst : Int32} {tp : Nat → Int32} {nw : Nat → Int32} {rd : Nat → Int32} {kp : Nat → Int32} {sn : Nat → Int32} {p1 : Int32} {p2 : Int32} {p3 : Int32} {p4 : Int32} {p5 : Int32} {res : Int32} {thr' : Int32} {tpd' : Int32} {tp' : Nat → Int32} (hm : mX6_feed thr tpd tp p1 p2 p3 p4 p5 = some (res, thr', tpd', tp')) : Mu l D cI cB cL cK yX6_feed wsX6_feed rmX6_feed [.ref (ad 0), .int p1, .int p2, .int p3, .int p4, .int p5] (wM cI ad thr tpd siz too frm srt num flt plc wrd snm lin stp sfo hst tp nw rd kp sn) (wM cI ad thr' tpd' siz too frm srt num flt plc wrd snm lin stp sfo hst tp' nw rd kp sn) (some (.int res)) 0 0 := by
  refine Mu.ofi (cc := cX6_feed) (own := RX6) (by decide) rfl rfl (Nat.le_of_ble_eq_true rfl) (fun p e s m below meth c ls Q A C hA hP hD hS hl hret => ?_)
  obtain ⟨hx, hb, hr, hml, hown, hts, hlk, hK⟩ := id C
  have hcf : CallFix p m c cX6_feed 6 s _ wsX6_feed RX6 := ⟨hx, hb, hml, hown, hts⟩
  have hl : lv_has ls 6 [(0, .ref (ad 0)), (1, .int p1), (2, .int p2), (3, .int p3), (4, .int p4), (5, .int p5)] := hl
  unfold mX6_feed at hm
  refine lv_aload_n hx hb dX6_feed_0 rfl (lv_at hl 0 rfl) ?_
  refine lv_iconst (v := 0) hx hb dX6_feed_1 (by decide) ?_
  refine pf (q0 := 0) (X' := (wM cI ad 0 tpd siz too frm srt num flt plc wrd snm lin stp sfo hst tp nw rd kp sn)) hx hb hts hown hK fpX6_feed_1 hP hD hS rfl rfl rfl (Nat.le_of_ble_eq_true rfl) rfl dX6_feed_2 (fun H locs hP hD hS => ?_)
  refine lv_aload_n hx hb dX6_feed_5 rfl (lv_at hl 0 rfl) ?_
  refine gf (q0 := 0) hx hb hts hown hK flX6_feed_11 hP rfl rfl dX6_feed_6 ?_
  refine lv_bipush (v := 20) hx hb dX6_feed_9 (by decide) ?_
  refine lv_iadd hx hb dX6_feed_11 ?_
  refine lv_sipush (v := 640) hx hb dX6_feed_12 (by decide) ?_
  refine lv_icmp_le (tgt := 20) hx hb dX6_feed_15 (by decide) (fun c_1 => ?_) (fun c_1 => ?_)
  · replace hm := br_p hm c_1
    refine lv_aload_n hx hb dX6_feed_20 rfl (lv_at hl 0 rfl) ?_
    refine lv_iload_n hx hb dX6_feed_21 rfl (lv_at hl 1 rfl) ?_
    obtain ⟨tpd2, tp3, h_4, hm⟩ := b2_s hm
    refine mu_vv hcf (kX6_lays h_4) (cwX6_feed_X6_lays hts) hK hP hD hS hA Jn.rf (ci := 6) (q0 := 0) rfl rfl rfl hl.1 rfl (Nat.le_of_ble_eq_true rfl) dX6_feed_22 ⟨Nat.zero_le _, Nat.zero_le _⟩ (fun H locs hP hD hS => ?_)
    refine lv_aload_n hx hb dX6_feed_25 rfl (lv_at hl 0 rfl) ?_
    refine lv_iload_n hx hb dX6_feed_26 rfl (lv_at hl 2 rfl) ?_
    obtain ⟨tpd5, tp6, h_7, hm⟩ := b2_s hm
    refine mu_vv hcf (kX6_lays h_7) (cwX6_feed_X6_lays hts) hK hP hD hS hA Jn.rf (ci := 6) (q0 := 0) rfl rfl rfl hl.1 rfl (Nat.le_of_ble_eq_true rfl) dX6_feed_27 ⟨Nat.zero_le _, Nat.zero_le _⟩ (fun H locs hP hD hS => ?_)
    refine lv_aload_n hx hb dX6_feed_30 rfl (lv_at hl 0 rfl) ?_
    refine lv_iload_n hx hb dX6_feed_31 rfl (lv_at hl 3 rfl) ?_
    obtain ⟨tpd8, tp9, h_10, hm⟩ := b2_s hm
    refine mu_vv hcf (kX6_lays h_10) (cwX6_feed_X6_lays hts) hK hP hD hS hA Jn.rf (ci := 6) (q0 := 0) rfl rfl rfl hl.1 rfl (Nat.le_of_ble_eq_true rfl) dX6_feed_32 ⟨Nat.zero_le _, Nat.zero_le _⟩ (fun H locs hP hD hS => ?_)
    refine lv_aload_n hx hb dX6_feed_35 rfl (lv_at hl 0 rfl) ?_
    refine lv_iload hx hb dX6_feed_36 (lv_at hl 4 rfl) ?_
    obtain ⟨tpd11, tp12, h_13, hm⟩ := b2_s hm
    refine mu_vv hcf (kX6_lays h_13) (cwX6_feed_X6_lays hts) hK hP hD hS hA Jn.rf (ci := 6) (q0 := 0) rfl rfl rfl hl.1 rfl (Nat.le_of_ble_eq_true rfl) dX6_feed_38 ⟨Nat.zero_le _, Nat.zero_le _⟩ (fun H locs hP hD hS => ?_)
    refine lv_aload_n hx hb dX6_feed_41 rfl (lv_at hl 0 rfl) ?_
    refine lv_iload hx hb dX6_feed_42 (lv_at hl 5 rfl) ?_
    obtain ⟨tpd14, tp15, h_16, hm⟩ := b2_s hm
    refine mu_vv hcf (kX6_lays h_16) (cwX6_feed_X6_lays hts) hK hP hD hS hA Jn.rf (ci := 6) (q0 := 0) rfl rfl rfl hl.1 rfl (Nat.le_of_ble_eq_true rfl) dX6_feed_44 ⟨Nat.zero_le _, Nat.zero_le _⟩ (fun H locs hP hD hS => ?_)
    refine lv_aload_n hx hb dX6_feed_47 rfl (lv_at hl 0 rfl) ?_
    refine gf (q0 := 0) hx hb hts hown hK flX6_feed_11 hP rfl rfl dX6_feed_48 ?_
    cases hm
    exact hret _ _ _ _ dX6_feed_51 rfl hP hD hS
  · replace hm := br_n hm c_1
    refine lv_iconst (v := (-1)) hx hb dX6_feed_18 (by decide) ?_
    cases hm
    exact hret _ _ _ _ dX6_feed_19 rfl hP hD hS
/-! X6 end(I)Z -/
abbrev rmX6_end : Room := { frames := 0, cells := 0, slots := 0, locals := 0 }
theorem hdX6_end : yX6_end.cls = RX6 ∧ yX6_end.cls ≠ "java/lang/invoke/MethodHandle" ∧ yX6_end.cls ≠ "java/lang/invoke/VarHandle" ∧ (parseMethodDescriptor yX6_end.desc).map (fun d => d.parameters.length) = some 1 := by decide +kernel
theorem inX6_end_X6 : ∀ w ∈ u_ws RX6 TX6 20, w ∈ wsX6_end := by decide +kernel
theorem flX6_end_11 : Fl wsX6_end RX6 11 6 2 := ⟨_, _, _, rfl, by decide, inX6_end_X6, by decide +kernel⟩
theorem fpX6_end_1 : Fp wsX6_end RX6 1 6 0 false .int := ⟨_, _, _, tyX6, rfl, by decide, inX6_end_X6, by decide +kernel, tyX6_ok, nmX6, rfl, rfl, by decide +kernel⟩
theorem fpX6_end_11 : Fp wsX6_end RX6 11 6 2 false .int := ⟨_, _, _, tyX6, rfl, by decide, inX6_end_X6, by decide +kernel, tyX6_ok, nmX6, rfl, rfl, by decide +kernel⟩
set_option maxRecDepth 100000 in
set_option maxHeartbeats 4000000 in
theorem kX6_end {l : Launch} {D : va_G} {cI cB cL cK : ClassId} {ad : Nat → Nat} {thr : Int32} {tpd : Int32} {siz : Int32} {too : Int32} {frm : Int32} {srt : Int32} {num : Int32} {flt : Int32} {plc : Int32} {wrd : Int64} {snm : Int32} {lin : Int32} {stp : Int32} {sfo : Int32} {hst : Int32} {tp : Nat → Int32} {nw : Nat → Int32} {rd : Nat → Int32} {kp : Nat → Int32} {sn : Nat → Int32} {p1 : Int32} {res : Int32} {thr' : Int32} {tpd' : Int32} (hm : mX6_end thr tpd p1 = some (res, thr', tpd')) : Mu l D cI cB cL cK yX6_end wsX6_end rmX6_end [.ref (ad 0), .int p1] (wM cI ad thr tpd siz too frm srt num flt plc wrd snm lin stp sfo hst tp nw rd kp sn) (wM cI ad thr' tpd' siz too frm srt num flt plc wrd snm lin stp sfo hst tp nw rd kp sn) (some (.int res)) 0 0 := by
  refine Mu.ofi (cc := cX6_end) (own := RX6) (by decide) rfl rfl (Nat.le_of_ble_eq_true rfl) (fun p e s m below meth c ls Q A C hA hP hD hS hl hret => ?_)
  obtain ⟨hx, hb, hr, hml, hown, hts, hlk, hK⟩ := id C
  have hcf : CallFix p m c cX6_end 2 s _ wsX6_end RX6 := ⟨hx, hb, hml, hown, hts⟩
  have hl : lv_has ls 2 [(0, .ref (ad 0)), (1, .int p1)] := hl
  unfold mX6_end at hm
  refine lv_aload_n hx hb dX6_end_0 rfl (lv_at hl 0 rfl) ?_
  refine lv_iconst (v := 0) hx hb dX6_end_1 (by decide) ?_
  refine pf (q0 := 0) (X' := (wM cI ad 0 tpd siz too frm srt num flt plc wrd snm lin stp sfo hst tp nw rd kp sn)) hx hb hts hown hK fpX6_end_1 hP hD hS rfl rfl rfl (Nat.le_of_ble_eq_true rfl) rfl dX6_end_2 (fun H locs hP hD hS => ?_)
  refine lv_iload_n hx hb dX6_end_5 rfl (lv_at hl 1 rfl) ?_
  refine lv_if_lt (tgt := 17) hx hb dX6_end_6 (by decide) (fun c_1 => ?_) (fun c_1 => ?_)
  · replace hm := br_p hm c_1
    refine lv_iconst (v := 0) hx hb dX6_end_17 (by decide) ?_
    cases hm
    exact hret _ _ _ _ dX6_end_18 rfl hP hD hS
  · replace hm := br_n hm c_1
    refine lv_iload_n hx hb dX6_end_9 rfl (lv_at hl 1 rfl) ?_
    refine lv_aload_n hx hb dX6_end_10 rfl (lv_at hl 0 rfl) ?_
    refine gf (q0 := 0) hx hb hts hown hK flX6_end_11 hP rfl rfl dX6_end_11 ?_
    refine lv_icmp_le (tgt := 19) hx hb dX6_end_14 (by decide) (fun c_2 => ?_) (fun c_2 => ?_)
    · replace hm := br_p hm c_2
      refine lv_aload_n hx hb dX6_end_19 rfl (lv_at hl 0 rfl) ?_
      refine lv_iload_n hx hb dX6_end_20 rfl (lv_at hl 1 rfl) ?_
      refine pf (q0 := 0) (X' := (wM cI ad 0 p1 siz too frm srt num flt plc wrd snm lin stp sfo hst tp nw rd kp sn)) hx hb hts hown hK fpX6_end_11 hP hD hS rfl rfl rfl (Nat.le_of_ble_eq_true rfl) rfl dX6_end_21 (fun H locs hP hD hS => ?_)
      refine lv_iconst (v := 1) hx hb dX6_end_24 (by decide) ?_
      cases hm
      exact hret _ _ _ _ dX6_end_25 rfl hP hD hS
    · replace hm := br_n hm c_2
      refine lv_iconst (v := 0) hx hb dX6_end_17 (by decide) ?_
      cases hm
      exact hret _ _ _ _ dX6_end_18 rfl hP hD hS
/-! X6 tapeAt(I)I -/
abbrev rmX6_tapeAt : Room := { frames := 0, cells := 0, slots := 0, locals := 0 }
theorem hdX6_tapeAt : yX6_tapeAt.cls = RX6 ∧ yX6_tapeAt.cls ≠ "java/lang/invoke/MethodHandle" ∧ yX6_tapeAt.cls ≠ "java/lang/invoke/VarHandle" ∧ (parseMethodDescriptor yX6_tapeAt.desc).map (fun d => d.parameters.length) = some 1 := by decide +kernel
theorem inX6_tapeAt_X6 : ∀ w ∈ u_ws RX6 TX6 20, w ∈ wsX6_tapeAt := by decide +kernel
theorem flX6_tapeAt_18 : Fl wsX6_tapeAt RX6 18 6 3 := ⟨_, _, _, rfl, by decide, inX6_tapeAt_X6, by decide +kernel⟩
theorem flX6_tapeAt_7 : Fl wsX6_tapeAt RX6 7 6 1 := ⟨_, _, _, rfl, by decide, inX6_tapeAt_X6, by decide +kernel⟩
set_option maxRecDepth 100000 in
set_option maxHeartbeats 4000000 in
theorem kX6_tapeAt {l : Launch} {D : va_G} {cI cB cL cK : ClassId} {ad : Nat → Nat} {thr : Int32} {tpd : Int32} {siz : Int32} {too : Int32} {frm : Int32} {srt : Int32} {num : Int32} {flt : Int32} {plc : Int32} {wrd : Int64} {snm : Int32} {lin : Int32} {stp : Int32} {sfo : Int32} {hst : Int32} {tp : Nat → Int32} {nw : Nat → Int32} {rd : Nat → Int32} {kp : Nat → Int32} {sn : Nat → Int32} {p1 : Int32} {res : Int32} (hm : mX6_tapeAt siz tp p1 = some res) : Rd l D cI cB cL cK yX6_tapeAt wsX6_tapeAt rmX6_tapeAt [.ref (ad 0), .int p1] (wM cI ad thr tpd siz too frm srt num flt plc wrd snm lin stp sfo hst tp nw rd kp sn) res := by
  refine Rd.of (cc := cX6_tapeAt) (own := RX6) (by decide) rfl rfl (Nat.le_of_ble_eq_true rfl) (fun p e s m below meth c ls Q C hP hl hret => ?_)
  obtain ⟨hx, hb, hr, hml, hown, hts, hlk, hK⟩ := id C
  have hcf : CallFix p m c cX6_tapeAt 2 s _ wsX6_tapeAt RX6 := ⟨hx, hb, hml, hown, hts⟩
  have hl : lv_has ls 2 [(0, .ref (ad 0)), (1, .int p1)] := hl
  unfold mX6_tapeAt at hm
  refine lv_iload_n hx hb dX6_tapeAt_0 rfl (lv_at hl 1 rfl) ?_
  refine lv_aload_n hx hb dX6_tapeAt_1 rfl (lv_at hl 0 rfl) ?_
  refine gf (q0 := 0) hx hb hts hown hK flX6_tapeAt_18 hP rfl rfl dX6_tapeAt_2 ?_
  refine lv_icmp_ge (tgt := 17) hx hb dX6_tapeAt_5 (by decide) (fun c_1 => ?_) (fun c_1 => ?_)
  · replace hm := br_p hm c_1
    refine lv_iconst (v := 0) hx hb dX6_tapeAt_17 (by decide) ?_
    cases hm
    exact hret _ _ dX6_tapeAt_18 rfl
  · replace hm := br_n hm c_1
    refine lv_aload_n hx hb dX6_tapeAt_8 rfl (lv_at hl 0 rfl) ?_
    refine gf (q0 := 0) hx hb hts hown hK flX6_tapeAt_7 hP rfl rfl dX6_tapeAt_9 ?_
    refine lv_iload_n hx hb dX6_tapeAt_12 rfl (lv_at hl 1 rfl) ?_
    obtain ⟨h_2, hm⟩ := ck_s hm
    refine ald (q0 := 1) (k := (p1 : Int32).toNatClampNeg) hx hb hK hP rfl h_2 rfl dX6_tapeAt_13 ?_
    refine lv_goto (tgt := 18) hx hb dX6_tapeAt_14 (by decide) ?_
    cases hm
    exact hret _ _ dX6_tapeAt_18 rfl
/-! X6 isDigit(I)Z -/
abbrev rmX6_isDigit : Room := { frames := 0, cells := 0, slots := 0, locals := 0 }
theorem hdX6_isDigit : yX6_isDigit.cls = RX6 ∧ yX6_isDigit.cls ≠ "java/lang/invoke/MethodHandle" ∧ yX6_isDigit.cls ≠ "java/lang/invoke/VarHandle" ∧ (parseMethodDescriptor yX6_isDigit.desc).map (fun d => d.parameters.length) = some 1 := by decide +kernel
set_option maxRecDepth 100000 in
set_option maxHeartbeats 4000000 in
theorem kX6_isDigit {l : Launch} {D : va_G} {cI cB cL cK : ClassId}   {p1 : Int32} {res : Int32} (hm : mX6_isDigit p1 = some res) : Rd l D cI cB cL cK yX6_isDigit wsX6_isDigit rmX6_isDigit [.int p1] [] res := by
  refine Rd.of (cc := cX6_isDigit) (own := RX6) (by decide) rfl rfl (Nat.le_of_ble_eq_true rfl) (fun p e s m below meth c ls Q C hP hl hret => ?_)
  obtain ⟨hx, hb, hr, hml, hown, hts, hlk, hK⟩ := id C
  have hcf : CallFix p m c cX6_isDigit 1 s _ wsX6_isDigit RX6 := ⟨hx, hb, hml, hown, hts⟩
  have hl : lv_has ls 1 [(0, .int p1)] := hl
  unfold mX6_isDigit at hm
  refine lv_iload_n hx hb dX6_isDigit_0 rfl (lv_at hl 0 rfl) ?_
  refine lv_bipush (v := 48) hx hb dX6_isDigit_1 (by decide) ?_
  refine lv_icmp_lt (tgt := 16) hx hb dX6_isDigit_3 (by decide) (fun c_1 => ?_) (fun c_1 => ?_)
  · replace hm := br_p hm c_1
    refine lv_iconst (v := 0) hx hb dX6_isDigit_16 (by decide) ?_
    cases hm
    exact hret _ _ dX6_isDigit_17 rfl
  · replace hm := br_n hm c_1
    refine lv_iload_n hx hb dX6_isDigit_6 rfl (lv_at hl 0 rfl) ?_
    refine lv_bipush (v := 57) hx hb dX6_isDigit_7 (by decide) ?_
    refine lv_icmp_gt (tgt := 16) hx hb dX6_isDigit_9 (by decide) (fun c_2 => ?_) (fun c_2 => ?_)
    · replace hm := br_p hm c_2
      refine lv_iconst (v := 0) hx hb dX6_isDigit_16 (by decide) ?_
      cases hm
      exact hret _ _ dX6_isDigit_17 rfl
    · replace hm := br_n hm c_2
      refine lv_iconst (v := 1) hx hb dX6_isDigit_12 (by decide) ?_
      refine lv_goto (tgt := 17) hx hb dX6_isDigit_13 (by decide) ?_
      cases hm
      exact hret _ _ dX6_isDigit_17 rfl
/-! X6 isLetter(I)Z -/
abbrev rmX6_isLetter : Room := { frames := 0, cells := 0, slots := 0, locals := 0 }
theorem hdX6_isLetter : yX6_isLetter.cls = RX6 ∧ yX6_isLetter.cls ≠ "java/lang/invoke/MethodHandle" ∧ yX6_isLetter.cls ≠ "java/lang/invoke/VarHandle" ∧ (parseMethodDescriptor yX6_isLetter.desc).map (fun d => d.parameters.length) = some 1 := by decide +kernel
set_option maxRecDepth 100000 in
set_option maxHeartbeats 4000000 in
theorem kX6_isLetter {l : Launch} {D : va_G} {cI cB cL cK : ClassId}   {p1 : Int32} {res : Int32} (hm : mX6_isLetter p1 = some res) : Rd l D cI cB cL cK yX6_isLetter wsX6_isLetter rmX6_isLetter [.int p1] [] res := by
  refine Rd.of (cc := cX6_isLetter) (own := RX6) (by decide) rfl rfl (Nat.le_of_ble_eq_true rfl) (fun p e s m below meth c ls Q C hP hl hret => ?_)
  obtain ⟨hx, hb, hr, hml, hown, hts, hlk, hK⟩ := id C
  have hcf : CallFix p m c cX6_isLetter 1 s _ wsX6_isLetter RX6 := ⟨hx, hb, hml, hown, hts⟩
  have hl : lv_has ls 1 [(0, .int p1)] := hl
  unfold mX6_isLetter at hm
  refine lv_iload_n hx hb dX6_isLetter_0 rfl (lv_at hl 0 rfl) ?_
  refine lv_bipush (v := 97) hx hb dX6_isLetter_1 (by decide) ?_
  refine lv_icmp_lt (tgt := 16) hx hb dX6_isLetter_3 (by decide) (fun c_1 => ?_) (fun c_1 => ?_)
  · replace hm := br_p hm c_1
    refine lv_iconst (v := 0) hx hb dX6_isLetter_16 (by decide) ?_
    cases hm
    exact hret _ _ dX6_isLetter_17 rfl
  · replace hm := br_n hm c_1
    refine lv_iload_n hx hb dX6_isLetter_6 rfl (lv_at hl 0 rfl) ?_
    refine lv_bipush (v := 122) hx hb dX6_isLetter_7 (by decide) ?_
    refine lv_icmp_gt (tgt := 16) hx hb dX6_isLetter_9 (by decide) (fun c_2 => ?_) (fun c_2 => ?_)
    · replace hm := br_p hm c_2
      refine lv_iconst (v := 0) hx hb dX6_isLetter_16 (by decide) ?_
      cases hm
      exact hret _ _ dX6_isLetter_17 rfl
    · replace hm := br_n hm c_2
      refine lv_iconst (v := 1) hx hb dX6_isLetter_12 (by decide) ?_
      refine lv_goto (tgt := 17) hx hb dX6_isLetter_13 (by decide) ?_
      cases hm
      exact hret _ _ dX6_isLetter_17 rfl
/-! X6 go()V -/
abbrev rmX6_go : Room := { frames := 1, cells := 0, slots := 0, locals := 21 }
theorem hdX6_go : yX6_go.cls = RX6 ∧ yX6_go.cls ≠ "java/lang/invoke/MethodHandle" ∧ yX6_go.cls ≠ "java/lang/invoke/VarHandle" ∧ (parseMethodDescriptor yX6_go.desc).map (fun d => d.parameters.length) = some 0 := by decide +kernel
theorem inX6_go_X6 : ∀ w ∈ u_ws RX6 TX6 20, w ∈ wsX6_go := by decide +kernel
theorem cwX6_go_X6_isDigit {s : State} {args : Array Value} (hts : ∀ w ∈ wsX6_go, w.before args s = true) : CallB rmX6_go s args RX6 34 yX6_isDigit cX6_isDigit 1 (some .boolean) wsX6_isDigit rmX6_isDigit 0 0 1 ∧ (Cond.static yX6_isDigit).before args s = true := va_cwS 1 hts gX6_go_X6_isDigit rfl rfl rfl hdX6_isDigit.2 ⟨Nat.le_of_ble_eq_true rfl, Nat.le_of_ble_eq_true rfl⟩
theorem cwX6_go_X6_isLetter {s : State} {args : Array Value} (hts : ∀ w ∈ wsX6_go, w.before args s = true) : CallB rmX6_go s args RX6 30 yX6_isLetter cX6_isLetter 1 (some .boolean) wsX6_isLetter rmX6_isLetter 0 0 1 ∧ (Cond.static yX6_isLetter).before args s = true := va_cwS 1 hts gX6_go_X6_isLetter rfl rfl rfl hdX6_isLetter.2 ⟨Nat.le_of_ble_eq_true rfl, Nat.le_of_ble_eq_true rfl⟩
theorem cwX6_go_X6_tapeAt {s : State} {args : Array Value} (hts : ∀ w ∈ wsX6_go, w.before args s = true) : CallW rmX6_go s args RX6 RX6 44 yX6_tapeAt cX6_tapeAt 2 (some .int) wsX6_tapeAt rmX6_tapeAt 0 0 1 := cwV 1 hts gX6_go_X6_tapeAt rfl rfl rfl hdX6_tapeAt ⟨Nat.le_of_ble_eq_true rfl, Nat.le_of_ble_eq_true rfl⟩
theorem flX6_go_18 : Fl wsX6_go RX6 18 6 3 := ⟨_, _, _, rfl, by decide, inX6_go_X6, by decide +kernel⟩
theorem flX6_go_21 : Fl wsX6_go RX6 21 6 4 := ⟨_, _, _, rfl, by decide, inX6_go_X6, by decide +kernel⟩
theorem flX6_go_24 : Fl wsX6_go RX6 24 6 5 := ⟨_, _, _, rfl, by decide, inX6_go_X6, by decide +kernel⟩
theorem flX6_go_37 : Fl wsX6_go RX6 37 6 10 := ⟨_, _, _, rfl, by decide, inX6_go_X6, by decide +kernel⟩
theorem flX6_go_41 : Fl wsX6_go RX6 41 6 7 := ⟨_, _, _, rfl, by decide, inX6_go_X6, by decide +kernel⟩
theorem flX6_go_7 : Fl wsX6_go RX6 7 6 1 := ⟨_, _, _, rfl, by decide, inX6_go_X6, by decide +kernel⟩
theorem fpX6_go_21 : Fp wsX6_go RX6 21 6 4 false .int := ⟨_, _, _, tyX6, rfl, by decide, inX6_go_X6, by decide +kernel, tyX6_ok, nmX6, rfl, rfl, by decide +kernel⟩
theorem fpX6_go_24 : Fp wsX6_go RX6 24 6 5 false .int := ⟨_, _, _, tyX6, rfl, by decide, inX6_go_X6, by decide +kernel, tyX6_ok, nmX6, rfl, rfl, by decide +kernel⟩
theorem fpX6_go_27 : Fp wsX6_go RX6 27 6 6 false .int := ⟨_, _, _, tyX6, rfl, by decide, inX6_go_X6, by decide +kernel, tyX6_ok, nmX6, rfl, rfl, by decide +kernel⟩
theorem fpX6_go_37 : Fp wsX6_go RX6 37 6 10 false .long := ⟨_, _, _, tyX6, rfl, by decide, inX6_go_X6, by decide +kernel, tyX6_ok, nmX6, rfl, rfl, by decide +kernel⟩
theorem fpX6_go_41 : Fp wsX6_go RX6 41 6 7 false .int := ⟨_, _, _, tyX6, rfl, by decide, inX6_go_X6, by decide +kernel, tyX6_ok, nmX6, rfl, rfl, by decide +kernel⟩
theorem kcX6_go_48 : Cond.constantLong RX6 48 27 ∈ wsX6_go := by decide +kernel
theorem kcX6_go_50 : Cond.constantLong RX6 50 96 ∈ wsX6_go := by decide +kernel
set_option maxRecDepth 100000 in
set_option maxHeartbeats 4000000 in
theorem tX6_go_b299 {ad : Nat → Nat} {thr : Int32} {tpd : Int32} {siz : Int32} {flt : Int32} {plc : Int32} {snm : Int32} {lin : Int32} {stp : Int32} {sfo : Int32} {hst : Int32} {tp : Nat → Int32} {nw : Nat → Int32} {rd : Nat → Int32} {kp : Nat → Int32} {sn : Nat → Int32} {too' : Int32} {frm' : Int32} {srt' : Int32} {num' : Int32} {wrd' : Int64} {rec177 : Int32 → Int32 → Int32 → Int32 → Int32 → Int32 → Int64 → Option (Int32 × Int32 × Int32 × Int32 × Int64)} (C : Cx p s m args meth c cX6_go none 5 wsX6_go RX6 D cI cB cL cK) (hA : ∀ q : Nat, s.heap.size ≤ q → A q) (hret : ∀ (pc : Nat) (ls : Array Slot) (H : Heap) (locs : List Loc), decode cX6_go pc = .ok (.return_, 1) → va_P D vwCl (wM cI ad thr tpd siz too' frm' srt' num' flt plc wrd' snm lin stp sfo hst tp nw rd kp sn) H → va_D A (wM cI ad thr tpd siz too' frm' srt' num' flt plc wrd' snm lin stp sfo hst tp nw rd kp sn) → va_S A s.heap H locs → W p l e rmX6_go s m args below meth c H locs 0 0 Q (F0 m pc ls [])) (hrec177 : ∀ (x2 : Int32) (x3 : Int32) (too : Int32) (frm : Int32) (srt : Int32) (num : Int32) (wrd : Int64), rec177 x2 x3 too frm srt num wrd = some (too', frm', srt', num', wrd') → ∀ (H : Heap) (locs : List Loc) (ls : Array Slot), va_P D vwCl (wM cI ad thr tpd siz too frm srt num flt plc wrd snm lin stp sfo hst tp nw rd kp sn) H → va_D A (wM cI ad thr tpd siz too frm srt num flt plc wrd snm lin stp sfo hst tp nw rd kp sn) → va_S A s.heap H locs → lv_has ls 5 [(0, .ref (ad 0)), (2, .int x2), (3, .int x3)] → W p l e rmX6_go s m args below meth c H locs 0 0 Q (F0 m 177 ls [])) : ∀ (x2 : Int32) (x3 : Int32) (too : Int32) (frm : Int32) (srt : Int32) (num : Int32) (wrd : Int64), mX6_go_b299 rec177 siz tp x2 x3 too frm srt num wrd = some (too', frm', srt', num', wrd') → ∀ (H : Heap) (locs : List Loc) (ls : Array Slot), va_P D vwCl (wM cI ad thr tpd siz too frm srt num flt plc wrd snm lin stp sfo hst tp nw rd kp sn) H → va_D A (wM cI ad thr tpd siz too frm srt num flt plc wrd snm lin stp sfo hst tp nw rd kp sn) → va_S A s.heap H locs → lv_has ls 5 [(0, .ref (ad 0)), (2, .int x2), (3, .int x3)] → W p l e rmX6_go s m args below meth c H locs 0 0 Q (F0 m 299 ls []) := by
  obtain ⟨hx, hb, hr, hml, hown, hts, hlk, hK⟩ := id C
  have hcf : CallFix p m c cX6_go 5 s args wsX6_go RX6 := ⟨hx, hb, hml, hown, hts⟩
  intro x2 x3 too frm srt num wrd hm H locs ls hP hD hS hl
  unfold mX6_go_b299 at hm
  refine lv_aload_n hx hb dX6_go_299 rfl (lv_at hl 0 rfl) ?_
  refine lv_dup hx hb dX6_go_300 rfl ?_
  refine gf (q0 := 0) hx hb hts hown hK flX6_go_21 hP rfl rfl dX6_go_301 ?_
  refine lv_iconst (v := 1) hx hb dX6_go_304 (by decide) ?_
  refine lv_iadd hx hb dX6_go_305 ?_
  refine pf (q0 := 0) (X' := (wM cI ad thr tpd siz (too + 1) frm srt num flt plc wrd snm lin stp sfo hst tp nw rd kp sn)) hx hb hts hown hK fpX6_go_21 hP hD hS rfl rfl rfl (Nat.le_of_ble_eq_true rfl) rfl dX6_go_306 (fun H locs hP hD hS => ?_)
  refine lv_goto (tgt := 177) hx hb dX6_go_309 (by decide) ?_
  exact hrec177 _ _ _ _ _ _ _ hm _ _ _ hP hD hS (lv_sub hl [0, 1, 2] rfl)
set_option maxRecDepth 100000 in
set_option maxHeartbeats 4000000 in
theorem tX6_go_b269 {ad : Nat → Nat} {thr : Int32} {tpd : Int32} {siz : Int32} {flt : Int32} {plc : Int32} {snm : Int32} {lin : Int32} {stp : Int32} {sfo : Int32} {hst : Int32} {tp : Nat → Int32} {nw : Nat → Int32} {rd : Nat → Int32} {kp : Nat → Int32} {sn : Nat → Int32} {too' : Int32} {frm' : Int32} {srt' : Int32} {num' : Int32} {wrd' : Int64} {rec177 : Int32 → Int32 → Int32 → Int32 → Int32 → Int32 → Int64 → Option (Int32 × Int32 × Int32 × Int32 × Int64)} (C : Cx p s m args meth c cX6_go none 5 wsX6_go RX6 D cI cB cL cK) (hA : ∀ q : Nat, s.heap.size ≤ q → A q) (hret : ∀ (pc : Nat) (ls : Array Slot) (H : Heap) (locs : List Loc), decode cX6_go pc = .ok (.return_, 1) → va_P D vwCl (wM cI ad thr tpd siz too' frm' srt' num' flt plc wrd' snm lin stp sfo hst tp nw rd kp sn) H → va_D A (wM cI ad thr tpd siz too' frm' srt' num' flt plc wrd' snm lin stp sfo hst tp nw rd kp sn) → va_S A s.heap H locs → W p l e rmX6_go s m args below meth c H locs 0 0 Q (F0 m pc ls [])) (hrec177 : ∀ (x2 : Int32) (x3 : Int32) (too : Int32) (frm : Int32) (srt : Int32) (num : Int32) (wrd : Int64), rec177 x2 x3 too frm srt num wrd = some (too', frm', srt', num', wrd') → ∀ (H : Heap) (locs : List Loc) (ls : Array Slot), va_P D vwCl (wM cI ad thr tpd siz too frm srt num flt plc wrd snm lin stp sfo hst tp nw rd kp sn) H → va_D A (wM cI ad thr tpd siz too frm srt num flt plc wrd snm lin stp sfo hst tp nw rd kp sn) → va_S A s.heap H locs → lv_has ls 5 [(0, .ref (ad 0)), (2, .int x2), (3, .int x3)] → W p l e rmX6_go s m args below meth c H locs 0 0 Q (F0 m 177 ls [])) : ∀ (x2 : Int32) (x3 : Int32) (x4 : Int32) (too : Int32) (frm : Int32) (srt : Int32) (num : Int32) (wrd : Int64), mX6_go_b269 rec177 siz tp x2 x3 x4 too frm srt num wrd = some (too', frm', srt', num', wrd') → ∀ (H : Heap) (locs : List Loc) (ls : Array Slot), va_P D vwCl (wM cI ad thr tpd siz too frm srt num flt plc wrd snm lin stp sfo hst tp nw rd kp sn) H → va_D A (wM cI ad thr tpd siz too frm srt num flt plc wrd snm lin stp sfo hst tp nw rd kp sn) → va_S A s.heap H locs → lv_has ls 5 [(0, .ref (ad 0)), (2, .int x2), (3, .int x3), (4, .int x4)] → W p l e rmX6_go s m args below meth c H locs 0 0 Q (F0 m 269 ls []) := by
  obtain ⟨hx, hb, hr, hml, hown, hts, hlk, hK⟩ := id C
  have hcf : CallFix p m c cX6_go 5 s args wsX6_go RX6 := ⟨hx, hb, hml, hown, hts⟩
  intro x2 x3 x4 too frm srt num wrd hm H locs ls hP hD hS hl
  unfold mX6_go_b269 at hm
  refine lv_aload_n hx hb dX6_go_269 rfl (lv_at hl 0 rfl) ?_
  refine gf (q0 := 0) hx hb hts hown hK flX6_go_21 hP rfl rfl dX6_go_270 ?_
  refine lv_aload_n hx hb dX6_go_273 rfl (lv_at hl 0 rfl) ?_
  refine gf (q0 := 0) hx hb hts hown hK flX6_go_24 hP rfl rfl dX6_go_274 ?_
  refine lv_isub hx hb dX6_go_277 ?_
  refine lv_iconst (v := 4) hx hb dX6_go_278 (by decide) ?_
  refine lv_icmp_ge (tgt := 299) hx hb dX6_go_279 (by decide) (fun c_39 => ?_) (fun c_39 => ?_)
  · replace hm := br_p hm c_39
    exact tX6_go_b299 C hA hret hrec177 _ _ _ _ _ _ _ hm _ _ _ hP hD hS (lv_sub hl [0, 1, 2] rfl)
  · replace hm := br_n hm c_39
    refine lv_aload_n hx hb dX6_go_282 rfl (lv_at hl 0 rfl) ?_
    refine lv_bipush (v := 10) hx hb dX6_go_283 (by decide) ?_
    refine lv_aload_n hx hb dX6_go_285 rfl (lv_at hl 0 rfl) ?_
    refine gf (q0 := 0) hx hb hts hown hK flX6_go_41 hP rfl rfl dX6_go_286 ?_
    refine lv_imul hx hb dX6_go_289 ?_
    refine lv_iload hx hb dX6_go_290 (lv_at hl 3 rfl) ?_
    refine lv_iadd hx hb dX6_go_292 ?_
    refine lv_bipush (v := 48) hx hb dX6_go_293 (by decide) ?_
    refine lv_isub hx hb dX6_go_295 ?_
    refine pf (q0 := 0) (X' := (wM cI ad thr tpd siz too frm srt (((10 * num) + x4) - 48) flt plc wrd snm lin stp sfo hst tp nw rd kp sn)) hx hb hts hown hK fpX6_go_41 hP hD hS rfl rfl rfl (Nat.le_of_ble_eq_true rfl) rfl dX6_go_296 (fun H locs hP hD hS => ?_)
    exact tX6_go_b299 C hA hret hrec177 _ _ _ _ _ _ _ hm _ _ _ hP hD hS (lv_sub hl [0, 1, 2] rfl)
set_option maxRecDepth 100000 in
set_option maxHeartbeats 4000000 in
theorem tX6_go_b234 {ad : Nat → Nat} {thr : Int32} {tpd : Int32} {siz : Int32} {flt : Int32} {plc : Int32} {snm : Int32} {lin : Int32} {stp : Int32} {sfo : Int32} {hst : Int32} {tp : Nat → Int32} {nw : Nat → Int32} {rd : Nat → Int32} {kp : Nat → Int32} {sn : Nat → Int32} {too' : Int32} {frm' : Int32} {srt' : Int32} {num' : Int32} {wrd' : Int64} {rec177 : Int32 → Int32 → Int32 → Int32 → Int32 → Int32 → Int64 → Option (Int32 × Int32 × Int32 × Int32 × Int64)} (C : Cx p s m args meth c cX6_go none 5 wsX6_go RX6 D cI cB cL cK) (hA : ∀ q : Nat, s.heap.size ≤ q → A q) (hret : ∀ (pc : Nat) (ls : Array Slot) (H : Heap) (locs : List Loc), decode cX6_go pc = .ok (.return_, 1) → va_P D vwCl (wM cI ad thr tpd siz too' frm' srt' num' flt plc wrd' snm lin stp sfo hst tp nw rd kp sn) H → va_D A (wM cI ad thr tpd siz too' frm' srt' num' flt plc wrd' snm lin stp sfo hst tp nw rd kp sn) → va_S A s.heap H locs → W p l e rmX6_go s m args below meth c H locs 0 0 Q (F0 m pc ls [])) (hrec177 : ∀ (x2 : Int32) (x3 : Int32) (too : Int32) (frm : Int32) (srt : Int32) (num : Int32) (wrd : Int64), rec177 x2 x3 too frm srt num wrd = some (too', frm', srt', num', wrd') → ∀ (H : Heap) (locs : List Loc) (ls : Array Slot), va_P D vwCl (wM cI ad thr tpd siz too frm srt num flt plc wrd snm lin stp sfo hst tp nw rd kp sn) H → va_D A (wM cI ad thr tpd siz too frm srt num flt plc wrd snm lin stp sfo hst tp nw rd kp sn) → va_S A s.heap H locs → lv_has ls 5 [(0, .ref (ad 0)), (2, .int x2), (3, .int x3)] → W p l e rmX6_go s m args below meth c H locs 0 0 Q (F0 m 177 ls [])) : ∀ (x2 : Int32) (x4 : Int32) (k0 : Int32) (too : Int32) (frm : Int32) (srt : Int32) (num : Int32) (wrd : Int64), mX6_go_b234 rec177 siz tp x2 x4 k0 too frm srt num wrd = some (too', frm', srt', num', wrd') → ∀ (H : Heap) (locs : List Loc) (ls : Array Slot), va_P D vwCl (wM cI ad thr tpd siz too frm srt num flt plc wrd snm lin stp sfo hst tp nw rd kp sn) H → va_D A (wM cI ad thr tpd siz too frm srt num flt plc wrd snm lin stp sfo hst tp nw rd kp sn) → va_S A s.heap H locs → lv_has ls 5 [(0, .ref (ad 0)), (2, .int x2), (4, .int x4)] → W p l e rmX6_go s m args below meth c H locs 0 0 Q (F0 m 234 ls [.int k0]) := by
  obtain ⟨hx, hb, hr, hml, hown, hts, hlk, hK⟩ := id C
  have hcf : CallFix p m c cX6_go 5 s args wsX6_go RX6 := ⟨hx, hb, hml, hown, hts⟩
  intro x2 x4 k0 too frm srt num wrd hm H locs ls hP hD hS hl
  unfold mX6_go_b234 at hm
  refine lv_istore_n (lv' := [(3, .int k0), (0, .ref (ad 0)), (2, .int x2), (4, .int x4)]) hx hb dX6_go_234 rfl hl (by decide) rfl (fun ls hl => ?_)
  refine lv_aload_n hx hb dX6_go_235 rfl (lv_at hl 1 rfl) ?_
  refine gf (q0 := 0) hx hb hts hown hK flX6_go_21 hP rfl rfl dX6_go_236 ?_
  refine lv_aload_n hx hb dX6_go_239 rfl (lv_at hl 1 rfl) ?_
  refine gf (q0 := 0) hx hb hts hown hK flX6_go_24 hP rfl rfl dX6_go_240 ?_
  refine lv_isub hx hb dX6_go_243 ?_
  refine lv_bipush (v := 8) hx hb dX6_go_244 (by decide) ?_
  refine lv_icmp_ge (tgt := 269) hx hb dX6_go_246 (by decide) (fun c_38 => ?_) (fun c_38 => ?_)
  · replace hm := br_p hm c_38
    exact tX6_go_b269 C hA hret hrec177 _ _ _ _ _ _ _ _ hm _ _ _ hP hD hS (lv_sub hl [1, 2, 0, 3] rfl)
  · replace hm := br_n hm c_38
    refine lv_aload_n hx hb dX6_go_249 rfl (lv_at hl 1 rfl) ?_
    refine lv_ldc2 (v := 27) hx hb hown (hts _ kcX6_go_48) dX6_go_250 ?_
    refine lv_aload_n hx hb dX6_go_253 rfl (lv_at hl 1 rfl) ?_
    refine gf (q0 := 0) hx hb hts hown hK flX6_go_37 hP rfl rfl dX6_go_254 ?_
    refine lv_lmul hx hb dX6_go_257 ?_
    refine lv_iload hx hb dX6_go_258 (lv_at hl 3 rfl) ?_
    refine lv_i2l (v := (x4 : Int32).toInt64) hx hb dX6_go_260 rfl ?_
    refine lv_ladd hx hb dX6_go_261 ?_
    refine lv_ldc2 (v := 96) hx hb hown (hts _ kcX6_go_50) dX6_go_262 ?_
    refine lv_lsub hx hb dX6_go_265 ?_
    refine pf (q0 := 0) (X' := (wM cI ad thr tpd siz too frm srt num flt plc (((27 * wrd) + ((x4 : Int32).toInt64)) - 96) snm lin stp sfo hst tp nw rd kp sn)) hx hb hts hown hK fpX6_go_37 hP hD hS rfl rfl rfl (Nat.le_of_ble_eq_true rfl) rfl dX6_go_266 (fun H locs hP hD hS => ?_)
    exact tX6_go_b269 C hA hret hrec177 _ _ _ _ _ _ _ _ hm _ _ _ hP hD hS (lv_sub hl [1, 2, 0, 3] rfl)
set_option maxRecDepth 100000 in
set_option maxHeartbeats 4000000 in
theorem tX6_go_b205 {ad : Nat → Nat} {thr : Int32} {tpd : Int32} {siz : Int32} {flt : Int32} {plc : Int32} {snm : Int32} {lin : Int32} {stp : Int32} {sfo : Int32} {hst : Int32} {tp : Nat → Int32} {nw : Nat → Int32} {rd : Nat → Int32} {kp : Nat → Int32} {sn : Nat → Int32} {too' : Int32} {frm' : Int32} {srt' : Int32} {num' : Int32} {wrd' : Int64} {rec177 : Int32 → Int32 → Int32 → Int32 → Int32 → Int32 → Int64 → Option (Int32 × Int32 × Int32 × Int32 × Int64)} (C : Cx p s m args meth c cX6_go none 5 wsX6_go RX6 D cI cB cL cK) (hA : ∀ q : Nat, s.heap.size ≤ q → A q) (hret : ∀ (pc : Nat) (ls : Array Slot) (H : Heap) (locs : List Loc), decode cX6_go pc = .ok (.return_, 1) → va_P D vwCl (wM cI ad thr tpd siz too' frm' srt' num' flt plc wrd' snm lin stp sfo hst tp nw rd kp sn) H → va_D A (wM cI ad thr tpd siz too' frm' srt' num' flt plc wrd' snm lin stp sfo hst tp nw rd kp sn) → va_S A s.heap H locs → W p l e rmX6_go s m args below meth c H locs 0 0 Q (F0 m pc ls [])) (hrec177 : ∀ (x2 : Int32) (x3 : Int32) (too : Int32) (frm : Int32) (srt : Int32) (num : Int32) (wrd : Int64), rec177 x2 x3 too frm srt num wrd = some (too', frm', srt', num', wrd') → ∀ (H : Heap) (locs : List Loc) (ls : Array Slot), va_P D vwCl (wM cI ad thr tpd siz too frm srt num flt plc wrd snm lin stp sfo hst tp nw rd kp sn) H → va_D A (wM cI ad thr tpd siz too frm srt num flt plc wrd snm lin stp sfo hst tp nw rd kp sn) → va_S A s.heap H locs → lv_has ls 5 [(0, .ref (ad 0)), (2, .int x2), (3, .int x3)] → W p l e rmX6_go s m args below meth c H locs 0 0 Q (F0 m 177 ls [])) : ∀ (x2 : Int32) (x3 : Int32) (too : Int32) (frm : Int32) (srt : Int32) (num : Int32) (wrd : Int64), mX6_go_b205 rec177 siz tp x2 x3 too frm srt num wrd = some (too', frm', srt', num', wrd') → ∀ (H : Heap) (locs : List Loc) (ls : Array Slot), va_P D vwCl (wM cI ad thr tpd siz too frm srt num flt plc wrd snm lin stp sfo hst tp nw rd kp sn) H → va_D A (wM cI ad thr tpd siz too frm srt num flt plc wrd snm lin stp sfo hst tp nw rd kp sn) → va_S A s.heap H locs → lv_has ls 5 [(0, .ref (ad 0)), (2, .int x2), (3, .int x3)] → W p l e rmX6_go s m args below meth c H locs 0 0 Q (F0 m 205 ls []) := by
  obtain ⟨hx, hb, hr, hml, hown, hts, hlk, hK⟩ := id C
  have hcf : CallFix p m c cX6_go 5 s args wsX6_go RX6 := ⟨hx, hb, hml, hown, hts⟩
  intro x2 x3 too frm srt num wrd hm H locs ls hP hD hS hl
  unfold mX6_go_b205 at hm
  refine lv_aload_n hx hb dX6_go_205 rfl (lv_at hl 0 rfl) ?_
  refine gf (q0 := 0) hx hb hts hown hK flX6_go_7 hP rfl rfl dX6_go_206 ?_
  refine lv_aload_n hx hb dX6_go_209 rfl (lv_at hl 0 rfl) ?_
  refine gf (q0 := 0) hx hb hts hown hK flX6_go_21 hP rfl rfl dX6_go_210 ?_
  obtain ⟨h_32, hm⟩ := ck_s hm
  refine ald (q0 := 1) (k := (too : Int32).toNatClampNeg) hx hb hK hP rfl h_32 rfl dX6_go_213 ?_
  refine lv_istore (lv' := [(4, .int (tp ((too : Int32).toNatClampNeg))), (0, .ref (ad 0)), (2, .int x2), (3, .int x3)]) hx hb dX6_go_214 hl (by decide) rfl (fun ls hl => ?_)
  refine lv_iload_n hx hb dX6_go_216 rfl (lv_at hl 3 rfl) ?_
  refine lv_if_eq (tgt := 233) hx hb dX6_go_217 (by decide) (fun c_33 => ?_) (fun c_33 => ?_)
  · replace hm := br_p hm c_33
    refine lv_iconst (v := 0) hx hb dX6_go_233 (by decide) ?_
    exact tX6_go_b234 C hA hret hrec177 _ _ _ _ _ _ _ _ hm _ _ _ hP hD hS (lv_sub hl [1, 2, 0] rfl)
  · replace hm := br_n hm c_33
    refine lv_iload hx hb dX6_go_220 (lv_at hl 0 rfl) ?_
    obtain ⟨v34, h_35, hm⟩ := b1_s hm
    refine rd_s hcf (kX6_isLetter h_35) (cwX6_go_X6_isLetter hts) hK hP Sb.nil rfl hl.1 rfl (Nat.le_of_ble_eq_true rfl) dX6_go_222 ⟨Nat.zero_le _, Nat.zero_le _⟩ ?_
    refine lv_iload_n hx hb dX6_go_225 rfl (lv_at hl 2 rfl) ?_
    refine lv_icmp_ne (tgt := 233) hx hb dX6_go_226 (by decide) (fun c_36 => ?_) (fun c_36 => ?_)
    · replace hm := br_n hm c_36
      refine lv_iconst (v := 0) hx hb dX6_go_233 (by decide) ?_
      exact tX6_go_b234 C hA hret hrec177 _ _ _ _ _ _ _ _ hm _ _ _ hP hD hS (lv_sub hl [1, 2, 0] rfl)
    · replace hm := br_p hm c_36
      refine lv_iconst (v := 1) hx hb dX6_go_229 (by decide) ?_
      refine lv_goto (tgt := 234) hx hb dX6_go_230 (by decide) ?_
      exact tX6_go_b234 C hA hret hrec177 _ _ _ _ _ _ _ _ hm _ _ _ hP hD hS (lv_sub hl [1, 2, 0] rfl)
set_option maxRecDepth 100000 in
set_option maxHeartbeats 4000000 in
theorem tX6_go_b338 {ad : Nat → Nat} {thr : Int32} {tpd : Int32} {siz : Int32} {flt : Int32} {plc : Int32} {snm : Int32} {lin : Int32} {stp : Int32} {sfo : Int32} {hst : Int32} {tp : Nat → Int32} {nw : Nat → Int32} {rd : Nat → Int32} {kp : Nat → Int32} {sn : Nat → Int32} {too' : Int32} {frm' : Int32} {srt' : Int32} {num' : Int32} {wrd' : Int64} (C : Cx p s m args meth c cX6_go none 5 wsX6_go RX6 D cI cB cL cK) (hA : ∀ q : Nat, s.heap.size ≤ q → A q) (hret : ∀ (pc : Nat) (ls : Array Slot) (H : Heap) (locs : List Loc), decode cX6_go pc = .ok (.return_, 1) → va_P D vwCl (wM cI ad thr tpd siz too' frm' srt' num' flt plc wrd' snm lin stp sfo hst tp nw rd kp sn) H → va_D A (wM cI ad thr tpd siz too' frm' srt' num' flt plc wrd' snm lin stp sfo hst tp nw rd kp sn) → va_S A s.heap H locs → W p l e rmX6_go s m args below meth c H locs 0 0 Q (F0 m pc ls [])) : ∀ (x2 : Int32) (too : Int32) (frm : Int32) (srt : Int32) (num : Int32) (wrd : Int64), mX6_go_b338 siz tp x2 too frm srt num wrd = some (too', frm', srt', num', wrd') → ∀ (H : Heap) (locs : List Loc) (ls : Array Slot), va_P D vwCl (wM cI ad thr tpd siz too frm srt num flt plc wrd snm lin stp sfo hst tp nw rd kp sn) H → va_D A (wM cI ad thr tpd siz too frm srt num flt plc wrd snm lin stp sfo hst tp nw rd kp sn) → va_S A s.heap H locs → lv_has ls 5 [(2, .int x2)] → W p l e rmX6_go s m args below meth c H locs 0 0 Q (F0 m 338 ls [.ref (ad 0)]) := by
  obtain ⟨hx, hb, hr, hml, hown, hts, hlk, hK⟩ := id C
  have hcf : CallFix p m c cX6_go 5 s args wsX6_go RX6 := ⟨hx, hb, hml, hown, hts⟩
  intro x2 too frm srt num wrd hm H locs ls hP hD hS hl
  unfold mX6_go_b338 at hm
  refine lv_iload_n hx hb dX6_go_338 rfl (lv_at hl 0 rfl) ?_
  refine lv_if_eq (tgt := 346) hx hb dX6_go_339 (by decide) (fun c_37 => ?_) (fun c_37 => ?_)
  · replace hm := br_p hm c_37
    refine lv_iconst (v := 3) hx hb dX6_go_346 (by decide) ?_
    refine pf (q0 := 0) (X' := (wM cI ad thr tpd siz too frm 3 num flt plc wrd snm lin stp sfo hst tp nw rd kp sn)) hx hb hts hown hK fpX6_go_27 hP hD hS rfl rfl rfl (Nat.le_of_ble_eq_true rfl) rfl dX6_go_347 (fun H locs hP hD hS => ?_)
    cases hm
    exact hret _ _ _ _ dX6_go_350 hP hD hS
  · replace hm := br_n hm c_37
    refine lv_iconst (v := 2) hx hb dX6_go_342 (by decide) ?_
    refine lv_goto (tgt := 347) hx hb dX6_go_343 (by decide) ?_
    refine pf (q0 := 0) (X' := (wM cI ad thr tpd siz too frm 2 num flt plc wrd snm lin stp sfo hst tp nw rd kp sn)) hx hb hts hown hK fpX6_go_27 hP hD hS rfl rfl rfl (Nat.le_of_ble_eq_true rfl) rfl dX6_go_347 (fun H locs hP hD hS => ?_)
    cases hm
    exact hret _ _ _ _ dX6_go_350 hP hD hS
set_option maxRecDepth 100000 in
set_option maxHeartbeats 4000000 in
theorem tX6_go_L177 {ad : Nat → Nat} {thr : Int32} {tpd : Int32} {siz : Int32} {flt : Int32} {plc : Int32} {snm : Int32} {lin : Int32} {stp : Int32} {sfo : Int32} {hst : Int32} {tp : Nat → Int32} {nw : Nat → Int32} {rd : Nat → Int32} {kp : Nat → Int32} {sn : Nat → Int32} {too' : Int32} {frm' : Int32} {srt' : Int32} {num' : Int32} {wrd' : Int64} (C : Cx p s m args meth c cX6_go none 5 wsX6_go RX6 D cI cB cL cK) (hA : ∀ q : Nat, s.heap.size ≤ q → A q) (hret : ∀ (pc : Nat) (ls : Array Slot) (H : Heap) (locs : List Loc), decode cX6_go pc = .ok (.return_, 1) → va_P D vwCl (wM cI ad thr tpd siz too' frm' srt' num' flt plc wrd' snm lin stp sfo hst tp nw rd kp sn) H → va_D A (wM cI ad thr tpd siz too' frm' srt' num' flt plc wrd' snm lin stp sfo hst tp nw rd kp sn) → va_S A s.heap H locs → W p l e rmX6_go s m args below meth c H locs 0 0 Q (F0 m pc ls [])) : ∀ (n9 : Nat) (x2 : Int32) (x3 : Int32) (too : Int32) (frm : Int32) (srt : Int32) (num : Int32) (wrd : Int64), mX6_go_L177 n9 siz tp x2 x3 too frm srt num wrd = some (too', frm', srt', num', wrd') → ∀ (H : Heap) (locs : List Loc) (ls : Array Slot), va_P D vwCl (wM cI ad thr tpd siz too frm srt num flt plc wrd snm lin stp sfo hst tp nw rd kp sn) H → va_D A (wM cI ad thr tpd siz too frm srt num flt plc wrd snm lin stp sfo hst tp nw rd kp sn) → va_S A s.heap H locs → lv_has ls 5 [(0, .ref (ad 0)), (2, .int x2), (3, .int x3)] → W p l e rmX6_go s m args below meth c H locs 0 0 Q (F0 m 177 ls []) := by
  obtain ⟨hx, hb, hr, hml, hown, hts, hlk, hK⟩ := id C
  have hcf : CallFix p m c cX6_go 5 s args wsX6_go RX6 := ⟨hx, hb, hml, hown, hts⟩
  intro n9
  induction n9 with
  | zero => intro x2 x3 too frm srt num wrd hm; cases hm
  | succ k ih =>
    intro x2 x3 too frm srt num wrd hm H locs ls hP hD hS hl
    rw [mX6_go_L177.eq_2] at hm
    refine lv_aload_n hx hb dX6_go_177 rfl (lv_at hl 0 rfl) ?_
    refine lv_aload_n hx hb dX6_go_178 rfl (lv_at hl 0 rfl) ?_
    refine gf (q0 := 0) hx hb hts hown hK flX6_go_21 hP rfl rfl dX6_go_179 ?_
    obtain ⟨v19, h_20, hm⟩ := b1_s hm
    refine rd_v hcf (kX6_tapeAt h_20) (cwX6_go_X6_tapeAt hts) hK hP Sb.rf (ci := 6) (q0 := 0) rfl rfl rfl hl.1 rfl (Nat.le_of_ble_eq_true rfl) dX6_go_182 ⟨Nat.zero_le _, Nat.zero_le _⟩ ?_
    obtain ⟨v21, h_22, hm⟩ := b1_s hm
    refine rd_s hcf (kX6_isLetter h_22) (cwX6_go_X6_isLetter hts) hK hP Sb.nil rfl hl.1 rfl (Nat.le_of_ble_eq_true rfl) dX6_go_185 ⟨Nat.zero_le _, Nat.zero_le _⟩ ?_
    refine lv_if_ne (tgt := 205) hx hb dX6_go_188 (by decide) (fun c_23 => ?_) (fun c_23 => ?_)
    · replace hm := br_n hm c_23
      exact tX6_go_b205 C hA hret ih _ _ _ _ _ _ _ hm _ _ _ hP hD hS (lv_sub hl [0, 1, 2] rfl)
    · replace hm := br_p hm c_23
      refine lv_aload_n hx hb dX6_go_191 rfl (lv_at hl 0 rfl) ?_
      refine lv_aload_n hx hb dX6_go_192 rfl (lv_at hl 0 rfl) ?_
      refine gf (q0 := 0) hx hb hts hown hK flX6_go_21 hP rfl rfl dX6_go_193 ?_
      obtain ⟨v24, h_25, hm⟩ := b1_s hm
      refine rd_v hcf (kX6_tapeAt h_25) (cwX6_go_X6_tapeAt hts) hK hP Sb.rf (ci := 6) (q0 := 0) rfl rfl rfl hl.1 rfl (Nat.le_of_ble_eq_true rfl) dX6_go_196 ⟨Nat.zero_le _, Nat.zero_le _⟩ ?_
      obtain ⟨v26, h_27, hm⟩ := b1_s hm
      refine rd_s hcf (kX6_isDigit h_27) (cwX6_go_X6_isDigit hts) hK hP Sb.nil rfl hl.1 rfl (Nat.le_of_ble_eq_true rfl) dX6_go_199 ⟨Nat.zero_le _, Nat.zero_le _⟩ ?_
      refine lv_if_eq (tgt := 312) hx hb dX6_go_202 (by decide) (fun c_28 => ?_) (fun c_28 => ?_)
      · replace hm := br_p hm c_28
        refine lv_aload_n hx hb dX6_go_312 rfl (lv_at hl 0 rfl) ?_
        refine lv_iload_n hx hb dX6_go_313 rfl (lv_at hl 2 rfl) ?_
        refine lv_if_eq (tgt := 334) hx hb dX6_go_314 (by decide) (fun c_29 => ?_) (fun c_29 => ?_)
        · replace hm := br_p hm c_29
          refine lv_iconst (v := 1) hx hb dX6_go_334 (by decide) ?_
          refine lv_goto (tgt := 347) hx hb dX6_go_335 (by decide) ?_
          refine pf (q0 := 0) (X' := (wM cI ad thr tpd siz too frm 1 num flt plc wrd snm lin stp sfo hst tp nw rd kp sn)) hx hb hts hown hK fpX6_go_27 hP hD hS rfl rfl rfl (Nat.le_of_ble_eq_true rfl) rfl dX6_go_347 (fun H locs hP hD hS => ?_)
          cases hm
          exact hret _ _ _ _ dX6_go_350 hP hD hS
        · replace hm := br_n hm c_29
          refine lv_iload_n hx hb dX6_go_317 rfl (lv_at hl 1 rfl) ?_
          refine lv_if_ne (tgt := 338) hx hb dX6_go_318 (by decide) (fun c_30 => ?_) (fun c_30 => ?_)
          · replace hm := br_n hm c_30
            exact tX6_go_b338 C hA hret _ _ _ _ _ _ hm _ _ _ hP hD hS (lv_sub hl [1] rfl)
          · replace hm := br_p hm c_30
            refine lv_aload_n hx hb dX6_go_321 rfl (lv_at hl 0 rfl) ?_
            refine gf (q0 := 0) hx hb hts hown hK flX6_go_21 hP rfl rfl dX6_go_322 ?_
            refine lv_aload_n hx hb dX6_go_325 rfl (lv_at hl 0 rfl) ?_
            refine gf (q0 := 0) hx hb hts hown hK flX6_go_24 hP rfl rfl dX6_go_326 ?_
            refine lv_isub hx hb dX6_go_329 ?_
            refine lv_iconst (v := 4) hx hb dX6_go_330 (by decide) ?_
            refine lv_icmp_le (tgt := 338) hx hb dX6_go_331 (by decide) (fun c_31 => ?_) (fun c_31 => ?_)
            · replace hm := br_p hm c_31
              exact tX6_go_b338 C hA hret _ _ _ _ _ _ hm _ _ _ hP hD hS (lv_sub hl [1] rfl)
            · replace hm := br_n hm c_31
              refine lv_iconst (v := 1) hx hb dX6_go_334 (by decide) ?_
              refine lv_goto (tgt := 347) hx hb dX6_go_335 (by decide) ?_
              refine pf (q0 := 0) (X' := (wM cI ad thr tpd siz too frm 1 num flt plc wrd snm lin stp sfo hst tp nw rd kp sn)) hx hb hts hown hK fpX6_go_27 hP hD hS rfl rfl rfl (Nat.le_of_ble_eq_true rfl) rfl dX6_go_347 (fun H locs hP hD hS => ?_)
              cases hm
              exact hret _ _ _ _ dX6_go_350 hP hD hS
      · replace hm := br_n hm c_28
        exact tX6_go_b205 C hA hret ih _ _ _ _ _ _ _ hm _ _ _ hP hD hS (lv_sub hl [0, 1, 2] rfl)
set_option maxRecDepth 100000 in
set_option maxHeartbeats 4000000 in
theorem tX6_go_b160 {ad : Nat → Nat} {thr : Int32} {tpd : Int32} {siz : Int32} {flt : Int32} {plc : Int32} {snm : Int32} {lin : Int32} {stp : Int32} {sfo : Int32} {hst : Int32} {tp : Nat → Int32} {nw : Nat → Int32} {rd : Nat → Int32} {kp : Nat → Int32} {sn : Nat → Int32} {too' : Int32} {frm' : Int32} {srt' : Int32} {num' : Int32} {wrd' : Int64} (C : Cx p s m args meth c cX6_go none 5 wsX6_go RX6 D cI cB cL cK) (hA : ∀ q : Nat, s.heap.size ≤ q → A q) (hret : ∀ (pc : Nat) (ls : Array Slot) (H : Heap) (locs : List Loc), decode cX6_go pc = .ok (.return_, 1) → va_P D vwCl (wM cI ad thr tpd siz too' frm' srt' num' flt plc wrd' snm lin stp sfo hst tp nw rd kp sn) H → va_D A (wM cI ad thr tpd siz too' frm' srt' num' flt plc wrd' snm lin stp sfo hst tp nw rd kp sn) → va_S A s.heap H locs → W p l e rmX6_go s m args below meth c H locs 0 0 Q (F0 m pc ls [])) : ∀ (x1 : Int32) (too : Int32) (frm : Int32) (srt : Int32) (num : Int32) (wrd : Int64), mX6_go_b160 siz tp x1 too frm srt num wrd = some (too', frm', srt', num', wrd') → ∀ (H : Heap) (locs : List Loc) (ls : Array Slot), va_P D vwCl (wM cI ad thr tpd siz too frm srt num flt plc wrd snm lin stp sfo hst tp nw rd kp sn) H → va_D A (wM cI ad thr tpd siz too frm srt num flt plc wrd snm lin stp sfo hst tp nw rd kp sn) → va_S A s.heap H locs → lv_has ls 5 [(0, .ref (ad 0)), (1, .int x1)] → W p l e rmX6_go s m args below meth c H locs 0 0 Q (F0 m 160 ls []) := by
  obtain ⟨hx, hb, hr, hml, hown, hts, hlk, hK⟩ := id C
  have hcf : CallFix p m c cX6_go 5 s args wsX6_go RX6 := ⟨hx, hb, hml, hown, hts⟩
  intro x1 too frm srt num wrd hm H locs ls hP hD hS hl
  unfold mX6_go_b160 at hm
  refine lv_iload_n hx hb dX6_go_160 rfl (lv_at hl 1 rfl) ?_
  obtain ⟨v17, h_18, hm⟩ := b1_s hm
  refine rd_s hcf (kX6_isLetter h_18) (cwX6_go_X6_isLetter hts) hK hP Sb.nil rfl hl.1 rfl (Nat.le_of_ble_eq_true rfl) dX6_go_161 ⟨Nat.zero_le _, Nat.zero_le _⟩ ?_
  refine lv_istore_n (lv' := [(2, .int v17), (0, .ref (ad 0)), (1, .int x1)]) hx hb dX6_go_164 rfl hl (by decide) rfl (fun ls hl => ?_)
  refine lv_iconst (v := 1) hx hb dX6_go_165 (by decide) ?_
  refine lv_istore_n (lv' := [(3, .int 1), (2, .int v17), (0, .ref (ad 0)), (1, .int x1)]) hx hb dX6_go_166 rfl hl (by decide) rfl (fun ls hl => ?_)
  refine lv_aload_n hx hb dX6_go_167 rfl (lv_at hl 2 rfl) ?_
  refine lv_lconst (v := 0) hx hb dX6_go_168 (by decide) ?_
  refine pf (q0 := 0) (X' := (wM cI ad thr tpd siz too frm srt num flt plc 0 snm lin stp sfo hst tp nw rd kp sn)) hx hb hts hown hK fpX6_go_37 hP hD hS rfl rfl rfl (Nat.le_of_ble_eq_true rfl) rfl dX6_go_169 (fun H locs hP hD hS => ?_)
  refine lv_aload_n hx hb dX6_go_172 rfl (lv_at hl 2 rfl) ?_
  refine lv_iconst (v := 0) hx hb dX6_go_173 (by decide) ?_
  refine pf (q0 := 0) (X' := (wM cI ad thr tpd siz too frm srt 0 flt plc 0 snm lin stp sfo hst tp nw rd kp sn)) hx hb hts hown hK fpX6_go_41 hP hD hS rfl rfl rfl (Nat.le_of_ble_eq_true rfl) rfl dX6_go_174 (fun H locs hP hD hS => ?_)
  exact tX6_go_L177 C hA hret _ _ _ _ _ _ _ _ hm _ _ _ hP hD hS (lv_sub hl [2, 1, 0] rfl)
set_option maxRecDepth 100000 in
set_option maxHeartbeats 4000000 in
theorem tX6_go_b146 {ad : Nat → Nat} {thr : Int32} {tpd : Int32} {siz : Int32} {flt : Int32} {plc : Int32} {snm : Int32} {lin : Int32} {stp : Int32} {sfo : Int32} {hst : Int32} {tp : Nat → Int32} {nw : Nat → Int32} {rd : Nat → Int32} {kp : Nat → Int32} {sn : Nat → Int32} {too' : Int32} {frm' : Int32} {srt' : Int32} {num' : Int32} {wrd' : Int64} (C : Cx p s m args meth c cX6_go none 5 wsX6_go RX6 D cI cB cL cK) (hA : ∀ q : Nat, s.heap.size ≤ q → A q) (hret : ∀ (pc : Nat) (ls : Array Slot) (H : Heap) (locs : List Loc), decode cX6_go pc = .ok (.return_, 1) → va_P D vwCl (wM cI ad thr tpd siz too' frm' srt' num' flt plc wrd' snm lin stp sfo hst tp nw rd kp sn) H → va_D A (wM cI ad thr tpd siz too' frm' srt' num' flt plc wrd' snm lin stp sfo hst tp nw rd kp sn) → va_S A s.heap H locs → W p l e rmX6_go s m args below meth c H locs 0 0 Q (F0 m pc ls [])) : ∀ (k0 : Int32) (too : Int32) (frm : Int32) (srt : Int32) (num : Int32) (wrd : Int64), mX6_go_b146 siz tp k0 too frm srt num wrd = some (too', frm', srt', num', wrd') → ∀ (H : Heap) (locs : List Loc) (ls : Array Slot), va_P D vwCl (wM cI ad thr tpd siz too frm srt num flt plc wrd snm lin stp sfo hst tp nw rd kp sn) H → va_D A (wM cI ad thr tpd siz too frm srt num flt plc wrd snm lin stp sfo hst tp nw rd kp sn) → va_S A s.heap H locs → lv_has ls 5 [(0, .ref (ad 0))] → W p l e rmX6_go s m args below meth c H locs 0 0 Q (F0 m 146 ls [.int k0, .ref (ad 0)]) := by
  obtain ⟨hx, hb, hr, hml, hown, hts, hlk, hK⟩ := id C
  have hcf : CallFix p m c cX6_go 5 s args wsX6_go RX6 := ⟨hx, hb, hml, hown, hts⟩
  intro k0 too frm srt num wrd hm H locs ls hP hD hS hl
  unfold mX6_go_b146 at hm
  refine pf (q0 := 0) (X' := (wM cI ad thr tpd siz too frm k0 num flt plc wrd snm lin stp sfo hst tp nw rd kp sn)) hx hb hts hown hK fpX6_go_27 hP hD hS rfl rfl rfl (Nat.le_of_ble_eq_true rfl) rfl dX6_go_146 (fun H locs hP hD hS => ?_)
  refine lv_aload_n hx hb dX6_go_149 rfl (lv_at hl 0 rfl) ?_
  refine lv_dup hx hb dX6_go_150 rfl ?_
  refine gf (q0 := 0) hx hb hts hown hK flX6_go_21 hP rfl rfl dX6_go_151 ?_
  refine lv_iconst (v := 1) hx hb dX6_go_154 (by decide) ?_
  refine lv_iadd hx hb dX6_go_155 ?_
  refine pf (q0 := 0) (X' := (wM cI ad thr tpd siz (too + 1) frm k0 num flt plc wrd snm lin stp sfo hst tp nw rd kp sn)) hx hb hts hown hK fpX6_go_21 hP hD hS rfl rfl rfl (Nat.le_of_ble_eq_true rfl) rfl dX6_go_156 (fun H locs hP hD hS => ?_)
  cases hm
  exact hret _ _ _ _ dX6_go_159 hP hD hS
set_option maxRecDepth 100000 in
set_option maxHeartbeats 4000000 in
theorem tX6_go_b93 {ad : Nat → Nat} {thr : Int32} {tpd : Int32} {siz : Int32} {flt : Int32} {plc : Int32} {snm : Int32} {lin : Int32} {stp : Int32} {sfo : Int32} {hst : Int32} {tp : Nat → Int32} {nw : Nat → Int32} {rd : Nat → Int32} {kp : Nat → Int32} {sn : Nat → Int32} {too' : Int32} {frm' : Int32} {srt' : Int32} {num' : Int32} {wrd' : Int64} (C : Cx p s m args meth c cX6_go none 5 wsX6_go RX6 D cI cB cL cK) (hA : ∀ q : Nat, s.heap.size ≤ q → A q) (hret : ∀ (pc : Nat) (ls : Array Slot) (H : Heap) (locs : List Loc), decode cX6_go pc = .ok (.return_, 1) → va_P D vwCl (wM cI ad thr tpd siz too' frm' srt' num' flt plc wrd' snm lin stp sfo hst tp nw rd kp sn) H → va_D A (wM cI ad thr tpd siz too' frm' srt' num' flt plc wrd' snm lin stp sfo hst tp nw rd kp sn) → va_S A s.heap H locs → W p l e rmX6_go s m args below meth c H locs 0 0 Q (F0 m pc ls [])) : ∀ (too : Int32) (frm : Int32) (srt : Int32) (num : Int32) (wrd : Int64), mX6_go_b93 siz tp too frm srt num wrd = some (too', frm', srt', num', wrd') → ∀ (H : Heap) (locs : List Loc) (ls : Array Slot), va_P D vwCl (wM cI ad thr tpd siz too frm srt num flt plc wrd snm lin stp sfo hst tp nw rd kp sn) H → va_D A (wM cI ad thr tpd siz too frm srt num flt plc wrd snm lin stp sfo hst tp nw rd kp sn) → va_S A s.heap H locs → lv_has ls 5 [(0, .ref (ad 0))] → W p l e rmX6_go s m args below meth c H locs 0 0 Q (F0 m 93 ls []) := by
  obtain ⟨hx, hb, hr, hml, hown, hts, hlk, hK⟩ := id C
  have hcf : CallFix p m c cX6_go 5 s args wsX6_go RX6 := ⟨hx, hb, hml, hown, hts⟩
  intro too frm srt num wrd hm H locs ls hP hD hS hl
  unfold mX6_go_b93 at hm
  refine lv_aload_n hx hb dX6_go_93 rfl (lv_at hl 0 rfl) ?_
  refine gf (q0 := 0) hx hb hts hown hK flX6_go_21 hP rfl rfl dX6_go_94 ?_
  refine lv_aload_n hx hb dX6_go_97 rfl (lv_at hl 0 rfl) ?_
  refine gf (q0 := 0) hx hb hts hown hK flX6_go_18 hP rfl rfl dX6_go_98 ?_
  refine lv_icmp_lt (tgt := 110) hx hb dX6_go_101 (by decide) (fun c_8 => ?_) (fun c_8 => ?_)
  · replace hm := br_p hm c_8
    refine lv_aload_n hx hb dX6_go_110 rfl (lv_at hl 0 rfl) ?_
    refine gf (q0 := 0) hx hb hts hown hK flX6_go_7 hP rfl rfl dX6_go_111 ?_
    refine lv_aload_n hx hb dX6_go_114 rfl (lv_at hl 0 rfl) ?_
    refine gf (q0 := 0) hx hb hts hown hK flX6_go_21 hP rfl rfl dX6_go_115 ?_
    obtain ⟨h_9, hm⟩ := ck_s hm
    refine ald (q0 := 1) (k := (too : Int32).toNatClampNeg) hx hb hK hP rfl h_9 rfl dX6_go_118 ?_
    refine lv_istore_n (lv' := [(1, .int (tp ((too : Int32).toNatClampNeg))), (0, .ref (ad 0))]) hx hb dX6_go_119 rfl hl (by decide) rfl (fun ls hl => ?_)
    refine lv_iload_n hx hb dX6_go_120 rfl (lv_at hl 0 rfl) ?_
    obtain ⟨v10, h_11, hm⟩ := b1_s hm
    refine rd_s hcf (kX6_isLetter h_11) (cwX6_go_X6_isLetter hts) hK hP Sb.nil rfl hl.1 rfl (Nat.le_of_ble_eq_true rfl) dX6_go_121 ⟨Nat.zero_le _, Nat.zero_le _⟩ ?_
    refine lv_if_ne (tgt := 160) hx hb dX6_go_124 (by decide) (fun c_12 => ?_) (fun c_12 => ?_)
    · replace hm := br_n hm c_12
      exact tX6_go_b160 C hA hret _ _ _ _ _ _ hm _ _ _ hP hD hS (lv_sub hl [1, 0] rfl)
    · replace hm := br_p hm c_12
      refine lv_iload_n hx hb dX6_go_127 rfl (lv_at hl 0 rfl) ?_
      obtain ⟨v13, h_14, hm⟩ := b1_s hm
      refine rd_s hcf (kX6_isDigit h_14) (cwX6_go_X6_isDigit hts) hK hP Sb.nil rfl hl.1 rfl (Nat.le_of_ble_eq_true rfl) dX6_go_128 ⟨Nat.zero_le _, Nat.zero_le _⟩ ?_
      refine lv_if_ne (tgt := 160) hx hb dX6_go_131 (by decide) (fun c_15 => ?_) (fun c_15 => ?_)
      · replace hm := br_n hm c_15
        exact tX6_go_b160 C hA hret _ _ _ _ _ _ hm _ _ _ hP hD hS (lv_sub hl [1, 0] rfl)
      · replace hm := br_p hm c_15
        refine lv_aload_n hx hb dX6_go_134 rfl (lv_at hl 1 rfl) ?_
        refine lv_iload_n hx hb dX6_go_135 rfl (lv_at hl 0 rfl) ?_
        refine lv_bipush (v := 59) hx hb dX6_go_136 (by decide) ?_
        refine lv_icmp_ne (tgt := 145) hx hb dX6_go_138 (by decide) (fun c_16 => ?_) (fun c_16 => ?_)
        · replace hm := br_n hm c_16
          refine lv_iconst (v := 1) hx hb dX6_go_145 (by decide) ?_
          exact tX6_go_b146 C hA hret _ _ _ _ _ _ hm _ _ _ hP hD hS (lv_sub hl [1] rfl)
        · replace hm := br_p hm c_16
          refine lv_iconst (v := 4) hx hb dX6_go_141 (by decide) ?_
          refine lv_goto (tgt := 146) hx hb dX6_go_142 (by decide) ?_
          exact tX6_go_b146 C hA hret _ _ _ _ _ _ hm _ _ _ hP hD hS (lv_sub hl [1] rfl)
  · replace hm := br_n hm c_8
    refine lv_aload_n hx hb dX6_go_104 rfl (lv_at hl 0 rfl) ?_
    refine lv_iconst (v := 0) hx hb dX6_go_105 (by decide) ?_
    refine pf (q0 := 0) (X' := (wM cI ad thr tpd siz too frm 0 num flt plc wrd snm lin stp sfo hst tp nw rd kp sn)) hx hb hts hown hK fpX6_go_27 hP hD hS rfl rfl rfl (Nat.le_of_ble_eq_true rfl) rfl dX6_go_106 (fun H locs hP hD hS => ?_)
    cases hm
    exact hret _ _ _ _ dX6_go_109 hP hD hS
set_option maxRecDepth 100000 in
set_option maxHeartbeats 4000000 in
theorem tX6_go_b52 {ad : Nat → Nat} {thr : Int32} {tpd : Int32} {siz : Int32} {flt : Int32} {plc : Int32} {snm : Int32} {lin : Int32} {stp : Int32} {sfo : Int32} {hst : Int32} {tp : Nat → Int32} {nw : Nat → Int32} {rd : Nat → Int32} {kp : Nat → Int32} {sn : Nat → Int32} {too' : Int32} {frm' : Int32} {srt' : Int32} {num' : Int32} {wrd' : Int64} (C : Cx p s m args meth c cX6_go none 5 wsX6_go RX6 D cI cB cL cK) (hA : ∀ q : Nat, s.heap.size ≤ q → A q) (hret : ∀ (pc : Nat) (ls : Array Slot) (H : Heap) (locs : List Loc), decode cX6_go pc = .ok (.return_, 1) → va_P D vwCl (wM cI ad thr tpd siz too' frm' srt' num' flt plc wrd' snm lin stp sfo hst tp nw rd kp sn) H → va_D A (wM cI ad thr tpd siz too' frm' srt' num' flt plc wrd' snm lin stp sfo hst tp nw rd kp sn) → va_S A s.heap H locs → W p l e rmX6_go s m args below meth c H locs 0 0 Q (F0 m pc ls [])) : ∀ (too : Int32) (frm : Int32) (srt : Int32) (num : Int32) (wrd : Int64), mX6_go_b52 siz tp too frm srt num wrd = some (too', frm', srt', num', wrd') → ∀ (H : Heap) (locs : List Loc) (ls : Array Slot), va_P D vwCl (wM cI ad thr tpd siz too frm srt num flt plc wrd snm lin stp sfo hst tp nw rd kp sn) H → va_D A (wM cI ad thr tpd siz too frm srt num flt plc wrd snm lin stp sfo hst tp nw rd kp sn) → va_S A s.heap H locs → lv_has ls 5 [(0, .ref (ad 0))] → W p l e rmX6_go s m args below meth c H locs 0 0 Q (F0 m 52 ls []) := by
  obtain ⟨hx, hb, hr, hml, hown, hts, hlk, hK⟩ := id C
  have hcf : CallFix p m c cX6_go 5 s args wsX6_go RX6 := ⟨hx, hb, hml, hown, hts⟩
  intro too frm srt num wrd hm H locs ls hP hD hS hl
  unfold mX6_go_b52 at hm
  refine lv_aload_n hx hb dX6_go_52 rfl (lv_at hl 0 rfl) ?_
  refine lv_aload_n hx hb dX6_go_53 rfl (lv_at hl 0 rfl) ?_
  refine gf (q0 := 0) hx hb hts hown hK flX6_go_21 hP rfl rfl dX6_go_54 ?_
  refine pf (q0 := 0) (X' := (wM cI ad thr tpd siz too too srt num flt plc wrd snm lin stp sfo hst tp nw rd kp sn)) hx hb hts hown hK fpX6_go_24 hP hD hS rfl rfl rfl (Nat.le_of_ble_eq_true rfl) rfl dX6_go_57 (fun H locs hP hD hS => ?_)
  refine lv_aload_n hx hb dX6_go_60 rfl (lv_at hl 0 rfl) ?_
  refine gf (q0 := 0) hx hb hts hown hK flX6_go_18 hP rfl rfl dX6_go_61 ?_
  refine lv_sipush (v := 600) hx hb dX6_go_64 (by decide) ?_
  refine lv_icmp_le (tgt := 93) hx hb dX6_go_67 (by decide) (fun c_6 => ?_) (fun c_6 => ?_)
  · replace hm := br_p hm c_6
    exact tX6_go_b93 C hA hret _ _ _ _ _ hm _ _ _ hP hD hS (lv_sub hl [0] rfl)
  · replace hm := br_n hm c_6
    refine lv_aload_n hx hb dX6_go_70 rfl (lv_at hl 0 rfl) ?_
    refine gf (q0 := 0) hx hb hts hown hK flX6_go_24 hP rfl rfl dX6_go_71 ?_
    refine lv_sipush (v := 600) hx hb dX6_go_74 (by decide) ?_
    refine lv_icmp_lt (tgt := 93) hx hb dX6_go_77 (by decide) (fun c_7 => ?_) (fun c_7 => ?_)
    · replace hm := br_p hm c_7
      exact tX6_go_b93 C hA hret _ _ _ _ _ hm _ _ _ hP hD hS (lv_sub hl [0] rfl)
    · replace hm := br_n hm c_7
      refine lv_aload_n hx hb dX6_go_80 rfl (lv_at hl 0 rfl) ?_
      refine lv_sipush (v := 600) hx hb dX6_go_81 (by decide) ?_
      refine pf (q0 := 0) (X' := (wM cI ad thr tpd siz too 600 srt num flt plc wrd snm lin stp sfo hst tp nw rd kp sn)) hx hb hts hown hK fpX6_go_24 hP hD hS rfl rfl rfl (Nat.le_of_ble_eq_true rfl) rfl dX6_go_84 (fun H locs hP hD hS => ?_)
      refine lv_aload_n hx hb dX6_go_87 rfl (lv_at hl 0 rfl) ?_
      refine lv_iconst (v := 1) hx hb dX6_go_88 (by decide) ?_
      refine pf (q0 := 0) (X' := (wM cI ad thr tpd siz too 600 1 num flt plc wrd snm lin stp sfo hst tp nw rd kp sn)) hx hb hts hown hK fpX6_go_27 hP hD hS rfl rfl rfl (Nat.le_of_ble_eq_true rfl) rfl dX6_go_89 (fun H locs hP hD hS => ?_)
      cases hm
      exact hret _ _ _ _ dX6_go_92 hP hD hS
set_option maxRecDepth 100000 in
set_option maxHeartbeats 4000000 in
theorem tX6_go_b39 {ad : Nat → Nat} {thr : Int32} {tpd : Int32} {siz : Int32} {flt : Int32} {plc : Int32} {snm : Int32} {lin : Int32} {stp : Int32} {sfo : Int32} {hst : Int32} {tp : Nat → Int32} {nw : Nat → Int32} {rd : Nat → Int32} {kp : Nat → Int32} {sn : Nat → Int32} {too' : Int32} {frm' : Int32} {srt' : Int32} {num' : Int32} {wrd' : Int64} {rec0 : Int32 → Int32 → Int32 → Int32 → Int64 → Option (Int32 × Int32 × Int32 × Int32 × Int64)} (C : Cx p s m args meth c cX6_go none 5 wsX6_go RX6 D cI cB cL cK) (hA : ∀ q : Nat, s.heap.size ≤ q → A q) (hret : ∀ (pc : Nat) (ls : Array Slot) (H : Heap) (locs : List Loc), decode cX6_go pc = .ok (.return_, 1) → va_P D vwCl (wM cI ad thr tpd siz too' frm' srt' num' flt plc wrd' snm lin stp sfo hst tp nw rd kp sn) H → va_D A (wM cI ad thr tpd siz too' frm' srt' num' flt plc wrd' snm lin stp sfo hst tp nw rd kp sn) → va_S A s.heap H locs → W p l e rmX6_go s m args below meth c H locs 0 0 Q (F0 m pc ls [])) (hrec0 : ∀ (too : Int32) (frm : Int32) (srt : Int32) (num : Int32) (wrd : Int64), rec0 too frm srt num wrd = some (too', frm', srt', num', wrd') → ∀ (H : Heap) (locs : List Loc) (ls : Array Slot), va_P D vwCl (wM cI ad thr tpd siz too frm srt num flt plc wrd snm lin stp sfo hst tp nw rd kp sn) H → va_D A (wM cI ad thr tpd siz too frm srt num flt plc wrd snm lin stp sfo hst tp nw rd kp sn) → va_S A s.heap H locs → lv_has ls 5 [(0, .ref (ad 0))] → W p l e rmX6_go s m args below meth c H locs 0 0 Q (F0 m 0 ls [])) : ∀ (too : Int32) (frm : Int32) (srt : Int32) (num : Int32) (wrd : Int64), mX6_go_b39 rec0 siz tp too frm srt num wrd = some (too', frm', srt', num', wrd') → ∀ (H : Heap) (locs : List Loc) (ls : Array Slot), va_P D vwCl (wM cI ad thr tpd siz too frm srt num flt plc wrd snm lin stp sfo hst tp nw rd kp sn) H → va_D A (wM cI ad thr tpd siz too frm srt num flt plc wrd snm lin stp sfo hst tp nw rd kp sn) → va_S A s.heap H locs → lv_has ls 5 [(0, .ref (ad 0))] → W p l e rmX6_go s m args below meth c H locs 0 0 Q (F0 m 39 ls []) := by
  obtain ⟨hx, hb, hr, hml, hown, hts, hlk, hK⟩ := id C
  have hcf : CallFix p m c cX6_go 5 s args wsX6_go RX6 := ⟨hx, hb, hml, hown, hts⟩
  intro too frm srt num wrd hm H locs ls hP hD hS hl
  unfold mX6_go_b39 at hm
  refine lv_aload_n hx hb dX6_go_39 rfl (lv_at hl 0 rfl) ?_
  refine lv_dup hx hb dX6_go_40 rfl ?_
  refine gf (q0 := 0) hx hb hts hown hK flX6_go_21 hP rfl rfl dX6_go_41 ?_
  refine lv_iconst (v := 1) hx hb dX6_go_44 (by decide) ?_
  refine lv_iadd hx hb dX6_go_45 ?_
  refine pf (q0 := 0) (X' := (wM cI ad thr tpd siz (too + 1) frm srt num flt plc wrd snm lin stp sfo hst tp nw rd kp sn)) hx hb hts hown hK fpX6_go_21 hP hD hS rfl rfl rfl (Nat.le_of_ble_eq_true rfl) rfl dX6_go_46 (fun H locs hP hD hS => ?_)
  refine lv_goto (tgt := 0) hx hb dX6_go_49 (by decide) ?_
  exact hrec0 _ _ _ _ _ hm _ _ _ hP hD hS (lv_sub hl [0] rfl)
set_option maxRecDepth 100000 in
set_option maxHeartbeats 4000000 in
theorem tX6_go_L0 {ad : Nat → Nat} {thr : Int32} {tpd : Int32} {siz : Int32} {flt : Int32} {plc : Int32} {snm : Int32} {lin : Int32} {stp : Int32} {sfo : Int32} {hst : Int32} {tp : Nat → Int32} {nw : Nat → Int32} {rd : Nat → Int32} {kp : Nat → Int32} {sn : Nat → Int32} {too' : Int32} {frm' : Int32} {srt' : Int32} {num' : Int32} {wrd' : Int64} (C : Cx p s m args meth c cX6_go none 5 wsX6_go RX6 D cI cB cL cK) (hA : ∀ q : Nat, s.heap.size ≤ q → A q) (hret : ∀ (pc : Nat) (ls : Array Slot) (H : Heap) (locs : List Loc), decode cX6_go pc = .ok (.return_, 1) → va_P D vwCl (wM cI ad thr tpd siz too' frm' srt' num' flt plc wrd' snm lin stp sfo hst tp nw rd kp sn) H → va_D A (wM cI ad thr tpd siz too' frm' srt' num' flt plc wrd' snm lin stp sfo hst tp nw rd kp sn) → va_S A s.heap H locs → W p l e rmX6_go s m args below meth c H locs 0 0 Q (F0 m pc ls [])) : ∀ (n9 : Nat) (too : Int32) (frm : Int32) (srt : Int32) (num : Int32) (wrd : Int64), mX6_go_L0 n9 siz tp too frm srt num wrd = some (too', frm', srt', num', wrd') → ∀ (H : Heap) (locs : List Loc) (ls : Array Slot), va_P D vwCl (wM cI ad thr tpd siz too frm srt num flt plc wrd snm lin stp sfo hst tp nw rd kp sn) H → va_D A (wM cI ad thr tpd siz too frm srt num flt plc wrd snm lin stp sfo hst tp nw rd kp sn) → va_S A s.heap H locs → lv_has ls 5 [(0, .ref (ad 0))] → W p l e rmX6_go s m args below meth c H locs 0 0 Q (F0 m 0 ls []) := by
  obtain ⟨hx, hb, hr, hml, hown, hts, hlk, hK⟩ := id C
  have hcf : CallFix p m c cX6_go 5 s args wsX6_go RX6 := ⟨hx, hb, hml, hown, hts⟩
  intro n9
  induction n9 with
  | zero => intro too frm srt num wrd hm; cases hm
  | succ k ih =>
    intro too frm srt num wrd hm H locs ls hP hD hS hl
    rw [mX6_go_L0.eq_2] at hm
    refine lv_aload_n hx hb dX6_go_0 rfl (lv_at hl 0 rfl) ?_
    refine gf (q0 := 0) hx hb hts hown hK flX6_go_21 hP rfl rfl dX6_go_1 ?_
    refine lv_aload_n hx hb dX6_go_4 rfl (lv_at hl 0 rfl) ?_
    refine gf (q0 := 0) hx hb hts hown hK flX6_go_18 hP rfl rfl dX6_go_5 ?_
    refine lv_icmp_ge (tgt := 52) hx hb dX6_go_8 (by decide) (fun c_1 => ?_) (fun c_1 => ?_)
    · replace hm := br_p hm c_1
      exact tX6_go_b52 C hA hret _ _ _ _ _ hm _ _ _ hP hD hS (lv_sub hl [0] rfl)
    · replace hm := br_n hm c_1
      refine lv_aload_n hx hb dX6_go_11 rfl (lv_at hl 0 rfl) ?_
      refine gf (q0 := 0) hx hb hts hown hK flX6_go_7 hP rfl rfl dX6_go_12 ?_
      refine lv_aload_n hx hb dX6_go_15 rfl (lv_at hl 0 rfl) ?_
      refine gf (q0 := 0) hx hb hts hown hK flX6_go_21 hP rfl rfl dX6_go_16 ?_
      obtain ⟨h_2, hm⟩ := ck_s hm
      refine ald (q0 := 1) (k := (too : Int32).toNatClampNeg) hx hb hK hP rfl h_2 rfl dX6_go_19 ?_
      refine lv_bipush (v := 32) hx hb dX6_go_20 (by decide) ?_
      refine lv_icmp_eq (tgt := 39) hx hb dX6_go_22 (by decide) (fun c_3 => ?_) (fun c_3 => ?_)
      · replace hm := br_p hm c_3
        exact tX6_go_b39 C hA hret ih _ _ _ _ _ hm _ _ _ hP hD hS (lv_sub hl [0] rfl)
      · replace hm := br_n hm c_3
        refine lv_aload_n hx hb dX6_go_25 rfl (lv_at hl 0 rfl) ?_
        refine gf (q0 := 0) hx hb hts hown hK flX6_go_7 hP rfl rfl dX6_go_26 ?_
        refine lv_aload_n hx hb dX6_go_29 rfl (lv_at hl 0 rfl) ?_
        refine gf (q0 := 0) hx hb hts hown hK flX6_go_21 hP rfl rfl dX6_go_30 ?_
        obtain ⟨h_4, hm⟩ := ck_s hm
        refine ald (q0 := 1) (k := (too : Int32).toNatClampNeg) hx hb hK hP rfl h_4 rfl dX6_go_33 ?_
        refine lv_bipush (v := 10) hx hb dX6_go_34 (by decide) ?_
        refine lv_icmp_ne (tgt := 52) hx hb dX6_go_36 (by decide) (fun c_5 => ?_) (fun c_5 => ?_)
        · replace hm := br_n hm c_5
          exact tX6_go_b52 C hA hret _ _ _ _ _ hm _ _ _ hP hD hS (lv_sub hl [0] rfl)
        · replace hm := br_p hm c_5
          exact tX6_go_b39 C hA hret ih _ _ _ _ _ hm _ _ _ hP hD hS (lv_sub hl [0] rfl)
set_option maxRecDepth 100000 in
set_option maxHeartbeats 4000000 in
theorem kX6_go {l : Launch} {D : va_G} {cI cB cL cK : ClassId} {ad : Nat → Nat} {thr : Int32} {tpd : Int32} {siz : Int32} {too : Int32} {frm : Int32} {srt : Int32} {num : Int32} {flt : Int32} {plc : Int32} {wrd : Int64} {snm : Int32} {lin : Int32} {stp : Int32} {sfo : Int32} {hst : Int32} {tp : Nat → Int32} {nw : Nat → Int32} {rd : Nat → Int32} {kp : Nat → Int32} {sn : Nat → Int32}  {too' : Int32} {frm' : Int32} {srt' : Int32} {num' : Int32} {wrd' : Int64} (hm : mX6_go siz too frm srt num wrd tp = some (too', frm', srt', num', wrd')) : Mu l D cI cB cL cK yX6_go wsX6_go rmX6_go [.ref (ad 0)] (wM cI ad thr tpd siz too frm srt num flt plc wrd snm lin stp sfo hst tp nw rd kp sn) (wM cI ad thr tpd siz too' frm' srt' num' flt plc wrd' snm lin stp sfo hst tp nw rd kp sn) none 0 0 := by
  refine Mu.ofv (cc := cX6_go) (own := RX6) (by decide) rfl rfl (Nat.le_of_ble_eq_true rfl) (fun p e s m below meth c ls Q A C _ hA hP hD hS hl hret => ?_)
  obtain ⟨hx, hb, hr, hml, hown, hts, hlk, hK⟩ := id C
  have hcf : CallFix p m c cX6_go 5 s _ wsX6_go RX6 := ⟨hx, hb, hml, hown, hts⟩
  have hl : lv_has ls 5 [(0, .ref (ad 0))] := hl
  unfold mX6_go at hm
  exact tX6_go_L0 C hA hret _ _ _ _ _ _ hm _ _ _ hP hD hS (lv_sub hl [0] rfl)
/-! X6 three(III)J -/
abbrev rmX6_three : Room := { frames := 0, cells := 0, slots := 0, locals := 0 }
theorem hdX6_three : yX6_three.cls = RX6 ∧ yX6_three.cls ≠ "java/lang/invoke/MethodHandle" ∧ yX6_three.cls ≠ "java/lang/invoke/VarHandle" ∧ (parseMethodDescriptor yX6_three.desc).map (fun d => d.parameters.length) = some 3 := by decide +kernel
theorem kcX6_three_48 : Cond.constantLong RX6 48 27 ∈ wsX6_three := by decide +kernel
theorem kcX6_three_50 : Cond.constantLong RX6 50 96 ∈ wsX6_three := by decide +kernel
set_option maxRecDepth 100000 in
set_option maxHeartbeats 4000000 in
theorem kX6_three {l : Launch} {D : va_G} {cI cB cL cK : ClassId}   {p1 : Int32} {p2 : Int32} {p3 : Int32} {res : Int64} (hm : mX6_three p1 p2 p3 = some res) : RdL l D cI cB cL cK yX6_three wsX6_three rmX6_three [.int p1, .int p2, .int p3] [] res := by
  refine RdL.of (cc := cX6_three) (own := RX6) (by decide) rfl rfl (Nat.le_of_ble_eq_true rfl) (fun p e s m below meth c ls Q C hP hl hret => ?_)
  obtain ⟨hx, hb, hr, hml, hown, hts, hlk, hK⟩ := id C
  have hcf : CallFix p m c cX6_three 3 s _ wsX6_three RX6 := ⟨hx, hb, hml, hown, hts⟩
  have hl : lv_has ls 3 [(0, .int p1), (1, .int p2), (2, .int p3)] := hl
  unfold mX6_three at hm
  refine lv_ldc2 (v := 27) hx hb hown (hts _ kcX6_three_48) dX6_three_0 ?_
  refine lv_ldc2 (v := 27) hx hb hown (hts _ kcX6_three_48) dX6_three_3 ?_
  refine lv_iload_n hx hb dX6_three_6 rfl (lv_at hl 0 rfl) ?_
  refine lv_i2l (v := (p1 : Int32).toInt64) hx hb dX6_three_7 rfl ?_
  refine lv_ldc2 (v := 96) hx hb hown (hts _ kcX6_three_50) dX6_three_8 ?_
  refine lv_lsub hx hb dX6_three_11 ?_
  refine lv_lmul hx hb dX6_three_12 ?_
  refine lv_iload_n hx hb dX6_three_13 rfl (lv_at hl 1 rfl) ?_
  refine lv_i2l (v := (p2 : Int32).toInt64) hx hb dX6_three_14 rfl ?_
  refine lv_ladd hx hb dX6_three_15 ?_
  refine lv_ldc2 (v := 96) hx hb hown (hts _ kcX6_three_50) dX6_three_16 ?_
  refine lv_lsub hx hb dX6_three_19 ?_
  refine lv_lmul hx hb dX6_three_20 ?_
  refine lv_iload_n hx hb dX6_three_21 rfl (lv_at hl 2 rfl) ?_
  refine lv_i2l (v := (p3 : Int32).toInt64) hx hb dX6_three_22 rfl ?_
  refine lv_ladd hx hb dX6_three_23 ?_
  refine lv_ldc2 (v := 96) hx hb hown (hts _ kcX6_three_50) dX6_three_24 ?_
  refine lv_lsub hx hb dX6_three_27 ?_
  cases hm
  exact hret _ _ dX6_three_28
/-! X6 six(IIIIII)J -/
abbrev rmX6_six : Room := { frames := 1, cells := 0, slots := 0, locals := 22 }
theorem hdX6_six : yX6_six.cls = RX6 ∧ yX6_six.cls ≠ "java/lang/invoke/MethodHandle" ∧ yX6_six.cls ≠ "java/lang/invoke/VarHandle" ∧ (parseMethodDescriptor yX6_six.desc).map (fun d => d.parameters.length) = some 6 := by decide +kernel
theorem cwX6_six_X6_three {s : State} {args : Array Value} (hts : ∀ w ∈ wsX6_six, w.before args s = true) : CallB rmX6_six s args RX6 54 yX6_three cX6_three 3 (some .long) wsX6_three rmX6_three 0 0 3 ∧ (Cond.static yX6_three).before args s = true := va_cwS 3 hts gX6_six_X6_three rfl rfl rfl hdX6_three.2 ⟨Nat.le_of_ble_eq_true rfl, Nat.le_of_ble_eq_true rfl⟩
theorem kcX6_six_52 : Cond.constantLong RX6 52 19683 ∈ wsX6_six := by decide +kernel
set_option maxRecDepth 100000 in
set_option maxHeartbeats 4000000 in
theorem kX6_six {l : Launch} {D : va_G} {cI cB cL cK : ClassId}   {p1 : Int32} {p2 : Int32} {p3 : Int32} {p4 : Int32} {p5 : Int32} {p6 : Int32} {res : Int64} (hm : mX6_six p1 p2 p3 p4 p5 p6 = some res) : RdL l D cI cB cL cK yX6_six wsX6_six rmX6_six [.int p1, .int p2, .int p3, .int p4, .int p5, .int p6] [] res := by
  refine RdL.of (cc := cX6_six) (own := RX6) (by decide) rfl rfl (Nat.le_of_ble_eq_true rfl) (fun p e s m below meth c ls Q C hP hl hret => ?_)
  obtain ⟨hx, hb, hr, hml, hown, hts, hlk, hK⟩ := id C
  have hcf : CallFix p m c cX6_six 6 s _ wsX6_six RX6 := ⟨hx, hb, hml, hown, hts⟩
  have hl : lv_has ls 6 [(0, .int p1), (1, .int p2), (2, .int p3), (3, .int p4), (4, .int p5), (5, .int p6)] := hl
  unfold mX6_six at hm
  refine lv_ldc2 (v := 19683) hx hb hown (hts _ kcX6_six_52) dX6_six_0 ?_
  refine lv_iload_n hx hb dX6_six_3 rfl (lv_at hl 0 rfl) ?_
  refine lv_iload_n hx hb dX6_six_4 rfl (lv_at hl 1 rfl) ?_
  refine lv_iload_n hx hb dX6_six_5 rfl (lv_at hl 2 rfl) ?_
  obtain ⟨v1, h_2, hm⟩ := b1_s hm
  refine rdL_s hcf (kX6_three h_2) (cwX6_six_X6_three hts) hK hP Sb.nil rfl hl.1 rfl (Nat.le_of_ble_eq_true rfl) dX6_six_6 ⟨Nat.zero_le _, Nat.zero_le _⟩ ?_
  refine lv_lmul hx hb dX6_six_9 ?_
  refine lv_iload_n hx hb dX6_six_10 rfl (lv_at hl 3 rfl) ?_
  refine lv_iload hx hb dX6_six_11 (lv_at hl 4 rfl) ?_
  refine lv_iload hx hb dX6_six_13 (lv_at hl 5 rfl) ?_
  obtain ⟨v3, h_4, hm⟩ := b1_s hm
  refine rdL_s hcf (kX6_three h_4) (cwX6_six_X6_three hts) hK hP Sb.nil rfl hl.1 rfl (Nat.le_of_ble_eq_true rfl) dX6_six_15 ⟨Nat.zero_le _, Nat.zero_le _⟩ ?_
  refine lv_ladd hx hb dX6_six_18 ?_
  cases hm
  exact hret _ _ dX6_six_19
/-! X6 four(IIII)J -/
abbrev rmX6_four : Room := { frames := 1, cells := 0, slots := 0, locals := 22 }
theorem hdX6_four : yX6_four.cls = RX6 ∧ yX6_four.cls ≠ "java/lang/invoke/MethodHandle" ∧ yX6_four.cls ≠ "java/lang/invoke/VarHandle" ∧ (parseMethodDescriptor yX6_four.desc).map (fun d => d.parameters.length) = some 4 := by decide +kernel
theorem cwX6_four_X6_three {s : State} {args : Array Value} (hts : ∀ w ∈ wsX6_four, w.before args s = true) : CallB rmX6_four s args RX6 54 yX6_three cX6_three 3 (some .long) wsX6_three rmX6_three 0 0 3 ∧ (Cond.static yX6_three).before args s = true := va_cwS 3 hts gX6_four_X6_three rfl rfl rfl hdX6_three.2 ⟨Nat.le_of_ble_eq_true rfl, Nat.le_of_ble_eq_true rfl⟩
theorem kcX6_four_48 : Cond.constantLong RX6 48 27 ∈ wsX6_four := by decide +kernel
theorem kcX6_four_50 : Cond.constantLong RX6 50 96 ∈ wsX6_four := by decide +kernel
set_option maxRecDepth 100000 in
set_option maxHeartbeats 4000000 in
theorem kX6_four {l : Launch} {D : va_G} {cI cB cL cK : ClassId}   {p1 : Int32} {p2 : Int32} {p3 : Int32} {p4 : Int32} {res : Int64} (hm : mX6_four p1 p2 p3 p4 = some res) : RdL l D cI cB cL cK yX6_four wsX6_four rmX6_four [.int p1, .int p2, .int p3, .int p4] [] res := by
  refine RdL.of (cc := cX6_four) (own := RX6) (by decide) rfl rfl (Nat.le_of_ble_eq_true rfl) (fun p e s m below meth c ls Q C hP hl hret => ?_)
  obtain ⟨hx, hb, hr, hml, hown, hts, hlk, hK⟩ := id C
  have hcf : CallFix p m c cX6_four 4 s _ wsX6_four RX6 := ⟨hx, hb, hml, hown, hts⟩
  have hl : lv_has ls 4 [(0, .int p1), (1, .int p2), (2, .int p3), (3, .int p4)] := hl
  unfold mX6_four at hm
  refine lv_ldc2 (v := 27) hx hb hown (hts _ kcX6_four_48) dX6_four_0 ?_
  refine lv_iload_n hx hb dX6_four_3 rfl (lv_at hl 0 rfl) ?_
  refine lv_iload_n hx hb dX6_four_4 rfl (lv_at hl 1 rfl) ?_
  refine lv_iload_n hx hb dX6_four_5 rfl (lv_at hl 2 rfl) ?_
  obtain ⟨v1, h_2, hm⟩ := b1_s hm
  refine rdL_s hcf (kX6_three h_2) (cwX6_four_X6_three hts) hK hP Sb.nil rfl hl.1 rfl (Nat.le_of_ble_eq_true rfl) dX6_four_6 ⟨Nat.zero_le _, Nat.zero_le _⟩ ?_
  refine lv_lmul hx hb dX6_four_9 ?_
  refine lv_iload_n hx hb dX6_four_10 rfl (lv_at hl 3 rfl) ?_
  refine lv_i2l (v := (p4 : Int32).toInt64) hx hb dX6_four_11 rfl ?_
  refine lv_ladd hx hb dX6_four_12 ?_
  refine lv_ldc2 (v := 96) hx hb hown (hts _ kcX6_four_50) dX6_four_13 ?_
  refine lv_lsub hx hb dX6_four_16 ?_
  cases hm
  exact hret _ _ dX6_four_17
/-! X6 isWord(J)Z -/
abbrev rmX6_isWord : Room := { frames := 0, cells := 0, slots := 0, locals := 0 }
theorem hdX6_isWord : yX6_isWord.cls = RX6 ∧ yX6_isWord.cls ≠ "java/lang/invoke/MethodHandle" ∧ yX6_isWord.cls ≠ "java/lang/invoke/VarHandle" ∧ (parseMethodDescriptor yX6_isWord.desc).map (fun d => d.parameters.length) = some 1 := by decide +kernel
theorem inX6_isWord_X6 : ∀ w ∈ u_ws RX6 TX6 20, w ∈ wsX6_isWord := by decide +kernel
theorem flX6_isWord_27 : Fl wsX6_isWord RX6 27 6 6 := ⟨_, _, _, rfl, by decide, inX6_isWord_X6, by decide +kernel⟩
theorem flX6_isWord_37 : Fl wsX6_isWord RX6 37 6 10 := ⟨_, _, _, rfl, by decide, inX6_isWord_X6, by decide +kernel⟩
set_option maxRecDepth 100000 in
set_option maxHeartbeats 4000000 in
theorem kX6_isWord {l : Launch} {D : va_G} {cI cB cL cK : ClassId} {ad : Nat → Nat} {thr : Int32} {tpd : Int32} {siz : Int32} {too : Int32} {frm : Int32} {srt : Int32} {num : Int32} {flt : Int32} {plc : Int32} {wrd : Int64} {snm : Int32} {lin : Int32} {stp : Int32} {sfo : Int32} {hst : Int32} {tp : Nat → Int32} {nw : Nat → Int32} {rd : Nat → Int32} {kp : Nat → Int32} {sn : Nat → Int32} {p1 : Int64} {res : Int32} (hm : mX6_isWord srt wrd p1 = some res) : Rd l D cI cB cL cK yX6_isWord wsX6_isWord rmX6_isWord [.ref (ad 0), .long p1] (wM cI ad thr tpd siz too frm srt num flt plc wrd snm lin stp sfo hst tp nw rd kp sn) res := by
  refine Rd.of (cc := cX6_isWord) (own := RX6) (by decide) rfl rfl (Nat.le_of_ble_eq_true rfl) (fun p e s m below meth c ls Q C hP hl hret => ?_)
  obtain ⟨hx, hb, hr, hml, hown, hts, hlk, hK⟩ := id C
  have hcf : CallFix p m c cX6_isWord 3 s _ wsX6_isWord RX6 := ⟨hx, hb, hml, hown, hts⟩
  have hl : lv_has ls 3 [(0, .ref (ad 0)), (1, .long p1)] := hl
  unfold mX6_isWord at hm
  refine lv_aload_n hx hb dX6_isWord_0 rfl (lv_at hl 0 rfl) ?_
  refine gf (q0 := 0) hx hb hts hown hK flX6_isWord_27 hP rfl rfl dX6_isWord_1 ?_
  refine lv_iconst (v := 2) hx hb dX6_isWord_4 (by decide) ?_
  refine lv_icmp_ne (tgt := 21) hx hb dX6_isWord_5 (by decide) (fun c_1 => ?_) (fun c_1 => ?_)
  · replace hm := br_n hm c_1
    refine lv_iconst (v := 0) hx hb dX6_isWord_21 (by decide) ?_
    cases hm
    exact hret _ _ dX6_isWord_22 rfl
  · replace hm := br_p hm c_1
    refine lv_aload_n hx hb dX6_isWord_8 rfl (lv_at hl 0 rfl) ?_
    refine gf (q0 := 0) hx hb hts hown hK flX6_isWord_37 hP rfl rfl dX6_isWord_9 ?_
    refine lv_lload_n hx hb dX6_isWord_12 rfl (lv_at hl 1 rfl) ?_
    refine W.lcmp hx hb dX6_isWord_13 ?_
    refine lv_if_ne (tgt := 21) hx hb dX6_isWord_14 (by decide) (fun c_2 => ?_) (fun c_2 => ?_)
    · replace hm := br_n hm c_2
      refine lv_iconst (v := 0) hx hb dX6_isWord_21 (by decide) ?_
      cases hm
      exact hret _ _ dX6_isWord_22 rfl
    · replace hm := br_p hm c_2
      refine lv_iconst (v := 1) hx hb dX6_isWord_17 (by decide) ?_
      refine lv_goto (tgt := 22) hx hb dX6_isWord_18 (by decide) ?_
      cases hm
      exact hret _ _ dX6_isWord_22 rfl
/-! X6 bad(I)Z -/
abbrev rmX6_bad : Room := { frames := 0, cells := 0, slots := 0, locals := 0 }
theorem hdX6_bad : yX6_bad.cls = RX6 ∧ yX6_bad.cls ≠ "java/lang/invoke/MethodHandle" ∧ yX6_bad.cls ≠ "java/lang/invoke/VarHandle" ∧ (parseMethodDescriptor yX6_bad.desc).map (fun d => d.parameters.length) = some 1 := by decide +kernel
theorem inX6_bad_X6 : ∀ w ∈ u_ws RX6 TX6 20, w ∈ wsX6_bad := by decide +kernel
theorem flX6_bad_24 : Fl wsX6_bad RX6 24 6 5 := ⟨_, _, _, rfl, by decide, inX6_bad_X6, by decide +kernel⟩
theorem flX6_bad_27 : Fl wsX6_bad RX6 27 6 6 := ⟨_, _, _, rfl, by decide, inX6_bad_X6, by decide +kernel⟩
theorem fpX6_bad_58 : Fp wsX6_bad RX6 58 6 8 false .int := ⟨_, _, _, tyX6, rfl, by decide, inX6_bad_X6, by decide +kernel, tyX6_ok, nmX6, rfl, rfl, by decide +kernel⟩
theorem fpX6_bad_61 : Fp wsX6_bad RX6 61 6 9 false .int := ⟨_, _, _, tyX6, rfl, by decide, inX6_bad_X6, by decide +kernel, tyX6_ok, nmX6, rfl, rfl, by decide +kernel⟩
set_option maxRecDepth 100000 in
set_option maxHeartbeats 4000000 in
theorem tX6_bad_b14 {ad : Nat → Nat} {thr : Int32} {tpd : Int32} {siz : Int32} {too : Int32} {frm : Int32} {srt : Int32} {num : Int32} {wrd : Int64} {snm : Int32} {lin : Int32} {stp : Int32} {sfo : Int32} {hst : Int32} {tp : Nat → Int32} {nw : Nat → Int32} {rd : Nat → Int32} {kp : Nat → Int32} {sn : Nat → Int32} {res : Int32} {flt' : Int32} {plc' : Int32} (C : Cx p s m args meth c cX6_bad (some .boolean) 2 wsX6_bad RX6 D cI cB cL cK) (hA : ∀ q : Nat, s.heap.size ≤ q → A q) (hret : ∀ (pc : Nat) (ls : Array Slot) (H : Heap) (locs : List Loc), decode cX6_bad pc = .ok (.ireturn, 1) → narrow .boolean (.int res) = .int res → va_P D vwCl (wM cI ad thr tpd siz too frm srt num flt' plc' wrd snm lin stp sfo hst tp nw rd kp sn) H → va_D A (wM cI ad thr tpd siz too frm srt num flt' plc' wrd snm lin stp sfo hst tp nw rd kp sn) → va_S A s.heap H locs → W p l e rmX6_bad s m args below meth c H locs 0 0 Q (F0 m pc ls [.int res])) : ∀ (k0 : Int32) (flt : Int32) (plc : Int32), mX6_bad_b14 frm srt k0 flt plc = some (res, flt', plc') → ∀ (H : Heap) (locs : List Loc) (ls : Array Slot), va_P D vwCl (wM cI ad thr tpd siz too frm srt num flt plc wrd snm lin stp sfo hst tp nw rd kp sn) H → va_D A (wM cI ad thr tpd siz too frm srt num flt plc wrd snm lin stp sfo hst tp nw rd kp sn) → va_S A s.heap H locs → lv_has ls 2 [(0, .ref (ad 0))] → W p l e rmX6_bad s m args below meth c H locs 0 0 Q (F0 m 14 ls [.int k0, .ref (ad 0)]) := by
  obtain ⟨hx, hb, hr, hml, hown, hts, hlk, hK⟩ := id C
  have hcf : CallFix p m c cX6_bad 2 s args wsX6_bad RX6 := ⟨hx, hb, hml, hown, hts⟩
  intro k0 flt plc hm H locs ls hP hD hS hl
  unfold mX6_bad_b14 at hm
  refine pf (q0 := 0) (X' := (wM cI ad thr tpd siz too frm srt num k0 plc wrd snm lin stp sfo hst tp nw rd kp sn)) hx hb hts hown hK fpX6_bad_58 hP hD hS rfl rfl rfl (Nat.le_of_ble_eq_true rfl) rfl dX6_bad_14 (fun H locs hP hD hS => ?_)
  refine lv_aload_n hx hb dX6_bad_17 rfl (lv_at hl 0 rfl) ?_
  refine lv_aload_n hx hb dX6_bad_18 rfl (lv_at hl 0 rfl) ?_
  refine gf (q0 := 0) hx hb hts hown hK flX6_bad_24 hP rfl rfl dX6_bad_19 ?_
  refine pf (q0 := 0) (X' := (wM cI ad thr tpd siz too frm srt num k0 frm wrd snm lin stp sfo hst tp nw rd kp sn)) hx hb hts hown hK fpX6_bad_61 hP hD hS rfl rfl rfl (Nat.le_of_ble_eq_true rfl) rfl dX6_bad_22 (fun H locs hP hD hS => ?_)
  refine lv_iconst (v := 0) hx hb dX6_bad_25 (by decide) ?_
  cases hm
  exact hret _ _ _ _ dX6_bad_26 rfl hP hD hS
set_option maxRecDepth 100000 in
set_option maxHeartbeats 4000000 in
theorem kX6_bad {l : Launch} {D : va_G} {cI cB cL cK : ClassId} {ad : Nat → Nat} {thr : Int32} {tpd : Int32} {siz : Int32} {too : Int32} {frm : Int32} {srt : Int32} {num : Int32} {flt : Int32} {plc : Int32} {wrd : Int64} {snm : Int32} {lin : Int32} {stp : Int32} {sfo : Int32} {hst : Int32} {tp : Nat → Int32} {nw : Nat → Int32} {rd : Nat → Int32} {kp : Nat → Int32} {sn : Nat → Int32} {p1 : Int32} {res : Int32} {flt' : Int32} {plc' : Int32} (hm : mX6_bad frm srt flt plc p1 = some (res, flt', plc')) : Mu l D cI cB cL cK yX6_bad wsX6_bad rmX6_bad [.ref (ad 0), .int p1] (wM cI ad thr tpd siz too frm srt num flt plc wrd snm lin stp sfo hst tp nw rd kp sn) (wM cI ad thr tpd siz too frm srt num flt' plc' wrd snm lin stp sfo hst tp nw rd kp sn) (some (.int res)) 0 0 := by
  refine Mu.ofi (cc := cX6_bad) (own := RX6) (by decide) rfl rfl (Nat.le_of_ble_eq_true rfl) (fun p e s m below meth c ls Q A C hA hP hD hS hl hret => ?_)
  obtain ⟨hx, hb, hr, hml, hown, hts, hlk, hK⟩ := id C
  have hcf : CallFix p m c cX6_bad 2 s _ wsX6_bad RX6 := ⟨hx, hb, hml, hown, hts⟩
  have hl : lv_has ls 2 [(0, .ref (ad 0)), (1, .int p1)] := hl
  unfold mX6_bad at hm
  refine lv_aload_n hx hb dX6_bad_0 rfl (lv_at hl 0 rfl) ?_
  refine lv_aload_n hx hb dX6_bad_1 rfl (lv_at hl 0 rfl) ?_
  refine gf (q0 := 0) hx hb hts hown hK flX6_bad_27 hP rfl rfl dX6_bad_2 ?_
  refine lv_iconst (v := 1) hx hb dX6_bad_5 (by decide) ?_
  refine lv_icmp_ne (tgt := 13) hx hb dX6_bad_6 (by decide) (fun c_1 => ?_) (fun c_1 => ?_)
  · replace hm := br_n hm c_1
    refine lv_iload_n hx hb dX6_bad_13 rfl (lv_at hl 1 rfl) ?_
    exact tX6_bad_b14 C hA hret _ _ _ hm _ _ _ hP hD hS (lv_sub hl [0] rfl)
  · replace hm := br_p hm c_1
    refine lv_iconst (v := 1) hx hb dX6_bad_9 (by decide) ?_
    refine lv_goto (tgt := 14) hx hb dX6_bad_10 (by decide) ?_
    exact tX6_bad_b14 C hA hret _ _ _ hm _ _ _ hP hD hS (lv_sub hl [0] rfl)
/-! X6 told(III)Z -/
abbrev rmX6_told : Room := { frames := 2, cells := 0, slots := 0, locals := 45 }
theorem hdX6_told : yX6_told.cls = RX6 ∧ yX6_told.cls ≠ "java/lang/invoke/MethodHandle" ∧ yX6_told.cls ≠ "java/lang/invoke/VarHandle" ∧ (parseMethodDescriptor yX6_told.desc).map (fun d => d.parameters.length) = some 3 := by decide +kernel
theorem inX6_told_X6 : ∀ w ∈ u_ws RX6 TX6 20, w ∈ wsX6_told := by decide +kernel
theorem cwX6_told_X6_bad {s : State} {args : Array Value} (hts : ∀ w ∈ wsX6_told, w.before args s = true) : CallW rmX6_told s args RX6 RX6 82 yX6_bad cX6_bad 2 (some .boolean) wsX6_bad rmX6_bad 0 0 1 := cwV 1 hts gX6_told_X6_bad rfl rfl rfl hdX6_bad ⟨Nat.le_of_ble_eq_true rfl, Nat.le_of_ble_eq_true rfl⟩
theorem cwX6_told_X6_go {s : State} {args : Array Value} (hts : ∀ w ∈ wsX6_told, w.before args s = true) : CallW rmX6_told s args RX6 RX6 89 yX6_go cX6_go 5 none wsX6_go rmX6_go 0 0 0 := cwV 0 hts gX6_told_X6_go rfl rfl rfl hdX6_go ⟨Nat.le_of_ble_eq_true rfl, Nat.le_of_ble_eq_true rfl⟩
theorem cwX6_told_X6_isIn {s : State} {args : Array Value} (hts : ∀ w ∈ wsX6_told, w.before args s = true) : CallB rmX6_told s args RX6 85 yX6_isIn cX6_isIn 3 (some .boolean) wsX6_isIn rmX6_isIn 0 0 3 ∧ (Cond.static yX6_isIn).before args s = true := va_cwS 3 hts gX6_told_X6_isIn rfl rfl rfl hdX6_isIn.2 ⟨Nat.le_of_ble_eq_true rfl, Nat.le_of_ble_eq_true rfl⟩
theorem flX6_told_27 : Fl wsX6_told RX6 27 6 6 := ⟨_, _, _, rfl, by decide, inX6_told_X6, by decide +kernel⟩
theorem flX6_told_41 : Fl wsX6_told RX6 41 6 7 := ⟨_, _, _, rfl, by decide, inX6_told_X6, by decide +kernel⟩
theorem flX6_told_73 : Fl wsX6_told RX6 73 6 12 := ⟨_, _, _, rfl, by decide, inX6_told_X6, by decide +kernel⟩
set_option maxRecDepth 100000 in
set_option maxHeartbeats 4000000 in
theorem kX6_told {l : Launch} {D : va_G} {cI cB cL cK : ClassId} {ad : Nat → Nat} {thr : Int32} {tpd : Int32} {siz : Int32} {too : Int32} {frm : Int32} {srt : Int32} {num : Int32} {flt : Int32} {plc : Int32} {wrd : Int64} {snm : Int32} {lin : Int32} {stp : Int32} {sfo : Int32} {hst : Int32} {tp : Nat → Int32} {nw : Nat → Int32} {rd : Nat → Int32} {kp : Nat → Int32} {sn : Nat → Int32} {p1 : Int32} {p2 : Int32} {p3 : Int32} {res : Int32} {too' : Int32} {frm' : Int32} {srt' : Int32} {num' : Int32} {flt' : Int32} {plc' : Int32} {wrd' : Int64} {rd' : Nat → Int32} (hm : mX6_told siz too frm srt num flt plc wrd tp rd p1 p2 p3 = some (res, too', frm', srt', num', flt', plc', wrd', rd')) : Mu l D cI cB cL cK yX6_told wsX6_told rmX6_told [.ref (ad 0), .int p1, .int p2, .int p3] (wM cI ad thr tpd siz too frm srt num flt plc wrd snm lin stp sfo hst tp nw rd kp sn) (wM cI ad thr tpd siz too' frm' srt' num' flt' plc' wrd' snm lin stp sfo hst tp nw rd' kp sn) (some (.int res)) 0 0 := by
  refine Mu.ofi (cc := cX6_told) (own := RX6) (by decide) rfl rfl (Nat.le_of_ble_eq_true rfl) (fun p e s m below meth c ls Q A C hA hP hD hS hl hret => ?_)
  obtain ⟨hx, hb, hr, hml, hown, hts, hlk, hK⟩ := id C
  have hcf : CallFix p m c cX6_told 4 s _ wsX6_told RX6 := ⟨hx, hb, hml, hown, hts⟩
  have hl : lv_has ls 4 [(0, .ref (ad 0)), (1, .int p1), (2, .int p2), (3, .int p3)] := hl
  unfold mX6_told at hm
  refine lv_aload_n hx hb dX6_told_0 rfl (lv_at hl 0 rfl) ?_
  refine gf (q0 := 0) hx hb hts hown hK flX6_told_27 hP rfl rfl dX6_told_1 ?_
  refine lv_iconst (v := 3) hx hb dX6_told_4 (by decide) ?_
  refine lv_icmp_eq (tgt := 14) hx hb dX6_told_5 (by decide) (fun c_1 => ?_) (fun c_1 => ?_)
  · replace hm := br_p hm c_1
    refine lv_aload_n hx hb dX6_told_14 rfl (lv_at hl 0 rfl) ?_
    refine gf (q0 := 0) hx hb hts hown hK flX6_told_41 hP rfl rfl dX6_told_15 ?_
    refine lv_iload_n hx hb dX6_told_18 rfl (lv_at hl 2 rfl) ?_
    refine lv_iload_n hx hb dX6_told_19 rfl (lv_at hl 3 rfl) ?_
    obtain ⟨v2, h_3, hm⟩ := b1_s hm
    refine rd_s hcf (kX6_isIn h_3) (cwX6_told_X6_isIn hts) hK hP Sb.nil rfl hl.1 rfl (Nat.le_of_ble_eq_true rfl) dX6_told_20 ⟨Nat.zero_le _, Nat.zero_le _⟩ ?_
    refine lv_if_ne (tgt := 32) hx hb dX6_told_23 (by decide) (fun c_4 => ?_) (fun c_4 => ?_)
    · replace hm := br_n hm c_4
      refine lv_aload_n hx hb dX6_told_32 rfl (lv_at hl 0 rfl) ?_
      refine gf (q0 := 0) hx hb hts hown hK flX6_told_73 hP rfl rfl dX6_told_33 ?_
      refine lv_iload_n hx hb dX6_told_36 rfl (lv_at hl 1 rfl) ?_
      refine lv_aload_n hx hb dX6_told_37 rfl (lv_at hl 0 rfl) ?_
      refine gf (q0 := 0) hx hb hts hown hK flX6_told_41 hP rfl rfl dX6_told_38 ?_
      obtain ⟨h_5, hm⟩ := ck_s hm
      refine ast (q0 := 3) (k := (p1 : Int32).toNatClampNeg) (X' := (wM cI ad thr tpd siz too frm srt num flt plc wrd snm lin stp sfo hst tp nw (upd rd ((p1 : Int32).toNatClampNeg) num) kp sn)) hx hb hK hP hD hS rfl h_5 rfl rfl dX6_told_41 (fun H locs hP hD hS => ?_)
      refine lv_aload_n hx hb dX6_told_42 rfl (lv_at hl 0 rfl) ?_
      obtain ⟨too6, frm7, srt8, num9, wrd10, h_11, hm⟩ := b5_s hm
      refine mu_vv hcf (kX6_go h_11) (cwX6_told_X6_go hts) hK hP hD hS hA Jn.rf (ci := 6) (q0 := 0) rfl rfl rfl hl.1 rfl (Nat.le_of_ble_eq_true rfl) dX6_told_43 ⟨Nat.zero_le _, Nat.zero_le _⟩ (fun H locs hP hD hS => ?_)
      refine lv_iconst (v := 1) hx hb dX6_told_46 (by decide) ?_
      cases hm
      exact hret _ _ _ _ dX6_told_47 rfl hP hD hS
    · replace hm := br_p hm c_4
      refine lv_aload_n hx hb dX6_told_26 rfl (lv_at hl 0 rfl) ?_
      refine lv_iconst (v := 2) hx hb dX6_told_27 (by decide) ?_
      obtain ⟨v12, flt13, plc14, h_15, hm⟩ := b3_s hm
      refine mu_vi hcf (kX6_bad h_15) (cwX6_told_X6_bad hts) hK hP hD hS hA Jn.rf (ci := 6) (q0 := 0) rfl rfl rfl hl.1 rfl (Nat.le_of_ble_eq_true rfl) dX6_told_28 ⟨Nat.zero_le _, Nat.zero_le _⟩ (fun H locs hP hD hS => ?_)
      obtain ⟨h_16, hm⟩ := ck_s hm
      cases hm
      exact hret _ _ _ _ dX6_told_31 (bz_n h_16) hP hD hS
  · replace hm := br_n hm c_1
    refine lv_aload_n hx hb dX6_told_8 rfl (lv_at hl 0 rfl) ?_
    refine lv_iconst (v := 1) hx hb dX6_told_9 (by decide) ?_
    obtain ⟨v17, flt18, plc19, h_20, hm⟩ := b3_s hm
    refine mu_vi hcf (kX6_bad h_20) (cwX6_told_X6_bad hts) hK hP hD hS hA Jn.rf (ci := 6) (q0 := 0) rfl rfl rfl hl.1 rfl (Nat.le_of_ble_eq_true rfl) dX6_told_10 ⟨Nat.zero_le _, Nat.zero_le _⟩ (fun H locs hP hD hS => ?_)
    obtain ⟨h_21, hm⟩ := ck_s hm
    cases hm
    exact hret _ _ _ _ dX6_told_13 (bz_n h_21) hP hD hS
/-! X6 readEnd()Z -/
abbrev rmX6_readEnd : Room := { frames := 2, cells := 0, slots := 0, locals := 45 }
theorem hdX6_readEnd : yX6_readEnd.cls = RX6 ∧ yX6_readEnd.cls ≠ "java/lang/invoke/MethodHandle" ∧ yX6_readEnd.cls ≠ "java/lang/invoke/VarHandle" ∧ (parseMethodDescriptor yX6_readEnd.desc).map (fun d => d.parameters.length) = some 0 := by decide +kernel
theorem inX6_readEnd_X6 : ∀ w ∈ u_ws RX6 TX6 20, w ∈ wsX6_readEnd := by decide +kernel
theorem cwX6_readEnd_X6_bad {s : State} {args : Array Value} (hts : ∀ w ∈ wsX6_readEnd, w.before args s = true) : CallW rmX6_readEnd s args RX6 RX6 82 yX6_bad cX6_bad 2 (some .boolean) wsX6_bad rmX6_bad 0 0 1 := cwV 1 hts gX6_readEnd_X6_bad rfl rfl rfl hdX6_bad ⟨Nat.le_of_ble_eq_true rfl, Nat.le_of_ble_eq_true rfl⟩
theorem cwX6_readEnd_X6_go {s : State} {args : Array Value} (hts : ∀ w ∈ wsX6_readEnd, w.before args s = true) : CallW rmX6_readEnd s args RX6 RX6 89 yX6_go cX6_go 5 none wsX6_go rmX6_go 0 0 0 := cwV 0 hts gX6_readEnd_X6_go rfl rfl rfl hdX6_go ⟨Nat.le_of_ble_eq_true rfl, Nat.le_of_ble_eq_true rfl⟩
theorem flX6_readEnd_27 : Fl wsX6_readEnd RX6 27 6 6 := ⟨_, _, _, rfl, by decide, inX6_readEnd_X6, by decide +kernel⟩
set_option maxRecDepth 100000 in
set_option maxHeartbeats 4000000 in
theorem kX6_readEnd {l : Launch} {D : va_G} {cI cB cL cK : ClassId} {ad : Nat → Nat} {thr : Int32} {tpd : Int32} {siz : Int32} {too : Int32} {frm : Int32} {srt : Int32} {num : Int32} {flt : Int32} {plc : Int32} {wrd : Int64} {snm : Int32} {lin : Int32} {stp : Int32} {sfo : Int32} {hst : Int32} {tp : Nat → Int32} {nw : Nat → Int32} {rd : Nat → Int32} {kp : Nat → Int32} {sn : Nat → Int32}  {res : Int32} {too' : Int32} {frm' : Int32} {srt' : Int32} {num' : Int32} {flt' : Int32} {plc' : Int32} {wrd' : Int64} (hm : mX6_readEnd siz too frm srt num flt plc wrd tp = some (res, too', frm', srt', num', flt', plc', wrd')) : Mu l D cI cB cL cK yX6_readEnd wsX6_readEnd rmX6_readEnd [.ref (ad 0)] (wM cI ad thr tpd siz too frm srt num flt plc wrd snm lin stp sfo hst tp nw rd kp sn) (wM cI ad thr tpd siz too' frm' srt' num' flt' plc' wrd' snm lin stp sfo hst tp nw rd kp sn) (some (.int res)) 0 0 := by
  refine Mu.ofi (cc := cX6_readEnd) (own := RX6) (by decide) rfl rfl (Nat.le_of_ble_eq_true rfl) (fun p e s m below meth c ls Q A C hA hP hD hS hl hret => ?_)
  obtain ⟨hx, hb, hr, hml, hown, hts, hlk, hK⟩ := id C
  have hcf : CallFix p m c cX6_readEnd 1 s _ wsX6_readEnd RX6 := ⟨hx, hb, hml, hown, hts⟩
  have hl : lv_has ls 1 [(0, .ref (ad 0))] := hl
  unfold mX6_readEnd at hm
  refine lv_aload_n hx hb dX6_readEnd_0 rfl (lv_at hl 0 rfl) ?_
  refine gf (q0 := 0) hx hb hts hown hK flX6_readEnd_27 hP rfl rfl dX6_readEnd_1 ?_
  refine lv_iconst (v := 4) hx hb dX6_readEnd_4 (by decide) ?_
  refine lv_icmp_eq (tgt := 14) hx hb dX6_readEnd_5 (by decide) (fun c_1 => ?_) (fun c_1 => ?_)
  · replace hm := br_p hm c_1
    refine lv_aload_n hx hb dX6_readEnd_14 rfl (lv_at hl 0 rfl) ?_
    obtain ⟨too2, frm3, srt4, num5, wrd6, h_7, hm⟩ := b5_s hm
    refine mu_vv hcf (kX6_go h_7) (cwX6_readEnd_X6_go hts) hK hP hD hS hA Jn.rf (ci := 6) (q0 := 0) rfl rfl rfl hl.1 rfl (Nat.le_of_ble_eq_true rfl) dX6_readEnd_15 ⟨Nat.zero_le _, Nat.zero_le _⟩ (fun H locs hP hD hS => ?_)
    refine lv_iconst (v := 1) hx hb dX6_readEnd_18 (by decide) ?_
    cases hm
    exact hret _ _ _ _ dX6_readEnd_19 rfl hP hD hS
  · replace hm := br_n hm c_1
    refine lv_aload_n hx hb dX6_readEnd_8 rfl (lv_at hl 0 rfl) ?_
    refine lv_iconst (v := 1) hx hb dX6_readEnd_9 (by decide) ?_
    obtain ⟨v8, flt9, plc10, h_11, hm⟩ := b3_s hm
    refine mu_vi hcf (kX6_bad h_11) (cwX6_readEnd_X6_bad hts) hK hP hD hS hA Jn.rf (ci := 6) (q0 := 0) rfl rfl rfl hl.1 rfl (Nat.le_of_ble_eq_true rfl) dX6_readEnd_10 ⟨Nat.zero_le _, Nat.zero_le _⟩ (fun H locs hP hD hS => ?_)
    obtain ⟨h_12, hm⟩ := ck_s hm
    cases hm
    exact hret _ _ _ _ dX6_readEnd_13 (bz_n h_12) hP hD hS
/-! X6 readStep()Z -/
abbrev rmX6_readStep : Room := { frames := 3, cells := 0, slots := 0, locals := 68 }
theorem hdX6_readStep : yX6_readStep.cls = RX6 ∧ yX6_readStep.cls ≠ "java/lang/invoke/MethodHandle" ∧ yX6_readStep.cls ≠ "java/lang/invoke/VarHandle" ∧ (parseMethodDescriptor yX6_readStep.desc).map (fun d => d.parameters.length) = some 0 := by decide +kernel
theorem inX6_readStep_X6 : ∀ w ∈ u_ws RX6 TX6 20, w ∈ wsX6_readStep := by decide +kernel
theorem cwX6_readStep_X6_bad {s : State} {args : Array Value} (hts : ∀ w ∈ wsX6_readStep, w.before args s = true) : CallW rmX6_readStep s args RX6 RX6 82 yX6_bad cX6_bad 2 (some .boolean) wsX6_bad rmX6_bad 0 0 1 := cwV 1 hts gX6_readStep_X6_bad rfl rfl rfl hdX6_bad ⟨Nat.le_of_ble_eq_true rfl, Nat.le_of_ble_eq_true rfl⟩
theorem cwX6_readStep_X6_go {s : State} {args : Array Value} (hts : ∀ w ∈ wsX6_readStep, w.before args s = true) : CallW rmX6_readStep s args RX6 RX6 89 yX6_go cX6_go 5 none wsX6_go rmX6_go 0 0 0 := cwV 0 hts gX6_readStep_X6_go rfl rfl rfl hdX6_go ⟨Nat.le_of_ble_eq_true rfl, Nat.le_of_ble_eq_true rfl⟩
theorem cwX6_readStep_X6_readEnd {s : State} {args : Array Value} (hts : ∀ w ∈ wsX6_readStep, w.before args s = true) : CallW rmX6_readStep s args RX6 RX6 95 yX6_readEnd cX6_readEnd 1 (some .boolean) wsX6_readEnd rmX6_readEnd 0 0 0 := cwV 0 hts gX6_readStep_X6_readEnd rfl rfl rfl hdX6_readEnd ⟨Nat.le_of_ble_eq_true rfl, Nat.le_of_ble_eq_true rfl⟩
theorem cwX6_readStep_X6_told {s : State} {args : Array Value} (hts : ∀ w ∈ wsX6_readStep, w.before args s = true) : CallW rmX6_readStep s args RX6 RX6 92 yX6_told cX6_told 4 (some .boolean) wsX6_told rmX6_told 0 0 3 := cwV 3 hts gX6_readStep_X6_told rfl rfl rfl hdX6_told ⟨Nat.le_of_ble_eq_true rfl, Nat.le_of_ble_eq_true rfl⟩
theorem flX6_readStep_73 : Fl wsX6_readStep RX6 73 6 12 := ⟨_, _, _, rfl, by decide, inX6_readStep_X6, by decide +kernel⟩
set_option maxRecDepth 100000 in
set_option maxHeartbeats 4000000 in
theorem kX6_readStep {l : Launch} {D : va_G} {cI cB cL cK : ClassId} {ad : Nat → Nat} {thr : Int32} {tpd : Int32} {siz : Int32} {too : Int32} {frm : Int32} {srt : Int32} {num : Int32} {flt : Int32} {plc : Int32} {wrd : Int64} {snm : Int32} {lin : Int32} {stp : Int32} {sfo : Int32} {hst : Int32} {tp : Nat → Int32} {nw : Nat → Int32} {rd : Nat → Int32} {kp : Nat → Int32} {sn : Nat → Int32}  {res : Int32} {too' : Int32} {frm' : Int32} {srt' : Int32} {num' : Int32} {flt' : Int32} {plc' : Int32} {wrd' : Int64} {rd' : Nat → Int32} (hm : mX6_readStep siz too frm srt num flt plc wrd tp rd = some (res, too', frm', srt', num', flt', plc', wrd', rd')) : Mu l D cI cB cL cK yX6_readStep wsX6_readStep rmX6_readStep [.ref (ad 0)] (wM cI ad thr tpd siz too frm srt num flt plc wrd snm lin stp sfo hst tp nw rd kp sn) (wM cI ad thr tpd siz too' frm' srt' num' flt' plc' wrd' snm lin stp sfo hst tp nw rd' kp sn) (some (.int res)) 0 0 := by
  refine Mu.ofi (cc := cX6_readStep) (own := RX6) (by decide) rfl rfl (Nat.le_of_ble_eq_true rfl) (fun p e s m below meth c ls Q A C hA hP hD hS hl hret => ?_)
  obtain ⟨hx, hb, hr, hml, hown, hts, hlk, hK⟩ := id C
  have hcf : CallFix p m c cX6_readStep 2 s _ wsX6_readStep RX6 := ⟨hx, hb, hml, hown, hts⟩
  have hl : lv_has ls 2 [(0, .ref (ad 0))] := hl
  unfold mX6_readStep at hm
  refine lv_aload_n hx hb dX6_readStep_0 rfl (lv_at hl 0 rfl) ?_
  refine gf (q0 := 0) hx hb hts hown hK flX6_readStep_73 hP rfl rfl dX6_readStep_1 ?_
  refine lv_iconst (v := 2) hx hb dX6_readStep_4 (by decide) ?_
  refine ald (q0 := 3) (k := 2) hx hb hK hP rfl (by decide) (by decide) dX6_readStep_5 ?_
  refine lv_bipush (v := 6) hx hb dX6_readStep_6 (by decide) ?_
  refine lv_icmp_ne (tgt := 17) hx hb dX6_readStep_8 (by decide) (fun c_1 => ?_) (fun c_1 => ?_)
  · replace hm := br_n hm c_1
    refine lv_aload_n hx hb dX6_readStep_17 rfl (lv_at hl 0 rfl) ?_
    obtain ⟨too2, frm3, srt4, num5, wrd6, h_7, hm⟩ := b5_s hm
    refine mu_vv hcf (kX6_go h_7) (cwX6_readStep_X6_go hts) hK hP hD hS hA Jn.rf (ci := 6) (q0 := 0) rfl rfl rfl hl.1 rfl (Nat.le_of_ble_eq_true rfl) dX6_readStep_18 ⟨Nat.zero_le _, Nat.zero_le _⟩ (fun H locs hP hD hS => ?_)
    refine lv_bipush (v := 7) hx hb dX6_readStep_21 (by decide) ?_
    refine lv_iconst (v := 3) hx hb dX6_readStep_23 (by decide) ?_
    refine lv_aload_n hx hb dX6_readStep_24 rfl (lv_at hl 0 rfl) ?_
    refine gf (q0 := 0) hx hb hts hown hK flX6_readStep_73 hP rfl rfl dX6_readStep_25 ?_
    refine lv_iconst (v := 2) hx hb dX6_readStep_28 (by decide) ?_
    refine ald (q0 := 3) (k := 2) hx hb hK hP rfl (by decide) (by decide) dX6_readStep_29 ?_
    refine lv_imul hx hb dX6_readStep_30 ?_
    refine lv_iadd hx hb dX6_readStep_31 ?_
    refine lv_istore_n (lv' := [(1, .int (7 + (3 * (rd 2)))), (0, .ref (ad 0))]) hx hb dX6_readStep_32 rfl hl (by decide) rfl (fun ls hl => ?_)
    refine lv_aload_n hx hb dX6_readStep_33 rfl (lv_at hl 1 rfl) ?_
    refine lv_iload_n hx hb dX6_readStep_34 rfl (lv_at hl 0 rfl) ?_
    refine lv_iconst (v := 0) hx hb dX6_readStep_35 (by decide) ?_
    refine lv_iadd hx hb dX6_readStep_36 ?_
    refine lv_iconst (v := 1) hx hb dX6_readStep_37 (by decide) ?_
    refine lv_bipush (v := 99) hx hb dX6_readStep_38 (by decide) ?_
    obtain ⟨v8, too9, frm10, srt11, num12, flt13, plc14, wrd15, rd16, h_17, hm⟩ := b9_s hm
    refine mu_vi hcf (kX6_told h_17) (cwX6_readStep_X6_told hts) hK hP hD hS hA Jn.rf (ci := 6) (q0 := 0) rfl rfl rfl hl.1 rfl (Nat.le_of_ble_eq_true rfl) dX6_readStep_40 ⟨Nat.zero_le _, Nat.zero_le _⟩ (fun H locs hP hD hS => ?_)
    refine lv_if_eq (tgt := 73) hx hb dX6_readStep_43 (by decide) (fun c_18 => ?_) (fun c_18 => ?_)
    · replace hm := br_p hm c_18
      refine lv_iconst (v := 0) hx hb dX6_readStep_73 (by decide) ?_
      cases hm
      exact hret _ _ _ _ dX6_readStep_74 rfl hP hD hS
    · replace hm := br_n hm c_18
      refine lv_aload_n hx hb dX6_readStep_46 rfl (lv_at hl 1 rfl) ?_
      refine lv_iload_n hx hb dX6_readStep_47 rfl (lv_at hl 0 rfl) ?_
      refine lv_iconst (v := 1) hx hb dX6_readStep_48 (by decide) ?_
      refine lv_iadd hx hb dX6_readStep_49 ?_
      refine lv_iconst (v := 0) hx hb dX6_readStep_50 (by decide) ?_
      refine lv_bipush (v := 99) hx hb dX6_readStep_51 (by decide) ?_
      obtain ⟨v19, too20, frm21, srt22, num23, flt24, plc25, wrd26, rd27, h_28, hm⟩ := b9_s hm
      refine mu_vi hcf (kX6_told h_28) (cwX6_readStep_X6_told hts) hK hP hD hS hA Jn.rf (ci := 6) (q0 := 0) rfl rfl rfl hl.1 rfl (Nat.le_of_ble_eq_true rfl) dX6_readStep_53 ⟨Nat.zero_le _, Nat.zero_le _⟩ (fun H locs hP hD hS => ?_)
      refine lv_if_eq (tgt := 73) hx hb dX6_readStep_56 (by decide) (fun c_29 => ?_) (fun c_29 => ?_)
      · replace hm := br_p hm c_29
        refine lv_iconst (v := 0) hx hb dX6_readStep_73 (by decide) ?_
        cases hm
        exact hret _ _ _ _ dX6_readStep_74 rfl hP hD hS
      · replace hm := br_n hm c_29
        refine lv_aload_n hx hb dX6_readStep_59 rfl (lv_at hl 1 rfl) ?_
        refine lv_iload_n hx hb dX6_readStep_60 rfl (lv_at hl 0 rfl) ?_
        refine lv_iconst (v := 2) hx hb dX6_readStep_61 (by decide) ?_
        refine lv_iadd hx hb dX6_readStep_62 ?_
        refine lv_iconst (v := 0) hx hb dX6_readStep_63 (by decide) ?_
        refine lv_sipush (v := 999) hx hb dX6_readStep_64 (by decide) ?_
        obtain ⟨v30, too31, frm32, srt33, num34, flt35, plc36, wrd37, rd38, h_39, hm⟩ := b9_s hm
        refine mu_vi hcf (kX6_told h_39) (cwX6_readStep_X6_told hts) hK hP hD hS hA Jn.rf (ci := 6) (q0 := 0) rfl rfl rfl hl.1 rfl (Nat.le_of_ble_eq_true rfl) dX6_readStep_67 ⟨Nat.zero_le _, Nat.zero_le _⟩ (fun H locs hP hD hS => ?_)
        refine lv_if_ne (tgt := 75) hx hb dX6_readStep_70 (by decide) (fun c_40 => ?_) (fun c_40 => ?_)
        · replace hm := br_n hm c_40
          refine lv_aload_n hx hb dX6_readStep_75 rfl (lv_at hl 1 rfl) ?_
          refine gf (q0 := 0) hx hb hts hown hK flX6_readStep_73 hP rfl rfl dX6_readStep_76 ?_
          refine lv_iconst (v := 2) hx hb dX6_readStep_79 (by decide) ?_
          refine lv_dup2_11 hx hb dX6_readStep_80 rfl rfl ?_
          refine ald (q0 := 3) (k := 2) hx hb hK hP rfl (by decide) (by decide) dX6_readStep_81 ?_
          refine lv_iconst (v := 1) hx hb dX6_readStep_82 (by decide) ?_
          refine lv_iadd hx hb dX6_readStep_83 ?_
          refine ast (q0 := 3) (k := 2) (X' := (wM cI ad thr tpd siz too31 frm32 srt33 num34 flt35 plc36 wrd37 snm lin stp sfo hst tp nw (upd rd38 2 ((rd38 2) + 1)) kp sn)) hx hb hK hP hD hS rfl (by decide) (by decide) rfl dX6_readStep_84 (fun H locs hP hD hS => ?_)
          refine lv_aload_n hx hb dX6_readStep_85 rfl (lv_at hl 1 rfl) ?_
          obtain ⟨v41, too42, frm43, srt44, num45, flt46, plc47, wrd48, h_49, hm⟩ := b8_s hm
          refine mu_vi hcf (kX6_readEnd h_49) (cwX6_readStep_X6_readEnd hts) hK hP hD hS hA Jn.rf (ci := 6) (q0 := 0) rfl rfl rfl hl.1 rfl (Nat.le_of_ble_eq_true rfl) dX6_readStep_86 ⟨Nat.zero_le _, Nat.zero_le _⟩ (fun H locs hP hD hS => ?_)
          obtain ⟨h_50, hm⟩ := ck_s hm
          cases hm
          exact hret _ _ _ _ dX6_readStep_89 (bz_n h_50) hP hD hS
        · replace hm := br_p hm c_40
          refine lv_iconst (v := 0) hx hb dX6_readStep_73 (by decide) ?_
          cases hm
          exact hret _ _ _ _ dX6_readStep_74 rfl hP hD hS
  · replace hm := br_p hm c_1
    refine lv_aload_n hx hb dX6_readStep_11 rfl (lv_at hl 0 rfl) ?_
    refine lv_iconst (v := 3) hx hb dX6_readStep_12 (by decide) ?_
    obtain ⟨v51, flt52, plc53, h_54, hm⟩ := b3_s hm
    refine mu_vi hcf (kX6_bad h_54) (cwX6_readStep_X6_bad hts) hK hP hD hS hA Jn.rf (ci := 6) (q0 := 0) rfl rfl rfl hl.1 rfl (Nat.le_of_ble_eq_true rfl) dX6_readStep_13 ⟨Nat.zero_le _, Nat.zero_le _⟩ (fun H locs hP hD hS => ?_)
    obtain ⟨h_55, hm⟩ := ck_s hm
    cases hm
    exact hret _ _ _ _ dX6_readStep_16 (bz_n h_55) hP hD hS
/-! X6 readHold()Z -/
abbrev rmX6_readHold : Room := { frames := 3, cells := 0, slots := 0, locals := 68 }
theorem hdX6_readHold : yX6_readHold.cls = RX6 ∧ yX6_readHold.cls ≠ "java/lang/invoke/MethodHandle" ∧ yX6_readHold.cls ≠ "java/lang/invoke/VarHandle" ∧ (parseMethodDescriptor yX6_readHold.desc).map (fun d => d.parameters.length) = some 0 := by decide +kernel
theorem cwX6_readHold_X6_bad {s : State} {args : Array Value} (hts : ∀ w ∈ wsX6_readHold, w.before args s = true) : CallW rmX6_readHold s args RX6 RX6 82 yX6_bad cX6_bad 2 (some .boolean) wsX6_bad rmX6_bad 0 0 1 := cwV 1 hts gX6_readHold_X6_bad rfl rfl rfl hdX6_bad ⟨Nat.le_of_ble_eq_true rfl, Nat.le_of_ble_eq_true rfl⟩
theorem cwX6_readHold_X6_four {s : State} {args : Array Value} (hts : ∀ w ∈ wsX6_readHold, w.before args s = true) : CallB rmX6_readHold s args RX6 99 yX6_four cX6_four 4 (some .long) wsX6_four rmX6_four 0 0 4 ∧ (Cond.static yX6_four).before args s = true := va_cwS 4 hts gX6_readHold_X6_four rfl rfl rfl hdX6_four.2 ⟨Nat.le_of_ble_eq_true rfl, Nat.le_of_ble_eq_true rfl⟩
theorem cwX6_readHold_X6_go {s : State} {args : Array Value} (hts : ∀ w ∈ wsX6_readHold, w.before args s = true) : CallW rmX6_readHold s args RX6 RX6 89 yX6_go cX6_go 5 none wsX6_go rmX6_go 0 0 0 := cwV 0 hts gX6_readHold_X6_go rfl rfl rfl hdX6_go ⟨Nat.le_of_ble_eq_true rfl, Nat.le_of_ble_eq_true rfl⟩
theorem cwX6_readHold_X6_isWord {s : State} {args : Array Value} (hts : ∀ w ∈ wsX6_readHold, w.before args s = true) : CallW rmX6_readHold s args RX6 RX6 103 yX6_isWord cX6_isWord 3 (some .boolean) wsX6_isWord rmX6_isWord 0 0 1 := cwV 1 hts gX6_readHold_X6_isWord rfl rfl rfl hdX6_isWord ⟨Nat.le_of_ble_eq_true rfl, Nat.le_of_ble_eq_true rfl⟩
theorem cwX6_readHold_X6_readEnd {s : State} {args : Array Value} (hts : ∀ w ∈ wsX6_readHold, w.before args s = true) : CallW rmX6_readHold s args RX6 RX6 95 yX6_readEnd cX6_readEnd 1 (some .boolean) wsX6_readEnd rmX6_readEnd 0 0 0 := cwV 0 hts gX6_readHold_X6_readEnd rfl rfl rfl hdX6_readEnd ⟨Nat.le_of_ble_eq_true rfl, Nat.le_of_ble_eq_true rfl⟩
theorem cwX6_readHold_X6_told {s : State} {args : Array Value} (hts : ∀ w ∈ wsX6_readHold, w.before args s = true) : CallW rmX6_readHold s args RX6 RX6 92 yX6_told cX6_told 4 (some .boolean) wsX6_told rmX6_told 0 0 3 := cwV 3 hts gX6_readHold_X6_told rfl rfl rfl hdX6_told ⟨Nat.le_of_ble_eq_true rfl, Nat.le_of_ble_eq_true rfl⟩
set_option maxRecDepth 100000 in
set_option maxHeartbeats 4000000 in
theorem kX6_readHold {l : Launch} {D : va_G} {cI cB cL cK : ClassId} {ad : Nat → Nat} {thr : Int32} {tpd : Int32} {siz : Int32} {too : Int32} {frm : Int32} {srt : Int32} {num : Int32} {flt : Int32} {plc : Int32} {wrd : Int64} {snm : Int32} {lin : Int32} {stp : Int32} {sfo : Int32} {hst : Int32} {tp : Nat → Int32} {nw : Nat → Int32} {rd : Nat → Int32} {kp : Nat → Int32} {sn : Nat → Int32}  {res : Int32} {too' : Int32} {frm' : Int32} {srt' : Int32} {num' : Int32} {flt' : Int32} {plc' : Int32} {wrd' : Int64} {rd' : Nat → Int32} (hm : mX6_readHold siz too frm srt num flt plc wrd tp rd = some (res, too', frm', srt', num', flt', plc', wrd', rd')) : Mu l D cI cB cL cK yX6_readHold wsX6_readHold rmX6_readHold [.ref (ad 0)] (wM cI ad thr tpd siz too frm srt num flt plc wrd snm lin stp sfo hst tp nw rd kp sn) (wM cI ad thr tpd siz too' frm' srt' num' flt' plc' wrd' snm lin stp sfo hst tp nw rd' kp sn) (some (.int res)) 0 0 := by
  refine Mu.ofi (cc := cX6_readHold) (own := RX6) (by decide) rfl rfl (Nat.le_of_ble_eq_true rfl) (fun p e s m below meth c ls Q A C hA hP hD hS hl hret => ?_)
  obtain ⟨hx, hb, hr, hml, hown, hts, hlk, hK⟩ := id C
  have hcf : CallFix p m c cX6_readHold 1 s _ wsX6_readHold RX6 := ⟨hx, hb, hml, hown, hts⟩
  have hl : lv_has ls 1 [(0, .ref (ad 0))] := hl
  unfold mX6_readHold at hm
  refine lv_aload_n hx hb dX6_readHold_0 rfl (lv_at hl 0 rfl) ?_
  refine lv_bipush (v := 104) hx hb dX6_readHold_1 (by decide) ?_
  refine lv_bipush (v := 111) hx hb dX6_readHold_3 (by decide) ?_
  refine lv_bipush (v := 108) hx hb dX6_readHold_5 (by decide) ?_
  refine lv_bipush (v := 100) hx hb dX6_readHold_7 (by decide) ?_
  obtain ⟨v1, h_2, hm⟩ := b1_s hm
  refine rdL_s hcf (kX6_four h_2) (cwX6_readHold_X6_four hts) hK hP Sb.nil rfl hl.1 rfl (Nat.le_of_ble_eq_true rfl) dX6_readHold_9 ⟨Nat.zero_le _, Nat.zero_le _⟩ ?_
  obtain ⟨v3, h_4, hm⟩ := b1_s hm
  refine rd_v hcf (kX6_isWord h_4) (cwX6_readHold_X6_isWord hts) hK hP Sb.rf (ci := 6) (q0 := 0) rfl rfl rfl hl.1 rfl (Nat.le_of_ble_eq_true rfl) dX6_readHold_12 ⟨Nat.zero_le _, Nat.zero_le _⟩ ?_
  refine lv_if_ne (tgt := 24) hx hb dX6_readHold_15 (by decide) (fun c_5 => ?_) (fun c_5 => ?_)
  · replace hm := br_n hm c_5
    refine lv_aload_n hx hb dX6_readHold_24 rfl (lv_at hl 0 rfl) ?_
    obtain ⟨too6, frm7, srt8, num9, wrd10, h_11, hm⟩ := b5_s hm
    refine mu_vv hcf (kX6_go h_11) (cwX6_readHold_X6_go hts) hK hP hD hS hA Jn.rf (ci := 6) (q0 := 0) rfl rfl rfl hl.1 rfl (Nat.le_of_ble_eq_true rfl) dX6_readHold_25 ⟨Nat.zero_le _, Nat.zero_le _⟩ (fun H locs hP hD hS => ?_)
    refine lv_aload_n hx hb dX6_readHold_28 rfl (lv_at hl 0 rfl) ?_
    refine lv_iconst (v := 1) hx hb dX6_readHold_29 (by decide) ?_
    refine lv_iconst (v := 1) hx hb dX6_readHold_30 (by decide) ?_
    refine lv_bipush (v := 9) hx hb dX6_readHold_31 (by decide) ?_
    obtain ⟨v12, too13, frm14, srt15, num16, flt17, plc18, wrd19, rd20, h_21, hm⟩ := b9_s hm
    refine mu_vi hcf (kX6_told h_21) (cwX6_readHold_X6_told hts) hK hP hD hS hA Jn.rf (ci := 6) (q0 := 0) rfl rfl rfl hl.1 rfl (Nat.le_of_ble_eq_true rfl) dX6_readHold_33 ⟨Nat.zero_le _, Nat.zero_le _⟩ (fun H locs hP hD hS => ?_)
    refine lv_if_eq (tgt := 50) hx hb dX6_readHold_36 (by decide) (fun c_22 => ?_) (fun c_22 => ?_)
    · replace hm := br_p hm c_22
      refine lv_iconst (v := 0) hx hb dX6_readHold_50 (by decide) ?_
      cases hm
      exact hret _ _ _ _ dX6_readHold_51 rfl hP hD hS
    · replace hm := br_n hm c_22
      refine lv_aload_n hx hb dX6_readHold_39 rfl (lv_at hl 0 rfl) ?_
      obtain ⟨v23, too24, frm25, srt26, num27, flt28, plc29, wrd30, h_31, hm⟩ := b8_s hm
      refine mu_vi hcf (kX6_readEnd h_31) (cwX6_readHold_X6_readEnd hts) hK hP hD hS hA Jn.rf (ci := 6) (q0 := 0) rfl rfl rfl hl.1 rfl (Nat.le_of_ble_eq_true rfl) dX6_readHold_40 ⟨Nat.zero_le _, Nat.zero_le _⟩ (fun H locs hP hD hS => ?_)
      refine lv_if_eq (tgt := 50) hx hb dX6_readHold_43 (by decide) (fun c_32 => ?_) (fun c_32 => ?_)
      · replace hm := br_p hm c_32
        refine lv_iconst (v := 0) hx hb dX6_readHold_50 (by decide) ?_
        cases hm
        exact hret _ _ _ _ dX6_readHold_51 rfl hP hD hS
      · replace hm := br_n hm c_32
        refine lv_iconst (v := 1) hx hb dX6_readHold_46 (by decide) ?_
        refine lv_goto (tgt := 51) hx hb dX6_readHold_47 (by decide) ?_
        cases hm
        exact hret _ _ _ _ dX6_readHold_51 rfl hP hD hS
  · replace hm := br_p hm c_5
    refine lv_aload_n hx hb dX6_readHold_18 rfl (lv_at hl 0 rfl) ?_
    refine lv_iconst (v := 1) hx hb dX6_readHold_19 (by decide) ?_
    obtain ⟨v33, flt34, plc35, h_36, hm⟩ := b3_s hm
    refine mu_vi hcf (kX6_bad h_36) (cwX6_readHold_X6_bad hts) hK hP hD hS hA Jn.rf (ci := 6) (q0 := 0) rfl rfl rfl hl.1 rfl (Nat.le_of_ble_eq_true rfl) dX6_readHold_20 ⟨Nat.zero_le _, Nat.zero_le _⟩ (fun H locs hP hD hS => ?_)
    obtain ⟨h_37, hm⟩ := ck_s hm
    cases hm
    exact hret _ _ _ _ dX6_readHold_23 (bz_n h_37) hP hD hS
end
