section
variable {p : Program} {l : Launch} {e : Env} {s : State} {m : MethodId} {args : Array Value} {below : List Frame} {meth : Method} {c : Code} {Q : State → Prop} {A : Nat → Prop} {D : va_G} {cI cB cL cK : ClassId}
/-! X6 next(I)I -/
abbrev rmX6_next : Room := { frames := 6, cells := 0, slots := 0, locals := 137 }
theorem hdX6_next : yX6_next.cls = RX6 ∧ yX6_next.cls ≠ "java/lang/invoke/MethodHandle" ∧ yX6_next.cls ≠ "java/lang/invoke/VarHandle" ∧ (parseMethodDescriptor yX6_next.desc).map (fun d => d.parameters.length) = some 1 := by decide +kernel
theorem inX6_next_X6 : ∀ w ∈ u_ws RX6 TX6 20, w ∈ wsX6_next := by decide +kernel
theorem cwX6_next_X6_back {s : State} {args : Array Value} (hts : ∀ w ∈ wsX6_next, w.before args s = true) : CallW rmX6_next s args RX6 RX6 246 yX6_back cX6_back 2 none wsX6_back rmX6_back 0 0 0 := cwV 0 hts gX6_next_X6_back rfl rfl rfl hdX6_back ⟨Nat.le_of_ble_eq_true rfl, Nat.le_of_ble_eq_true rfl⟩
theorem cwX6_next_X6_ends {s : State} {args : Array Value} (hts : ∀ w ∈ wsX6_next, w.before args s = true) : CallW rmX6_next s args RX6 RX6 243 yX6_ends cX6_ends 2 none wsX6_ends rmX6_ends 0 0 0 := cwV 0 hts gX6_next_X6_ends rfl rfl rfl hdX6_ends ⟨Nat.le_of_ble_eq_true rfl, Nat.le_of_ble_eq_true rfl⟩
theorem cwX6_next_X6_isDebtor {s : State} {args : Array Value} (hts : ∀ w ∈ wsX6_next, w.before args s = true) : CallW rmX6_next s args RX6 RX6 221 yX6_isDebtor cX6_isDebtor 2 (some .boolean) wsX6_isDebtor rmX6_isDebtor 0 0 1 := cwV 1 hts gX6_next_X6_isDebtor rfl rfl rfl hdX6_isDebtor ⟨Nat.le_of_ble_eq_true rfl, Nat.le_of_ble_eq_true rfl⟩
theorem cwX6_next_X6_keeps {s : State} {args : Array Value} (hts : ∀ w ∈ wsX6_next, w.before args s = true) : CallW rmX6_next s args RX6 RX6 240 yX6_keeps cX6_keeps 2 none wsX6_keeps rmX6_keeps 0 0 0 := cwV 0 hts gX6_next_X6_keeps rfl rfl rfl hdX6_keeps ⟨Nat.le_of_ble_eq_true rfl, Nat.le_of_ble_eq_true rfl⟩
theorem flX6_next_199 : Fl wsX6_next RX6 199 6 19 := ⟨_, _, _, rfl, by decide, inX6_next_X6, by decide +kernel⟩
theorem fpX6_next_1 : Fp wsX6_next RX6 1 6 0 false .int := ⟨_, _, _, tyX6, rfl, by decide, inX6_next_X6, by decide +kernel, tyX6_ok, nmX6, rfl, rfl, by decide +kernel⟩
theorem fpX6_next_199 : Fp wsX6_next RX6 199 6 19 false .boolean := ⟨_, _, _, tyX6, rfl, by decide, inX6_next_X6, by decide +kernel, tyX6_ok, nmX6, rfl, rfl, by decide +kernel⟩
theorem fpX6_next_206 : Fp wsX6_next RX6 206 6 18 false .int := ⟨_, _, _, tyX6, rfl, by decide, inX6_next_X6, by decide +kernel, tyX6_ok, nmX6, rfl, rfl, by decide +kernel⟩
set_option maxRecDepth 100000 in
set_option maxHeartbeats 4000000 in
theorem tX6_next_b55 {ad : Nat → Nat} {tpd : Int32} {siz : Int32} {too : Int32} {frm : Int32} {srt : Int32} {num : Int32} {flt : Int32} {plc : Int32} {wrd : Int64} {snm : Int32} {lin : Int32} {tp : Nat → Int32} {rd : Nat → Int32} {sn : Nat → Int32} {res : Int32} {thr' : Int32} {stp' : Int32} {sfo' : Int32} {hst' : Int32} {nw' : Nat → Int32} {kp' : Nat → Int32} (C : Cx p s m args meth c cX6_next (some .int) 3 wsX6_next RX6 D cI cB cL cK) (hA : ∀ q : Nat, s.heap.size ≤ q → A q) (hret : ∀ (pc : Nat) (ls : Array Slot) (H : Heap) (locs : List Loc), decode cX6_next pc = .ok (.ireturn, 1) → narrow .int (.int res) = .int res → va_P D vwCl (wM cI ad thr' tpd siz too frm srt num flt plc wrd snm lin stp' sfo' hst' tp nw' rd kp' sn) H → va_D A (wM cI ad thr' tpd siz too frm srt num flt plc wrd snm lin stp' sfo' hst' tp nw' rd kp' sn) → va_S A s.heap H locs → W p l e rmX6_next s m args below meth c H locs 0 0 Q (F0 m pc ls [.int res])) : ∀ (x2 : Int32) (thr : Int32) (stp : Int32) (sfo : Int32) (hst : Int32) (nw : Nat → Int32) (kp : Nat → Int32), mX6_next_b55 x2 thr stp sfo hst nw kp = some (res, thr', stp', sfo', hst', nw', kp') → ∀ (H : Heap) (locs : List Loc) (ls : Array Slot), va_P D vwCl (wM cI ad thr tpd siz too frm srt num flt plc wrd snm lin stp sfo hst tp nw rd kp sn) H → va_D A (wM cI ad thr tpd siz too frm srt num flt plc wrd snm lin stp sfo hst tp nw rd kp sn) → va_S A s.heap H locs → lv_has ls 3 [(0, .ref (ad 0)), (2, .int x2)] → W p l e rmX6_next s m args below meth c H locs 0 0 Q (F0 m 55 ls []) := by
  obtain ⟨hx, hb, hr, hml, hown, hts, hlk, hK⟩ := id C
  have hcf : CallFix p m c cX6_next 3 s args wsX6_next RX6 := ⟨hx, hb, hml, hown, hts⟩
  intro x2 thr stp sfo hst nw kp hm H locs ls hP hD hS hl
  unfold mX6_next_b55 at hm
  refine lv_aload_n hx hb dX6_next_55 rfl (lv_at hl 0 rfl) ?_
  obtain ⟨nw12, h_13, hm⟩ := b1_s hm
  refine mu_vv hcf (kX6_back h_13) (cwX6_next_X6_back hts) hK hP hD hS hA Jn.rf (ci := 6) (q0 := 0) rfl rfl rfl hl.1 rfl (Nat.le_of_ble_eq_true rfl) dX6_next_56 ⟨Nat.zero_le _, Nat.zero_le _⟩ (fun H locs hP hD hS => ?_)
  refine lv_aload_n hx hb dX6_next_59 rfl (lv_at hl 0 rfl) ?_
  refine gf (q0 := 0) hx hb hts hown hK flX6_next_199 hP rfl rfl dX6_next_60 ?_
  refine lv_if_eq (tgt := 70) hx hb dX6_next_63 (by decide) (fun c_14 => ?_) (fun c_14 => ?_)
  · replace hm := br_p hm c_14
    refine lv_bipush (v := (-2)) hx hb dX6_next_70 (by decide) ?_
    cases hm
    exact hret _ _ _ _ dX6_next_72 rfl hP hD hS
  · replace hm := br_n hm c_14
    refine lv_iload_n hx hb dX6_next_66 rfl (lv_at hl 1 rfl) ?_
    refine lv_goto (tgt := 72) hx hb dX6_next_67 (by decide) ?_
    cases hm
    exact hret _ _ _ _ dX6_next_72 rfl hP hD hS
set_option maxRecDepth 100000 in
set_option maxHeartbeats 4000000 in
theorem tX6_next_L31 {ad : Nat → Nat} {tpd : Int32} {siz : Int32} {too : Int32} {frm : Int32} {srt : Int32} {num : Int32} {flt : Int32} {plc : Int32} {wrd : Int64} {snm : Int32} {lin : Int32} {tp : Nat → Int32} {rd : Nat → Int32} {sn : Nat → Int32} {res : Int32} {thr' : Int32} {stp' : Int32} {sfo' : Int32} {hst' : Int32} {nw' : Nat → Int32} {kp' : Nat → Int32} (C : Cx p s m args meth c cX6_next (some .int) 3 wsX6_next RX6 D cI cB cL cK) (hA : ∀ q : Nat, s.heap.size ≤ q → A q) (hret : ∀ (pc : Nat) (ls : Array Slot) (H : Heap) (locs : List Loc), decode cX6_next pc = .ok (.ireturn, 1) → narrow .int (.int res) = .int res → va_P D vwCl (wM cI ad thr' tpd siz too frm srt num flt plc wrd snm lin stp' sfo' hst' tp nw' rd kp' sn) H → va_D A (wM cI ad thr' tpd siz too frm srt num flt plc wrd snm lin stp' sfo' hst' tp nw' rd kp' sn) → va_S A s.heap H locs → W p l e rmX6_next s m args below meth c H locs 0 0 Q (F0 m pc ls [.int res])) : ∀ (n9 : Nat) (x2 : Int32) (thr : Int32) (stp : Int32) (sfo : Int32) (hst : Int32) (nw : Nat → Int32) (kp : Nat → Int32), mX6_next_L31 n9 x2 thr stp sfo hst nw kp = some (res, thr', stp', sfo', hst', nw', kp') → ∀ (H : Heap) (locs : List Loc) (ls : Array Slot), va_P D vwCl (wM cI ad thr tpd siz too frm srt num flt plc wrd snm lin stp sfo hst tp nw rd kp sn) H → va_D A (wM cI ad thr tpd siz too frm srt num flt plc wrd snm lin stp sfo hst tp nw rd kp sn) → va_S A s.heap H locs → lv_has ls 3 [(0, .ref (ad 0)), (2, .int x2)] → W p l e rmX6_next s m args below meth c H locs 0 0 Q (F0 m 31 ls []) := by
  obtain ⟨hx, hb, hr, hml, hown, hts, hlk, hK⟩ := id C
  have hcf : CallFix p m c cX6_next 3 s args wsX6_next RX6 := ⟨hx, hb, hml, hown, hts⟩
  intro n9
  induction n9 with
  | zero => intro x2 thr stp sfo hst nw kp hm; cases hm
  | succ k ih =>
    intro x2 thr stp sfo hst nw kp hm H locs ls hP hD hS hl
    rw [mX6_next_L31.eq_2] at hm
    refine lv_iload_n hx hb dX6_next_31 rfl (lv_at hl 1 rfl) ?_
    refine lv_sipush (v := 200) hx hb dX6_next_32 (by decide) ?_
    refine lv_icmp_ge (tgt := 55) hx hb dX6_next_35 (by decide) (fun c_6 => ?_) (fun c_6 => ?_)
    · replace hm := br_p hm c_6
      exact tX6_next_b55 C hA hret _ _ _ _ _ _ _ hm _ _ _ hP hD hS (lv_sub hl [0, 1] rfl)
    · replace hm := br_n hm c_6
      refine lv_aload_n hx hb dX6_next_38 rfl (lv_at hl 0 rfl) ?_
      refine gf (q0 := 0) hx hb hts hown hK flX6_next_199 hP rfl rfl dX6_next_39 ?_
      refine lv_if_ne (tgt := 55) hx hb dX6_next_42 (by decide) (fun c_7 => ?_) (fun c_7 => ?_)
      · replace hm := br_n hm c_7
        exact tX6_next_b55 C hA hret _ _ _ _ _ _ _ hm _ _ _ hP hD hS (lv_sub hl [0, 1] rfl)
      · replace hm := br_p hm c_7
        refine lv_aload_n hx hb dX6_next_45 rfl (lv_at hl 0 rfl) ?_
        obtain ⟨stp8, hst9, nw10, h_11, hm⟩ := b3_s hm
        refine mu_vv hcf (kX6_ends h_11) (cwX6_next_X6_ends hts) hK hP hD hS hA Jn.rf (ci := 6) (q0 := 0) rfl rfl rfl hl.1 rfl (Nat.le_of_ble_eq_true rfl) dX6_next_46 ⟨Nat.zero_le _, Nat.zero_le _⟩ (fun H locs hP hD hS => ?_)
        refine lv_iinc (v := (x2 + 1)) (lv' := [(2, .int (x2 + 1)), (0, .ref (ad 0))]) hx hb dX6_next_49 hl (k := 1) rfl rfl (by decide) rfl (fun ls hl => ?_)
        refine lv_goto (tgt := 31) hx hb dX6_next_52 (by decide) ?_
        exact ih _ _ _ _ _ _ _ hm _ _ _ hP hD hS (lv_sub hl [1, 0] rfl)
set_option maxRecDepth 100000 in
set_option maxHeartbeats 4000000 in
theorem kX6_next {l : Launch} {D : va_G} {cI cB cL cK : ClassId} {ad : Nat → Nat} {thr : Int32} {tpd : Int32} {siz : Int32} {too : Int32} {frm : Int32} {srt : Int32} {num : Int32} {flt : Int32} {plc : Int32} {wrd : Int64} {snm : Int32} {lin : Int32} {stp : Int32} {sfo : Int32} {hst : Int32} {tp : Nat → Int32} {nw : Nat → Int32} {rd : Nat → Int32} {kp : Nat → Int32} {sn : Nat → Int32} {p1 : Int32} {res : Int32} {thr' : Int32} {stp' : Int32} {sfo' : Int32} {hst' : Int32} {nw' : Nat → Int32} {kp' : Nat → Int32} (hm : mX6_next thr stp sfo hst nw kp p1 = some (res, thr', stp', sfo', hst', nw', kp')) : Mu l D cI cB cL cK yX6_next wsX6_next rmX6_next [.ref (ad 0), .int p1] (wM cI ad thr tpd siz too frm srt num flt plc wrd snm lin stp sfo hst tp nw rd kp sn) (wM cI ad thr' tpd siz too frm srt num flt plc wrd snm lin stp' sfo' hst' tp nw' rd kp' sn) (some (.int res)) 0 0 := by
  refine Mu.ofi (cc := cX6_next) (own := RX6) (by decide) rfl rfl (Nat.le_of_ble_eq_true rfl) (fun p e s m below meth c ls Q A C hA hP hD hS hl hret => ?_)
  obtain ⟨hx, hb, hr, hml, hown, hts, hlk, hK⟩ := id C
  have hcf : CallFix p m c cX6_next 3 s _ wsX6_next RX6 := ⟨hx, hb, hml, hown, hts⟩
  have hl : lv_has ls 3 [(0, .ref (ad 0)), (1, .int p1)] := hl
  unfold mX6_next at hm
  refine lv_aload_n hx hb dX6_next_0 rfl (lv_at hl 0 rfl) ?_
  refine lv_iconst (v := 0) hx hb dX6_next_1 (by decide) ?_
  refine pf (q0 := 0) (X' := (wM cI ad 0 tpd siz too frm srt num flt plc wrd snm lin stp sfo hst tp nw rd kp sn)) hx hb hts hown hK fpX6_next_1 hP hD hS rfl rfl rfl (Nat.le_of_ble_eq_true rfl) rfl dX6_next_2 (fun H locs hP hD hS => ?_)
  refine lv_aload_n hx hb dX6_next_5 rfl (lv_at hl 0 rfl) ?_
  refine lv_iload_n hx hb dX6_next_6 rfl (lv_at hl 1 rfl) ?_
  obtain ⟨v1, h_2, hm⟩ := b1_s hm
  refine rd_v hcf (kX6_isDebtor h_2) (cwX6_next_X6_isDebtor hts) hK hP Sb.rf (ci := 6) (q0 := 0) rfl rfl rfl hl.1 rfl (Nat.le_of_ble_eq_true rfl) dX6_next_7 ⟨Nat.zero_le _, Nat.zero_le _⟩ ?_
  refine lv_if_ne (tgt := 15) hx hb dX6_next_10 (by decide) (fun c_3 => ?_) (fun c_3 => ?_)
  · replace hm := br_n hm c_3
    refine lv_aload_n hx hb dX6_next_15 rfl (lv_at hl 0 rfl) ?_
    obtain ⟨kp4, h_5, hm⟩ := b1_s hm
    refine mu_vv hcf (kX6_keeps h_5) (cwX6_next_X6_keeps hts) hK hP hD hS hA Jn.rf (ci := 6) (q0 := 0) rfl rfl rfl hl.1 rfl (Nat.le_of_ble_eq_true rfl) dX6_next_16 ⟨Nat.zero_le _, Nat.zero_le _⟩ (fun H locs hP hD hS => ?_)
    refine lv_aload_n hx hb dX6_next_19 rfl (lv_at hl 0 rfl) ?_
    refine lv_iload_n hx hb dX6_next_20 rfl (lv_at hl 1 rfl) ?_
    refine pf (q0 := 0) (X' := (wM cI ad 0 tpd siz too frm srt num flt plc wrd snm lin stp p1 hst tp nw rd kp4 sn)) hx hb hts hown hK fpX6_next_206 hP hD hS rfl rfl rfl (Nat.le_of_ble_eq_true rfl) rfl dX6_next_21 (fun H locs hP hD hS => ?_)
    refine lv_aload_n hx hb dX6_next_24 rfl (lv_at hl 0 rfl) ?_
    refine lv_iconst (v := 0) hx hb dX6_next_25 (by decide) ?_
    refine pf (q0 := 0) (X' := (wM cI ad 0 tpd siz too frm srt num flt plc wrd snm lin stp p1 0 tp nw rd kp4 sn)) hx hb hts hown hK fpX6_next_199 hP hD hS rfl rfl rfl (Nat.le_of_ble_eq_true rfl) rfl dX6_next_26 (fun H locs hP hD hS => ?_)
    refine lv_iconst (v := 0) hx hb dX6_next_29 (by decide) ?_
    refine lv_istore_n (lv' := [(2, .int 0), (0, .ref (ad 0)), (1, .int p1)]) hx hb dX6_next_30 rfl hl (by decide) rfl (fun ls hl => ?_)
    exact tX6_next_L31 C hA hret _ _ _ _ _ _ _ _ hm _ _ _ hP hD hS (lv_sub hl [1, 0] rfl)
  · replace hm := br_p hm c_3
    refine lv_iconst (v := (-1)) hx hb dX6_next_13 (by decide) ?_
    cases hm
    exact hret _ _ _ _ dX6_next_14 rfl hP hD hS
/-! X6 canPay(II)Z -/
abbrev rmX6_canPay : Room := { frames := 2, cells := 0, slots := 0, locals := 43 }
theorem hdX6_canPay : yX6_canPay.cls = RX6 ∧ yX6_canPay.cls ≠ "java/lang/invoke/MethodHandle" ∧ yX6_canPay.cls ≠ "java/lang/invoke/VarHandle" ∧ (parseMethodDescriptor yX6_canPay.desc).map (fun d => d.parameters.length) = some 2 := by decide +kernel
theorem cwX6_canPay_X6_isDebtor {s : State} {args : Array Value} (hts : ∀ w ∈ wsX6_canPay, w.before args s = true) : CallW rmX6_canPay s args RX6 RX6 221 yX6_isDebtor cX6_isDebtor 2 (some .boolean) wsX6_isDebtor rmX6_isDebtor 0 0 1 := cwV 1 hts gX6_canPay_X6_isDebtor rfl rfl rfl hdX6_isDebtor ⟨Nat.le_of_ble_eq_true rfl, Nat.le_of_ble_eq_true rfl⟩
theorem cwX6_canPay_X6_isIn {s : State} {args : Array Value} (hts : ∀ w ∈ wsX6_canPay, w.before args s = true) : CallB rmX6_canPay s args RX6 85 yX6_isIn cX6_isIn 3 (some .boolean) wsX6_isIn rmX6_isIn 0 0 3 ∧ (Cond.static yX6_isIn).before args s = true := va_cwS 3 hts gX6_canPay_X6_isIn rfl rfl rfl hdX6_isIn.2 ⟨Nat.le_of_ble_eq_true rfl, Nat.le_of_ble_eq_true rfl⟩
theorem kcX6_canPay_249 : Cond.constant RX6 249 99999 ∈ wsX6_canPay := by decide +kernel
set_option maxRecDepth 100000 in
set_option maxHeartbeats 4000000 in
theorem kX6_canPay {l : Launch} {D : va_G} {cI cB cL cK : ClassId} {ad : Nat → Nat} {thr : Int32} {tpd : Int32} {siz : Int32} {too : Int32} {frm : Int32} {srt : Int32} {num : Int32} {flt : Int32} {plc : Int32} {wrd : Int64} {snm : Int32} {lin : Int32} {stp : Int32} {sfo : Int32} {hst : Int32} {tp : Nat → Int32} {nw : Nat → Int32} {rd : Nat → Int32} {kp : Nat → Int32} {sn : Nat → Int32} {p1 : Int32} {p2 : Int32} {res : Int32} (hm : mX6_canPay nw p1 p2 = some res) : Rd l D cI cB cL cK yX6_canPay wsX6_canPay rmX6_canPay [.ref (ad 0), .int p1, .int p2] (wM cI ad thr tpd siz too frm srt num flt plc wrd snm lin stp sfo hst tp nw rd kp sn) res := by
  refine Rd.of (cc := cX6_canPay) (own := RX6) (by decide) rfl rfl (Nat.le_of_ble_eq_true rfl) (fun p e s m below meth c ls Q C hP hl hret => ?_)
  obtain ⟨hx, hb, hr, hml, hown, hts, hlk, hK⟩ := id C
  have hcf : CallFix p m c cX6_canPay 3 s _ wsX6_canPay RX6 := ⟨hx, hb, hml, hown, hts⟩
  have hl : lv_has ls 3 [(0, .ref (ad 0)), (1, .int p1), (2, .int p2)] := hl
  unfold mX6_canPay at hm
  refine lv_aload_n hx hb dX6_canPay_0 rfl (lv_at hl 0 rfl) ?_
  refine lv_iload_n hx hb dX6_canPay_1 rfl (lv_at hl 1 rfl) ?_
  obtain ⟨v1, h_2, hm⟩ := b1_s hm
  refine rd_v hcf (kX6_isDebtor h_2) (cwX6_canPay_X6_isDebtor hts) hK hP Sb.rf (ci := 6) (q0 := 0) rfl rfl rfl hl.1 rfl (Nat.le_of_ble_eq_true rfl) dX6_canPay_2 ⟨Nat.zero_le _, Nat.zero_le _⟩ ?_
  refine lv_if_eq (tgt := 22) hx hb dX6_canPay_5 (by decide) (fun c_3 => ?_) (fun c_3 => ?_)
  · replace hm := br_p hm c_3
    refine lv_iconst (v := 0) hx hb dX6_canPay_22 (by decide) ?_
    cases hm
    exact hret _ _ dX6_canPay_23 rfl
  · replace hm := br_n hm c_3
    refine lv_iload_n hx hb dX6_canPay_8 rfl (lv_at hl 2 rfl) ?_
    refine lv_iconst (v := 1) hx hb dX6_canPay_9 (by decide) ?_
    refine lv_ldc (v := 99999) hx hb hown (hts _ kcX6_canPay_249) dX6_canPay_10 ?_
    obtain ⟨v4, h_5, hm⟩ := b1_s hm
    refine rd_s hcf (kX6_isIn h_5) (cwX6_canPay_X6_isIn hts) hK hP Sb.nil rfl hl.1 rfl (Nat.le_of_ble_eq_true rfl) dX6_canPay_12 ⟨Nat.zero_le _, Nat.zero_le _⟩ ?_
    refine lv_if_eq (tgt := 22) hx hb dX6_canPay_15 (by decide) (fun c_6 => ?_) (fun c_6 => ?_)
    · replace hm := br_p hm c_6
      refine lv_iconst (v := 0) hx hb dX6_canPay_22 (by decide) ?_
      cases hm
      exact hret _ _ dX6_canPay_23 rfl
    · replace hm := br_n hm c_6
      refine lv_iconst (v := 1) hx hb dX6_canPay_18 (by decide) ?_
      refine lv_goto (tgt := 23) hx hb dX6_canPay_19 (by decide) ?_
      cases hm
      exact hret _ _ dX6_canPay_23 rfl
/-! X6 pays(II)I -/
abbrev rmX6_pays : Room := { frames := 4, cells := 0, slots := 0, locals := 91 }
theorem hdX6_pays : yX6_pays.cls = RX6 ∧ yX6_pays.cls ≠ "java/lang/invoke/MethodHandle" ∧ yX6_pays.cls ≠ "java/lang/invoke/VarHandle" ∧ (parseMethodDescriptor yX6_pays.desc).map (fun d => d.parameters.length) = some 2 := by decide +kernel
theorem inX6_pays_X6 : ∀ w ∈ u_ws RX6 TX6 20, w ∈ wsX6_pays := by decide +kernel
theorem cwX6_pays_X6_its {s : State} {args : Array Value} (hts : ∀ w ∈ wsX6_pays, w.before args s = true) : CallW rmX6_pays s args RX6 RX6 148 yX6_its cX6_its 3 (some .int) wsX6_its rmX6_its 0 0 2 := cwV 2 hts gX6_pays_X6_its rfl rfl rfl hdX6_its ⟨Nat.le_of_ble_eq_true rfl, Nat.le_of_ble_eq_true rfl⟩
theorem cwX6_pays_X6_places {s : State} {args : Array Value} (hts : ∀ w ∈ wsX6_pays, w.before args s = true) : CallW rmX6_pays s args RX6 RX6 164 yX6_places cX6_places 4 none wsX6_places rmX6_places 0 0 1 := cwV 1 hts gX6_pays_X6_places rfl rfl rfl hdX6_places ⟨Nat.le_of_ble_eq_true rfl, Nat.le_of_ble_eq_true rfl⟩
theorem cwX6_pays_X6_puts {s : State} {args : Array Value} (hts : ∀ w ∈ wsX6_pays, w.before args s = true) : CallW rmX6_pays s args RX6 RX6 157 yX6_puts cX6_puts 4 none wsX6_puts rmX6_puts 0 0 3 := cwV 3 hts gX6_pays_X6_puts rfl rfl rfl hdX6_puts ⟨Nat.le_of_ble_eq_true rfl, Nat.le_of_ble_eq_true rfl⟩
theorem cwX6_pays_X6_releases {s : State} {args : Array Value} (hts : ∀ w ∈ wsX6_pays, w.before args s = true) : CallW rmX6_pays s args RX6 RX6 209 yX6_releases cX6_releases 4 (some .int) wsX6_releases rmX6_releases 0 0 1 := cwV 1 hts gX6_pays_X6_releases rfl rfl rfl hdX6_releases ⟨Nat.le_of_ble_eq_true rfl, Nat.le_of_ble_eq_true rfl⟩
theorem flX6_pays_70 : Fl wsX6_pays RX6 70 6 11 := ⟨_, _, _, rfl, by decide, inX6_pays_X6, by decide +kernel⟩
set_option maxRecDepth 100000 in
set_option maxHeartbeats 4000000 in
theorem tX6_pays_b76 {ad : Nat → Nat} {thr : Int32} {tpd : Int32} {siz : Int32} {too : Int32} {frm : Int32} {srt : Int32} {num : Int32} {flt : Int32} {plc : Int32} {wrd : Int64} {snm : Int32} {lin : Int32} {stp : Int32} {sfo : Int32} {hst : Int32} {tp : Nat → Int32} {rd : Nat → Int32} {kp : Nat → Int32} {sn : Nat → Int32} {res : Int32} {nw' : Nat → Int32} (C : Cx p s m args meth c cX6_pays (some .int) 3 wsX6_pays RX6 D cI cB cL cK) (hA : ∀ q : Nat, s.heap.size ≤ q → A q) (hret : ∀ (pc : Nat) (ls : Array Slot) (H : Heap) (locs : List Loc), decode cX6_pays pc = .ok (.ireturn, 1) → narrow .int (.int res) = .int res → va_P D vwCl (wM cI ad thr tpd siz too frm srt num flt plc wrd snm lin stp sfo hst tp nw' rd kp sn) H → va_D A (wM cI ad thr tpd siz too frm srt num flt plc wrd snm lin stp sfo hst tp nw' rd kp sn) → va_S A s.heap H locs → W p l e rmX6_pays s m args below meth c H locs 0 0 Q (F0 m pc ls [.int res])) : ∀ (x1 : Int32) (nw : Nat → Int32), mX6_pays_b76 x1 nw = some (res, nw') → ∀ (H : Heap) (locs : List Loc) (ls : Array Slot), va_P D vwCl (wM cI ad thr tpd siz too frm srt num flt plc wrd snm lin stp sfo hst tp nw rd kp sn) H → va_D A (wM cI ad thr tpd siz too frm srt num flt plc wrd snm lin stp sfo hst tp nw rd kp sn) → va_S A s.heap H locs → lv_has ls 3 [(0, .ref (ad 0)), (1, .int x1)] → W p l e rmX6_pays s m args below meth c H locs 0 0 Q (F0 m 76 ls []) := by
  obtain ⟨hx, hb, hr, hml, hown, hts, hlk, hK⟩ := id C
  have hcf : CallFix p m c cX6_pays 3 s args wsX6_pays RX6 := ⟨hx, hb, hml, hown, hts⟩
  intro x1 nw hm H locs ls hP hD hS hl
  unfold mX6_pays_b76 at hm
  refine lv_aload_n hx hb dX6_pays_76 rfl (lv_at hl 0 rfl) ?_
  refine lv_iload_n hx hb dX6_pays_77 rfl (lv_at hl 1 rfl) ?_
  obtain ⟨nw19, h_20, hm⟩ := b1_s hm
  refine mu_vv hcf (kX6_places h_20) (cwX6_pays_X6_places hts) hK hP hD hS hA Jn.rf (ci := 6) (q0 := 0) rfl rfl rfl hl.1 rfl (Nat.le_of_ble_eq_true rfl) dX6_pays_78 ⟨Nat.zero_le _, Nat.zero_le _⟩ (fun H locs hP hD hS => ?_)
  refine lv_aload_n hx hb dX6_pays_81 rfl (lv_at hl 0 rfl) ?_
  refine lv_iload_n hx hb dX6_pays_82 rfl (lv_at hl 1 rfl) ?_
  obtain ⟨v21, nw22, h_23, hm⟩ := b2_s hm
  refine mu_vi hcf (kX6_releases h_23) (cwX6_pays_X6_releases hts) hK hP hD hS hA Jn.rf (ci := 6) (q0 := 0) rfl rfl rfl hl.1 rfl (Nat.le_of_ble_eq_true rfl) dX6_pays_83 ⟨Nat.zero_le _, Nat.zero_le _⟩ (fun H locs hP hD hS => ?_)
  cases hm
  exact hret _ _ _ _ dX6_pays_86 rfl hP hD hS
set_option maxRecDepth 100000 in
set_option maxHeartbeats 4000000 in
theorem tX6_pays_b50 {ad : Nat → Nat} {thr : Int32} {tpd : Int32} {siz : Int32} {too : Int32} {frm : Int32} {srt : Int32} {num : Int32} {flt : Int32} {plc : Int32} {wrd : Int64} {snm : Int32} {lin : Int32} {stp : Int32} {sfo : Int32} {hst : Int32} {tp : Nat → Int32} {rd : Nat → Int32} {kp : Nat → Int32} {sn : Nat → Int32} {res : Int32} {nw' : Nat → Int32} (C : Cx p s m args meth c cX6_pays (some .int) 3 wsX6_pays RX6 D cI cB cL cK) (hA : ∀ q : Nat, s.heap.size ≤ q → A q) (hret : ∀ (pc : Nat) (ls : Array Slot) (H : Heap) (locs : List Loc), decode cX6_pays pc = .ok (.ireturn, 1) → narrow .int (.int res) = .int res → va_P D vwCl (wM cI ad thr tpd siz too frm srt num flt plc wrd snm lin stp sfo hst tp nw' rd kp sn) H → va_D A (wM cI ad thr tpd siz too frm srt num flt plc wrd snm lin stp sfo hst tp nw' rd kp sn) → va_S A s.heap H locs → W p l e rmX6_pays s m args below meth c H locs 0 0 Q (F0 m pc ls [.int res])) : ∀ (x1 : Int32) (x2 : Int32) (nw : Nat → Int32), mX6_pays_b50 x1 x2 nw = some (res, nw') → ∀ (H : Heap) (locs : List Loc) (ls : Array Slot), va_P D vwCl (wM cI ad thr tpd siz too frm srt num flt plc wrd snm lin stp sfo hst tp nw rd kp sn) H → va_D A (wM cI ad thr tpd siz too frm srt num flt plc wrd snm lin stp sfo hst tp nw rd kp sn) → va_S A s.heap H locs → lv_has ls 3 [(0, .ref (ad 0)), (1, .int x1), (2, .int x2)] → W p l e rmX6_pays s m args below meth c H locs 0 0 Q (F0 m 50 ls []) := by
  obtain ⟨hx, hb, hr, hml, hown, hts, hlk, hK⟩ := id C
  have hcf : CallFix p m c cX6_pays 3 s args wsX6_pays RX6 := ⟨hx, hb, hml, hown, hts⟩
  intro x1 x2 nw hm H locs ls hP hD hS hl
  unfold mX6_pays_b50 at hm
  refine lv_aload_n hx hb dX6_pays_50 rfl (lv_at hl 0 rfl) ?_
  refine lv_iload_n hx hb dX6_pays_51 rfl (lv_at hl 1 rfl) ?_
  refine lv_bipush (v := 9) hx hb dX6_pays_52 (by decide) ?_
  obtain ⟨v12, h_13, hm⟩ := b1_s hm
  refine rd_v hcf (kX6_its h_13) (cwX6_pays_X6_its hts) hK hP Sb.rf (ci := 6) (q0 := 0) rfl rfl rfl hl.1 rfl (Nat.le_of_ble_eq_true rfl) dX6_pays_54 ⟨Nat.zero_le _, Nat.zero_le _⟩ ?_
  refine lv_if_le (tgt := 76) hx hb dX6_pays_57 (by decide) (fun c_14 => ?_) (fun c_14 => ?_)
  · replace hm := br_p hm c_14
    exact tX6_pays_b76 C hA hret _ _ hm _ _ _ hP hD hS (lv_sub hl [0, 1] rfl)
  · replace hm := br_n hm c_14
    refine lv_aload_n hx hb dX6_pays_60 rfl (lv_at hl 0 rfl) ?_
    refine lv_iload_n hx hb dX6_pays_61 rfl (lv_at hl 1 rfl) ?_
    refine lv_bipush (v := 12) hx hb dX6_pays_62 (by decide) ?_
    refine lv_aload_n hx hb dX6_pays_64 rfl (lv_at hl 0 rfl) ?_
    refine lv_iload_n hx hb dX6_pays_65 rfl (lv_at hl 1 rfl) ?_
    refine lv_bipush (v := 12) hx hb dX6_pays_66 (by decide) ?_
    obtain ⟨v15, h_16, hm⟩ := b1_s hm
    refine rd_v hcf (kX6_its h_16) (cwX6_pays_X6_its hts) hK hP Sb.rf (ci := 6) (q0 := 0) rfl rfl rfl hl.1 rfl (Nat.le_of_ble_eq_true rfl) dX6_pays_68 ⟨Nat.zero_le _, Nat.zero_le _⟩ ?_
    refine lv_iload_n hx hb dX6_pays_71 rfl (lv_at hl 2 rfl) ?_
    refine lv_iadd hx hb dX6_pays_72 ?_
    obtain ⟨nw17, h_18, hm⟩ := b1_s hm
    refine mu_vv hcf (kX6_puts h_18) (cwX6_pays_X6_puts hts) hK hP hD hS hA Jn.rf (ci := 6) (q0 := 0) rfl rfl rfl hl.1 rfl (Nat.le_of_ble_eq_true rfl) dX6_pays_73 ⟨Nat.zero_le _, Nat.zero_le _⟩ (fun H locs hP hD hS => ?_)
    exact tX6_pays_b76 C hA hret _ _ hm _ _ _ hP hD hS (lv_sub hl [0, 1] rfl)
set_option maxRecDepth 100000 in
set_option maxHeartbeats 4000000 in
theorem kX6_pays {l : Launch} {D : va_G} {cI cB cL cK : ClassId} {ad : Nat → Nat} {thr : Int32} {tpd : Int32} {siz : Int32} {too : Int32} {frm : Int32} {srt : Int32} {num : Int32} {flt : Int32} {plc : Int32} {wrd : Int64} {snm : Int32} {lin : Int32} {stp : Int32} {sfo : Int32} {hst : Int32} {tp : Nat → Int32} {nw : Nat → Int32} {rd : Nat → Int32} {kp : Nat → Int32} {sn : Nat → Int32} {p1 : Int32} {p2 : Int32} {res : Int32} {nw' : Nat → Int32} (hm : mX6_pays nw p1 p2 = some (res, nw')) : Mu l D cI cB cL cK yX6_pays wsX6_pays rmX6_pays [.ref (ad 0), .int p1, .int p2] (wM cI ad thr tpd siz too frm srt num flt plc wrd snm lin stp sfo hst tp nw rd kp sn) (wM cI ad thr tpd siz too frm srt num flt plc wrd snm lin stp sfo hst tp nw' rd kp sn) (some (.int res)) 0 0 := by
  refine Mu.ofi (cc := cX6_pays) (own := RX6) (by decide) rfl rfl (Nat.le_of_ble_eq_true rfl) (fun p e s m below meth c ls Q A C hA hP hD hS hl hret => ?_)
  obtain ⟨hx, hb, hr, hml, hown, hts, hlk, hK⟩ := id C
  have hcf : CallFix p m c cX6_pays 3 s _ wsX6_pays RX6 := ⟨hx, hb, hml, hown, hts⟩
  have hl : lv_has ls 3 [(0, .ref (ad 0)), (1, .int p1), (2, .int p2)] := hl
  unfold mX6_pays at hm
  refine lv_aload_n hx hb dX6_pays_0 rfl (lv_at hl 0 rfl) ?_
  refine lv_iload_n hx hb dX6_pays_1 rfl (lv_at hl 1 rfl) ?_
  refine lv_iconst (v := 2) hx hb dX6_pays_2 (by decide) ?_
  refine lv_aload_n hx hb dX6_pays_3 rfl (lv_at hl 0 rfl) ?_
  refine lv_iload_n hx hb dX6_pays_4 rfl (lv_at hl 1 rfl) ?_
  refine lv_iconst (v := 2) hx hb dX6_pays_5 (by decide) ?_
  obtain ⟨v1, h_2, hm⟩ := b1_s hm
  refine rd_v hcf (kX6_its h_2) (cwX6_pays_X6_its hts) hK hP Sb.rf (ci := 6) (q0 := 0) rfl rfl rfl hl.1 rfl (Nat.le_of_ble_eq_true rfl) dX6_pays_6 ⟨Nat.zero_le _, Nat.zero_le _⟩ ?_
  refine lv_iload_n hx hb dX6_pays_9 rfl (lv_at hl 2 rfl) ?_
  refine lv_iadd hx hb dX6_pays_10 ?_
  obtain ⟨nw3, h_4, hm⟩ := b1_s hm
  refine mu_vv hcf (kX6_puts h_4) (cwX6_pays_X6_puts hts) hK hP hD hS hA Jn.rf (ci := 6) (q0 := 0) rfl rfl rfl hl.1 rfl (Nat.le_of_ble_eq_true rfl) dX6_pays_11 ⟨Nat.zero_le _, Nat.zero_le _⟩ (fun H locs hP hD hS => ?_)
  refine lv_aload_n hx hb dX6_pays_14 rfl (lv_at hl 0 rfl) ?_
  refine gf (q0 := 0) hx hb hts hown hK flX6_pays_70 hP rfl rfl dX6_pays_15 ?_
  refine lv_bipush (v := 6) hx hb dX6_pays_18 (by decide) ?_
  refine lv_dup2_11 hx hb dX6_pays_20 rfl rfl ?_
  refine ald (q0 := 2) (k := 6) hx hb hK hP rfl (by decide) (by decide) dX6_pays_21 ?_
  refine lv_iload_n hx hb dX6_pays_22 rfl (lv_at hl 2 rfl) ?_
  refine lv_iadd hx hb dX6_pays_23 ?_
  refine ast (q0 := 2) (k := 6) (X' := (wM cI ad thr tpd siz too frm srt num flt plc wrd snm lin stp sfo hst tp (upd nw3 6 ((nw3 6) + p2)) rd kp sn)) hx hb hK hP hD hS rfl (by decide) (by decide) rfl dX6_pays_24 (fun H locs hP hD hS => ?_)
  refine lv_aload_n hx hb dX6_pays_25 rfl (lv_at hl 0 rfl) ?_
  refine lv_iload_n hx hb dX6_pays_26 rfl (lv_at hl 1 rfl) ?_
  refine lv_iconst (v := 5) hx hb dX6_pays_27 (by decide) ?_
  obtain ⟨v5, h_6, hm⟩ := b1_s hm
  refine rd_v hcf (kX6_its h_6) (cwX6_pays_X6_its hts) hK hP Sb.rf (ci := 6) (q0 := 0) rfl rfl rfl hl.1 rfl (Nat.le_of_ble_eq_true rfl) dX6_pays_28 ⟨Nat.zero_le _, Nat.zero_le _⟩ ?_
  refine lv_if_le (tgt := 50) hx hb dX6_pays_31 (by decide) (fun c_7 => ?_) (fun c_7 => ?_)
  · replace hm := br_p hm c_7
    exact tX6_pays_b50 C hA hret _ _ _ hm _ _ _ hP hD hS (lv_sub hl [0, 1, 2] rfl)
  · replace hm := br_n hm c_7
    refine lv_aload_n hx hb dX6_pays_34 rfl (lv_at hl 0 rfl) ?_
    refine lv_iload_n hx hb dX6_pays_35 rfl (lv_at hl 1 rfl) ?_
    refine lv_bipush (v := 7) hx hb dX6_pays_36 (by decide) ?_
    refine lv_aload_n hx hb dX6_pays_38 rfl (lv_at hl 0 rfl) ?_
    refine lv_iload_n hx hb dX6_pays_39 rfl (lv_at hl 1 rfl) ?_
    refine lv_bipush (v := 7) hx hb dX6_pays_40 (by decide) ?_
    obtain ⟨v8, h_9, hm⟩ := b1_s hm
    refine rd_v hcf (kX6_its h_9) (cwX6_pays_X6_its hts) hK hP Sb.rf (ci := 6) (q0 := 0) rfl rfl rfl hl.1 rfl (Nat.le_of_ble_eq_true rfl) dX6_pays_42 ⟨Nat.zero_le _, Nat.zero_le _⟩ ?_
    refine lv_iload_n hx hb dX6_pays_45 rfl (lv_at hl 2 rfl) ?_
    refine lv_iadd hx hb dX6_pays_46 ?_
    obtain ⟨nw10, h_11, hm⟩ := b1_s hm
    refine mu_vv hcf (kX6_puts h_11) (cwX6_pays_X6_puts hts) hK hP hD hS hA Jn.rf (ci := 6) (q0 := 0) rfl rfl rfl hl.1 rfl (Nat.le_of_ble_eq_true rfl) dX6_pays_47 ⟨Nat.zero_le _, Nat.zero_le _⟩ (fun H locs hP hD hS => ?_)
    exact tX6_pays_b50 C hA hret _ _ _ hm _ _ _ hP hD hS (lv_sub hl [0, 1, 2] rfl)
/-! X6 would(II)I -/
abbrev rmX6_would : Room := { frames := 5, cells := 0, slots := 0, locals := 113 }
theorem hdX6_would : yX6_would.cls = RX6 ∧ yX6_would.cls ≠ "java/lang/invoke/MethodHandle" ∧ yX6_would.cls ≠ "java/lang/invoke/VarHandle" ∧ (parseMethodDescriptor yX6_would.desc).map (fun d => d.parameters.length) = some 2 := by decide +kernel
theorem inX6_would_X6 : ∀ w ∈ u_ws RX6 TX6 20, w ∈ wsX6_would := by decide +kernel
theorem cwX6_would_X6_back {s : State} {args : Array Value} (hts : ∀ w ∈ wsX6_would, w.before args s = true) : CallW rmX6_would s args RX6 RX6 246 yX6_back cX6_back 2 none wsX6_back rmX6_back 0 0 0 := cwV 0 hts gX6_would_X6_back rfl rfl rfl hdX6_back ⟨Nat.le_of_ble_eq_true rfl, Nat.le_of_ble_eq_true rfl⟩
theorem cwX6_would_X6_canPay {s : State} {args : Array Value} (hts : ∀ w ∈ wsX6_would, w.before args s = true) : CallW rmX6_would s args RX6 RX6 250 yX6_canPay cX6_canPay 3 (some .boolean) wsX6_canPay rmX6_canPay 0 0 2 := cwV 2 hts gX6_would_X6_canPay rfl rfl rfl hdX6_canPay ⟨Nat.le_of_ble_eq_true rfl, Nat.le_of_ble_eq_true rfl⟩
theorem cwX6_would_X6_keeps {s : State} {args : Array Value} (hts : ∀ w ∈ wsX6_would, w.before args s = true) : CallW rmX6_would s args RX6 RX6 240 yX6_keeps cX6_keeps 2 none wsX6_keeps rmX6_keeps 0 0 0 := cwV 0 hts gX6_would_X6_keeps rfl rfl rfl hdX6_keeps ⟨Nat.le_of_ble_eq_true rfl, Nat.le_of_ble_eq_true rfl⟩
theorem cwX6_would_X6_pays {s : State} {args : Array Value} (hts : ∀ w ∈ wsX6_would, w.before args s = true) : CallW rmX6_would s args RX6 RX6 253 yX6_pays cX6_pays 3 (some .int) wsX6_pays rmX6_pays 0 0 2 := cwV 2 hts gX6_would_X6_pays rfl rfl rfl hdX6_pays ⟨Nat.le_of_ble_eq_true rfl, Nat.le_of_ble_eq_true rfl⟩
theorem fpX6_would_1 : Fp wsX6_would RX6 1 6 0 false .int := ⟨_, _, _, tyX6, rfl, by decide, inX6_would_X6, by decide +kernel, tyX6_ok, nmX6, rfl, rfl, by decide +kernel⟩
set_option maxRecDepth 100000 in
set_option maxHeartbeats 4000000 in
theorem kX6_would {l : Launch} {D : va_G} {cI cB cL cK : ClassId} {ad : Nat → Nat} {thr : Int32} {tpd : Int32} {siz : Int32} {too : Int32} {frm : Int32} {srt : Int32} {num : Int32} {flt : Int32} {plc : Int32} {wrd : Int64} {snm : Int32} {lin : Int32} {stp : Int32} {sfo : Int32} {hst : Int32} {tp : Nat → Int32} {nw : Nat → Int32} {rd : Nat → Int32} {kp : Nat → Int32} {sn : Nat → Int32} {p1 : Int32} {p2 : Int32} {res : Int32} {thr' : Int32} {nw' : Nat → Int32} {kp' : Nat → Int32} (hm : mX6_would thr nw kp p1 p2 = some (res, thr', nw', kp')) : Mu l D cI cB cL cK yX6_would wsX6_would rmX6_would [.ref (ad 0), .int p1, .int p2] (wM cI ad thr tpd siz too frm srt num flt plc wrd snm lin stp sfo hst tp nw rd kp sn) (wM cI ad thr' tpd siz too frm srt num flt plc wrd snm lin stp sfo hst tp nw' rd kp' sn) (some (.int res)) 0 0 := by
  refine Mu.ofi (cc := cX6_would) (own := RX6) (by decide) rfl rfl (Nat.le_of_ble_eq_true rfl) (fun p e s m below meth c ls Q A C hA hP hD hS hl hret => ?_)
  obtain ⟨hx, hb, hr, hml, hown, hts, hlk, hK⟩ := id C
  have hcf : CallFix p m c cX6_would 4 s _ wsX6_would RX6 := ⟨hx, hb, hml, hown, hts⟩
  have hl : lv_has ls 4 [(0, .ref (ad 0)), (1, .int p1), (2, .int p2)] := hl
  unfold mX6_would at hm
  refine lv_aload_n hx hb dX6_would_0 rfl (lv_at hl 0 rfl) ?_
  refine lv_iconst (v := 0) hx hb dX6_would_1 (by decide) ?_
  refine pf (q0 := 0) (X' := (wM cI ad 0 tpd siz too frm srt num flt plc wrd snm lin stp sfo hst tp nw rd kp sn)) hx hb hts hown hK fpX6_would_1 hP hD hS rfl rfl rfl (Nat.le_of_ble_eq_true rfl) rfl dX6_would_2 (fun H locs hP hD hS => ?_)
  refine lv_aload_n hx hb dX6_would_5 rfl (lv_at hl 0 rfl) ?_
  refine lv_iload_n hx hb dX6_would_6 rfl (lv_at hl 1 rfl) ?_
  refine lv_iload_n hx hb dX6_would_7 rfl (lv_at hl 2 rfl) ?_
  obtain ⟨v1, h_2, hm⟩ := b1_s hm
  refine rd_v hcf (kX6_canPay h_2) (cwX6_would_X6_canPay hts) hK hP Sb.rf (ci := 6) (q0 := 0) rfl rfl rfl hl.1 rfl (Nat.le_of_ble_eq_true rfl) dX6_would_8 ⟨Nat.zero_le _, Nat.zero_le _⟩ ?_
  refine lv_if_ne (tgt := 16) hx hb dX6_would_11 (by decide) (fun c_3 => ?_) (fun c_3 => ?_)
  · replace hm := br_n hm c_3
    refine lv_aload_n hx hb dX6_would_16 rfl (lv_at hl 0 rfl) ?_
    obtain ⟨kp4, h_5, hm⟩ := b1_s hm
    refine mu_vv hcf (kX6_keeps h_5) (cwX6_would_X6_keeps hts) hK hP hD hS hA Jn.rf (ci := 6) (q0 := 0) rfl rfl rfl hl.1 rfl (Nat.le_of_ble_eq_true rfl) dX6_would_17 ⟨Nat.zero_le _, Nat.zero_le _⟩ (fun H locs hP hD hS => ?_)
    refine lv_aload_n hx hb dX6_would_20 rfl (lv_at hl 0 rfl) ?_
    refine lv_iload_n hx hb dX6_would_21 rfl (lv_at hl 1 rfl) ?_
    refine lv_iload_n hx hb dX6_would_22 rfl (lv_at hl 2 rfl) ?_
    obtain ⟨v6, nw7, h_8, hm⟩ := b2_s hm
    refine mu_vi hcf (kX6_pays h_8) (cwX6_would_X6_pays hts) hK hP hD hS hA Jn.rf (ci := 6) (q0 := 0) rfl rfl rfl hl.1 rfl (Nat.le_of_ble_eq_true rfl) dX6_would_23 ⟨Nat.zero_le _, Nat.zero_le _⟩ (fun H locs hP hD hS => ?_)
    refine lv_istore_n (lv' := [(3, .int v6), (0, .ref (ad 0)), (1, .int p1), (2, .int p2)]) hx hb dX6_would_26 rfl hl (by decide) rfl (fun ls hl => ?_)
    refine lv_aload_n hx hb dX6_would_27 rfl (lv_at hl 1 rfl) ?_
    obtain ⟨nw9, h_10, hm⟩ := b1_s hm
    refine mu_vv hcf (kX6_back h_10) (cwX6_would_X6_back hts) hK hP hD hS hA Jn.rf (ci := 6) (q0 := 0) rfl rfl rfl hl.1 rfl (Nat.le_of_ble_eq_true rfl) dX6_would_28 ⟨Nat.zero_le _, Nat.zero_le _⟩ (fun H locs hP hD hS => ?_)
    refine lv_iload_n hx hb dX6_would_31 rfl (lv_at hl 0 rfl) ?_
    cases hm
    exact hret _ _ _ _ dX6_would_32 rfl hP hD hS
  · replace hm := br_p hm c_3
    refine lv_iconst (v := (-1)) hx hb dX6_would_14 (by decide) ?_
    cases hm
    exact hret _ _ _ _ dX6_would_15 rfl hP hD hS
/-! X6 snap()V -/
abbrev rmX6_snap : Room := { frames := 0, cells := 0, slots := 0, locals := 0 }
theorem hdX6_snap : yX6_snap.cls = RX6 ∧ yX6_snap.cls ≠ "java/lang/invoke/MethodHandle" ∧ yX6_snap.cls ≠ "java/lang/invoke/VarHandle" ∧ (parseMethodDescriptor yX6_snap.desc).map (fun d => d.parameters.length) = some 0 := by decide +kernel
theorem inX6_snap_X6 : ∀ w ∈ u_ws RX6 TX6 20, w ∈ wsX6_snap := by decide +kernel
theorem flX6_snap_137 : Fl wsX6_snap RX6 137 6 15 := ⟨_, _, _, rfl, by decide, inX6_snap_X6, by decide +kernel⟩
theorem flX6_snap_70 : Fl wsX6_snap RX6 70 6 11 := ⟨_, _, _, rfl, by decide, inX6_snap_X6, by decide +kernel⟩
theorem flX6_snap_79 : Fl wsX6_snap RX6 79 6 14 := ⟨_, _, _, rfl, by decide, inX6_snap_X6, by decide +kernel⟩
theorem fpX6_snap_137 : Fp wsX6_snap RX6 137 6 15 false .int := ⟨_, _, _, tyX6, rfl, by decide, inX6_snap_X6, by decide +kernel, tyX6_ok, nmX6, rfl, rfl, by decide +kernel⟩
set_option maxRecDepth 100000 in
set_option maxHeartbeats 4000000 in
theorem tX6_snap_L52 {ad : Nat → Nat} {thr : Int32} {tpd : Int32} {siz : Int32} {too : Int32} {frm : Int32} {srt : Int32} {num : Int32} {flt : Int32} {plc : Int32} {wrd : Int64} {lin : Int32} {stp : Int32} {sfo : Int32} {hst : Int32} {tp : Nat → Int32} {nw : Nat → Int32} {rd : Nat → Int32} {kp : Nat → Int32} {snm' : Int32} {sn' : Nat → Int32} (C : Cx p s m args meth c cX6_snap none 2 wsX6_snap RX6 D cI cB cL cK) (hA : ∀ q : Nat, s.heap.size ≤ q → A q) (hret : ∀ (pc : Nat) (ls : Array Slot) (H : Heap) (locs : List Loc), decode cX6_snap pc = .ok (.return_, 1) → va_P D vwCl (wM cI ad thr tpd siz too frm srt num flt plc wrd snm' lin stp sfo hst tp nw rd kp sn') H → va_D A (wM cI ad thr tpd siz too frm srt num flt plc wrd snm' lin stp sfo hst tp nw rd kp sn') → va_S A s.heap H locs → W p l e rmX6_snap s m args below meth c H locs 0 0 Q (F0 m pc ls [])) : ∀ (n9 : Nat) (x1 : Int32) (snm : Int32) (sn : Nat → Int32), mX6_snap_L52 n9 nw x1 snm sn = some (snm', sn') → ∀ (H : Heap) (locs : List Loc) (ls : Array Slot), va_P D vwCl (wM cI ad thr tpd siz too frm srt num flt plc wrd snm lin stp sfo hst tp nw rd kp sn) H → va_D A (wM cI ad thr tpd siz too frm srt num flt plc wrd snm lin stp sfo hst tp nw rd kp sn) → va_S A s.heap H locs → lv_has ls 2 [(0, .ref (ad 0)), (1, .int x1)] → W p l e rmX6_snap s m args below meth c H locs 0 0 Q (F0 m 52 ls []) := by
  obtain ⟨hx, hb, hr, hml, hown, hts, hlk, hK⟩ := id C
  have hcf : CallFix p m c cX6_snap 2 s args wsX6_snap RX6 := ⟨hx, hb, hml, hown, hts⟩
  intro n9
  induction n9 with
  | zero => intro x1 snm sn hm; cases hm
  | succ k ih =>
    intro x1 snm sn hm H locs ls hP hD hS hl
    rw [mX6_snap_L52.eq_2] at hm
    refine lv_iload_n hx hb dX6_snap_52 rfl (lv_at hl 1 rfl) ?_
    refine lv_sipush (v := 785) hx hb dX6_snap_53 (by decide) ?_
    refine lv_icmp_ge (tgt := 86) hx hb dX6_snap_56 (by decide) (fun c_2 => ?_) (fun c_2 => ?_)
    · replace hm := br_p hm c_2
      refine lv_aload_n hx hb dX6_snap_86 rfl (lv_at hl 0 rfl) ?_
      refine lv_dup hx hb dX6_snap_87 rfl ?_
      refine gf (q0 := 0) hx hb hts hown hK flX6_snap_137 hP rfl rfl dX6_snap_88 ?_
      refine lv_iconst (v := 1) hx hb dX6_snap_91 (by decide) ?_
      refine lv_iadd hx hb dX6_snap_92 ?_
      refine pf (q0 := 0) (X' := (wM cI ad thr tpd siz too frm srt num flt plc wrd (snm + 1) lin stp sfo hst tp nw rd kp sn)) hx hb hts hown hK fpX6_snap_137 hP hD hS rfl rfl rfl (Nat.le_of_ble_eq_true rfl) rfl dX6_snap_93 (fun H locs hP hD hS => ?_)
      cases hm
      exact hret _ _ _ _ dX6_snap_96 hP hD hS
    · replace hm := br_n hm c_2
      refine lv_aload_n hx hb dX6_snap_59 rfl (lv_at hl 0 rfl) ?_
      refine gf (q0 := 0) hx hb hts hown hK flX6_snap_79 hP rfl rfl dX6_snap_60 ?_
      refine lv_sipush (v := 785) hx hb dX6_snap_63 (by decide) ?_
      refine lv_aload_n hx hb dX6_snap_66 rfl (lv_at hl 0 rfl) ?_
      refine gf (q0 := 0) hx hb hts hown hK flX6_snap_137 hP rfl rfl dX6_snap_67 ?_
      refine lv_imul hx hb dX6_snap_70 ?_
      refine lv_iload_n hx hb dX6_snap_71 rfl (lv_at hl 1 rfl) ?_
      refine lv_iadd hx hb dX6_snap_72 ?_
      refine lv_aload_n hx hb dX6_snap_73 rfl (lv_at hl 0 rfl) ?_
      refine gf (q0 := 0) hx hb hts hown hK flX6_snap_70 hP rfl rfl dX6_snap_74 ?_
      refine lv_iload_n hx hb dX6_snap_77 rfl (lv_at hl 1 rfl) ?_
      obtain ⟨h_3, hm⟩ := ck_s hm
      refine ald (q0 := 2) (k := (x1 : Int32).toNatClampNeg) hx hb hK hP rfl h_3 rfl dX6_snap_78 ?_
      obtain ⟨h_4, hm⟩ := ck_s hm
      refine ast (q0 := 5) (k := (((785 * snm) + x1) : Int32).toNatClampNeg) (X' := (wM cI ad thr tpd siz too frm srt num flt plc wrd snm lin stp sfo hst tp nw rd kp (upd sn ((((785 * snm) + x1) : Int32).toNatClampNeg) (nw ((x1 : Int32).toNatClampNeg))))) hx hb hK hP hD hS rfl h_4 rfl rfl dX6_snap_79 (fun H locs hP hD hS => ?_)
      refine lv_iinc (v := (x1 + 1)) (lv' := [(1, .int (x1 + 1)), (0, .ref (ad 0))]) hx hb dX6_snap_80 hl (k := 1) rfl rfl (by decide) rfl (fun ls hl => ?_)
      refine lv_goto (tgt := 52) hx hb dX6_snap_83 (by decide) ?_
      exact ih _ _ _ hm _ _ _ hP hD hS (lv_sub hl [1, 0] rfl)
set_option maxRecDepth 100000 in
set_option maxHeartbeats 4000000 in
theorem tX6_snap_L11 {ad : Nat → Nat} {thr : Int32} {tpd : Int32} {siz : Int32} {too : Int32} {frm : Int32} {srt : Int32} {num : Int32} {flt : Int32} {plc : Int32} {wrd : Int64} {lin : Int32} {stp : Int32} {sfo : Int32} {hst : Int32} {tp : Nat → Int32} {nw : Nat → Int32} {rd : Nat → Int32} {kp : Nat → Int32} {snm' : Int32} {sn' : Nat → Int32} (C : Cx p s m args meth c cX6_snap none 2 wsX6_snap RX6 D cI cB cL cK) (hA : ∀ q : Nat, s.heap.size ≤ q → A q) (hret : ∀ (pc : Nat) (ls : Array Slot) (H : Heap) (locs : List Loc), decode cX6_snap pc = .ok (.return_, 1) → va_P D vwCl (wM cI ad thr tpd siz too frm srt num flt plc wrd snm' lin stp sfo hst tp nw rd kp sn') H → va_D A (wM cI ad thr tpd siz too frm srt num flt plc wrd snm' lin stp sfo hst tp nw rd kp sn') → va_S A s.heap H locs → W p l e rmX6_snap s m args below meth c H locs 0 0 Q (F0 m pc ls [])) : ∀ (n9 : Nat) (x1 : Int32) (snm : Int32) (sn : Nat → Int32), mX6_snap_L11 n9 nw x1 snm sn = some (snm', sn') → ∀ (H : Heap) (locs : List Loc) (ls : Array Slot), va_P D vwCl (wM cI ad thr tpd siz too frm srt num flt plc wrd snm lin stp sfo hst tp nw rd kp sn) H → va_D A (wM cI ad thr tpd siz too frm srt num flt plc wrd snm lin stp sfo hst tp nw rd kp sn) → va_S A s.heap H locs → lv_has ls 2 [(0, .ref (ad 0)), (1, .int x1)] → W p l e rmX6_snap s m args below meth c H locs 0 0 Q (F0 m 11 ls []) := by
  obtain ⟨hx, hb, hr, hml, hown, hts, hlk, hK⟩ := id C
  have hcf : CallFix p m c cX6_snap 2 s args wsX6_snap RX6 := ⟨hx, hb, hml, hown, hts⟩
  intro n9
  induction n9 with
  | zero => intro x1 snm sn hm; cases hm
  | succ k ih =>
    intro x1 snm sn hm H locs ls hP hD hS hl
    rw [mX6_snap_L11.eq_2] at hm
    refine lv_iload_n hx hb dX6_snap_11 rfl (lv_at hl 1 rfl) ?_
    refine lv_sipush (v := 7065) hx hb dX6_snap_12 (by decide) ?_
    refine lv_icmp_ge (tgt := 40) hx hb dX6_snap_15 (by decide) (fun c_5 => ?_) (fun c_5 => ?_)
    · replace hm := br_p hm c_5
      refine lv_aload_n hx hb dX6_snap_40 rfl (lv_at hl 0 rfl) ?_
      refine lv_dup hx hb dX6_snap_41 rfl ?_
      refine gf (q0 := 0) hx hb hts hown hK flX6_snap_137 hP rfl rfl dX6_snap_42 ?_
      refine lv_iconst (v := 1) hx hb dX6_snap_45 (by decide) ?_
      refine lv_isub hx hb dX6_snap_46 ?_
      refine pf (q0 := 0) (X' := (wM cI ad thr tpd siz too frm srt num flt plc wrd (snm - 1) lin stp sfo hst tp nw rd kp sn)) hx hb hts hown hK fpX6_snap_137 hP hD hS rfl rfl rfl (Nat.le_of_ble_eq_true rfl) rfl dX6_snap_47 (fun H locs hP hD hS => ?_)
      refine lv_iconst (v := 0) hx hb dX6_snap_50 (by decide) ?_
      refine lv_istore_n (lv' := [(1, .int 0), (0, .ref (ad 0))]) hx hb dX6_snap_51 rfl hl (by decide) rfl (fun ls hl => ?_)
      exact tX6_snap_L52 C hA hret _ _ _ _ hm _ _ _ hP hD hS (lv_sub hl [1, 0] rfl)
    · replace hm := br_n hm c_5
      refine lv_aload_n hx hb dX6_snap_18 rfl (lv_at hl 0 rfl) ?_
      refine gf (q0 := 0) hx hb hts hown hK flX6_snap_79 hP rfl rfl dX6_snap_19 ?_
      refine lv_iload_n hx hb dX6_snap_22 rfl (lv_at hl 1 rfl) ?_
      refine lv_aload_n hx hb dX6_snap_23 rfl (lv_at hl 0 rfl) ?_
      refine gf (q0 := 0) hx hb hts hown hK flX6_snap_79 hP rfl rfl dX6_snap_24 ?_
      refine lv_iload_n hx hb dX6_snap_27 rfl (lv_at hl 1 rfl) ?_
      refine lv_sipush (v := 785) hx hb dX6_snap_28 (by decide) ?_
      refine lv_iadd hx hb dX6_snap_31 ?_
      obtain ⟨h_6, hm⟩ := ck_s hm
      refine ald (q0 := 5) (k := ((x1 + 785) : Int32).toNatClampNeg) hx hb hK hP rfl h_6 rfl dX6_snap_32 ?_
      obtain ⟨h_7, hm⟩ := ck_s hm
      refine ast (q0 := 5) (k := (x1 : Int32).toNatClampNeg) (X' := (wM cI ad thr tpd siz too frm srt num flt plc wrd snm lin stp sfo hst tp nw rd kp (upd sn ((x1 : Int32).toNatClampNeg) (sn (((x1 + 785) : Int32).toNatClampNeg))))) hx hb hK hP hD hS rfl h_7 rfl rfl dX6_snap_33 (fun H locs hP hD hS => ?_)
      refine lv_iinc (v := (x1 + 1)) (lv' := [(1, .int (x1 + 1)), (0, .ref (ad 0))]) hx hb dX6_snap_34 hl (k := 1) rfl rfl (by decide) rfl (fun ls hl => ?_)
      refine lv_goto (tgt := 11) hx hb dX6_snap_37 (by decide) ?_
      exact ih _ _ _ hm _ _ _ hP hD hS (lv_sub hl [1, 0] rfl)
set_option maxRecDepth 100000 in
set_option maxHeartbeats 4000000 in
theorem kX6_snap {l : Launch} {D : va_G} {cI cB cL cK : ClassId} {ad : Nat → Nat} {thr : Int32} {tpd : Int32} {siz : Int32} {too : Int32} {frm : Int32} {srt : Int32} {num : Int32} {flt : Int32} {plc : Int32} {wrd : Int64} {snm : Int32} {lin : Int32} {stp : Int32} {sfo : Int32} {hst : Int32} {tp : Nat → Int32} {nw : Nat → Int32} {rd : Nat → Int32} {kp : Nat → Int32} {sn : Nat → Int32}  {snm' : Int32} {sn' : Nat → Int32} (hm : mX6_snap snm nw sn = some (snm', sn')) : Mu l D cI cB cL cK yX6_snap wsX6_snap rmX6_snap [.ref (ad 0)] (wM cI ad thr tpd siz too frm srt num flt plc wrd snm lin stp sfo hst tp nw rd kp sn) (wM cI ad thr tpd siz too frm srt num flt plc wrd snm' lin stp sfo hst tp nw rd kp sn') none 0 0 := by
  refine Mu.ofv (cc := cX6_snap) (own := RX6) (by decide) rfl rfl (Nat.le_of_ble_eq_true rfl) (fun p e s m below meth c ls Q A C _ hA hP hD hS hl hret => ?_)
  obtain ⟨hx, hb, hr, hml, hown, hts, hlk, hK⟩ := id C
  have hcf : CallFix p m c cX6_snap 2 s _ wsX6_snap RX6 := ⟨hx, hb, hml, hown, hts⟩
  have hl : lv_has ls 2 [(0, .ref (ad 0))] := hl
  unfold mX6_snap at hm
  refine lv_aload_n hx hb dX6_snap_0 rfl (lv_at hl 0 rfl) ?_
  refine gf (q0 := 0) hx hb hts hown hK flX6_snap_137 hP rfl rfl dX6_snap_1 ?_
  refine lv_bipush (v := 10) hx hb dX6_snap_4 (by decide) ?_
  refine lv_icmp_ne (tgt := 50) hx hb dX6_snap_6 (by decide) (fun c_1 => ?_) (fun c_1 => ?_)
  · replace hm := br_n hm c_1
    refine lv_iconst (v := 0) hx hb dX6_snap_50 (by decide) ?_
    refine lv_istore_n (lv' := [(1, .int 0), (0, .ref (ad 0))]) hx hb dX6_snap_51 rfl hl (by decide) rfl (fun ls hl => ?_)
    exact tX6_snap_L52 C hA hret _ _ _ _ hm _ _ _ hP hD hS (lv_sub hl [1, 0] rfl)
  · replace hm := br_p hm c_1
    refine lv_iconst (v := 0) hx hb dX6_snap_9 (by decide) ?_
    refine lv_istore_n (lv' := [(1, .int 0), (0, .ref (ad 0))]) hx hb dX6_snap_10 rfl hl (by decide) rfl (fun ls hl => ?_)
    exact tX6_snap_L11 C hA hret _ _ _ _ hm _ _ _ hP hD hS (lv_sub hl [1, 0] rfl)
/-! X6 bill(III)I -/
abbrev rmX6_bill : Room := { frames := 4, cells := 0, slots := 0, locals := 92 }
theorem hdX6_bill : yX6_bill.cls = RX6 ∧ yX6_bill.cls ≠ "java/lang/invoke/MethodHandle" ∧ yX6_bill.cls ≠ "java/lang/invoke/VarHandle" ∧ (parseMethodDescriptor yX6_bill.desc).map (fun d => d.parameters.length) = some 3 := by decide +kernel
theorem inX6_bill_X6 : ∀ w ∈ u_ws RX6 TX6 20, w ∈ wsX6_bill := by decide +kernel
theorem cwX6_bill_X6_invoices {s : State} {args : Array Value} (hts : ∀ w ∈ wsX6_bill, w.before args s = true) : CallW rmX6_bill s args RX6 RX6 186 yX6_invoices cX6_invoices 6 (some .int) wsX6_invoices rmX6_invoices 0 0 4 := cwV 4 hts gX6_bill_X6_invoices rfl rfl rfl hdX6_invoices ⟨Nat.le_of_ble_eq_true rfl, Nat.le_of_ble_eq_true rfl⟩
theorem cwX6_bill_X6_isDebtor {s : State} {args : Array Value} (hts : ∀ w ∈ wsX6_bill, w.before args s = true) : CallW rmX6_bill s args RX6 RX6 221 yX6_isDebtor cX6_isDebtor 2 (some .boolean) wsX6_isDebtor rmX6_isDebtor 0 0 1 := cwV 1 hts gX6_bill_X6_isDebtor rfl rfl rfl hdX6_isDebtor ⟨Nat.le_of_ble_eq_true rfl, Nat.le_of_ble_eq_true rfl⟩
theorem cwX6_bill_X6_isIn {s : State} {args : Array Value} (hts : ∀ w ∈ wsX6_bill, w.before args s = true) : CallB rmX6_bill s args RX6 85 yX6_isIn cX6_isIn 3 (some .boolean) wsX6_isIn rmX6_isIn 0 0 3 ∧ (Cond.static yX6_isIn).before args s = true := va_cwS 3 hts gX6_bill_X6_isIn rfl rfl rfl hdX6_isIn.2 ⟨Nat.le_of_ble_eq_true rfl, Nat.le_of_ble_eq_true rfl⟩
theorem cwX6_bill_X6_snap {s : State} {args : Array Value} (hts : ∀ w ∈ wsX6_bill, w.before args s = true) : CallW rmX6_bill s args RX6 RX6 256 yX6_snap cX6_snap 2 none wsX6_snap rmX6_snap 0 0 0 := cwV 0 hts gX6_bill_X6_snap rfl rfl rfl hdX6_snap ⟨Nat.le_of_ble_eq_true rfl, Nat.le_of_ble_eq_true rfl⟩
theorem cwX6_bill_X6_today {s : State} {args : Array Value} (hts : ∀ w ∈ wsX6_bill, w.before args s = true) : CallW rmX6_bill s args RX6 RX6 173 yX6_today cX6_today 1 (some .int) wsX6_today rmX6_today 0 0 0 := cwV 0 hts gX6_bill_X6_today rfl rfl rfl hdX6_today ⟨Nat.le_of_ble_eq_true rfl, Nat.le_of_ble_eq_true rfl⟩
theorem flX6_bill_70 : Fl wsX6_bill RX6 70 6 11 := ⟨_, _, _, rfl, by decide, inX6_bill_X6, by decide +kernel⟩
theorem fpX6_bill_1 : Fp wsX6_bill RX6 1 6 0 false .int := ⟨_, _, _, tyX6, rfl, by decide, inX6_bill_X6, by decide +kernel, tyX6_ok, nmX6, rfl, rfl, by decide +kernel⟩
set_option maxRecDepth 100000 in
set_option maxHeartbeats 4000000 in
theorem kX6_bill {l : Launch} {D : va_G} {cI cB cL cK : ClassId} {ad : Nat → Nat} {thr : Int32} {tpd : Int32} {siz : Int32} {too : Int32} {frm : Int32} {srt : Int32} {num : Int32} {flt : Int32} {plc : Int32} {wrd : Int64} {snm : Int32} {lin : Int32} {stp : Int32} {sfo : Int32} {hst : Int32} {tp : Nat → Int32} {nw : Nat → Int32} {rd : Nat → Int32} {kp : Nat → Int32} {sn : Nat → Int32} {p1 : Int32} {p2 : Int32} {p3 : Int32} {res : Int32} {thr' : Int32} {snm' : Int32} {nw' : Nat → Int32} {sn' : Nat → Int32} (hm : mX6_bill thr snm nw sn p1 p2 p3 = some (res, thr', snm', nw', sn')) : Mu l D cI cB cL cK yX6_bill wsX6_bill rmX6_bill [.ref (ad 0), .int p1, .int p2, .int p3] (wM cI ad thr tpd siz too frm srt num flt plc wrd snm lin stp sfo hst tp nw rd kp sn) (wM cI ad thr' tpd siz too frm srt num flt plc wrd snm' lin stp sfo hst tp nw' rd kp sn') (some (.int res)) 0 0 := by
  refine Mu.ofi (cc := cX6_bill) (own := RX6) (by decide) rfl rfl (Nat.le_of_ble_eq_true rfl) (fun p e s m below meth c ls Q A C hA hP hD hS hl hret => ?_)
  obtain ⟨hx, hb, hr, hml, hown, hts, hlk, hK⟩ := id C
  have hcf : CallFix p m c cX6_bill 4 s _ wsX6_bill RX6 := ⟨hx, hb, hml, hown, hts⟩
  have hl : lv_has ls 4 [(0, .ref (ad 0)), (1, .int p1), (2, .int p2), (3, .int p3)] := hl
  unfold mX6_bill at hm
  refine lv_aload_n hx hb dX6_bill_0 rfl (lv_at hl 0 rfl) ?_
  refine lv_iconst (v := 0) hx hb dX6_bill_1 (by decide) ?_
  refine pf (q0 := 0) (X' := (wM cI ad 0 tpd siz too frm srt num flt plc wrd snm lin stp sfo hst tp nw rd kp sn)) hx hb hts hown hK fpX6_bill_1 hP hD hS rfl rfl rfl (Nat.le_of_ble_eq_true rfl) rfl dX6_bill_2 (fun H locs hP hD hS => ?_)
  refine lv_aload_n hx hb dX6_bill_5 rfl (lv_at hl 0 rfl) ?_
  refine lv_iload_n hx hb dX6_bill_6 rfl (lv_at hl 1 rfl) ?_
  obtain ⟨v1, h_2, hm⟩ := b1_s hm
  refine rd_v hcf (kX6_isDebtor h_2) (cwX6_bill_X6_isDebtor hts) hK hP Sb.rf (ci := 6) (q0 := 0) rfl rfl rfl hl.1 rfl (Nat.le_of_ble_eq_true rfl) dX6_bill_7 ⟨Nat.zero_le _, Nat.zero_le _⟩ ?_
  refine lv_if_eq (tgt := 34) hx hb dX6_bill_10 (by decide) (fun c_3 => ?_) (fun c_3 => ?_)
  · replace hm := br_p hm c_3
    refine lv_iconst (v := (-1)) hx hb dX6_bill_34 (by decide) ?_
    cases hm
    exact hret _ _ _ _ dX6_bill_35 rfl hP hD hS
  · replace hm := br_n hm c_3
    refine lv_iload_n hx hb dX6_bill_13 rfl (lv_at hl 2 rfl) ?_
    refine lv_iconst (v := 1) hx hb dX6_bill_14 (by decide) ?_
    refine lv_sipush (v := 9999) hx hb dX6_bill_15 (by decide) ?_
    obtain ⟨v4, h_5, hm⟩ := b1_s hm
    refine rd_s hcf (kX6_isIn h_5) (cwX6_bill_X6_isIn hts) hK hP Sb.nil rfl hl.1 rfl (Nat.le_of_ble_eq_true rfl) dX6_bill_18 ⟨Nat.zero_le _, Nat.zero_le _⟩ ?_
    refine lv_if_eq (tgt := 34) hx hb dX6_bill_21 (by decide) (fun c_6 => ?_) (fun c_6 => ?_)
    · replace hm := br_p hm c_6
      refine lv_iconst (v := (-1)) hx hb dX6_bill_34 (by decide) ?_
      cases hm
      exact hret _ _ _ _ dX6_bill_35 rfl hP hD hS
    · replace hm := br_n hm c_6
      refine lv_iload_n hx hb dX6_bill_24 rfl (lv_at hl 3 rfl) ?_
      refine lv_iconst (v := 0) hx hb dX6_bill_25 (by decide) ?_
      refine lv_bipush (v := 99) hx hb dX6_bill_26 (by decide) ?_
      obtain ⟨v7, h_8, hm⟩ := b1_s hm
      refine rd_s hcf (kX6_isIn h_8) (cwX6_bill_X6_isIn hts) hK hP Sb.nil rfl hl.1 rfl (Nat.le_of_ble_eq_true rfl) dX6_bill_28 ⟨Nat.zero_le _, Nat.zero_le _⟩ ?_
      refine lv_if_ne (tgt := 36) hx hb dX6_bill_31 (by decide) (fun c_9 => ?_) (fun c_9 => ?_)
      · replace hm := br_n hm c_9
        refine lv_aload_n hx hb dX6_bill_36 rfl (lv_at hl 0 rfl) ?_
        refine gf (q0 := 0) hx hb hts hown hK flX6_bill_70 hP rfl rfl dX6_bill_37 ?_
        refine lv_iconst (v := 4) hx hb dX6_bill_40 (by decide) ?_
        refine ald (q0 := 2) (k := 4) hx hb hK hP rfl (by decide) (by decide) dX6_bill_41 ?_
        refine lv_bipush (v := 60) hx hb dX6_bill_42 (by decide) ?_
        refine lv_icmp_ne (tgt := 50) hx hb dX6_bill_44 (by decide) (fun c_10 => ?_) (fun c_10 => ?_)
        · replace hm := br_n hm c_10
          refine lv_aload_n hx hb dX6_bill_50 rfl (lv_at hl 0 rfl) ?_
          obtain ⟨snm11, sn12, h_13, hm⟩ := b2_s hm
          refine mu_vv hcf (kX6_snap h_13) (cwX6_bill_X6_snap hts) hK hP hD hS hA Jn.rf (ci := 6) (q0 := 0) rfl rfl rfl hl.1 rfl (Nat.le_of_ble_eq_true rfl) dX6_bill_51 ⟨Nat.zero_le _, Nat.zero_le _⟩ (fun H locs hP hD hS => ?_)
          refine lv_aload_n hx hb dX6_bill_54 rfl (lv_at hl 0 rfl) ?_
          refine lv_iload_n hx hb dX6_bill_55 rfl (lv_at hl 1 rfl) ?_
          refine lv_iload_n hx hb dX6_bill_56 rfl (lv_at hl 2 rfl) ?_
          refine lv_aload_n hx hb dX6_bill_57 rfl (lv_at hl 0 rfl) ?_
          obtain ⟨v14, h_15, hm⟩ := b1_s hm
          refine rd_v hcf (kX6_today h_15) (cwX6_bill_X6_today hts) hK hP Sb.rf (ci := 6) (q0 := 0) rfl rfl rfl hl.1 rfl (Nat.le_of_ble_eq_true rfl) dX6_bill_58 ⟨Nat.zero_le _, Nat.zero_le _⟩ ?_
          refine lv_iload_n hx hb dX6_bill_61 rfl (lv_at hl 3 rfl) ?_
          refine lv_iadd hx hb dX6_bill_62 ?_
          refine lv_iconst (v := 0) hx hb dX6_bill_63 (by decide) ?_
          obtain ⟨v16, nw17, h_18, hm⟩ := b2_s hm
          refine mu_vi hcf (kX6_invoices h_18) (cwX6_bill_X6_invoices hts) hK hP hD hS hA Jn.rf (ci := 6) (q0 := 0) rfl rfl rfl hl.1 rfl (Nat.le_of_ble_eq_true rfl) dX6_bill_64 ⟨Nat.zero_le _, Nat.zero_le _⟩ (fun H locs hP hD hS => ?_)
          cases hm
          exact hret _ _ _ _ dX6_bill_67 rfl hP hD hS
        · replace hm := br_p hm c_10
          refine lv_bipush (v := (-2)) hx hb dX6_bill_47 (by decide) ?_
          cases hm
          exact hret _ _ _ _ dX6_bill_49 rfl hP hD hS
      · replace hm := br_p hm c_9
        refine lv_iconst (v := (-1)) hx hb dX6_bill_34 (by decide) ?_
        cases hm
        exact hret _ _ _ _ dX6_bill_35 rfl hP hD hS
/-! X6 pay(II)I -/
abbrev rmX6_pay : Room := { frames := 5, cells := 0, slots := 0, locals := 113 }
theorem hdX6_pay : yX6_pay.cls = RX6 ∧ yX6_pay.cls ≠ "java/lang/invoke/MethodHandle" ∧ yX6_pay.cls ≠ "java/lang/invoke/VarHandle" ∧ (parseMethodDescriptor yX6_pay.desc).map (fun d => d.parameters.length) = some 2 := by decide +kernel
theorem inX6_pay_X6 : ∀ w ∈ u_ws RX6 TX6 20, w ∈ wsX6_pay := by decide +kernel
theorem cwX6_pay_X6_canPay {s : State} {args : Array Value} (hts : ∀ w ∈ wsX6_pay, w.before args s = true) : CallW rmX6_pay s args RX6 RX6 250 yX6_canPay cX6_canPay 3 (some .boolean) wsX6_canPay rmX6_canPay 0 0 2 := cwV 2 hts gX6_pay_X6_canPay rfl rfl rfl hdX6_canPay ⟨Nat.le_of_ble_eq_true rfl, Nat.le_of_ble_eq_true rfl⟩
theorem cwX6_pay_X6_its {s : State} {args : Array Value} (hts : ∀ w ∈ wsX6_pay, w.before args s = true) : CallW rmX6_pay s args RX6 RX6 148 yX6_its cX6_its 3 (some .int) wsX6_its rmX6_its 0 0 2 := cwV 2 hts gX6_pay_X6_its rfl rfl rfl hdX6_its ⟨Nat.le_of_ble_eq_true rfl, Nat.le_of_ble_eq_true rfl⟩
theorem cwX6_pay_X6_pays {s : State} {args : Array Value} (hts : ∀ w ∈ wsX6_pay, w.before args s = true) : CallW rmX6_pay s args RX6 RX6 253 yX6_pays cX6_pays 3 (some .int) wsX6_pays rmX6_pays 0 0 2 := cwV 2 hts gX6_pay_X6_pays rfl rfl rfl hdX6_pays ⟨Nat.le_of_ble_eq_true rfl, Nat.le_of_ble_eq_true rfl⟩
theorem cwX6_pay_X6_snap {s : State} {args : Array Value} (hts : ∀ w ∈ wsX6_pay, w.before args s = true) : CallW rmX6_pay s args RX6 RX6 256 yX6_snap cX6_snap 2 none wsX6_snap rmX6_snap 0 0 0 := cwV 0 hts gX6_pay_X6_snap rfl rfl rfl hdX6_snap ⟨Nat.le_of_ble_eq_true rfl, Nat.le_of_ble_eq_true rfl⟩
theorem fpX6_pay_1 : Fp wsX6_pay RX6 1 6 0 false .int := ⟨_, _, _, tyX6, rfl, by decide, inX6_pay_X6, by decide +kernel, tyX6_ok, nmX6, rfl, rfl, by decide +kernel⟩
set_option maxRecDepth 100000 in
set_option maxHeartbeats 4000000 in
theorem kX6_pay {l : Launch} {D : va_G} {cI cB cL cK : ClassId} {ad : Nat → Nat} {thr : Int32} {tpd : Int32} {siz : Int32} {too : Int32} {frm : Int32} {srt : Int32} {num : Int32} {flt : Int32} {plc : Int32} {wrd : Int64} {snm : Int32} {lin : Int32} {stp : Int32} {sfo : Int32} {hst : Int32} {tp : Nat → Int32} {nw : Nat → Int32} {rd : Nat → Int32} {kp : Nat → Int32} {sn : Nat → Int32} {p1 : Int32} {p2 : Int32} {res : Int32} {thr' : Int32} {snm' : Int32} {nw' : Nat → Int32} {sn' : Nat → Int32} (hm : mX6_pay thr snm nw sn p1 p2 = some (res, thr', snm', nw', sn')) : Mu l D cI cB cL cK yX6_pay wsX6_pay rmX6_pay [.ref (ad 0), .int p1, .int p2] (wM cI ad thr tpd siz too frm srt num flt plc wrd snm lin stp sfo hst tp nw rd kp sn) (wM cI ad thr' tpd siz too frm srt num flt plc wrd snm' lin stp sfo hst tp nw' rd kp sn') (some (.int res)) 0 0 := by
  refine Mu.ofi (cc := cX6_pay) (own := RX6) (by decide) rfl rfl (Nat.le_of_ble_eq_true rfl) (fun p e s m below meth c ls Q A C hA hP hD hS hl hret => ?_)
  obtain ⟨hx, hb, hr, hml, hown, hts, hlk, hK⟩ := id C
  have hcf : CallFix p m c cX6_pay 3 s _ wsX6_pay RX6 := ⟨hx, hb, hml, hown, hts⟩
  have hl : lv_has ls 3 [(0, .ref (ad 0)), (1, .int p1), (2, .int p2)] := hl
  unfold mX6_pay at hm
  refine lv_aload_n hx hb dX6_pay_0 rfl (lv_at hl 0 rfl) ?_
  refine lv_iconst (v := 0) hx hb dX6_pay_1 (by decide) ?_
  refine pf (q0 := 0) (X' := (wM cI ad 0 tpd siz too frm srt num flt plc wrd snm lin stp sfo hst tp nw rd kp sn)) hx hb hts hown hK fpX6_pay_1 hP hD hS rfl rfl rfl (Nat.le_of_ble_eq_true rfl) rfl dX6_pay_2 (fun H locs hP hD hS => ?_)
  refine lv_aload_n hx hb dX6_pay_5 rfl (lv_at hl 0 rfl) ?_
  refine lv_iload_n hx hb dX6_pay_6 rfl (lv_at hl 1 rfl) ?_
  refine lv_iload_n hx hb dX6_pay_7 rfl (lv_at hl 2 rfl) ?_
  obtain ⟨v1, h_2, hm⟩ := b1_s hm
  refine rd_v hcf (kX6_canPay h_2) (cwX6_pay_X6_canPay hts) hK hP Sb.rf (ci := 6) (q0 := 0) rfl rfl rfl hl.1 rfl (Nat.le_of_ble_eq_true rfl) dX6_pay_8 ⟨Nat.zero_le _, Nat.zero_le _⟩ ?_
  refine lv_if_ne (tgt := 16) hx hb dX6_pay_11 (by decide) (fun c_3 => ?_) (fun c_3 => ?_)
  · replace hm := br_n hm c_3
    refine lv_aload_n hx hb dX6_pay_16 rfl (lv_at hl 0 rfl) ?_
    obtain ⟨snm4, sn5, h_6, hm⟩ := b2_s hm
    refine mu_vv hcf (kX6_snap h_6) (cwX6_pay_X6_snap hts) hK hP hD hS hA Jn.rf (ci := 6) (q0 := 0) rfl rfl rfl hl.1 rfl (Nat.le_of_ble_eq_true rfl) dX6_pay_17 ⟨Nat.zero_le _, Nat.zero_le _⟩ (fun H locs hP hD hS => ?_)
    refine lv_aload_n hx hb dX6_pay_20 rfl (lv_at hl 0 rfl) ?_
    refine lv_iload_n hx hb dX6_pay_21 rfl (lv_at hl 1 rfl) ?_
    refine lv_iload_n hx hb dX6_pay_22 rfl (lv_at hl 2 rfl) ?_
    obtain ⟨v7, nw8, h_9, hm⟩ := b2_s hm
    refine mu_vi hcf (kX6_pays h_9) (cwX6_pay_X6_pays hts) hK hP hD hS hA Jn.rf (ci := 6) (q0 := 0) rfl rfl rfl hl.1 rfl (Nat.le_of_ble_eq_true rfl) dX6_pay_23 ⟨Nat.zero_le _, Nat.zero_le _⟩ (fun H locs hP hD hS => ?_)
    refine lv_pop hx hb dX6_pay_26 rfl ?_
    refine lv_aload_n hx hb dX6_pay_27 rfl (lv_at hl 0 rfl) ?_
    refine lv_iload_n hx hb dX6_pay_28 rfl (lv_at hl 1 rfl) ?_
    refine lv_iconst (v := 2) hx hb dX6_pay_29 (by decide) ?_
    obtain ⟨v10, h_11, hm⟩ := b1_s hm
    refine rd_v hcf (kX6_its h_11) (cwX6_pay_X6_its hts) hK hP Sb.rf (ci := 6) (q0 := 0) rfl rfl rfl hl.1 rfl (Nat.le_of_ble_eq_true rfl) dX6_pay_30 ⟨Nat.zero_le _, Nat.zero_le _⟩ ?_
    cases hm
    exact hret _ _ _ _ dX6_pay_33 rfl hP hD hS
  · replace hm := br_p hm c_3
    refine lv_iconst (v := (-1)) hx hb dX6_pay_14 (by decide) ?_
    cases hm
    exact hret _ _ _ _ dX6_pay_15 rfl hP hD hS
/-! X6 dispute(I)Z -/
abbrev rmX6_dispute : Room := { frames := 2, cells := 0, slots := 0, locals := 44 }
theorem hdX6_dispute : yX6_dispute.cls = RX6 ∧ yX6_dispute.cls ≠ "java/lang/invoke/MethodHandle" ∧ yX6_dispute.cls ≠ "java/lang/invoke/VarHandle" ∧ (parseMethodDescriptor yX6_dispute.desc).map (fun d => d.parameters.length) = some 1 := by decide +kernel
theorem inX6_dispute_X6 : ∀ w ∈ u_ws RX6 TX6 20, w ∈ wsX6_dispute := by decide +kernel
theorem cwX6_dispute_X6_billed {s : State} {args : Array Value} (hts : ∀ w ∈ wsX6_dispute, w.before args s = true) : CallW rmX6_dispute s args RX6 RX6 140 yX6_billed cX6_billed 3 (some .int) wsX6_billed rmX6_billed 0 0 2 := cwV 2 hts gX6_dispute_X6_billed rfl rfl rfl hdX6_billed ⟨Nat.le_of_ble_eq_true rfl, Nat.le_of_ble_eq_true rfl⟩
theorem cwX6_dispute_X6_counts {s : State} {args : Array Value} (hts : ∀ w ∈ wsX6_dispute, w.before args s = true) : CallW rmX6_dispute s args RX6 RX6 144 yX6_counts cX6_counts 3 (some .boolean) wsX6_counts rmX6_counts 0 0 2 := cwV 2 hts gX6_dispute_X6_counts rfl rfl rfl hdX6_counts ⟨Nat.le_of_ble_eq_true rfl, Nat.le_of_ble_eq_true rfl⟩
theorem cwX6_dispute_X6_isInvoice {s : State} {args : Array Value} (hts : ∀ w ∈ wsX6_dispute, w.before args s = true) : CallW rmX6_dispute s args RX6 RX6 227 yX6_isInvoice cX6_isInvoice 2 (some .boolean) wsX6_isInvoice rmX6_isInvoice 0 0 1 := cwV 1 hts gX6_dispute_X6_isInvoice rfl rfl rfl hdX6_isInvoice ⟨Nat.le_of_ble_eq_true rfl, Nat.le_of_ble_eq_true rfl⟩
theorem cwX6_dispute_X6_its {s : State} {args : Array Value} (hts : ∀ w ∈ wsX6_dispute, w.before args s = true) : CallW rmX6_dispute s args RX6 RX6 148 yX6_its cX6_its 3 (some .int) wsX6_its rmX6_its 0 0 2 := cwV 2 hts gX6_dispute_X6_its rfl rfl rfl hdX6_its ⟨Nat.le_of_ble_eq_true rfl, Nat.le_of_ble_eq_true rfl⟩
theorem cwX6_dispute_X6_snap {s : State} {args : Array Value} (hts : ∀ w ∈ wsX6_dispute, w.before args s = true) : CallW rmX6_dispute s args RX6 RX6 256 yX6_snap cX6_snap 2 none wsX6_snap rmX6_snap 0 0 0 := cwV 0 hts gX6_dispute_X6_snap rfl rfl rfl hdX6_snap ⟨Nat.le_of_ble_eq_true rfl, Nat.le_of_ble_eq_true rfl⟩
theorem flX6_dispute_70 : Fl wsX6_dispute RX6 70 6 11 := ⟨_, _, _, rfl, by decide, inX6_dispute_X6, by decide +kernel⟩
theorem fpX6_dispute_1 : Fp wsX6_dispute RX6 1 6 0 false .int := ⟨_, _, _, tyX6, rfl, by decide, inX6_dispute_X6, by decide +kernel, tyX6_ok, nmX6, rfl, rfl, by decide +kernel⟩
set_option maxRecDepth 100000 in
set_option maxHeartbeats 4000000 in
theorem kX6_dispute {l : Launch} {D : va_G} {cI cB cL cK : ClassId} {ad : Nat → Nat} {thr : Int32} {tpd : Int32} {siz : Int32} {too : Int32} {frm : Int32} {srt : Int32} {num : Int32} {flt : Int32} {plc : Int32} {wrd : Int64} {snm : Int32} {lin : Int32} {stp : Int32} {sfo : Int32} {hst : Int32} {tp : Nat → Int32} {nw : Nat → Int32} {rd : Nat → Int32} {kp : Nat → Int32} {sn : Nat → Int32} {p1 : Int32} {res : Int32} {thr' : Int32} {snm' : Int32} {nw' : Nat → Int32} {sn' : Nat → Int32} (hm : mX6_dispute thr snm nw sn p1 = some (res, thr', snm', nw', sn')) : Mu l D cI cB cL cK yX6_dispute wsX6_dispute rmX6_dispute [.ref (ad 0), .int p1] (wM cI ad thr tpd siz too frm srt num flt plc wrd snm lin stp sfo hst tp nw rd kp sn) (wM cI ad thr' tpd siz too frm srt num flt plc wrd snm' lin stp sfo hst tp nw' rd kp sn') (some (.int res)) 0 0 := by
  refine Mu.ofi (cc := cX6_dispute) (own := RX6) (by decide) rfl rfl (Nat.le_of_ble_eq_true rfl) (fun p e s m below meth c ls Q A C hA hP hD hS hl hret => ?_)
  obtain ⟨hx, hb, hr, hml, hown, hts, hlk, hK⟩ := id C
  have hcf : CallFix p m c cX6_dispute 2 s _ wsX6_dispute RX6 := ⟨hx, hb, hml, hown, hts⟩
  have hl : lv_has ls 2 [(0, .ref (ad 0)), (1, .int p1)] := hl
  unfold mX6_dispute at hm
  refine lv_aload_n hx hb dX6_dispute_0 rfl (lv_at hl 0 rfl) ?_
  refine lv_iconst (v := 0) hx hb dX6_dispute_1 (by decide) ?_
  refine pf (q0 := 0) (X' := (wM cI ad 0 tpd siz too frm srt num flt plc wrd snm lin stp sfo hst tp nw rd kp sn)) hx hb hts hown hK fpX6_dispute_1 hP hD hS rfl rfl rfl (Nat.le_of_ble_eq_true rfl) rfl dX6_dispute_2 (fun H locs hP hD hS => ?_)
  refine lv_aload_n hx hb dX6_dispute_5 rfl (lv_at hl 0 rfl) ?_
  refine lv_iload_n hx hb dX6_dispute_6 rfl (lv_at hl 1 rfl) ?_
  obtain ⟨v1, h_2, hm⟩ := b1_s hm
  refine rd_v hcf (kX6_isInvoice h_2) (cwX6_dispute_X6_isInvoice hts) hK hP Sb.rf (ci := 6) (q0 := 0) rfl rfl rfl hl.1 rfl (Nat.le_of_ble_eq_true rfl) dX6_dispute_7 ⟨Nat.zero_le _, Nat.zero_le _⟩ ?_
  refine lv_if_eq (tgt := 42) hx hb dX6_dispute_10 (by decide) (fun c_3 => ?_) (fun c_3 => ?_)
  · replace hm := br_p hm c_3
    refine lv_iconst (v := 0) hx hb dX6_dispute_42 (by decide) ?_
    cases hm
    exact hret _ _ _ _ dX6_dispute_43 rfl hP hD hS
  · replace hm := br_n hm c_3
    refine lv_aload_n hx hb dX6_dispute_13 rfl (lv_at hl 0 rfl) ?_
    refine lv_iload_n hx hb dX6_dispute_14 rfl (lv_at hl 1 rfl) ?_
    refine lv_aload_n hx hb dX6_dispute_15 rfl (lv_at hl 0 rfl) ?_
    refine lv_iload_n hx hb dX6_dispute_16 rfl (lv_at hl 1 rfl) ?_
    refine lv_iconst (v := 0) hx hb dX6_dispute_17 (by decide) ?_
    obtain ⟨v4, h_5, hm⟩ := b1_s hm
    refine rd_v hcf (kX6_billed h_5) (cwX6_dispute_X6_billed hts) hK hP Sb.rf (ci := 6) (q0 := 0) rfl rfl rfl hl.1 rfl (Nat.le_of_ble_eq_true rfl) dX6_dispute_18 ⟨Nat.zero_le _, Nat.zero_le _⟩ ?_
    obtain ⟨v6, h_7, hm⟩ := b1_s hm
    refine rd_v hcf (kX6_counts h_7) (cwX6_dispute_X6_counts hts) hK hP Sb.rf (ci := 6) (q0 := 0) rfl rfl rfl hl.1 rfl (Nat.le_of_ble_eq_true rfl) dX6_dispute_21 ⟨Nat.zero_le _, Nat.zero_le _⟩ ?_
    refine lv_if_eq (tgt := 42) hx hb dX6_dispute_24 (by decide) (fun c_8 => ?_) (fun c_8 => ?_)
    · replace hm := br_p hm c_8
      refine lv_iconst (v := 0) hx hb dX6_dispute_42 (by decide) ?_
      cases hm
      exact hret _ _ _ _ dX6_dispute_43 rfl hP hD hS
    · replace hm := br_n hm c_8
      refine lv_aload_n hx hb dX6_dispute_27 rfl (lv_at hl 0 rfl) ?_
      refine lv_aload_n hx hb dX6_dispute_28 rfl (lv_at hl 0 rfl) ?_
      refine lv_iload_n hx hb dX6_dispute_29 rfl (lv_at hl 1 rfl) ?_
      refine lv_iconst (v := 0) hx hb dX6_dispute_30 (by decide) ?_
      obtain ⟨v9, h_10, hm⟩ := b1_s hm
      refine rd_v hcf (kX6_billed h_10) (cwX6_dispute_X6_billed hts) hK hP Sb.rf (ci := 6) (q0 := 0) rfl rfl rfl hl.1 rfl (Nat.le_of_ble_eq_true rfl) dX6_dispute_31 ⟨Nat.zero_le _, Nat.zero_le _⟩ ?_
      refine lv_bipush (v := 9) hx hb dX6_dispute_34 (by decide) ?_
      obtain ⟨v11, h_12, hm⟩ := b1_s hm
      refine rd_v hcf (kX6_its h_12) (cwX6_dispute_X6_its hts) hK hP Sb.rf (ci := 6) (q0 := 0) rfl rfl rfl hl.1 rfl (Nat.le_of_ble_eq_true rfl) dX6_dispute_36 ⟨Nat.zero_le _, Nat.zero_le _⟩ ?_
      refine lv_if_le (tgt := 44) hx hb dX6_dispute_39 (by decide) (fun c_13 => ?_) (fun c_13 => ?_)
      · replace hm := br_p hm c_13
        refine lv_aload_n hx hb dX6_dispute_44 rfl (lv_at hl 0 rfl) ?_
        obtain ⟨snm14, sn15, h_16, hm⟩ := b2_s hm
        refine mu_vv hcf (kX6_snap h_16) (cwX6_dispute_X6_snap hts) hK hP hD hS hA Jn.rf (ci := 6) (q0 := 0) rfl rfl rfl hl.1 rfl (Nat.le_of_ble_eq_true rfl) dX6_dispute_45 ⟨Nat.zero_le _, Nat.zero_le _⟩ (fun H locs hP hD hS => ?_)
        refine lv_aload_n hx hb dX6_dispute_48 rfl (lv_at hl 0 rfl) ?_
        refine gf (q0 := 0) hx hb hts hown hK flX6_dispute_70 hP rfl rfl dX6_dispute_49 ?_
        refine lv_sipush (v := 205) hx hb dX6_dispute_52 (by decide) ?_
        refine lv_bipush (v := 7) hx hb dX6_dispute_55 (by decide) ?_
        refine lv_iload_n hx hb dX6_dispute_57 rfl (lv_at hl 1 rfl) ?_
        refine lv_imul hx hb dX6_dispute_58 ?_
        refine lv_iadd hx hb dX6_dispute_59 ?_
        refine lv_iconst (v := 5) hx hb dX6_dispute_60 (by decide) ?_
        refine lv_iadd hx hb dX6_dispute_61 ?_
        refine lv_iconst (v := 1) hx hb dX6_dispute_62 (by decide) ?_
        obtain ⟨h_17, hm⟩ := ck_s hm
        refine ast (q0 := 2) (k := (((205 + (7 * p1)) + 5) : Int32).toNatClampNeg) (X' := (wM cI ad 0 tpd siz too frm srt num flt plc wrd snm14 lin stp sfo hst tp (upd nw ((((205 + (7 * p1)) + 5) : Int32).toNatClampNeg) 1) rd kp sn15)) hx hb hK hP hD hS rfl h_17 rfl rfl dX6_dispute_63 (fun H locs hP hD hS => ?_)
        refine lv_iconst (v := 1) hx hb dX6_dispute_64 (by decide) ?_
        cases hm
        exact hret _ _ _ _ dX6_dispute_65 rfl hP hD hS
      · replace hm := br_n hm c_13
        refine lv_iconst (v := 0) hx hb dX6_dispute_42 (by decide) ?_
        cases hm
        exact hret _ _ _ _ dX6_dispute_43 rfl hP hD hS
/-! X6 settle(II)I -/
abbrev rmX6_settle : Room := { frames := 4, cells := 0, slots := 0, locals := 91 }
theorem hdX6_settle : yX6_settle.cls = RX6 ∧ yX6_settle.cls ≠ "java/lang/invoke/MethodHandle" ∧ yX6_settle.cls ≠ "java/lang/invoke/VarHandle" ∧ (parseMethodDescriptor yX6_settle.desc).map (fun d => d.parameters.length) = some 2 := by decide +kernel
theorem inX6_settle_X6 : ∀ w ∈ u_ws RX6 TX6 20, w ∈ wsX6_settle := by decide +kernel
theorem cwX6_settle_X6_billed {s : State} {args : Array Value} (hts : ∀ w ∈ wsX6_settle, w.before args s = true) : CallW rmX6_settle s args RX6 RX6 140 yX6_billed cX6_billed 3 (some .int) wsX6_billed rmX6_billed 0 0 2 := cwV 2 hts gX6_settle_X6_billed rfl rfl rfl hdX6_billed ⟨Nat.le_of_ble_eq_true rfl, Nat.le_of_ble_eq_true rfl⟩
theorem cwX6_settle_X6_isIn {s : State} {args : Array Value} (hts : ∀ w ∈ wsX6_settle, w.before args s = true) : CallB rmX6_settle s args RX6 85 yX6_isIn cX6_isIn 3 (some .boolean) wsX6_isIn rmX6_isIn 0 0 3 ∧ (Cond.static yX6_isIn).before args s = true := va_cwS 3 hts gX6_settle_X6_isIn rfl rfl rfl hdX6_isIn.2 ⟨Nat.le_of_ble_eq_true rfl, Nat.le_of_ble_eq_true rfl⟩
theorem cwX6_settle_X6_isInvoice {s : State} {args : Array Value} (hts : ∀ w ∈ wsX6_settle, w.before args s = true) : CallW rmX6_settle s args RX6 RX6 227 yX6_isInvoice cX6_isInvoice 2 (some .boolean) wsX6_isInvoice rmX6_isInvoice 0 0 1 := cwV 1 hts gX6_settle_X6_isInvoice rfl rfl rfl hdX6_isInvoice ⟨Nat.le_of_ble_eq_true rfl, Nat.le_of_ble_eq_true rfl⟩
theorem cwX6_settle_X6_places {s : State} {args : Array Value} (hts : ∀ w ∈ wsX6_settle, w.before args s = true) : CallW rmX6_settle s args RX6 RX6 164 yX6_places cX6_places 4 none wsX6_places rmX6_places 0 0 1 := cwV 1 hts gX6_settle_X6_places rfl rfl rfl hdX6_places ⟨Nat.le_of_ble_eq_true rfl, Nat.le_of_ble_eq_true rfl⟩
theorem cwX6_settle_X6_releases {s : State} {args : Array Value} (hts : ∀ w ∈ wsX6_settle, w.before args s = true) : CallW rmX6_settle s args RX6 RX6 209 yX6_releases cX6_releases 4 (some .int) wsX6_releases rmX6_releases 0 0 1 := cwV 1 hts gX6_settle_X6_releases rfl rfl rfl hdX6_releases ⟨Nat.le_of_ble_eq_true rfl, Nat.le_of_ble_eq_true rfl⟩
theorem cwX6_settle_X6_snap {s : State} {args : Array Value} (hts : ∀ w ∈ wsX6_settle, w.before args s = true) : CallW rmX6_settle s args RX6 RX6 256 yX6_snap cX6_snap 2 none wsX6_snap rmX6_snap 0 0 0 := cwV 0 hts gX6_settle_X6_snap rfl rfl rfl hdX6_snap ⟨Nat.le_of_ble_eq_true rfl, Nat.le_of_ble_eq_true rfl⟩
theorem flX6_settle_70 : Fl wsX6_settle RX6 70 6 11 := ⟨_, _, _, rfl, by decide, inX6_settle_X6, by decide +kernel⟩
theorem fpX6_settle_1 : Fp wsX6_settle RX6 1 6 0 false .int := ⟨_, _, _, tyX6, rfl, by decide, inX6_settle_X6, by decide +kernel, tyX6_ok, nmX6, rfl, rfl, by decide +kernel⟩
set_option maxRecDepth 100000 in
set_option maxHeartbeats 4000000 in
theorem kX6_settle {l : Launch} {D : va_G} {cI cB cL cK : ClassId} {ad : Nat → Nat} {thr : Int32} {tpd : Int32} {siz : Int32} {too : Int32} {frm : Int32} {srt : Int32} {num : Int32} {flt : Int32} {plc : Int32} {wrd : Int64} {snm : Int32} {lin : Int32} {stp : Int32} {sfo : Int32} {hst : Int32} {tp : Nat → Int32} {nw : Nat → Int32} {rd : Nat → Int32} {kp : Nat → Int32} {sn : Nat → Int32} {p1 : Int32} {p2 : Int32} {res : Int32} {thr' : Int32} {snm' : Int32} {nw' : Nat → Int32} {sn' : Nat → Int32} (hm : mX6_settle thr snm nw sn p1 p2 = some (res, thr', snm', nw', sn')) : Mu l D cI cB cL cK yX6_settle wsX6_settle rmX6_settle [.ref (ad 0), .int p1, .int p2] (wM cI ad thr tpd siz too frm srt num flt plc wrd snm lin stp sfo hst tp nw rd kp sn) (wM cI ad thr' tpd siz too frm srt num flt plc wrd snm' lin stp sfo hst tp nw' rd kp sn') (some (.int res)) 0 0 := by
  refine Mu.ofi (cc := cX6_settle) (own := RX6) (by decide) rfl rfl (Nat.le_of_ble_eq_true rfl) (fun p e s m below meth c ls Q A C hA hP hD hS hl hret => ?_)
  obtain ⟨hx, hb, hr, hml, hown, hts, hlk, hK⟩ := id C
  have hcf : CallFix p m c cX6_settle 3 s _ wsX6_settle RX6 := ⟨hx, hb, hml, hown, hts⟩
  have hl : lv_has ls 3 [(0, .ref (ad 0)), (1, .int p1), (2, .int p2)] := hl
  unfold mX6_settle at hm
  refine lv_aload_n hx hb dX6_settle_0 rfl (lv_at hl 0 rfl) ?_
  refine lv_iconst (v := 0) hx hb dX6_settle_1 (by decide) ?_
  refine pf (q0 := 0) (X' := (wM cI ad 0 tpd siz too frm srt num flt plc wrd snm lin stp sfo hst tp nw rd kp sn)) hx hb hts hown hK fpX6_settle_1 hP hD hS rfl rfl rfl (Nat.le_of_ble_eq_true rfl) rfl dX6_settle_2 (fun H locs hP hD hS => ?_)
  refine lv_aload_n hx hb dX6_settle_5 rfl (lv_at hl 0 rfl) ?_
  refine lv_iload_n hx hb dX6_settle_6 rfl (lv_at hl 1 rfl) ?_
  obtain ⟨v1, h_2, hm⟩ := b1_s hm
  refine rd_v hcf (kX6_isInvoice h_2) (cwX6_settle_X6_isInvoice hts) hK hP Sb.rf (ci := 6) (q0 := 0) rfl rfl rfl hl.1 rfl (Nat.le_of_ble_eq_true rfl) dX6_settle_7 ⟨Nat.zero_le _, Nat.zero_le _⟩ ?_
  refine lv_if_eq (tgt := 36) hx hb dX6_settle_10 (by decide) (fun c_3 => ?_) (fun c_3 => ?_)
  · replace hm := br_p hm c_3
    refine lv_iconst (v := (-1)) hx hb dX6_settle_36 (by decide) ?_
    cases hm
    exact hret _ _ _ _ dX6_settle_37 rfl hP hD hS
  · replace hm := br_n hm c_3
    refine lv_aload_n hx hb dX6_settle_13 rfl (lv_at hl 0 rfl) ?_
    refine lv_iload_n hx hb dX6_settle_14 rfl (lv_at hl 1 rfl) ?_
    refine lv_iconst (v := 5) hx hb dX6_settle_15 (by decide) ?_
    obtain ⟨v4, h_5, hm⟩ := b1_s hm
    refine rd_v hcf (kX6_billed h_5) (cwX6_settle_X6_billed hts) hK hP Sb.rf (ci := 6) (q0 := 0) rfl rfl rfl hl.1 rfl (Nat.le_of_ble_eq_true rfl) dX6_settle_16 ⟨Nat.zero_le _, Nat.zero_le _⟩ ?_
    refine lv_if_eq (tgt := 36) hx hb dX6_settle_19 (by decide) (fun c_6 => ?_) (fun c_6 => ?_)
    · replace hm := br_p hm c_6
      refine lv_iconst (v := (-1)) hx hb dX6_settle_36 (by decide) ?_
      cases hm
      exact hret _ _ _ _ dX6_settle_37 rfl hP hD hS
    · replace hm := br_n hm c_6
      refine lv_iload_n hx hb dX6_settle_22 rfl (lv_at hl 2 rfl) ?_
      refine lv_iconst (v := 0) hx hb dX6_settle_23 (by decide) ?_
      refine lv_aload_n hx hb dX6_settle_24 rfl (lv_at hl 0 rfl) ?_
      refine lv_iload_n hx hb dX6_settle_25 rfl (lv_at hl 1 rfl) ?_
      refine lv_iconst (v := 2) hx hb dX6_settle_26 (by decide) ?_
      obtain ⟨v7, h_8, hm⟩ := b1_s hm
      refine rd_v hcf (kX6_billed h_8) (cwX6_settle_X6_billed hts) hK hP Sb.rf (ci := 6) (q0 := 0) rfl rfl rfl hl.1 rfl (Nat.le_of_ble_eq_true rfl) dX6_settle_27 ⟨Nat.zero_le _, Nat.zero_le _⟩ ?_
      obtain ⟨v9, h_10, hm⟩ := b1_s hm
      refine rd_s hcf (kX6_isIn h_10) (cwX6_settle_X6_isIn hts) hK hP Sb.nil rfl hl.1 rfl (Nat.le_of_ble_eq_true rfl) dX6_settle_30 ⟨Nat.zero_le _, Nat.zero_le _⟩ ?_
      refine lv_if_ne (tgt := 38) hx hb dX6_settle_33 (by decide) (fun c_11 => ?_) (fun c_11 => ?_)
      · replace hm := br_n hm c_11
        refine lv_aload_n hx hb dX6_settle_38 rfl (lv_at hl 0 rfl) ?_
        obtain ⟨snm12, sn13, h_14, hm⟩ := b2_s hm
        refine mu_vv hcf (kX6_snap h_14) (cwX6_settle_X6_snap hts) hK hP hD hS hA Jn.rf (ci := 6) (q0 := 0) rfl rfl rfl hl.1 rfl (Nat.le_of_ble_eq_true rfl) dX6_settle_39 ⟨Nat.zero_le _, Nat.zero_le _⟩ (fun H locs hP hD hS => ?_)
        refine lv_aload_n hx hb dX6_settle_42 rfl (lv_at hl 0 rfl) ?_
        refine gf (q0 := 0) hx hb hts hown hK flX6_settle_70 hP rfl rfl dX6_settle_43 ?_
        refine lv_sipush (v := 205) hx hb dX6_settle_46 (by decide) ?_
        refine lv_bipush (v := 7) hx hb dX6_settle_49 (by decide) ?_
        refine lv_iload_n hx hb dX6_settle_51 rfl (lv_at hl 1 rfl) ?_
        refine lv_imul hx hb dX6_settle_52 ?_
        refine lv_iadd hx hb dX6_settle_53 ?_
        refine lv_iconst (v := 2) hx hb dX6_settle_54 (by decide) ?_
        refine lv_iadd hx hb dX6_settle_55 ?_
        refine lv_dup2_11 hx hb dX6_settle_56 rfl rfl ?_
        obtain ⟨h_15, hm⟩ := ck_s hm
        refine ald (q0 := 2) (k := (((205 + (7 * p1)) + 2) : Int32).toNatClampNeg) hx hb hK hP rfl h_15 rfl dX6_settle_57 ?_
        refine lv_iload_n hx hb dX6_settle_58 rfl (lv_at hl 2 rfl) ?_
        refine lv_isub hx hb dX6_settle_59 ?_
        obtain ⟨h_16, hm⟩ := ck_s hm
        refine ast (q0 := 2) (k := (((205 + (7 * p1)) + 2) : Int32).toNatClampNeg) (X' := (wM cI ad 0 tpd siz too frm srt num flt plc wrd snm12 lin stp sfo hst tp (upd nw ((((205 + (7 * p1)) + 2) : Int32).toNatClampNeg) ((nw ((((205 + (7 * p1)) + 2) : Int32).toNatClampNeg)) - p2)) rd kp sn13)) hx hb hK hP hD hS rfl h_16 rfl rfl dX6_settle_60 (fun H locs hP hD hS => ?_)
        refine lv_aload_n hx hb dX6_settle_61 rfl (lv_at hl 0 rfl) ?_
        refine gf (q0 := 0) hx hb hts hown hK flX6_settle_70 hP rfl rfl dX6_settle_62 ?_
        refine lv_sipush (v := 205) hx hb dX6_settle_65 (by decide) ?_
        refine lv_bipush (v := 7) hx hb dX6_settle_68 (by decide) ?_
        refine lv_iload_n hx hb dX6_settle_70 rfl (lv_at hl 1 rfl) ?_
        refine lv_imul hx hb dX6_settle_71 ?_
        refine lv_iadd hx hb dX6_settle_72 ?_
        refine lv_iconst (v := 5) hx hb dX6_settle_73 (by decide) ?_
        refine lv_iadd hx hb dX6_settle_74 ?_
        refine lv_iconst (v := 0) hx hb dX6_settle_75 (by decide) ?_
        obtain ⟨h_17, hm⟩ := ck_s hm
        refine ast (q0 := 2) (k := (((205 + (7 * p1)) + 5) : Int32).toNatClampNeg) (X' := (wM cI ad 0 tpd siz too frm srt num flt plc wrd snm12 lin stp sfo hst tp (upd (upd nw ((((205 + (7 * p1)) + 2) : Int32).toNatClampNeg) ((nw ((((205 + (7 * p1)) + 2) : Int32).toNatClampNeg)) - p2)) ((((205 + (7 * p1)) + 5) : Int32).toNatClampNeg) 0) rd kp sn13)) hx hb hK hP hD hS rfl h_17 rfl rfl dX6_settle_76 (fun H locs hP hD hS => ?_)
        refine lv_aload_n hx hb dX6_settle_77 rfl (lv_at hl 0 rfl) ?_
        refine lv_aload_n hx hb dX6_settle_78 rfl (lv_at hl 0 rfl) ?_
        refine lv_iload_n hx hb dX6_settle_79 rfl (lv_at hl 1 rfl) ?_
        refine lv_iconst (v := 0) hx hb dX6_settle_80 (by decide) ?_
        obtain ⟨v18, h_19, hm⟩ := b1_s hm
        refine rd_v hcf (kX6_billed h_19) (cwX6_settle_X6_billed hts) hK hP Sb.rf (ci := 6) (q0 := 0) rfl rfl rfl hl.1 rfl (Nat.le_of_ble_eq_true rfl) dX6_settle_81 ⟨Nat.zero_le _, Nat.zero_le _⟩ ?_
        obtain ⟨nw20, h_21, hm⟩ := b1_s hm
        refine mu_vv hcf (kX6_places h_21) (cwX6_settle_X6_places hts) hK hP hD hS hA Jn.rf (ci := 6) (q0 := 0) rfl rfl rfl hl.1 rfl (Nat.le_of_ble_eq_true rfl) dX6_settle_84 ⟨Nat.zero_le _, Nat.zero_le _⟩ (fun H locs hP hD hS => ?_)
        refine lv_aload_n hx hb dX6_settle_87 rfl (lv_at hl 0 rfl) ?_
        refine lv_aload_n hx hb dX6_settle_88 rfl (lv_at hl 0 rfl) ?_
        refine lv_iload_n hx hb dX6_settle_89 rfl (lv_at hl 1 rfl) ?_
        refine lv_iconst (v := 0) hx hb dX6_settle_90 (by decide) ?_
        obtain ⟨v22, h_23, hm⟩ := b1_s hm
        refine rd_v hcf (kX6_billed h_23) (cwX6_settle_X6_billed hts) hK hP Sb.rf (ci := 6) (q0 := 0) rfl rfl rfl hl.1 rfl (Nat.le_of_ble_eq_true rfl) dX6_settle_91 ⟨Nat.zero_le _, Nat.zero_le _⟩ ?_
        obtain ⟨v24, nw25, h_26, hm⟩ := b2_s hm
        refine mu_vi hcf (kX6_releases h_26) (cwX6_settle_X6_releases hts) hK hP hD hS hA Jn.rf (ci := 6) (q0 := 0) rfl rfl rfl hl.1 rfl (Nat.le_of_ble_eq_true rfl) dX6_settle_94 ⟨Nat.zero_le _, Nat.zero_le _⟩ (fun H locs hP hD hS => ?_)
        refine lv_pop hx hb dX6_settle_97 rfl ?_
        refine lv_aload_n hx hb dX6_settle_98 rfl (lv_at hl 0 rfl) ?_
        refine lv_iload_n hx hb dX6_settle_99 rfl (lv_at hl 1 rfl) ?_
        refine lv_iconst (v := 2) hx hb dX6_settle_100 (by decide) ?_
        obtain ⟨v27, h_28, hm⟩ := b1_s hm
        refine rd_v hcf (kX6_billed h_28) (cwX6_settle_X6_billed hts) hK hP Sb.rf (ci := 6) (q0 := 0) rfl rfl rfl hl.1 rfl (Nat.le_of_ble_eq_true rfl) dX6_settle_101 ⟨Nat.zero_le _, Nat.zero_le _⟩ ?_
        cases hm
        exact hret _ _ _ _ dX6_settle_104 rfl hP hD hS
      · replace hm := br_p hm c_11
        refine lv_iconst (v := (-1)) hx hb dX6_settle_36 (by decide) ?_
        cases hm
        exact hret _ _ _ _ dX6_settle_37 rfl hP hD hS
/-! X6 promise(III)I -/
abbrev rmX6_promise : Room := { frames := 3, cells := 0, slots := 0, locals := 67 }
theorem hdX6_promise : yX6_promise.cls = RX6 ∧ yX6_promise.cls ≠ "java/lang/invoke/MethodHandle" ∧ yX6_promise.cls ≠ "java/lang/invoke/VarHandle" ∧ (parseMethodDescriptor yX6_promise.desc).map (fun d => d.parameters.length) = some 3 := by decide +kernel
theorem inX6_promise_X6 : ∀ w ∈ u_ws RX6 TX6 20, w ∈ wsX6_promise := by decide +kernel
theorem cwX6_promise_X6_debt {s : State} {args : Array Value} (hts : ∀ w ∈ wsX6_promise, w.before args s = true) : CallW rmX6_promise s args RX6 RX6 167 yX6_debt cX6_debt 4 (some .int) wsX6_debt rmX6_debt 0 0 1 := cwV 1 hts gX6_promise_X6_debt rfl rfl rfl hdX6_debt ⟨Nat.le_of_ble_eq_true rfl, Nat.le_of_ble_eq_true rfl⟩
theorem cwX6_promise_X6_isAtCourt {s : State} {args : Array Value} (hts : ∀ w ∈ wsX6_promise, w.before args s = true) : CallW rmX6_promise s args RX6 RX6 180 yX6_isAtCourt cX6_isAtCourt 2 (some .boolean) wsX6_isAtCourt rmX6_isAtCourt 0 0 1 := cwV 1 hts gX6_promise_X6_isAtCourt rfl rfl rfl hdX6_isAtCourt ⟨Nat.le_of_ble_eq_true rfl, Nat.le_of_ble_eq_true rfl⟩
theorem cwX6_promise_X6_isDebtor {s : State} {args : Array Value} (hts : ∀ w ∈ wsX6_promise, w.before args s = true) : CallW rmX6_promise s args RX6 RX6 221 yX6_isDebtor cX6_isDebtor 2 (some .boolean) wsX6_isDebtor rmX6_isDebtor 0 0 1 := cwV 1 hts gX6_promise_X6_isDebtor rfl rfl rfl hdX6_isDebtor ⟨Nat.le_of_ble_eq_true rfl, Nat.le_of_ble_eq_true rfl⟩
theorem cwX6_promise_X6_isIn {s : State} {args : Array Value} (hts : ∀ w ∈ wsX6_promise, w.before args s = true) : CallB rmX6_promise s args RX6 85 yX6_isIn cX6_isIn 3 (some .boolean) wsX6_isIn rmX6_isIn 0 0 3 ∧ (Cond.static yX6_isIn).before args s = true := va_cwS 3 hts gX6_promise_X6_isIn rfl rfl rfl hdX6_isIn.2 ⟨Nat.le_of_ble_eq_true rfl, Nat.le_of_ble_eq_true rfl⟩
theorem cwX6_promise_X6_isStopped {s : State} {args : Array Value} (hts : ∀ w ∈ wsX6_promise, w.before args s = true) : CallW rmX6_promise s args RX6 RX6 183 yX6_isStopped cX6_isStopped 2 (some .boolean) wsX6_isStopped rmX6_isStopped 0 0 1 := cwV 1 hts gX6_promise_X6_isStopped rfl rfl rfl hdX6_isStopped ⟨Nat.le_of_ble_eq_true rfl, Nat.le_of_ble_eq_true rfl⟩
theorem cwX6_promise_X6_its {s : State} {args : Array Value} (hts : ∀ w ∈ wsX6_promise, w.before args s = true) : CallW rmX6_promise s args RX6 RX6 148 yX6_its cX6_its 3 (some .int) wsX6_its rmX6_its 0 0 2 := cwV 2 hts gX6_promise_X6_its rfl rfl rfl hdX6_its ⟨Nat.le_of_ble_eq_true rfl, Nat.le_of_ble_eq_true rfl⟩
theorem cwX6_promise_X6_puts {s : State} {args : Array Value} (hts : ∀ w ∈ wsX6_promise, w.before args s = true) : CallW rmX6_promise s args RX6 RX6 157 yX6_puts cX6_puts 4 none wsX6_puts rmX6_puts 0 0 3 := cwV 3 hts gX6_promise_X6_puts rfl rfl rfl hdX6_puts ⟨Nat.le_of_ble_eq_true rfl, Nat.le_of_ble_eq_true rfl⟩
theorem cwX6_promise_X6_snap {s : State} {args : Array Value} (hts : ∀ w ∈ wsX6_promise, w.before args s = true) : CallW rmX6_promise s args RX6 RX6 256 yX6_snap cX6_snap 2 none wsX6_snap rmX6_snap 0 0 0 := cwV 0 hts gX6_promise_X6_snap rfl rfl rfl hdX6_snap ⟨Nat.le_of_ble_eq_true rfl, Nat.le_of_ble_eq_true rfl⟩
theorem cwX6_promise_X6_today {s : State} {args : Array Value} (hts : ∀ w ∈ wsX6_promise, w.before args s = true) : CallW rmX6_promise s args RX6 RX6 173 yX6_today cX6_today 1 (some .int) wsX6_today rmX6_today 0 0 0 := cwV 0 hts gX6_promise_X6_today rfl rfl rfl hdX6_today ⟨Nat.le_of_ble_eq_true rfl, Nat.le_of_ble_eq_true rfl⟩
theorem fpX6_promise_1 : Fp wsX6_promise RX6 1 6 0 false .int := ⟨_, _, _, tyX6, rfl, by decide, inX6_promise_X6, by decide +kernel, tyX6_ok, nmX6, rfl, rfl, by decide +kernel⟩
set_option maxRecDepth 100000 in
set_option maxHeartbeats 4000000 in
theorem kX6_promise {l : Launch} {D : va_G} {cI cB cL cK : ClassId} {ad : Nat → Nat} {thr : Int32} {tpd : Int32} {siz : Int32} {too : Int32} {frm : Int32} {srt : Int32} {num : Int32} {flt : Int32} {plc : Int32} {wrd : Int64} {snm : Int32} {lin : Int32} {stp : Int32} {sfo : Int32} {hst : Int32} {tp : Nat → Int32} {nw : Nat → Int32} {rd : Nat → Int32} {kp : Nat → Int32} {sn : Nat → Int32} {p1 : Int32} {p2 : Int32} {p3 : Int32} {res : Int32} {thr' : Int32} {snm' : Int32} {nw' : Nat → Int32} {sn' : Nat → Int32} (hm : mX6_promise thr snm nw sn p1 p2 p3 = some (res, thr', snm', nw', sn')) : Mu l D cI cB cL cK yX6_promise wsX6_promise rmX6_promise [.ref (ad 0), .int p1, .int p2, .int p3] (wM cI ad thr tpd siz too frm srt num flt plc wrd snm lin stp sfo hst tp nw rd kp sn) (wM cI ad thr' tpd siz too frm srt num flt plc wrd snm' lin stp sfo hst tp nw' rd kp sn') (some (.int res)) 0 0 := by
  refine Mu.ofi (cc := cX6_promise) (own := RX6) (by decide) rfl rfl (Nat.le_of_ble_eq_true rfl) (fun p e s m below meth c ls Q A C hA hP hD hS hl hret => ?_)
  obtain ⟨hx, hb, hr, hml, hown, hts, hlk, hK⟩ := id C
  have hcf : CallFix p m c cX6_promise 4 s _ wsX6_promise RX6 := ⟨hx, hb, hml, hown, hts⟩
  have hl : lv_has ls 4 [(0, .ref (ad 0)), (1, .int p1), (2, .int p2), (3, .int p3)] := hl
  unfold mX6_promise at hm
  refine lv_aload_n hx hb dX6_promise_0 rfl (lv_at hl 0 rfl) ?_
  refine lv_iconst (v := 0) hx hb dX6_promise_1 (by decide) ?_
  refine pf (q0 := 0) (X' := (wM cI ad 0 tpd siz too frm srt num flt plc wrd snm lin stp sfo hst tp nw rd kp sn)) hx hb hts hown hK fpX6_promise_1 hP hD hS rfl rfl rfl (Nat.le_of_ble_eq_true rfl) rfl dX6_promise_2 (fun H locs hP hD hS => ?_)
  refine lv_aload_n hx hb dX6_promise_5 rfl (lv_at hl 0 rfl) ?_
  refine lv_iload_n hx hb dX6_promise_6 rfl (lv_at hl 1 rfl) ?_
  obtain ⟨v1, h_2, hm⟩ := b1_s hm
  refine rd_v hcf (kX6_isDebtor h_2) (cwX6_promise_X6_isDebtor hts) hK hP Sb.rf (ci := 6) (q0 := 0) rfl rfl rfl hl.1 rfl (Nat.le_of_ble_eq_true rfl) dX6_promise_7 ⟨Nat.zero_le _, Nat.zero_le _⟩ ?_
  refine lv_if_eq (tgt := 44) hx hb dX6_promise_10 (by decide) (fun c_3 => ?_) (fun c_3 => ?_)
  · replace hm := br_p hm c_3
    refine lv_iconst (v := (-1)) hx hb dX6_promise_44 (by decide) ?_
    cases hm
    exact hret _ _ _ _ dX6_promise_45 rfl hP hD hS
  · replace hm := br_n hm c_3
    refine lv_iload_n hx hb dX6_promise_13 rfl (lv_at hl 2 rfl) ?_
    refine lv_iconst (v := 1) hx hb dX6_promise_14 (by decide) ?_
    refine lv_aload_n hx hb dX6_promise_15 rfl (lv_at hl 0 rfl) ?_
    refine lv_iload_n hx hb dX6_promise_16 rfl (lv_at hl 1 rfl) ?_
    obtain ⟨v4, h_5, hm⟩ := b1_s hm
    refine rd_v hcf (kX6_debt h_5) (cwX6_promise_X6_debt hts) hK hP Sb.rf (ci := 6) (q0 := 0) rfl rfl rfl hl.1 rfl (Nat.le_of_ble_eq_true rfl) dX6_promise_17 ⟨Nat.zero_le _, Nat.zero_le _⟩ ?_
    obtain ⟨v6, h_7, hm⟩ := b1_s hm
    refine rd_s hcf (kX6_isIn h_7) (cwX6_promise_X6_isIn hts) hK hP Sb.nil rfl hl.1 rfl (Nat.le_of_ble_eq_true rfl) dX6_promise_20 ⟨Nat.zero_le _, Nat.zero_le _⟩ ?_
    refine lv_if_eq (tgt := 44) hx hb dX6_promise_23 (by decide) (fun c_8 => ?_) (fun c_8 => ?_)
    · replace hm := br_p hm c_8
      refine lv_iconst (v := (-1)) hx hb dX6_promise_44 (by decide) ?_
      cases hm
      exact hret _ _ _ _ dX6_promise_45 rfl hP hD hS
    · replace hm := br_n hm c_8
      refine lv_iload_n hx hb dX6_promise_26 rfl (lv_at hl 3 rfl) ?_
      refine lv_aload_n hx hb dX6_promise_27 rfl (lv_at hl 0 rfl) ?_
      obtain ⟨v9, h_10, hm⟩ := b1_s hm
      refine rd_v hcf (kX6_today h_10) (cwX6_promise_X6_today hts) hK hP Sb.rf (ci := 6) (q0 := 0) rfl rfl rfl hl.1 rfl (Nat.le_of_ble_eq_true rfl) dX6_promise_28 ⟨Nat.zero_le _, Nat.zero_le _⟩ ?_
      refine lv_aload_n hx hb dX6_promise_31 rfl (lv_at hl 0 rfl) ?_
      obtain ⟨v11, h_12, hm⟩ := b1_s hm
      refine rd_v hcf (kX6_today h_12) (cwX6_promise_X6_today hts) hK hP Sb.rf (ci := 6) (q0 := 0) rfl rfl rfl hl.1 rfl (Nat.le_of_ble_eq_true rfl) dX6_promise_32 ⟨Nat.zero_le _, Nat.zero_le _⟩ ?_
      refine lv_bipush (v := 30) hx hb dX6_promise_35 (by decide) ?_
      refine lv_iadd hx hb dX6_promise_37 ?_
      obtain ⟨v13, h_14, hm⟩ := b1_s hm
      refine rd_s hcf (kX6_isIn h_14) (cwX6_promise_X6_isIn hts) hK hP Sb.nil rfl hl.1 rfl (Nat.le_of_ble_eq_true rfl) dX6_promise_38 ⟨Nat.zero_le _, Nat.zero_le _⟩ ?_
      refine lv_if_ne (tgt := 46) hx hb dX6_promise_41 (by decide) (fun c_15 => ?_) (fun c_15 => ?_)
      · replace hm := br_n hm c_15
        refine lv_aload_n hx hb dX6_promise_46 rfl (lv_at hl 0 rfl) ?_
        refine lv_iload_n hx hb dX6_promise_47 rfl (lv_at hl 1 rfl) ?_
        obtain ⟨v16, h_17, hm⟩ := b1_s hm
        refine rd_v hcf (kX6_isStopped h_17) (cwX6_promise_X6_isStopped hts) hK hP Sb.rf (ci := 6) (q0 := 0) rfl rfl rfl hl.1 rfl (Nat.le_of_ble_eq_true rfl) dX6_promise_48 ⟨Nat.zero_le _, Nat.zero_le _⟩ ?_
        refine lv_if_eq (tgt := 57) hx hb dX6_promise_51 (by decide) (fun c_18 => ?_) (fun c_18 => ?_)
        · replace hm := br_p hm c_18
          refine lv_aload_n hx hb dX6_promise_57 rfl (lv_at hl 0 rfl) ?_
          refine lv_iload_n hx hb dX6_promise_58 rfl (lv_at hl 1 rfl) ?_
          refine lv_bipush (v := 8) hx hb dX6_promise_59 (by decide) ?_
          obtain ⟨v19, h_20, hm⟩ := b1_s hm
          refine rd_v hcf (kX6_its h_20) (cwX6_promise_X6_its hts) hK hP Sb.rf (ci := 6) (q0 := 0) rfl rfl rfl hl.1 rfl (Nat.le_of_ble_eq_true rfl) dX6_promise_61 ⟨Nat.zero_le _, Nat.zero_le _⟩ ?_
          refine lv_iconst (v := 2) hx hb dX6_promise_64 (by decide) ?_
          refine lv_icmp_lt (tgt := 71) hx hb dX6_promise_65 (by decide) (fun c_21 => ?_) (fun c_21 => ?_)
          · replace hm := br_p hm c_21
            refine lv_aload_n hx hb dX6_promise_71 rfl (lv_at hl 0 rfl) ?_
            refine lv_iload_n hx hb dX6_promise_72 rfl (lv_at hl 1 rfl) ?_
            obtain ⟨v22, h_23, hm⟩ := b1_s hm
            refine rd_v hcf (kX6_isAtCourt h_23) (cwX6_promise_X6_isAtCourt hts) hK hP Sb.rf (ci := 6) (q0 := 0) rfl rfl rfl hl.1 rfl (Nat.le_of_ble_eq_true rfl) dX6_promise_73 ⟨Nat.zero_le _, Nat.zero_le _⟩ ?_
            refine lv_if_eq (tgt := 82) hx hb dX6_promise_76 (by decide) (fun c_24 => ?_) (fun c_24 => ?_)
            · replace hm := br_p hm c_24
              refine lv_aload_n hx hb dX6_promise_82 rfl (lv_at hl 0 rfl) ?_
              obtain ⟨snm25, sn26, h_27, hm⟩ := b2_s hm
              refine mu_vv hcf (kX6_snap h_27) (cwX6_promise_X6_snap hts) hK hP hD hS hA Jn.rf (ci := 6) (q0 := 0) rfl rfl rfl hl.1 rfl (Nat.le_of_ble_eq_true rfl) dX6_promise_83 ⟨Nat.zero_le _, Nat.zero_le _⟩ (fun H locs hP hD hS => ?_)
              refine lv_aload_n hx hb dX6_promise_86 rfl (lv_at hl 0 rfl) ?_
              refine lv_iload_n hx hb dX6_promise_87 rfl (lv_at hl 1 rfl) ?_
              refine lv_iconst (v := 5) hx hb dX6_promise_88 (by decide) ?_
              refine lv_iload_n hx hb dX6_promise_89 rfl (lv_at hl 2 rfl) ?_
              obtain ⟨nw28, h_29, hm⟩ := b1_s hm
              refine mu_vv hcf (kX6_puts h_29) (cwX6_promise_X6_puts hts) hK hP hD hS hA Jn.rf (ci := 6) (q0 := 0) rfl rfl rfl hl.1 rfl (Nat.le_of_ble_eq_true rfl) dX6_promise_90 ⟨Nat.zero_le _, Nat.zero_le _⟩ (fun H locs hP hD hS => ?_)
              refine lv_aload_n hx hb dX6_promise_93 rfl (lv_at hl 0 rfl) ?_
              refine lv_iload_n hx hb dX6_promise_94 rfl (lv_at hl 1 rfl) ?_
              refine lv_bipush (v := 6) hx hb dX6_promise_95 (by decide) ?_
              refine lv_iload_n hx hb dX6_promise_97 rfl (lv_at hl 3 rfl) ?_
              obtain ⟨nw30, h_31, hm⟩ := b1_s hm
              refine mu_vv hcf (kX6_puts h_31) (cwX6_promise_X6_puts hts) hK hP hD hS hA Jn.rf (ci := 6) (q0 := 0) rfl rfl rfl hl.1 rfl (Nat.le_of_ble_eq_true rfl) dX6_promise_98 ⟨Nat.zero_le _, Nat.zero_le _⟩ (fun H locs hP hD hS => ?_)
              refine lv_aload_n hx hb dX6_promise_101 rfl (lv_at hl 0 rfl) ?_
              refine lv_iload_n hx hb dX6_promise_102 rfl (lv_at hl 1 rfl) ?_
              refine lv_bipush (v := 7) hx hb dX6_promise_103 (by decide) ?_
              refine lv_iconst (v := 0) hx hb dX6_promise_105 (by decide) ?_
              obtain ⟨nw32, h_33, hm⟩ := b1_s hm
              refine mu_vv hcf (kX6_puts h_33) (cwX6_promise_X6_puts hts) hK hP hD hS hA Jn.rf (ci := 6) (q0 := 0) rfl rfl rfl hl.1 rfl (Nat.le_of_ble_eq_true rfl) dX6_promise_106 ⟨Nat.zero_le _, Nat.zero_le _⟩ (fun H locs hP hD hS => ?_)
              refine lv_iconst (v := 0) hx hb dX6_promise_109 (by decide) ?_
              cases hm
              exact hret _ _ _ _ dX6_promise_110 rfl hP hD hS
            · replace hm := br_n hm c_24
              refine lv_bipush (v := (-4)) hx hb dX6_promise_79 (by decide) ?_
              cases hm
              exact hret _ _ _ _ dX6_promise_81 rfl hP hD hS
          · replace hm := br_n hm c_21
            refine lv_bipush (v := (-3)) hx hb dX6_promise_68 (by decide) ?_
            cases hm
            exact hret _ _ _ _ dX6_promise_70 rfl hP hD hS
        · replace hm := br_n hm c_18
          refine lv_bipush (v := (-2)) hx hb dX6_promise_54 (by decide) ?_
          cases hm
          exact hret _ _ _ _ dX6_promise_56 rfl hP hD hS
      · replace hm := br_p hm c_15
        refine lv_iconst (v := (-1)) hx hb dX6_promise_44 (by decide) ?_
        cases hm
        exact hret _ _ _ _ dX6_promise_45 rfl hP hD hS
/-! X6 plan(III)I -/
abbrev rmX6_plan : Room := { frames := 3, cells := 0, slots := 0, locals := 67 }
theorem hdX6_plan : yX6_plan.cls = RX6 ∧ yX6_plan.cls ≠ "java/lang/invoke/MethodHandle" ∧ yX6_plan.cls ≠ "java/lang/invoke/VarHandle" ∧ (parseMethodDescriptor yX6_plan.desc).map (fun d => d.parameters.length) = some 3 := by decide +kernel
theorem inX6_plan_X6 : ∀ w ∈ u_ws RX6 TX6 20, w ∈ wsX6_plan := by decide +kernel
theorem cwX6_plan_X6_debt {s : State} {args : Array Value} (hts : ∀ w ∈ wsX6_plan, w.before args s = true) : CallW rmX6_plan s args RX6 RX6 167 yX6_debt cX6_debt 4 (some .int) wsX6_debt rmX6_debt 0 0 1 := cwV 1 hts gX6_plan_X6_debt rfl rfl rfl hdX6_debt ⟨Nat.le_of_ble_eq_true rfl, Nat.le_of_ble_eq_true rfl⟩
theorem cwX6_plan_X6_isAtCourt {s : State} {args : Array Value} (hts : ∀ w ∈ wsX6_plan, w.before args s = true) : CallW rmX6_plan s args RX6 RX6 180 yX6_isAtCourt cX6_isAtCourt 2 (some .boolean) wsX6_isAtCourt rmX6_isAtCourt 0 0 1 := cwV 1 hts gX6_plan_X6_isAtCourt rfl rfl rfl hdX6_isAtCourt ⟨Nat.le_of_ble_eq_true rfl, Nat.le_of_ble_eq_true rfl⟩
theorem cwX6_plan_X6_isDebtor {s : State} {args : Array Value} (hts : ∀ w ∈ wsX6_plan, w.before args s = true) : CallW rmX6_plan s args RX6 RX6 221 yX6_isDebtor cX6_isDebtor 2 (some .boolean) wsX6_isDebtor rmX6_isDebtor 0 0 1 := cwV 1 hts gX6_plan_X6_isDebtor rfl rfl rfl hdX6_isDebtor ⟨Nat.le_of_ble_eq_true rfl, Nat.le_of_ble_eq_true rfl⟩
theorem cwX6_plan_X6_isIn {s : State} {args : Array Value} (hts : ∀ w ∈ wsX6_plan, w.before args s = true) : CallB rmX6_plan s args RX6 85 yX6_isIn cX6_isIn 3 (some .boolean) wsX6_isIn rmX6_isIn 0 0 3 ∧ (Cond.static yX6_isIn).before args s = true := va_cwS 3 hts gX6_plan_X6_isIn rfl rfl rfl hdX6_isIn.2 ⟨Nat.le_of_ble_eq_true rfl, Nat.le_of_ble_eq_true rfl⟩
theorem cwX6_plan_X6_its {s : State} {args : Array Value} (hts : ∀ w ∈ wsX6_plan, w.before args s = true) : CallW rmX6_plan s args RX6 RX6 148 yX6_its cX6_its 3 (some .int) wsX6_its rmX6_its 0 0 2 := cwV 2 hts gX6_plan_X6_its rfl rfl rfl hdX6_its ⟨Nat.le_of_ble_eq_true rfl, Nat.le_of_ble_eq_true rfl⟩
theorem cwX6_plan_X6_puts {s : State} {args : Array Value} (hts : ∀ w ∈ wsX6_plan, w.before args s = true) : CallW rmX6_plan s args RX6 RX6 157 yX6_puts cX6_puts 4 none wsX6_puts rmX6_puts 0 0 3 := cwV 3 hts gX6_plan_X6_puts rfl rfl rfl hdX6_puts ⟨Nat.le_of_ble_eq_true rfl, Nat.le_of_ble_eq_true rfl⟩
theorem cwX6_plan_X6_snap {s : State} {args : Array Value} (hts : ∀ w ∈ wsX6_plan, w.before args s = true) : CallW rmX6_plan s args RX6 RX6 256 yX6_snap cX6_snap 2 none wsX6_snap rmX6_snap 0 0 0 := cwV 0 hts gX6_plan_X6_snap rfl rfl rfl hdX6_snap ⟨Nat.le_of_ble_eq_true rfl, Nat.le_of_ble_eq_true rfl⟩
theorem cwX6_plan_X6_today {s : State} {args : Array Value} (hts : ∀ w ∈ wsX6_plan, w.before args s = true) : CallW rmX6_plan s args RX6 RX6 173 yX6_today cX6_today 1 (some .int) wsX6_today rmX6_today 0 0 0 := cwV 0 hts gX6_plan_X6_today rfl rfl rfl hdX6_today ⟨Nat.le_of_ble_eq_true rfl, Nat.le_of_ble_eq_true rfl⟩
theorem fpX6_plan_1 : Fp wsX6_plan RX6 1 6 0 false .int := ⟨_, _, _, tyX6, rfl, by decide, inX6_plan_X6, by decide +kernel, tyX6_ok, nmX6, rfl, rfl, by decide +kernel⟩
set_option maxRecDepth 100000 in
set_option maxHeartbeats 4000000 in
theorem tX6_plan_L124 {ad : Nat → Nat} {tpd : Int32} {siz : Int32} {too : Int32} {frm : Int32} {srt : Int32} {num : Int32} {flt : Int32} {plc : Int32} {wrd : Int64} {lin : Int32} {stp : Int32} {sfo : Int32} {hst : Int32} {tp : Nat → Int32} {rd : Nat → Int32} {kp : Nat → Int32} {res : Int32} {thr' : Int32} {snm' : Int32} {nw' : Nat → Int32} {sn' : Nat → Int32} (C : Cx p s m args meth c cX6_plan (some .int) 6 wsX6_plan RX6 D cI cB cL cK) (hA : ∀ q : Nat, s.heap.size ≤ q → A q) (hret : ∀ (pc : Nat) (ls : Array Slot) (H : Heap) (locs : List Loc), decode cX6_plan pc = .ok (.ireturn, 1) → narrow .int (.int res) = .int res → va_P D vwCl (wM cI ad thr' tpd siz too frm srt num flt plc wrd snm' lin stp sfo hst tp nw' rd kp sn') H → va_D A (wM cI ad thr' tpd siz too frm srt num flt plc wrd snm' lin stp sfo hst tp nw' rd kp sn') → va_S A s.heap H locs → W p l e rmX6_plan s m args below meth c H locs 0 0 Q (F0 m pc ls [.int res])) : ∀ (n9 : Nat) (x1 : Int32) (x2 : Int32) (x4 : Int32) (x5 : Int32) (thr : Int32) (snm : Int32) (nw : Nat → Int32) (sn : Nat → Int32), mX6_plan_L124 n9 x1 x2 x4 x5 thr snm nw sn = some (res, thr', snm', nw', sn') → ∀ (H : Heap) (locs : List Loc) (ls : Array Slot), va_P D vwCl (wM cI ad thr tpd siz too frm srt num flt plc wrd snm lin stp sfo hst tp nw rd kp sn) H → va_D A (wM cI ad thr tpd siz too frm srt num flt plc wrd snm lin stp sfo hst tp nw rd kp sn) → va_S A s.heap H locs → lv_has ls 6 [(0, .ref (ad 0)), (1, .int x1), (2, .int x2), (4, .int x4), (5, .int x5)] → W p l e rmX6_plan s m args below meth c H locs 0 0 Q (F0 m 124 ls []) := by
  obtain ⟨hx, hb, hr, hml, hown, hts, hlk, hK⟩ := id C
  have hcf : CallFix p m c cX6_plan 6 s args wsX6_plan RX6 := ⟨hx, hb, hml, hown, hts⟩
  intro n9
  induction n9 with
  | zero => intro x1 x2 x4 x5 thr snm nw sn hm; cases hm
  | succ k ih =>
    intro x1 x2 x4 x5 thr snm nw sn hm H locs ls hP hD hS hl
    rw [mX6_plan_L124.eq_2] at hm
    refine lv_iload hx hb dX6_plan_124 (lv_at hl 4 rfl) ?_
    refine lv_iload_n hx hb dX6_plan_126 rfl (lv_at hl 2 rfl) ?_
    refine lv_icmp_ge (tgt := 165) hx hb dX6_plan_127 (by decide) (fun c_34 => ?_) (fun c_34 => ?_)
    · replace hm := br_p hm c_34
      refine lv_iconst (v := 0) hx hb dX6_plan_165 (by decide) ?_
      cases hm
      exact hret _ _ _ _ dX6_plan_166 rfl hP hD hS
    · replace hm := br_n hm c_34
      refine lv_aload_n hx hb dX6_plan_130 rfl (lv_at hl 0 rfl) ?_
      refine lv_iload_n hx hb dX6_plan_131 rfl (lv_at hl 1 rfl) ?_
      refine lv_bipush (v := 13) hx hb dX6_plan_132 (by decide) ?_
      refine lv_iload hx hb dX6_plan_134 (lv_at hl 4 rfl) ?_
      refine lv_iadd hx hb dX6_plan_136 ?_
      refine lv_iload hx hb dX6_plan_137 (lv_at hl 3 rfl) ?_
      refine lv_iload_n hx hb dX6_plan_139 rfl (lv_at hl 2 rfl) ?_
      obtain ⟨h_35, hm⟩ := ck_s hm
      refine lv_idiv hx hb dX6_plan_140 (ne_in h_35) ?_
      refine lv_iload hx hb dX6_plan_141 (lv_at hl 4 rfl) ?_
      refine lv_iload hx hb dX6_plan_143 (lv_at hl 3 rfl) ?_
      refine lv_iload_n hx hb dX6_plan_145 rfl (lv_at hl 2 rfl) ?_
      obtain ⟨h_36, hm⟩ := ck_s hm
      refine lv_irem hx hb dX6_plan_146 (ne_in h_36) ?_
      refine lv_icmp_ge (tgt := 154) hx hb dX6_plan_147 (by decide) (fun c_37 => ?_) (fun c_37 => ?_)
      · replace hm := br_p hm c_37
        refine lv_iconst (v := 0) hx hb dX6_plan_154 (by decide) ?_
        refine lv_iadd hx hb dX6_plan_155 ?_
        obtain ⟨nw38, h_39, hm⟩ := b1_s hm
        refine mu_vv hcf (kX6_puts h_39) (cwX6_plan_X6_puts hts) hK hP hD hS hA Jn.rf (ci := 6) (q0 := 0) rfl rfl rfl hl.1 rfl (Nat.le_of_ble_eq_true rfl) dX6_plan_156 ⟨Nat.zero_le _, Nat.zero_le _⟩ (fun H locs hP hD hS => ?_)
        refine lv_iinc (v := (x5 + 1)) (lv' := [(5, .int (x5 + 1)), (0, .ref (ad 0)), (1, .int x1), (2, .int x2), (4, .int x4)]) hx hb dX6_plan_159 hl (k := 4) rfl rfl (by decide) rfl (fun ls hl => ?_)
        refine lv_goto (tgt := 124) hx hb dX6_plan_162 (by decide) ?_
        exact ih _ _ _ _ _ _ _ _ hm _ _ _ hP hD hS (lv_sub hl [1, 2, 3, 4, 0] rfl)
      · replace hm := br_n hm c_37
        refine lv_iconst (v := 1) hx hb dX6_plan_150 (by decide) ?_
        refine lv_goto (tgt := 155) hx hb dX6_plan_151 (by decide) ?_
        refine lv_iadd hx hb dX6_plan_155 ?_
        obtain ⟨nw40, h_41, hm⟩ := b1_s hm
        refine mu_vv hcf (kX6_puts h_41) (cwX6_plan_X6_puts hts) hK hP hD hS hA Jn.rf (ci := 6) (q0 := 0) rfl rfl rfl hl.1 rfl (Nat.le_of_ble_eq_true rfl) dX6_plan_156 ⟨Nat.zero_le _, Nat.zero_le _⟩ (fun H locs hP hD hS => ?_)
        refine lv_iinc (v := (x5 + 1)) (lv' := [(5, .int (x5 + 1)), (0, .ref (ad 0)), (1, .int x1), (2, .int x2), (4, .int x4)]) hx hb dX6_plan_159 hl (k := 4) rfl rfl (by decide) rfl (fun ls hl => ?_)
        refine lv_goto (tgt := 124) hx hb dX6_plan_162 (by decide) ?_
        exact ih _ _ _ _ _ _ _ _ hm _ _ _ hP hD hS (lv_sub hl [1, 2, 3, 4, 0] rfl)
set_option maxRecDepth 100000 in
set_option maxHeartbeats 4000000 in
theorem kX6_plan {l : Launch} {D : va_G} {cI cB cL cK : ClassId} {ad : Nat → Nat} {thr : Int32} {tpd : Int32} {siz : Int32} {too : Int32} {frm : Int32} {srt : Int32} {num : Int32} {flt : Int32} {plc : Int32} {wrd : Int64} {snm : Int32} {lin : Int32} {stp : Int32} {sfo : Int32} {hst : Int32} {tp : Nat → Int32} {nw : Nat → Int32} {rd : Nat → Int32} {kp : Nat → Int32} {sn : Nat → Int32} {p1 : Int32} {p2 : Int32} {p3 : Int32} {res : Int32} {thr' : Int32} {snm' : Int32} {nw' : Nat → Int32} {sn' : Nat → Int32} (hm : mX6_plan thr snm nw sn p1 p2 p3 = some (res, thr', snm', nw', sn')) : Mu l D cI cB cL cK yX6_plan wsX6_plan rmX6_plan [.ref (ad 0), .int p1, .int p2, .int p3] (wM cI ad thr tpd siz too frm srt num flt plc wrd snm lin stp sfo hst tp nw rd kp sn) (wM cI ad thr' tpd siz too frm srt num flt plc wrd snm' lin stp sfo hst tp nw' rd kp sn') (some (.int res)) 0 0 := by
  refine Mu.ofi (cc := cX6_plan) (own := RX6) (by decide) rfl rfl (Nat.le_of_ble_eq_true rfl) (fun p e s m below meth c ls Q A C hA hP hD hS hl hret => ?_)
  obtain ⟨hx, hb, hr, hml, hown, hts, hlk, hK⟩ := id C
  have hcf : CallFix p m c cX6_plan 6 s _ wsX6_plan RX6 := ⟨hx, hb, hml, hown, hts⟩
  have hl : lv_has ls 6 [(0, .ref (ad 0)), (1, .int p1), (2, .int p2), (3, .int p3)] := hl
  unfold mX6_plan at hm
  refine lv_aload_n hx hb dX6_plan_0 rfl (lv_at hl 0 rfl) ?_
  refine lv_iconst (v := 0) hx hb dX6_plan_1 (by decide) ?_
  refine pf (q0 := 0) (X' := (wM cI ad 0 tpd siz too frm srt num flt plc wrd snm lin stp sfo hst tp nw rd kp sn)) hx hb hts hown hK fpX6_plan_1 hP hD hS rfl rfl rfl (Nat.le_of_ble_eq_true rfl) rfl dX6_plan_2 (fun H locs hP hD hS => ?_)
  refine lv_aload_n hx hb dX6_plan_5 rfl (lv_at hl 0 rfl) ?_
  refine lv_iload_n hx hb dX6_plan_6 rfl (lv_at hl 1 rfl) ?_
  obtain ⟨v1, h_2, hm⟩ := b1_s hm
  refine rd_v hcf (kX6_isDebtor h_2) (cwX6_plan_X6_isDebtor hts) hK hP Sb.rf (ci := 6) (q0 := 0) rfl rfl rfl hl.1 rfl (Nat.le_of_ble_eq_true rfl) dX6_plan_7 ⟨Nat.zero_le _, Nat.zero_le _⟩ ?_
  refine lv_if_eq (tgt := 33) hx hb dX6_plan_10 (by decide) (fun c_3 => ?_) (fun c_3 => ?_)
  · replace hm := br_p hm c_3
    refine lv_iconst (v := (-1)) hx hb dX6_plan_33 (by decide) ?_
    cases hm
    exact hret _ _ _ _ dX6_plan_34 rfl hP hD hS
  · replace hm := br_n hm c_3
    refine lv_iload_n hx hb dX6_plan_13 rfl (lv_at hl 2 rfl) ?_
    refine lv_iconst (v := 2) hx hb dX6_plan_14 (by decide) ?_
    refine lv_bipush (v := 12) hx hb dX6_plan_15 (by decide) ?_
    obtain ⟨v4, h_5, hm⟩ := b1_s hm
    refine rd_s hcf (kX6_isIn h_5) (cwX6_plan_X6_isIn hts) hK hP Sb.nil rfl hl.1 rfl (Nat.le_of_ble_eq_true rfl) dX6_plan_17 ⟨Nat.zero_le _, Nat.zero_le _⟩ ?_
    refine lv_if_eq (tgt := 33) hx hb dX6_plan_20 (by decide) (fun c_6 => ?_) (fun c_6 => ?_)
    · replace hm := br_p hm c_6
      refine lv_iconst (v := (-1)) hx hb dX6_plan_33 (by decide) ?_
      cases hm
      exact hret _ _ _ _ dX6_plan_34 rfl hP hD hS
    · replace hm := br_n hm c_6
      refine lv_iload_n hx hb dX6_plan_23 rfl (lv_at hl 3 rfl) ?_
      refine lv_iconst (v := 1) hx hb dX6_plan_24 (by decide) ?_
      refine lv_bipush (v := 30) hx hb dX6_plan_25 (by decide) ?_
      obtain ⟨v7, h_8, hm⟩ := b1_s hm
      refine rd_s hcf (kX6_isIn h_8) (cwX6_plan_X6_isIn hts) hK hP Sb.nil rfl hl.1 rfl (Nat.le_of_ble_eq_true rfl) dX6_plan_27 ⟨Nat.zero_le _, Nat.zero_le _⟩ ?_
      refine lv_if_ne (tgt := 35) hx hb dX6_plan_30 (by decide) (fun c_9 => ?_) (fun c_9 => ?_)
      · replace hm := br_n hm c_9
        refine lv_aload_n hx hb dX6_plan_35 rfl (lv_at hl 0 rfl) ?_
        refine lv_iload_n hx hb dX6_plan_36 rfl (lv_at hl 1 rfl) ?_
        refine lv_bipush (v := 9) hx hb dX6_plan_37 (by decide) ?_
        obtain ⟨v10, h_11, hm⟩ := b1_s hm
        refine rd_v hcf (kX6_its h_11) (cwX6_plan_X6_its hts) hK hP Sb.rf (ci := 6) (q0 := 0) rfl rfl rfl hl.1 rfl (Nat.le_of_ble_eq_true rfl) dX6_plan_39 ⟨Nat.zero_le _, Nat.zero_le _⟩ ?_
        refine lv_if_le (tgt := 48) hx hb dX6_plan_42 (by decide) (fun c_12 => ?_) (fun c_12 => ?_)
        · replace hm := br_p hm c_12
          refine lv_aload_n hx hb dX6_plan_48 rfl (lv_at hl 0 rfl) ?_
          refine lv_iload_n hx hb dX6_plan_49 rfl (lv_at hl 1 rfl) ?_
          obtain ⟨v13, h_14, hm⟩ := b1_s hm
          refine rd_v hcf (kX6_debt h_14) (cwX6_plan_X6_debt hts) hK hP Sb.rf (ci := 6) (q0 := 0) rfl rfl rfl hl.1 rfl (Nat.le_of_ble_eq_true rfl) dX6_plan_50 ⟨Nat.zero_le _, Nat.zero_le _⟩ ?_
          refine lv_istore (lv' := [(4, .int v13), (0, .ref (ad 0)), (1, .int p1), (2, .int p2), (3, .int p3)]) hx hb dX6_plan_53 hl (by decide) rfl (fun ls hl => ?_)
          refine lv_iload hx hb dX6_plan_55 (lv_at hl 0 rfl) ?_
          refine lv_iload_n hx hb dX6_plan_57 rfl (lv_at hl 3 rfl) ?_
          refine lv_icmp_ge (tgt := 64) hx hb dX6_plan_58 (by decide) (fun c_15 => ?_) (fun c_15 => ?_)
          · replace hm := br_p hm c_15
            refine lv_aload_n hx hb dX6_plan_64 rfl (lv_at hl 1 rfl) ?_
            refine lv_iload_n hx hb dX6_plan_65 rfl (lv_at hl 2 rfl) ?_
            obtain ⟨v16, h_17, hm⟩ := b1_s hm
            refine rd_v hcf (kX6_isAtCourt h_17) (cwX6_plan_X6_isAtCourt hts) hK hP Sb.rf (ci := 6) (q0 := 0) rfl rfl rfl hl.1 rfl (Nat.le_of_ble_eq_true rfl) dX6_plan_66 ⟨Nat.zero_le _, Nat.zero_le _⟩ ?_
            refine lv_if_eq (tgt := 75) hx hb dX6_plan_69 (by decide) (fun c_18 => ?_) (fun c_18 => ?_)
            · replace hm := br_p hm c_18
              refine lv_aload_n hx hb dX6_plan_75 rfl (lv_at hl 1 rfl) ?_
              obtain ⟨snm19, sn20, h_21, hm⟩ := b2_s hm
              refine mu_vv hcf (kX6_snap h_21) (cwX6_plan_X6_snap hts) hK hP hD hS hA Jn.rf (ci := 6) (q0 := 0) rfl rfl rfl hl.1 rfl (Nat.le_of_ble_eq_true rfl) dX6_plan_76 ⟨Nat.zero_le _, Nat.zero_le _⟩ (fun H locs hP hD hS => ?_)
              refine lv_aload_n hx hb dX6_plan_79 rfl (lv_at hl 1 rfl) ?_
              refine lv_iload_n hx hb dX6_plan_80 rfl (lv_at hl 2 rfl) ?_
              refine lv_iconst (v := 5) hx hb dX6_plan_81 (by decide) ?_
              refine lv_iconst (v := 0) hx hb dX6_plan_82 (by decide) ?_
              obtain ⟨nw22, h_23, hm⟩ := b1_s hm
              refine mu_vv hcf (kX6_puts h_23) (cwX6_plan_X6_puts hts) hK hP hD hS hA Jn.rf (ci := 6) (q0 := 0) rfl rfl rfl hl.1 rfl (Nat.le_of_ble_eq_true rfl) dX6_plan_83 ⟨Nat.zero_le _, Nat.zero_le _⟩ (fun H locs hP hD hS => ?_)
              refine lv_aload_n hx hb dX6_plan_86 rfl (lv_at hl 1 rfl) ?_
              refine lv_iload_n hx hb dX6_plan_87 rfl (lv_at hl 2 rfl) ?_
              refine lv_bipush (v := 9) hx hb dX6_plan_88 (by decide) ?_
              refine lv_iload_n hx hb dX6_plan_90 rfl (lv_at hl 3 rfl) ?_
              obtain ⟨nw24, h_25, hm⟩ := b1_s hm
              refine mu_vv hcf (kX6_puts h_25) (cwX6_plan_X6_puts hts) hK hP hD hS hA Jn.rf (ci := 6) (q0 := 0) rfl rfl rfl hl.1 rfl (Nat.le_of_ble_eq_true rfl) dX6_plan_91 ⟨Nat.zero_le _, Nat.zero_le _⟩ (fun H locs hP hD hS => ?_)
              refine lv_aload_n hx hb dX6_plan_94 rfl (lv_at hl 1 rfl) ?_
              refine lv_iload_n hx hb dX6_plan_95 rfl (lv_at hl 2 rfl) ?_
              refine lv_bipush (v := 10) hx hb dX6_plan_96 (by decide) ?_
              refine lv_aload_n hx hb dX6_plan_98 rfl (lv_at hl 1 rfl) ?_
              obtain ⟨v26, h_27, hm⟩ := b1_s hm
              refine rd_v hcf (kX6_today h_27) (cwX6_plan_X6_today hts) hK hP Sb.rf (ci := 6) (q0 := 0) rfl rfl rfl hl.1 rfl (Nat.le_of_ble_eq_true rfl) dX6_plan_99 ⟨Nat.zero_le _, Nat.zero_le _⟩ ?_
              obtain ⟨nw28, h_29, hm⟩ := b1_s hm
              refine mu_vv hcf (kX6_puts h_29) (cwX6_plan_X6_puts hts) hK hP hD hS hA Jn.rf (ci := 6) (q0 := 0) rfl rfl rfl hl.1 rfl (Nat.le_of_ble_eq_true rfl) dX6_plan_102 ⟨Nat.zero_le _, Nat.zero_le _⟩ (fun H locs hP hD hS => ?_)
              refine lv_aload_n hx hb dX6_plan_105 rfl (lv_at hl 1 rfl) ?_
              refine lv_iload_n hx hb dX6_plan_106 rfl (lv_at hl 2 rfl) ?_
              refine lv_bipush (v := 11) hx hb dX6_plan_107 (by decide) ?_
              refine lv_iload_n hx hb dX6_plan_109 rfl (lv_at hl 4 rfl) ?_
              obtain ⟨nw30, h_31, hm⟩ := b1_s hm
              refine mu_vv hcf (kX6_puts h_31) (cwX6_plan_X6_puts hts) hK hP hD hS hA Jn.rf (ci := 6) (q0 := 0) rfl rfl rfl hl.1 rfl (Nat.le_of_ble_eq_true rfl) dX6_plan_110 ⟨Nat.zero_le _, Nat.zero_le _⟩ (fun H locs hP hD hS => ?_)
              refine lv_aload_n hx hb dX6_plan_113 rfl (lv_at hl 1 rfl) ?_
              refine lv_iload_n hx hb dX6_plan_114 rfl (lv_at hl 2 rfl) ?_
              refine lv_bipush (v := 12) hx hb dX6_plan_115 (by decide) ?_
              refine lv_iconst (v := 0) hx hb dX6_plan_117 (by decide) ?_
              obtain ⟨nw32, h_33, hm⟩ := b1_s hm
              refine mu_vv hcf (kX6_puts h_33) (cwX6_plan_X6_puts hts) hK hP hD hS hA Jn.rf (ci := 6) (q0 := 0) rfl rfl rfl hl.1 rfl (Nat.le_of_ble_eq_true rfl) dX6_plan_118 ⟨Nat.zero_le _, Nat.zero_le _⟩ (fun H locs hP hD hS => ?_)
              refine lv_iconst (v := 0) hx hb dX6_plan_121 (by decide) ?_
              refine lv_istore (lv' := [(5, .int 0), (4, .int v13), (0, .ref (ad 0)), (1, .int p1), (2, .int p2), (3, .int p3)]) hx hb dX6_plan_122 hl (by decide) rfl (fun ls hl => ?_)
              exact tX6_plan_L124 C hA hret _ _ _ _ _ _ _ _ _ hm _ _ _ hP hD hS (lv_sub hl [2, 3, 4, 1, 0] rfl)
            · replace hm := br_n hm c_18
              refine lv_bipush (v := (-4)) hx hb dX6_plan_72 (by decide) ?_
              cases hm
              exact hret _ _ _ _ dX6_plan_74 rfl hP hD hS
          · replace hm := br_n hm c_15
            refine lv_bipush (v := (-3)) hx hb dX6_plan_61 (by decide) ?_
            cases hm
            exact hret _ _ _ _ dX6_plan_63 rfl hP hD hS
        · replace hm := br_n hm c_12
          refine lv_bipush (v := (-2)) hx hb dX6_plan_45 (by decide) ?_
          cases hm
          exact hret _ _ _ _ dX6_plan_47 rfl hP hD hS
      · replace hm := br_p hm c_9
        refine lv_iconst (v := (-1)) hx hb dX6_plan_33 (by decide) ?_
        cases hm
        exact hret _ _ _ _ dX6_plan_34 rfl hP hD hS
/-! X6 asks(II)I -/
abbrev rmX6_asks : Room := { frames := 4, cells := 0, slots := 0, locals := 91 }
theorem hdX6_asks : yX6_asks.cls = RX6 ∧ yX6_asks.cls ≠ "java/lang/invoke/MethodHandle" ∧ yX6_asks.cls ≠ "java/lang/invoke/VarHandle" ∧ (parseMethodDescriptor yX6_asks.desc).map (fun d => d.parameters.length) = some 2 := by decide +kernel
theorem inX6_asks_X6 : ∀ w ∈ u_ws RX6 TX6 20, w ∈ wsX6_asks := by decide +kernel
theorem cwX6_asks_X6_isDebtor {s : State} {args : Array Value} (hts : ∀ w ∈ wsX6_asks, w.before args s = true) : CallW rmX6_asks s args RX6 RX6 221 yX6_isDebtor cX6_isDebtor 2 (some .boolean) wsX6_isDebtor rmX6_isDebtor 0 0 1 := cwV 1 hts gX6_asks_X6_isDebtor rfl rfl rfl hdX6_isDebtor ⟨Nat.le_of_ble_eq_true rfl, Nat.le_of_ble_eq_true rfl⟩
theorem cwX6_asks_X6_isIn {s : State} {args : Array Value} (hts : ∀ w ∈ wsX6_asks, w.before args s = true) : CallB rmX6_asks s args RX6 85 yX6_isIn cX6_isIn 3 (some .boolean) wsX6_isIn rmX6_isIn 0 0 3 ∧ (Cond.static yX6_isIn).before args s = true := va_cwS 3 hts gX6_asks_X6_isIn rfl rfl rfl hdX6_isIn.2 ⟨Nat.le_of_ble_eq_true rfl, Nat.le_of_ble_eq_true rfl⟩
theorem cwX6_asks_X6_releases {s : State} {args : Array Value} (hts : ∀ w ∈ wsX6_asks, w.before args s = true) : CallW rmX6_asks s args RX6 RX6 209 yX6_releases cX6_releases 4 (some .int) wsX6_releases rmX6_releases 0 0 1 := cwV 1 hts gX6_asks_X6_releases rfl rfl rfl hdX6_releases ⟨Nat.le_of_ble_eq_true rfl, Nat.le_of_ble_eq_true rfl⟩
theorem cwX6_asks_X6_snap {s : State} {args : Array Value} (hts : ∀ w ∈ wsX6_asks, w.before args s = true) : CallW rmX6_asks s args RX6 RX6 256 yX6_snap cX6_snap 2 none wsX6_snap rmX6_snap 0 0 0 := cwV 0 hts gX6_asks_X6_snap rfl rfl rfl hdX6_snap ⟨Nat.le_of_ble_eq_true rfl, Nat.le_of_ble_eq_true rfl⟩
theorem flX6_asks_70 : Fl wsX6_asks RX6 70 6 11 := ⟨_, _, _, rfl, by decide, inX6_asks_X6, by decide +kernel⟩
theorem fpX6_asks_1 : Fp wsX6_asks RX6 1 6 0 false .int := ⟨_, _, _, tyX6, rfl, by decide, inX6_asks_X6, by decide +kernel, tyX6_ok, nmX6, rfl, rfl, by decide +kernel⟩
set_option maxRecDepth 100000 in
set_option maxHeartbeats 4000000 in
theorem kX6_asks {l : Launch} {D : va_G} {cI cB cL cK : ClassId} {ad : Nat → Nat} {thr : Int32} {tpd : Int32} {siz : Int32} {too : Int32} {frm : Int32} {srt : Int32} {num : Int32} {flt : Int32} {plc : Int32} {wrd : Int64} {snm : Int32} {lin : Int32} {stp : Int32} {sfo : Int32} {hst : Int32} {tp : Nat → Int32} {nw : Nat → Int32} {rd : Nat → Int32} {kp : Nat → Int32} {sn : Nat → Int32} {p1 : Int32} {p2 : Int32} {res : Int32} {thr' : Int32} {snm' : Int32} {nw' : Nat → Int32} {sn' : Nat → Int32} (hm : mX6_asks thr snm nw sn p1 p2 = some (res, thr', snm', nw', sn')) : Mu l D cI cB cL cK yX6_asks wsX6_asks rmX6_asks [.ref (ad 0), .int p1, .int p2] (wM cI ad thr tpd siz too frm srt num flt plc wrd snm lin stp sfo hst tp nw rd kp sn) (wM cI ad thr' tpd siz too frm srt num flt plc wrd snm' lin stp sfo hst tp nw' rd kp sn') (some (.int res)) 0 0 := by
  refine Mu.ofi (cc := cX6_asks) (own := RX6) (by decide) rfl rfl (Nat.le_of_ble_eq_true rfl) (fun p e s m below meth c ls Q A C hA hP hD hS hl hret => ?_)
  obtain ⟨hx, hb, hr, hml, hown, hts, hlk, hK⟩ := id C
  have hcf : CallFix p m c cX6_asks 4 s _ wsX6_asks RX6 := ⟨hx, hb, hml, hown, hts⟩
  have hl : lv_has ls 4 [(0, .ref (ad 0)), (1, .int p1), (2, .int p2)] := hl
  unfold mX6_asks at hm
  refine lv_aload_n hx hb dX6_asks_0 rfl (lv_at hl 0 rfl) ?_
  refine lv_iconst (v := 0) hx hb dX6_asks_1 (by decide) ?_
  refine pf (q0 := 0) (X' := (wM cI ad 0 tpd siz too frm srt num flt plc wrd snm lin stp sfo hst tp nw rd kp sn)) hx hb hts hown hK fpX6_asks_1 hP hD hS rfl rfl rfl (Nat.le_of_ble_eq_true rfl) rfl dX6_asks_2 (fun H locs hP hD hS => ?_)
  refine lv_aload_n hx hb dX6_asks_5 rfl (lv_at hl 0 rfl) ?_
  refine lv_iload_n hx hb dX6_asks_6 rfl (lv_at hl 1 rfl) ?_
  obtain ⟨v1, h_2, hm⟩ := b1_s hm
  refine rd_v hcf (kX6_isDebtor h_2) (cwX6_asks_X6_isDebtor hts) hK hP Sb.rf (ci := 6) (q0 := 0) rfl rfl rfl hl.1 rfl (Nat.le_of_ble_eq_true rfl) dX6_asks_7 ⟨Nat.zero_le _, Nat.zero_le _⟩ ?_
  refine lv_if_eq (tgt := 24) hx hb dX6_asks_10 (by decide) (fun c_3 => ?_) (fun c_3 => ?_)
  · replace hm := br_p hm c_3
    refine lv_iconst (v := (-1)) hx hb dX6_asks_24 (by decide) ?_
    cases hm
    exact hret _ _ _ _ dX6_asks_25 rfl hP hD hS
  · replace hm := br_n hm c_3
    refine lv_iload_n hx hb dX6_asks_13 rfl (lv_at hl 2 rfl) ?_
    refine lv_iconst (v := 1) hx hb dX6_asks_14 (by decide) ?_
    refine lv_sipush (v := 9999) hx hb dX6_asks_15 (by decide) ?_
    obtain ⟨v4, h_5, hm⟩ := b1_s hm
    refine rd_s hcf (kX6_isIn h_5) (cwX6_asks_X6_isIn hts) hK hP Sb.nil rfl hl.1 rfl (Nat.le_of_ble_eq_true rfl) dX6_asks_18 ⟨Nat.zero_le _, Nat.zero_le _⟩ ?_
    refine lv_if_ne (tgt := 26) hx hb dX6_asks_21 (by decide) (fun c_6 => ?_) (fun c_6 => ?_)
    · replace hm := br_n hm c_6
      refine lv_aload_n hx hb dX6_asks_26 rfl (lv_at hl 0 rfl) ?_
      refine gf (q0 := 0) hx hb hts hown hK flX6_asks_70 hP rfl rfl dX6_asks_27 ?_
      refine lv_iconst (v := 5) hx hb dX6_asks_30 (by decide) ?_
      refine ald (q0 := 2) (k := 5) hx hb hK hP rfl (by decide) (by decide) dX6_asks_31 ?_
      refine lv_bipush (v := 40) hx hb dX6_asks_32 (by decide) ?_
      refine lv_icmp_ne (tgt := 40) hx hb dX6_asks_34 (by decide) (fun c_7 => ?_) (fun c_7 => ?_)
      · replace hm := br_n hm c_7
        refine lv_aload_n hx hb dX6_asks_40 rfl (lv_at hl 0 rfl) ?_
        obtain ⟨snm8, sn9, h_10, hm⟩ := b2_s hm
        refine mu_vv hcf (kX6_snap h_10) (cwX6_asks_X6_snap hts) hK hP hD hS hA Jn.rf (ci := 6) (q0 := 0) rfl rfl rfl hl.1 rfl (Nat.le_of_ble_eq_true rfl) dX6_asks_41 ⟨Nat.zero_le _, Nat.zero_le _⟩ (fun H locs hP hD hS => ?_)
        refine lv_sipush (v := 625) hx hb dX6_asks_44 (by decide) ?_
        refine lv_iconst (v := 4) hx hb dX6_asks_47 (by decide) ?_
        refine lv_aload_n hx hb dX6_asks_48 rfl (lv_at hl 0 rfl) ?_
        refine gf (q0 := 0) hx hb hts hown hK flX6_asks_70 hP rfl rfl dX6_asks_49 ?_
        refine lv_iconst (v := 5) hx hb dX6_asks_52 (by decide) ?_
        refine ald (q0 := 2) (k := 5) hx hb hK hP rfl (by decide) (by decide) dX6_asks_53 ?_
        refine lv_imul hx hb dX6_asks_54 ?_
        refine lv_iadd hx hb dX6_asks_55 ?_
        refine lv_istore_n (lv' := [(3, .int (625 + (4 * (nw 5)))), (0, .ref (ad 0)), (1, .int p1), (2, .int p2)]) hx hb dX6_asks_56 rfl hl (by decide) rfl (fun ls hl => ?_)
        refine lv_aload_n hx hb dX6_asks_57 rfl (lv_at hl 1 rfl) ?_
        refine gf (q0 := 0) hx hb hts hown hK flX6_asks_70 hP rfl rfl dX6_asks_58 ?_
        refine lv_iload_n hx hb dX6_asks_61 rfl (lv_at hl 0 rfl) ?_
        refine lv_iconst (v := 0) hx hb dX6_asks_62 (by decide) ?_
        refine lv_iadd hx hb dX6_asks_63 ?_
        refine lv_iload_n hx hb dX6_asks_64 rfl (lv_at hl 2 rfl) ?_
        obtain ⟨h_11, hm⟩ := ck_s hm
        refine ast (q0 := 2) (k := (((625 + (4 * (nw 5))) + 0) : Int32).toNatClampNeg) (X' := (wM cI ad 0 tpd siz too frm srt num flt plc wrd snm8 lin stp sfo hst tp (upd nw ((((625 + (4 * (nw 5))) + 0) : Int32).toNatClampNeg) p1) rd kp sn9)) hx hb hK hP hD hS rfl h_11 rfl rfl dX6_asks_65 (fun H locs hP hD hS => ?_)
        refine lv_aload_n hx hb dX6_asks_66 rfl (lv_at hl 1 rfl) ?_
        refine gf (q0 := 0) hx hb hts hown hK flX6_asks_70 hP rfl rfl dX6_asks_67 ?_
        refine lv_iload_n hx hb dX6_asks_70 rfl (lv_at hl 0 rfl) ?_
        refine lv_iconst (v := 1) hx hb dX6_asks_71 (by decide) ?_
        refine lv_iadd hx hb dX6_asks_72 ?_
        refine lv_iload_n hx hb dX6_asks_73 rfl (lv_at hl 3 rfl) ?_
        obtain ⟨h_12, hm⟩ := ck_s hm
        refine ast (q0 := 2) (k := (((625 + (4 * (nw 5))) + 1) : Int32).toNatClampNeg) (X' := (wM cI ad 0 tpd siz too frm srt num flt plc wrd snm8 lin stp sfo hst tp (upd (upd nw ((((625 + (4 * (nw 5))) + 0) : Int32).toNatClampNeg) p1) ((((625 + (4 * (nw 5))) + 1) : Int32).toNatClampNeg) p2) rd kp sn9)) hx hb hK hP hD hS rfl h_12 rfl rfl dX6_asks_74 (fun H locs hP hD hS => ?_)
        refine lv_aload_n hx hb dX6_asks_75 rfl (lv_at hl 1 rfl) ?_
        refine gf (q0 := 0) hx hb hts hown hK flX6_asks_70 hP rfl rfl dX6_asks_76 ?_
        refine lv_iload_n hx hb dX6_asks_79 rfl (lv_at hl 0 rfl) ?_
        refine lv_iconst (v := 2) hx hb dX6_asks_80 (by decide) ?_
        refine lv_iadd hx hb dX6_asks_81 ?_
        refine lv_iconst (v := 0) hx hb dX6_asks_82 (by decide) ?_
        obtain ⟨h_13, hm⟩ := ck_s hm
        refine ast (q0 := 2) (k := (((625 + (4 * (nw 5))) + 2) : Int32).toNatClampNeg) (X' := (wM cI ad 0 tpd siz too frm srt num flt plc wrd snm8 lin stp sfo hst tp (upd (upd (upd nw ((((625 + (4 * (nw 5))) + 0) : Int32).toNatClampNeg) p1) ((((625 + (4 * (nw 5))) + 1) : Int32).toNatClampNeg) p2) ((((625 + (4 * (nw 5))) + 2) : Int32).toNatClampNeg) 0) rd kp sn9)) hx hb hK hP hD hS rfl h_13 rfl rfl dX6_asks_83 (fun H locs hP hD hS => ?_)
        refine lv_aload_n hx hb dX6_asks_84 rfl (lv_at hl 1 rfl) ?_
        refine gf (q0 := 0) hx hb hts hown hK flX6_asks_70 hP rfl rfl dX6_asks_85 ?_
        refine lv_iload_n hx hb dX6_asks_88 rfl (lv_at hl 0 rfl) ?_
        refine lv_iconst (v := 3) hx hb dX6_asks_89 (by decide) ?_
        refine lv_iadd hx hb dX6_asks_90 ?_
        refine lv_iconst (v := (-1)) hx hb dX6_asks_91 (by decide) ?_
        obtain ⟨h_14, hm⟩ := ck_s hm
        refine ast (q0 := 2) (k := (((625 + (4 * (nw 5))) + 3) : Int32).toNatClampNeg) (X' := (wM cI ad 0 tpd siz too frm srt num flt plc wrd snm8 lin stp sfo hst tp (upd (upd (upd (upd nw ((((625 + (4 * (nw 5))) + 0) : Int32).toNatClampNeg) p1) ((((625 + (4 * (nw 5))) + 1) : Int32).toNatClampNeg) p2) ((((625 + (4 * (nw 5))) + 2) : Int32).toNatClampNeg) 0) ((((625 + (4 * (nw 5))) + 3) : Int32).toNatClampNeg) (-1)) rd kp sn9)) hx hb hK hP hD hS rfl h_14 rfl rfl dX6_asks_92 (fun H locs hP hD hS => ?_)
        refine lv_aload_n hx hb dX6_asks_93 rfl (lv_at hl 1 rfl) ?_
        refine gf (q0 := 0) hx hb hts hown hK flX6_asks_70 hP rfl rfl dX6_asks_94 ?_
        refine lv_iconst (v := 5) hx hb dX6_asks_97 (by decide) ?_
        refine lv_dup2_11 hx hb dX6_asks_98 rfl rfl ?_
        refine ald (q0 := 2) (k := 5) hx hb hK hP rfl (by decide) (by decide) dX6_asks_99 ?_
        refine lv_iconst (v := 1) hx hb dX6_asks_100 (by decide) ?_
        refine lv_iadd hx hb dX6_asks_101 ?_
        refine ast (q0 := 2) (k := 5) (X' := (wM cI ad 0 tpd siz too frm srt num flt plc wrd snm8 lin stp sfo hst tp (upd (upd (upd (upd (upd nw ((((625 + (4 * (nw 5))) + 0) : Int32).toNatClampNeg) p1) ((((625 + (4 * (nw 5))) + 1) : Int32).toNatClampNeg) p2) ((((625 + (4 * (nw 5))) + 2) : Int32).toNatClampNeg) 0) ((((625 + (4 * (nw 5))) + 3) : Int32).toNatClampNeg) (-1)) 5 (((upd (upd (upd (upd nw ((((625 + (4 * (nw 5))) + 0) : Int32).toNatClampNeg) p1) ((((625 + (4 * (nw 5))) + 1) : Int32).toNatClampNeg) p2) ((((625 + (4 * (nw 5))) + 2) : Int32).toNatClampNeg) 0) ((((625 + (4 * (nw 5))) + 3) : Int32).toNatClampNeg) (-1)) 5) + 1)) rd kp sn9)) hx hb hK hP hD hS rfl (by decide) (by decide) rfl dX6_asks_102 (fun H locs hP hD hS => ?_)
        refine lv_aload_n hx hb dX6_asks_103 rfl (lv_at hl 1 rfl) ?_
        refine lv_iload_n hx hb dX6_asks_104 rfl (lv_at hl 2 rfl) ?_
        obtain ⟨v15, nw16, h_17, hm⟩ := b2_s hm
        refine mu_vi hcf (kX6_releases h_17) (cwX6_asks_X6_releases hts) hK hP hD hS hA Jn.rf (ci := 6) (q0 := 0) rfl rfl rfl hl.1 rfl (Nat.le_of_ble_eq_true rfl) dX6_asks_105 ⟨Nat.zero_le _, Nat.zero_le _⟩ (fun H locs hP hD hS => ?_)
        refine lv_pop hx hb dX6_asks_108 rfl ?_
        refine lv_aload_n hx hb dX6_asks_109 rfl (lv_at hl 1 rfl) ?_
        refine gf (q0 := 0) hx hb hts hown hK flX6_asks_70 hP rfl rfl dX6_asks_110 ?_
        refine lv_iconst (v := 5) hx hb dX6_asks_113 (by decide) ?_
        refine ald (q0 := 2) (k := 5) hx hb hK hP rfl (by decide) (by decide) dX6_asks_114 ?_
        refine lv_iconst (v := 1) hx hb dX6_asks_115 (by decide) ?_
        refine lv_isub hx hb dX6_asks_116 ?_
        cases hm
        exact hret _ _ _ _ dX6_asks_117 rfl hP hD hS
      · replace hm := br_p hm c_7
        refine lv_bipush (v := (-2)) hx hb dX6_asks_37 (by decide) ?_
        cases hm
        exact hret _ _ _ _ dX6_asks_39 rfl hP hD hS
    · replace hm := br_p hm c_6
      refine lv_iconst (v := (-1)) hx hb dX6_asks_24 (by decide) ?_
      cases hm
      exact hret _ _ _ _ dX6_asks_25 rfl hP hD hS
end
