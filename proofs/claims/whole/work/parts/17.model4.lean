section
variable {p : Program} {l : Launch} {e : Env} {s : State} {m : MethodId} {args : Array Value} {below : List Frame} {meth : Method} {c : Code} {Q : State → Prop} {A : Nat → Prop} {D : va_G} {cI cB cL cK : ClassId}
/-! X6 allOf(I)I -/
abbrev rmX6_allOf : Room := { frames := 2, cells := 0, slots := 0, locals := 45 }
theorem hdX6_allOf : yX6_allOf.cls = RX6 ∧ yX6_allOf.cls ≠ "java/lang/invoke/MethodHandle" ∧ yX6_allOf.cls ≠ "java/lang/invoke/VarHandle" ∧ (parseMethodDescriptor yX6_allOf.desc).map (fun d => d.parameters.length) = some 1 := by decide +kernel
theorem inX6_allOf_X6 : ∀ w ∈ u_ws RX6 TX6 20, w ∈ wsX6_allOf := by decide +kernel
theorem cwX6_allOf_X6_its {s : State} {args : Array Value} (hts : ∀ w ∈ wsX6_allOf, w.before args s = true) : CallW rmX6_allOf s args RX6 RX6 148 yX6_its cX6_its 3 (some .int) wsX6_its rmX6_its 0 0 2 := cwV 2 hts gX6_allOf_X6_its rfl rfl rfl hdX6_its ⟨Nat.le_of_ble_eq_true rfl, Nat.le_of_ble_eq_true rfl⟩
theorem cwX6_allOf_X6_owes {s : State} {args : Array Value} (hts : ∀ w ∈ wsX6_allOf, w.before args s = true) : CallW rmX6_allOf s args RX6 RX6 151 yX6_owes cX6_owes 4 (some .int) wsX6_owes rmX6_owes 0 0 1 := cwV 1 hts gX6_allOf_X6_owes rfl rfl rfl hdX6_owes ⟨Nat.le_of_ble_eq_true rfl, Nat.le_of_ble_eq_true rfl⟩
theorem flX6_allOf_70 : Fl wsX6_allOf RX6 70 6 11 := ⟨_, _, _, rfl, by decide, inX6_allOf_X6, by decide +kernel⟩
set_option maxRecDepth 100000 in
set_option maxHeartbeats 4000000 in
theorem tX6_allOf_L4 {ad : Nat → Nat} {thr : Int32} {tpd : Int32} {siz : Int32} {too : Int32} {frm : Int32} {srt : Int32} {num : Int32} {flt : Int32} {plc : Int32} {wrd : Int64} {snm : Int32} {lin : Int32} {stp : Int32} {sfo : Int32} {hst : Int32} {tp : Nat → Int32} {nw : Nat → Int32} {rd : Nat → Int32} {kp : Nat → Int32} {sn : Nat → Int32} {res : Int32} (C : Cx p s m args meth c cX6_allOf (some .int) 4 wsX6_allOf RX6 D cI cB cL cK) (hP : va_P D vwCl (wM cI ad thr tpd siz too frm srt num flt plc wrd snm lin stp sfo hst tp nw rd kp sn) s.heap) (hret : ∀ (pc : Nat) (ls : Array Slot), decode cX6_allOf pc = .ok (.ireturn, 1) → narrow .int (.int res) = .int res → W p l e rmX6_allOf s m args below meth c s.heap [] 0 0 Q (F0 m pc ls [.int res])) : ∀ (n9 : Nat) (x1 : Int32) (x2 : Int32) (x3 : Int32), mX6_allOf_L4 n9 nw x1 x2 x3 = some res → ∀ (ls : Array Slot), lv_has ls 4 [(0, .ref (ad 0)), (1, .int x1), (2, .int x2), (3, .int x3)] → W p l e rmX6_allOf s m args below meth c s.heap [] 0 0 Q (F0 m 4 ls []) := by
  obtain ⟨hx, hb, hr, hml, hown, hts, hlk, hK⟩ := id C
  have hcf : CallFix p m c cX6_allOf 4 s args wsX6_allOf RX6 := ⟨hx, hb, hml, hown, hts⟩
  intro n9
  induction n9 with
  | zero => intro x1 x2 x3 hm; cases hm
  | succ k ih =>
    intro x1 x2 x3 hm ls hl
    rw [mX6_allOf_L4.eq_2] at hm
    refine lv_iload_n hx hb dX6_allOf_4 rfl (lv_at hl 3 rfl) ?_
    refine lv_aload_n hx hb dX6_allOf_5 rfl (lv_at hl 0 rfl) ?_
    refine gf (q0 := 0) hx hb hts hown hK flX6_allOf_70 hP rfl rfl dX6_allOf_6 ?_
    refine lv_iconst (v := 3) hx hb dX6_allOf_9 (by decide) ?_
    refine ald (q0 := 2) (k := 3) hx hb hK hP rfl (by decide) (by decide) dX6_allOf_10 ?_
    refine lv_icmp_ge (tgt := 42) hx hb dX6_allOf_11 (by decide) (fun c_1 => ?_) (fun c_1 => ?_)
    · replace hm := br_p hm c_1
      refine lv_iload_n hx hb dX6_allOf_42 rfl (lv_at hl 2 rfl) ?_
      cases hm
      exact hret _ _ dX6_allOf_43 rfl
    · replace hm := br_n hm c_1
      refine lv_iload_n hx hb dX6_allOf_14 rfl (lv_at hl 2 rfl) ?_
      refine lv_iload_n hx hb dX6_allOf_15 rfl (lv_at hl 1 rfl) ?_
      refine lv_iconst (v := 2) hx hb dX6_allOf_16 (by decide) ?_
      refine lv_icmp_ne (tgt := 28) hx hb dX6_allOf_17 (by decide) (fun c_2 => ?_) (fun c_2 => ?_)
      · replace hm := br_n hm c_2
        refine lv_aload_n hx hb dX6_allOf_28 rfl (lv_at hl 0 rfl) ?_
        refine lv_iload_n hx hb dX6_allOf_29 rfl (lv_at hl 3 rfl) ?_
        refine lv_iload_n hx hb dX6_allOf_30 rfl (lv_at hl 1 rfl) ?_
        obtain ⟨v3, h_4, hm⟩ := b1_s hm
        refine rd_v hcf (kX6_its h_4) (cwX6_allOf_X6_its hts) hK hP Sb.rf (ci := 6) (q0 := 0) rfl rfl rfl hl.1 rfl (Nat.le_of_ble_eq_true rfl) dX6_allOf_31 ⟨Nat.zero_le _, Nat.zero_le _⟩ ?_
        refine lv_iadd hx hb dX6_allOf_34 ?_
        refine lv_istore_n (lv' := [(2, .int (x2 + v3)), (0, .ref (ad 0)), (1, .int x1), (3, .int x3)]) hx hb dX6_allOf_35 rfl hl (by decide) rfl (fun ls hl => ?_)
        refine lv_iinc (v := (x3 + 1)) (lv' := [(3, .int (x3 + 1)), (2, .int (x2 + v3)), (0, .ref (ad 0)), (1, .int x1)]) hx hb dX6_allOf_36 hl (k := 3) rfl rfl (by decide) rfl (fun ls hl => ?_)
        refine lv_goto (tgt := 4) hx hb dX6_allOf_39 (by decide) ?_
        exact ih _ _ _ hm _ (lv_sub hl [2, 3, 1, 0] rfl)
      · replace hm := br_p hm c_2
        refine lv_aload_n hx hb dX6_allOf_20 rfl (lv_at hl 0 rfl) ?_
        refine lv_iload_n hx hb dX6_allOf_21 rfl (lv_at hl 3 rfl) ?_
        obtain ⟨v5, h_6, hm⟩ := b1_s hm
        refine rd_v hcf (kX6_owes h_6) (cwX6_allOf_X6_owes hts) hK hP Sb.rf (ci := 6) (q0 := 0) rfl rfl rfl hl.1 rfl (Nat.le_of_ble_eq_true rfl) dX6_allOf_22 ⟨Nat.zero_le _, Nat.zero_le _⟩ ?_
        refine lv_goto (tgt := 34) hx hb dX6_allOf_25 (by decide) ?_
        refine lv_iadd hx hb dX6_allOf_34 ?_
        refine lv_istore_n (lv' := [(2, .int (x2 + v5)), (0, .ref (ad 0)), (1, .int x1), (3, .int x3)]) hx hb dX6_allOf_35 rfl hl (by decide) rfl (fun ls hl => ?_)
        refine lv_iinc (v := (x3 + 1)) (lv' := [(3, .int (x3 + 1)), (2, .int (x2 + v5)), (0, .ref (ad 0)), (1, .int x1)]) hx hb dX6_allOf_36 hl (k := 3) rfl rfl (by decide) rfl (fun ls hl => ?_)
        refine lv_goto (tgt := 4) hx hb dX6_allOf_39 (by decide) ?_
        exact ih _ _ _ hm _ (lv_sub hl [2, 3, 1, 0] rfl)
set_option maxRecDepth 100000 in
set_option maxHeartbeats 4000000 in
theorem kX6_allOf {l : Launch} {D : va_G} {cI cB cL cK : ClassId} {ad : Nat → Nat} {thr : Int32} {tpd : Int32} {siz : Int32} {too : Int32} {frm : Int32} {srt : Int32} {num : Int32} {flt : Int32} {plc : Int32} {wrd : Int64} {snm : Int32} {lin : Int32} {stp : Int32} {sfo : Int32} {hst : Int32} {tp : Nat → Int32} {nw : Nat → Int32} {rd : Nat → Int32} {kp : Nat → Int32} {sn : Nat → Int32} {p1 : Int32} {res : Int32} (hm : mX6_allOf nw p1 = some res) : Rd l D cI cB cL cK yX6_allOf wsX6_allOf rmX6_allOf [.ref (ad 0), .int p1] (wM cI ad thr tpd siz too frm srt num flt plc wrd snm lin stp sfo hst tp nw rd kp sn) res := by
  refine Rd.of (cc := cX6_allOf) (own := RX6) (by decide) rfl rfl (Nat.le_of_ble_eq_true rfl) (fun p e s m below meth c ls Q C hP hl hret => ?_)
  obtain ⟨hx, hb, hr, hml, hown, hts, hlk, hK⟩ := id C
  have hcf : CallFix p m c cX6_allOf 4 s _ wsX6_allOf RX6 := ⟨hx, hb, hml, hown, hts⟩
  have hl : lv_has ls 4 [(0, .ref (ad 0)), (1, .int p1)] := hl
  unfold mX6_allOf at hm
  refine lv_iconst (v := 0) hx hb dX6_allOf_0 (by decide) ?_
  refine lv_istore_n (lv' := [(2, .int 0), (0, .ref (ad 0)), (1, .int p1)]) hx hb dX6_allOf_1 rfl hl (by decide) rfl (fun ls hl => ?_)
  refine lv_iconst (v := 0) hx hb dX6_allOf_2 (by decide) ?_
  refine lv_istore_n (lv' := [(3, .int 0), (2, .int 0), (0, .ref (ad 0)), (1, .int p1)]) hx hb dX6_allOf_3 rfl hl (by decide) rfl (fun ls hl => ?_)
  exact tX6_allOf_L4 C hP hret _ _ _ _ hm _ (lv_sub hl [2, 3, 1, 0] rfl)
/-! X6 waiting()I -/
abbrev rmX6_waiting : Room := { frames := 1, cells := 0, slots := 0, locals := 22 }
theorem hdX6_waiting : yX6_waiting.cls = RX6 ∧ yX6_waiting.cls ≠ "java/lang/invoke/MethodHandle" ∧ yX6_waiting.cls ≠ "java/lang/invoke/VarHandle" ∧ (parseMethodDescriptor yX6_waiting.desc).map (fun d => d.parameters.length) = some 0 := by decide +kernel
theorem inX6_waiting_X6 : ∀ w ∈ u_ws RX6 TX6 20, w ∈ wsX6_waiting := by decide +kernel
theorem cwX6_waiting_X6_ordered {s : State} {args : Array Value} (hts : ∀ w ∈ wsX6_waiting, w.before args s = true) : CallW rmX6_waiting s args RX6 RX6 154 yX6_ordered cX6_ordered 3 (some .int) wsX6_ordered rmX6_ordered 0 0 2 := cwV 2 hts gX6_waiting_X6_ordered rfl rfl rfl hdX6_ordered ⟨Nat.le_of_ble_eq_true rfl, Nat.le_of_ble_eq_true rfl⟩
theorem flX6_waiting_70 : Fl wsX6_waiting RX6 70 6 11 := ⟨_, _, _, rfl, by decide, inX6_waiting_X6, by decide +kernel⟩
set_option maxRecDepth 100000 in
set_option maxHeartbeats 4000000 in
theorem tX6_waiting_L4 {ad : Nat → Nat} {thr : Int32} {tpd : Int32} {siz : Int32} {too : Int32} {frm : Int32} {srt : Int32} {num : Int32} {flt : Int32} {plc : Int32} {wrd : Int64} {snm : Int32} {lin : Int32} {stp : Int32} {sfo : Int32} {hst : Int32} {tp : Nat → Int32} {nw : Nat → Int32} {rd : Nat → Int32} {kp : Nat → Int32} {sn : Nat → Int32} {res : Int32} (C : Cx p s m args meth c cX6_waiting (some .int) 3 wsX6_waiting RX6 D cI cB cL cK) (hP : va_P D vwCl (wM cI ad thr tpd siz too frm srt num flt plc wrd snm lin stp sfo hst tp nw rd kp sn) s.heap) (hret : ∀ (pc : Nat) (ls : Array Slot), decode cX6_waiting pc = .ok (.ireturn, 1) → narrow .int (.int res) = .int res → W p l e rmX6_waiting s m args below meth c s.heap [] 0 0 Q (F0 m pc ls [.int res])) : ∀ (n9 : Nat) (x1 : Int32) (x2 : Int32), mX6_waiting_L4 n9 nw x1 x2 = some res → ∀ (ls : Array Slot), lv_has ls 3 [(0, .ref (ad 0)), (1, .int x1), (2, .int x2)] → W p l e rmX6_waiting s m args below meth c s.heap [] 0 0 Q (F0 m 4 ls []) := by
  obtain ⟨hx, hb, hr, hml, hown, hts, hlk, hK⟩ := id C
  have hcf : CallFix p m c cX6_waiting 3 s args wsX6_waiting RX6 := ⟨hx, hb, hml, hown, hts⟩
  intro n9
  induction n9 with
  | zero => intro x1 x2 hm; cases hm
  | succ k ih =>
    intro x1 x2 hm ls hl
    rw [mX6_waiting_L4.eq_2] at hm
    refine lv_iload_n hx hb dX6_waiting_4 rfl (lv_at hl 2 rfl) ?_
    refine lv_aload_n hx hb dX6_waiting_5 rfl (lv_at hl 0 rfl) ?_
    refine gf (q0 := 0) hx hb hts hown hK flX6_waiting_70 hP rfl rfl dX6_waiting_6 ?_
    refine lv_iconst (v := 5) hx hb dX6_waiting_9 (by decide) ?_
    refine ald (q0 := 2) (k := 5) hx hb hK hP rfl (by decide) (by decide) dX6_waiting_10 ?_
    refine lv_icmp_ge (tgt := 32) hx hb dX6_waiting_11 (by decide) (fun c_1 => ?_) (fun c_1 => ?_)
    · replace hm := br_p hm c_1
      refine lv_iload_n hx hb dX6_waiting_32 rfl (lv_at hl 1 rfl) ?_
      cases hm
      exact hret _ _ dX6_waiting_33 rfl
    · replace hm := br_n hm c_1
      refine lv_aload_n hx hb dX6_waiting_14 rfl (lv_at hl 0 rfl) ?_
      refine lv_iload_n hx hb dX6_waiting_15 rfl (lv_at hl 2 rfl) ?_
      refine lv_iconst (v := 2) hx hb dX6_waiting_16 (by decide) ?_
      obtain ⟨v2, h_3, hm⟩ := b1_s hm
      refine rd_v hcf (kX6_ordered h_3) (cwX6_waiting_X6_ordered hts) hK hP Sb.rf (ci := 6) (q0 := 0) rfl rfl rfl hl.1 rfl (Nat.le_of_ble_eq_true rfl) dX6_waiting_17 ⟨Nat.zero_le _, Nat.zero_le _⟩ ?_
      refine lv_if_ne (tgt := 26) hx hb dX6_waiting_20 (by decide) (fun c_4 => ?_) (fun c_4 => ?_)
      · replace hm := br_n hm c_4
        refine lv_iinc (v := (x2 + 1)) (lv' := [(2, .int (x2 + 1)), (0, .ref (ad 0)), (1, .int x1)]) hx hb dX6_waiting_26 hl (k := 2) rfl rfl (by decide) rfl (fun ls hl => ?_)
        refine lv_goto (tgt := 4) hx hb dX6_waiting_29 (by decide) ?_
        exact ih _ _ hm _ (lv_sub hl [1, 2, 0] rfl)
      · replace hm := br_p hm c_4
        refine lv_iinc (v := (x1 + 1)) (lv' := [(1, .int (x1 + 1)), (0, .ref (ad 0)), (2, .int x2)]) hx hb dX6_waiting_23 hl (k := 1) rfl rfl (by decide) rfl (fun ls hl => ?_)
        refine lv_iinc (v := (x2 + 1)) (lv' := [(2, .int (x2 + 1)), (1, .int (x1 + 1)), (0, .ref (ad 0))]) hx hb dX6_waiting_26 hl (k := 2) rfl rfl (by decide) rfl (fun ls hl => ?_)
        refine lv_goto (tgt := 4) hx hb dX6_waiting_29 (by decide) ?_
        exact ih _ _ hm _ (lv_sub hl [2, 1, 0] rfl)
set_option maxRecDepth 100000 in
set_option maxHeartbeats 4000000 in
theorem kX6_waiting {l : Launch} {D : va_G} {cI cB cL cK : ClassId} {ad : Nat → Nat} {thr : Int32} {tpd : Int32} {siz : Int32} {too : Int32} {frm : Int32} {srt : Int32} {num : Int32} {flt : Int32} {plc : Int32} {wrd : Int64} {snm : Int32} {lin : Int32} {stp : Int32} {sfo : Int32} {hst : Int32} {tp : Nat → Int32} {nw : Nat → Int32} {rd : Nat → Int32} {kp : Nat → Int32} {sn : Nat → Int32}  {res : Int32} (hm : mX6_waiting nw = some res) : Rd l D cI cB cL cK yX6_waiting wsX6_waiting rmX6_waiting [.ref (ad 0)] (wM cI ad thr tpd siz too frm srt num flt plc wrd snm lin stp sfo hst tp nw rd kp sn) res := by
  refine Rd.of (cc := cX6_waiting) (own := RX6) (by decide) rfl rfl (Nat.le_of_ble_eq_true rfl) (fun p e s m below meth c ls Q C hP hl hret => ?_)
  obtain ⟨hx, hb, hr, hml, hown, hts, hlk, hK⟩ := id C
  have hcf : CallFix p m c cX6_waiting 3 s _ wsX6_waiting RX6 := ⟨hx, hb, hml, hown, hts⟩
  have hl : lv_has ls 3 [(0, .ref (ad 0))] := hl
  unfold mX6_waiting at hm
  refine lv_iconst (v := 0) hx hb dX6_waiting_0 (by decide) ?_
  refine lv_istore_n (lv' := [(1, .int 0), (0, .ref (ad 0))]) hx hb dX6_waiting_1 rfl hl (by decide) rfl (fun ls hl => ?_)
  refine lv_iconst (v := 0) hx hb dX6_waiting_2 (by decide) ?_
  refine lv_istore_n (lv' := [(2, .int 0), (1, .int 0), (0, .ref (ad 0))]) hx hb dX6_waiting_3 rfl hl (by decide) rfl (fun ls hl => ?_)
  exact tX6_waiting_L4 C hP hret _ _ _ hm _ (lv_sub hl [2, 1, 0] rfl)
/-! X6 cash()I -/
abbrev rmX6_cash : Room := { frames := 1, cells := 0, slots := 0, locals := 22 }
theorem hdX6_cash : yX6_cash.cls = RX6 ∧ yX6_cash.cls ≠ "java/lang/invoke/MethodHandle" ∧ yX6_cash.cls ≠ "java/lang/invoke/VarHandle" ∧ (parseMethodDescriptor yX6_cash.desc).map (fun d => d.parameters.length) = some 0 := by decide +kernel
theorem inX6_cash_X6 : ∀ w ∈ u_ws RX6 TX6 20, w ∈ wsX6_cash := by decide +kernel
theorem cwX6_cash_X6_its {s : State} {args : Array Value} (hts : ∀ w ∈ wsX6_cash, w.before args s = true) : CallW rmX6_cash s args RX6 RX6 148 yX6_its cX6_its 3 (some .int) wsX6_its rmX6_its 0 0 2 := cwV 2 hts gX6_cash_X6_its rfl rfl rfl hdX6_its ⟨Nat.le_of_ble_eq_true rfl, Nat.le_of_ble_eq_true rfl⟩
theorem flX6_cash_70 : Fl wsX6_cash RX6 70 6 11 := ⟨_, _, _, rfl, by decide, inX6_cash_X6, by decide +kernel⟩
set_option maxRecDepth 100000 in
set_option maxHeartbeats 4000000 in
theorem tX6_cash_L4 {ad : Nat → Nat} {thr : Int32} {tpd : Int32} {siz : Int32} {too : Int32} {frm : Int32} {srt : Int32} {num : Int32} {flt : Int32} {plc : Int32} {wrd : Int64} {snm : Int32} {lin : Int32} {stp : Int32} {sfo : Int32} {hst : Int32} {tp : Nat → Int32} {nw : Nat → Int32} {rd : Nat → Int32} {kp : Nat → Int32} {sn : Nat → Int32} {res : Int32} (C : Cx p s m args meth c cX6_cash (some .int) 3 wsX6_cash RX6 D cI cB cL cK) (hP : va_P D vwCl (wM cI ad thr tpd siz too frm srt num flt plc wrd snm lin stp sfo hst tp nw rd kp sn) s.heap) (hret : ∀ (pc : Nat) (ls : Array Slot), decode cX6_cash pc = .ok (.ireturn, 1) → narrow .int (.int res) = .int res → W p l e rmX6_cash s m args below meth c s.heap [] 0 0 Q (F0 m pc ls [.int res])) : ∀ (n9 : Nat) (x1 : Int32) (x2 : Int32), mX6_cash_L4 n9 nw x1 x2 = some res → ∀ (ls : Array Slot), lv_has ls 3 [(0, .ref (ad 0)), (1, .int x1), (2, .int x2)] → W p l e rmX6_cash s m args below meth c s.heap [] 0 0 Q (F0 m 4 ls []) := by
  obtain ⟨hx, hb, hr, hml, hown, hts, hlk, hK⟩ := id C
  have hcf : CallFix p m c cX6_cash 3 s args wsX6_cash RX6 := ⟨hx, hb, hml, hown, hts⟩
  intro n9
  induction n9 with
  | zero => intro x1 x2 hm; cases hm
  | succ k ih =>
    intro x1 x2 hm ls hl
    rw [mX6_cash_L4.eq_2] at hm
    refine lv_iload_n hx hb dX6_cash_4 rfl (lv_at hl 2 rfl) ?_
    refine lv_aload_n hx hb dX6_cash_5 rfl (lv_at hl 0 rfl) ?_
    refine gf (q0 := 0) hx hb hts hown hK flX6_cash_70 hP rfl rfl dX6_cash_6 ?_
    refine lv_iconst (v := 3) hx hb dX6_cash_9 (by decide) ?_
    refine ald (q0 := 2) (k := 3) hx hb hK hP rfl (by decide) (by decide) dX6_cash_10 ?_
    refine lv_icmp_ge (tgt := 29) hx hb dX6_cash_11 (by decide) (fun c_1 => ?_) (fun c_1 => ?_)
    · replace hm := br_p hm c_1
      refine lv_iload_n hx hb dX6_cash_29 rfl (lv_at hl 1 rfl) ?_
      cases hm
      exact hret _ _ dX6_cash_30 rfl
    · replace hm := br_n hm c_1
      refine lv_iload_n hx hb dX6_cash_14 rfl (lv_at hl 1 rfl) ?_
      refine lv_aload_n hx hb dX6_cash_15 rfl (lv_at hl 0 rfl) ?_
      refine lv_iload_n hx hb dX6_cash_16 rfl (lv_at hl 2 rfl) ?_
      refine lv_iconst (v := 2) hx hb dX6_cash_17 (by decide) ?_
      obtain ⟨v2, h_3, hm⟩ := b1_s hm
      refine rd_v hcf (kX6_its h_3) (cwX6_cash_X6_its hts) hK hP Sb.rf (ci := 6) (q0 := 0) rfl rfl rfl hl.1 rfl (Nat.le_of_ble_eq_true rfl) dX6_cash_18 ⟨Nat.zero_le _, Nat.zero_le _⟩ ?_
      refine lv_iadd hx hb dX6_cash_21 ?_
      refine lv_istore_n (lv' := [(1, .int (x1 + v2)), (0, .ref (ad 0)), (2, .int x2)]) hx hb dX6_cash_22 rfl hl (by decide) rfl (fun ls hl => ?_)
      refine lv_iinc (v := (x2 + 1)) (lv' := [(2, .int (x2 + 1)), (1, .int (x1 + v2)), (0, .ref (ad 0))]) hx hb dX6_cash_23 hl (k := 2) rfl rfl (by decide) rfl (fun ls hl => ?_)
      refine lv_goto (tgt := 4) hx hb dX6_cash_26 (by decide) ?_
      exact ih _ _ hm _ (lv_sub hl [2, 1, 0] rfl)
set_option maxRecDepth 100000 in
set_option maxHeartbeats 4000000 in
theorem kX6_cash {l : Launch} {D : va_G} {cI cB cL cK : ClassId} {ad : Nat → Nat} {thr : Int32} {tpd : Int32} {siz : Int32} {too : Int32} {frm : Int32} {srt : Int32} {num : Int32} {flt : Int32} {plc : Int32} {wrd : Int64} {snm : Int32} {lin : Int32} {stp : Int32} {sfo : Int32} {hst : Int32} {tp : Nat → Int32} {nw : Nat → Int32} {rd : Nat → Int32} {kp : Nat → Int32} {sn : Nat → Int32}  {res : Int32} (hm : mX6_cash nw = some res) : Rd l D cI cB cL cK yX6_cash wsX6_cash rmX6_cash [.ref (ad 0)] (wM cI ad thr tpd siz too frm srt num flt plc wrd snm lin stp sfo hst tp nw rd kp sn) res := by
  refine Rd.of (cc := cX6_cash) (own := RX6) (by decide) rfl rfl (Nat.le_of_ble_eq_true rfl) (fun p e s m below meth c ls Q C hP hl hret => ?_)
  obtain ⟨hx, hb, hr, hml, hown, hts, hlk, hK⟩ := id C
  have hcf : CallFix p m c cX6_cash 3 s _ wsX6_cash RX6 := ⟨hx, hb, hml, hown, hts⟩
  have hl : lv_has ls 3 [(0, .ref (ad 0))] := hl
  unfold mX6_cash at hm
  refine lv_iconst (v := 0) hx hb dX6_cash_0 (by decide) ?_
  refine lv_istore_n (lv' := [(1, .int 0), (0, .ref (ad 0))]) hx hb dX6_cash_1 rfl hl (by decide) rfl (fun ls hl => ?_)
  refine lv_iconst (v := 0) hx hb dX6_cash_2 (by decide) ?_
  refine lv_istore_n (lv' := [(2, .int 0), (1, .int 0), (0, .ref (ad 0))]) hx hb dX6_cash_3 rfl hl (by decide) rfl (fun ls hl => ?_)
  exact tX6_cash_L4 C hP hret _ _ _ hm _ (lv_sub hl [2, 1, 0] rfl)
/-! X6 now(I)I -/
abbrev rmX6_now : Room := { frames := 3, cells := 0, slots := 0, locals := 68 }
theorem hdX6_now : yX6_now.cls = RX6 ∧ yX6_now.cls ≠ "java/lang/invoke/MethodHandle" ∧ yX6_now.cls ≠ "java/lang/invoke/VarHandle" ∧ (parseMethodDescriptor yX6_now.desc).map (fun d => d.parameters.length) = some 1 := by decide +kernel
theorem inX6_now_X6 : ∀ w ∈ u_ws RX6 TX6 20, w ∈ wsX6_now := by decide +kernel
theorem cwX6_now_X6_allOf {s : State} {args : Array Value} (hts : ∀ w ∈ wsX6_now, w.before args s = true) : CallW rmX6_now s args RX6 RX6 215 yX6_allOf cX6_allOf 4 (some .int) wsX6_allOf rmX6_allOf 0 0 1 := cwV 1 hts gX6_now_X6_allOf rfl rfl rfl hdX6_allOf ⟨Nat.le_of_ble_eq_true rfl, Nat.le_of_ble_eq_true rfl⟩
theorem cwX6_now_X6_cash {s : State} {args : Array Value} (hts : ∀ w ∈ wsX6_now, w.before args s = true) : CallW rmX6_now s args RX6 RX6 218 yX6_cash cX6_cash 3 (some .int) wsX6_cash rmX6_cash 0 0 0 := cwV 0 hts gX6_now_X6_cash rfl rfl rfl hdX6_cash ⟨Nat.le_of_ble_eq_true rfl, Nat.le_of_ble_eq_true rfl⟩
theorem cwX6_now_X6_today {s : State} {args : Array Value} (hts : ∀ w ∈ wsX6_now, w.before args s = true) : CallW rmX6_now s args RX6 RX6 173 yX6_today cX6_today 1 (some .int) wsX6_today rmX6_today 0 0 0 := cwV 0 hts gX6_now_X6_today rfl rfl rfl hdX6_today ⟨Nat.le_of_ble_eq_true rfl, Nat.le_of_ble_eq_true rfl⟩
theorem cwX6_now_X6_waiting {s : State} {args : Array Value} (hts : ∀ w ∈ wsX6_now, w.before args s = true) : CallW rmX6_now s args RX6 RX6 212 yX6_waiting cX6_waiting 3 (some .int) wsX6_waiting rmX6_waiting 0 0 0 := cwV 0 hts gX6_now_X6_waiting rfl rfl rfl hdX6_waiting ⟨Nat.le_of_ble_eq_true rfl, Nat.le_of_ble_eq_true rfl⟩
theorem flX6_now_11 : Fl wsX6_now RX6 11 6 2 := ⟨_, _, _, rfl, by decide, inX6_now_X6, by decide +kernel⟩
theorem flX6_now_137 : Fl wsX6_now RX6 137 6 15 := ⟨_, _, _, rfl, by decide, inX6_now_X6, by decide +kernel⟩
theorem flX6_now_70 : Fl wsX6_now RX6 70 6 11 := ⟨_, _, _, rfl, by decide, inX6_now_X6, by decide +kernel⟩
theorem fpX6_now_1 : Fp wsX6_now RX6 1 6 0 false .int := ⟨_, _, _, tyX6, rfl, by decide, inX6_now_X6, by decide +kernel, tyX6_ok, nmX6, rfl, rfl, by decide +kernel⟩
set_option maxRecDepth 100000 in
set_option maxHeartbeats 4000000 in
theorem kX6_now {l : Launch} {D : va_G} {cI cB cL cK : ClassId} {ad : Nat → Nat} {thr : Int32} {tpd : Int32} {siz : Int32} {too : Int32} {frm : Int32} {srt : Int32} {num : Int32} {flt : Int32} {plc : Int32} {wrd : Int64} {snm : Int32} {lin : Int32} {stp : Int32} {sfo : Int32} {hst : Int32} {tp : Nat → Int32} {nw : Nat → Int32} {rd : Nat → Int32} {kp : Nat → Int32} {sn : Nat → Int32} {p1 : Int32} {res : Int32} {thr' : Int32} (hm : mX6_now thr tpd snm nw p1 = some (res, thr')) : Mu l D cI cB cL cK yX6_now wsX6_now rmX6_now [.ref (ad 0), .int p1] (wM cI ad thr tpd siz too frm srt num flt plc wrd snm lin stp sfo hst tp nw rd kp sn) (wM cI ad thr' tpd siz too frm srt num flt plc wrd snm lin stp sfo hst tp nw rd kp sn) (some (.int res)) 0 0 := by
  refine Mu.ofi (cc := cX6_now) (own := RX6) (by decide) rfl rfl (Nat.le_of_ble_eq_true rfl) (fun p e s m below meth c ls Q A C hA hP hD hS hl hret => ?_)
  obtain ⟨hx, hb, hr, hml, hown, hts, hlk, hK⟩ := id C
  have hcf : CallFix p m c cX6_now 2 s _ wsX6_now RX6 := ⟨hx, hb, hml, hown, hts⟩
  have hl : lv_has ls 2 [(0, .ref (ad 0)), (1, .int p1)] := hl
  unfold mX6_now at hm
  refine lv_aload_n hx hb dX6_now_0 rfl (lv_at hl 0 rfl) ?_
  refine lv_iconst (v := 0) hx hb dX6_now_1 (by decide) ?_
  refine pf (q0 := 0) (X' := (wM cI ad 0 tpd siz too frm srt num flt plc wrd snm lin stp sfo hst tp nw rd kp sn)) hx hb hts hown hK fpX6_now_1 hP hD hS rfl rfl rfl (Nat.le_of_ble_eq_true rfl) rfl dX6_now_2 (fun H locs hP hD hS => ?_)
  refine lv_iload_n hx hb dX6_now_5 rfl (lv_at hl 1 rfl) ?_
  by_cases c_1 : p1 = 0
  · replace hm := br_p hm c_1
    refine lv_tableIn (tgt := 64) hx hb dX6_now_6 (by rw [c_1]; decide) (by rw [c_1]; decide) (by rw [c_1]; rfl) (by decide) ?_
    refine lv_aload_n hx hb dX6_now_64 rfl (lv_at hl 0 rfl) ?_
    obtain ⟨v2, h_3, hm⟩ := b1_s hm
    refine rd_v hcf (kX6_today h_3) (cwX6_now_X6_today hts) hK hP Sb.rf (ci := 6) (q0 := 0) rfl rfl rfl hl.1 rfl (Nat.le_of_ble_eq_true rfl) dX6_now_65 ⟨Nat.zero_le _, Nat.zero_le _⟩ ?_
    cases hm
    exact hret _ _ _ _ dX6_now_68 rfl hP hD hS
  · replace hm := br_n hm c_1
    by_cases c_4 : p1 = 1
    · replace hm := br_p hm c_4
      refine lv_tableIn (tgt := 69) hx hb dX6_now_6 (by rw [c_4]; decide) (by rw [c_4]; decide) (by rw [c_4]; rfl) (by decide) ?_
      refine lv_aload_n hx hb dX6_now_69 rfl (lv_at hl 0 rfl) ?_
      refine gf (q0 := 0) hx hb hts hown hK flX6_now_70 hP rfl rfl dX6_now_70 ?_
      refine lv_iconst (v := 2) hx hb dX6_now_73 (by decide) ?_
      refine ald (q0 := 2) (k := 2) hx hb hK hP rfl (by decide) (by decide) dX6_now_74 ?_
      cases hm
      exact hret _ _ _ _ dX6_now_75 rfl hP hD hS
    · replace hm := br_n hm c_4
      by_cases c_5 : p1 = 2
      · replace hm := br_p hm c_5
        refine lv_tableIn (tgt := 76) hx hb dX6_now_6 (by rw [c_5]; decide) (by rw [c_5]; decide) (by rw [c_5]; rfl) (by decide) ?_
        refine lv_aload_n hx hb dX6_now_76 rfl (lv_at hl 0 rfl) ?_
        refine gf (q0 := 0) hx hb hts hown hK flX6_now_70 hP rfl rfl dX6_now_77 ?_
        refine lv_iconst (v := 3) hx hb dX6_now_80 (by decide) ?_
        refine ald (q0 := 2) (k := 3) hx hb hK hP rfl (by decide) (by decide) dX6_now_81 ?_
        cases hm
        exact hret _ _ _ _ dX6_now_82 rfl hP hD hS
      · replace hm := br_n hm c_5
        by_cases c_6 : p1 = 3
        · replace hm := br_p hm c_6
          refine lv_tableIn (tgt := 83) hx hb dX6_now_6 (by rw [c_6]; decide) (by rw [c_6]; decide) (by rw [c_6]; rfl) (by decide) ?_
          refine lv_aload_n hx hb dX6_now_83 rfl (lv_at hl 0 rfl) ?_
          refine gf (q0 := 0) hx hb hts hown hK flX6_now_70 hP rfl rfl dX6_now_84 ?_
          refine lv_iconst (v := 4) hx hb dX6_now_87 (by decide) ?_
          refine ald (q0 := 2) (k := 4) hx hb hK hP rfl (by decide) (by decide) dX6_now_88 ?_
          cases hm
          exact hret _ _ _ _ dX6_now_89 rfl hP hD hS
        · replace hm := br_n hm c_6
          by_cases c_7 : p1 = 4
          · replace hm := br_p hm c_7
            refine lv_tableIn (tgt := 90) hx hb dX6_now_6 (by rw [c_7]; decide) (by rw [c_7]; decide) (by rw [c_7]; rfl) (by decide) ?_
            refine lv_aload_n hx hb dX6_now_90 rfl (lv_at hl 0 rfl) ?_
            refine gf (q0 := 0) hx hb hts hown hK flX6_now_70 hP rfl rfl dX6_now_91 ?_
            refine lv_iconst (v := 5) hx hb dX6_now_94 (by decide) ?_
            refine ald (q0 := 2) (k := 5) hx hb hK hP rfl (by decide) (by decide) dX6_now_95 ?_
            cases hm
            exact hret _ _ _ _ dX6_now_96 rfl hP hD hS
          · replace hm := br_n hm c_7
            by_cases c_8 : p1 = 5
            · replace hm := br_p hm c_8
              refine lv_tableIn (tgt := 97) hx hb dX6_now_6 (by rw [c_8]; decide) (by rw [c_8]; decide) (by rw [c_8]; rfl) (by decide) ?_
              refine lv_aload_n hx hb dX6_now_97 rfl (lv_at hl 0 rfl) ?_
              obtain ⟨v9, h_10, hm⟩ := b1_s hm
              refine rd_v hcf (kX6_waiting h_10) (cwX6_now_X6_waiting hts) hK hP Sb.rf (ci := 6) (q0 := 0) rfl rfl rfl hl.1 rfl (Nat.le_of_ble_eq_true rfl) dX6_now_98 ⟨Nat.zero_le _, Nat.zero_le _⟩ ?_
              cases hm
              exact hret _ _ _ _ dX6_now_101 rfl hP hD hS
            · replace hm := br_n hm c_8
              by_cases c_11 : p1 = 6
              · replace hm := br_p hm c_11
                refine lv_tableIn (tgt := 102) hx hb dX6_now_6 (by rw [c_11]; decide) (by rw [c_11]; decide) (by rw [c_11]; rfl) (by decide) ?_
                refine lv_aload_n hx hb dX6_now_102 rfl (lv_at hl 0 rfl) ?_
                refine lv_iconst (v := 2) hx hb dX6_now_103 (by decide) ?_
                obtain ⟨v12, h_13, hm⟩ := b1_s hm
                refine rd_v hcf (kX6_allOf h_13) (cwX6_now_X6_allOf hts) hK hP Sb.rf (ci := 6) (q0 := 0) rfl rfl rfl hl.1 rfl (Nat.le_of_ble_eq_true rfl) dX6_now_104 ⟨Nat.zero_le _, Nat.zero_le _⟩ ?_
                cases hm
                exact hret _ _ _ _ dX6_now_107 rfl hP hD hS
              · replace hm := br_n hm c_11
                by_cases c_14 : p1 = 7
                · replace hm := br_p hm c_14
                  refine lv_tableIn (tgt := 108) hx hb dX6_now_6 (by rw [c_14]; decide) (by rw [c_14]; decide) (by rw [c_14]; rfl) (by decide) ?_
                  refine lv_aload_n hx hb dX6_now_108 rfl (lv_at hl 0 rfl) ?_
                  obtain ⟨v15, h_16, hm⟩ := b1_s hm
                  refine rd_v hcf (kX6_cash h_16) (cwX6_now_X6_cash hts) hK hP Sb.rf (ci := 6) (q0 := 0) rfl rfl rfl hl.1 rfl (Nat.le_of_ble_eq_true rfl) dX6_now_109 ⟨Nat.zero_le _, Nat.zero_le _⟩ ?_
                  cases hm
                  exact hret _ _ _ _ dX6_now_112 rfl hP hD hS
                · replace hm := br_n hm c_14
                  by_cases c_17 : p1 = 8
                  · replace hm := br_p hm c_17
                    refine lv_tableIn (tgt := 113) hx hb dX6_now_6 (by rw [c_17]; decide) (by rw [c_17]; decide) (by rw [c_17]; rfl) (by decide) ?_
                    refine lv_aload_n hx hb dX6_now_113 rfl (lv_at hl 0 rfl) ?_
                    refine gf (q0 := 0) hx hb hts hown hK flX6_now_70 hP rfl rfl dX6_now_114 ?_
                    refine lv_bipush (v := 6) hx hb dX6_now_117 (by decide) ?_
                    refine ald (q0 := 2) (k := 6) hx hb hK hP rfl (by decide) (by decide) dX6_now_119 ?_
                    cases hm
                    exact hret _ _ _ _ dX6_now_120 rfl hP hD hS
                  · replace hm := br_n hm c_17
                    by_cases c_18 : p1 = 9
                    · replace hm := br_p hm c_18
                      refine lv_tableIn (tgt := 121) hx hb dX6_now_6 (by rw [c_18]; decide) (by rw [c_18]; decide) (by rw [c_18]; rfl) (by decide) ?_
                      refine lv_aload_n hx hb dX6_now_121 rfl (lv_at hl 0 rfl) ?_
                      refine gf (q0 := 0) hx hb hts hown hK flX6_now_137 hP rfl rfl dX6_now_122 ?_
                      cases hm
                      exact hret _ _ _ _ dX6_now_125 rfl hP hD hS
                    · replace hm := br_n hm c_18
                      by_cases c_19 : p1 = 10
                      · replace hm := br_p hm c_19
                        refine lv_tableIn (tgt := 126) hx hb dX6_now_6 (by rw [c_19]; decide) (by rw [c_19]; decide) (by rw [c_19]; rfl) (by decide) ?_
                        refine lv_aload_n hx hb dX6_now_126 rfl (lv_at hl 0 rfl) ?_
                        refine gf (q0 := 0) hx hb hts hown hK flX6_now_11 hP rfl rfl dX6_now_127 ?_
                        cases hm
                        exact hret _ _ _ _ dX6_now_130 rfl hP hD hS
                      · replace hm := br_n hm c_19
                        refine lv_tableOut (tgt := 131) hx hb dX6_now_6 (by have q0 := ne_ti (z := 0) (by decide) c_1; have q1 := ne_ti (z := 1) (by decide) c_4; have q2 := ne_ti (z := 2) (by decide) c_5; have q3 := ne_ti (z := 3) (by decide) c_6; have q4 := ne_ti (z := 4) (by decide) c_7; have q5 := ne_ti (z := 5) (by decide) c_8; have q6 := ne_ti (z := 6) (by decide) c_11; have q7 := ne_ti (z := 7) (by decide) c_14; have q8 := ne_ti (z := 8) (by decide) c_17; have q9 := ne_ti (z := 9) (by decide) c_18; have q10 := ne_ti (z := 10) (by decide) c_19; omega) (by decide) ?_
                        refine lv_iconst (v := (-1)) hx hb dX6_now_131 (by decide) ?_
                        cases hm
                        exact hret _ _ _ _ dX6_now_132 rfl hP hD hS
/-! X6 step(II)I -/
abbrev rmX6_step : Room := { frames := 1, cells := 0, slots := 0, locals := 22 }
theorem hdX6_step : yX6_step.cls = RX6 ∧ yX6_step.cls ≠ "java/lang/invoke/MethodHandle" ∧ yX6_step.cls ≠ "java/lang/invoke/VarHandle" ∧ (parseMethodDescriptor yX6_step.desc).map (fun d => d.parameters.length) = some 2 := by decide +kernel
theorem inX6_step_X6 : ∀ w ∈ u_ws RX6 TX6 20, w ∈ wsX6_step := by decide +kernel
theorem cwX6_step_X6_isIn {s : State} {args : Array Value} (hts : ∀ w ∈ wsX6_step, w.before args s = true) : CallB rmX6_step s args RX6 85 yX6_isIn cX6_isIn 3 (some .boolean) wsX6_isIn rmX6_isIn 0 0 3 ∧ (Cond.static yX6_isIn).before args s = true := va_cwS 3 hts gX6_step_X6_isIn rfl rfl rfl hdX6_isIn.2 ⟨Nat.le_of_ble_eq_true rfl, Nat.le_of_ble_eq_true rfl⟩
theorem flX6_step_70 : Fl wsX6_step RX6 70 6 11 := ⟨_, _, _, rfl, by decide, inX6_step_X6, by decide +kernel⟩
theorem fpX6_step_1 : Fp wsX6_step RX6 1 6 0 false .int := ⟨_, _, _, tyX6, rfl, by decide, inX6_step_X6, by decide +kernel, tyX6_ok, nmX6, rfl, rfl, by decide +kernel⟩
set_option maxRecDepth 100000 in
set_option maxHeartbeats 4000000 in
theorem kX6_step {l : Launch} {D : va_G} {cI cB cL cK : ClassId} {ad : Nat → Nat} {thr : Int32} {tpd : Int32} {siz : Int32} {too : Int32} {frm : Int32} {srt : Int32} {num : Int32} {flt : Int32} {plc : Int32} {wrd : Int64} {snm : Int32} {lin : Int32} {stp : Int32} {sfo : Int32} {hst : Int32} {tp : Nat → Int32} {nw : Nat → Int32} {rd : Nat → Int32} {kp : Nat → Int32} {sn : Nat → Int32} {p1 : Int32} {p2 : Int32} {res : Int32} {thr' : Int32} (hm : mX6_step thr nw p1 p2 = some (res, thr')) : Mu l D cI cB cL cK yX6_step wsX6_step rmX6_step [.ref (ad 0), .int p1, .int p2] (wM cI ad thr tpd siz too frm srt num flt plc wrd snm lin stp sfo hst tp nw rd kp sn) (wM cI ad thr' tpd siz too frm srt num flt plc wrd snm lin stp sfo hst tp nw rd kp sn) (some (.int res)) 0 0 := by
  refine Mu.ofi (cc := cX6_step) (own := RX6) (by decide) rfl rfl (Nat.le_of_ble_eq_true rfl) (fun p e s m below meth c ls Q A C hA hP hD hS hl hret => ?_)
  obtain ⟨hx, hb, hr, hml, hown, hts, hlk, hK⟩ := id C
  have hcf : CallFix p m c cX6_step 3 s _ wsX6_step RX6 := ⟨hx, hb, hml, hown, hts⟩
  have hl : lv_has ls 3 [(0, .ref (ad 0)), (1, .int p1), (2, .int p2)] := hl
  unfold mX6_step at hm
  refine lv_aload_n hx hb dX6_step_0 rfl (lv_at hl 0 rfl) ?_
  refine lv_iconst (v := 0) hx hb dX6_step_1 (by decide) ?_
  refine pf (q0 := 0) (X' := (wM cI ad 0 tpd siz too frm srt num flt plc wrd snm lin stp sfo hst tp nw rd kp sn)) hx hb hts hown hK fpX6_step_1 hP hD hS rfl rfl rfl (Nat.le_of_ble_eq_true rfl) rfl dX6_step_2 (fun H locs hP hD hS => ?_)
  refine lv_iload_n hx hb dX6_step_5 rfl (lv_at hl 1 rfl) ?_
  refine lv_iconst (v := 0) hx hb dX6_step_6 (by decide) ?_
  refine lv_aload_n hx hb dX6_step_7 rfl (lv_at hl 0 rfl) ?_
  refine gf (q0 := 0) hx hb hts hown hK flX6_step_70 hP rfl rfl dX6_step_8 ?_
  refine lv_iconst (v := 2) hx hb dX6_step_11 (by decide) ?_
  refine ald (q0 := 2) (k := 2) hx hb hK hP rfl (by decide) (by decide) dX6_step_12 ?_
  refine lv_iconst (v := 1) hx hb dX6_step_13 (by decide) ?_
  refine lv_isub hx hb dX6_step_14 ?_
  obtain ⟨v1, h_2, hm⟩ := b1_s hm
  refine rd_s hcf (kX6_isIn h_2) (cwX6_step_X6_isIn hts) hK hP Sb.nil rfl hl.1 rfl (Nat.le_of_ble_eq_true rfl) dX6_step_15 ⟨Nat.zero_le _, Nat.zero_le _⟩ ?_
  refine lv_if_eq (tgt := 46) hx hb dX6_step_18 (by decide) (fun c_3 => ?_) (fun c_3 => ?_)
  · replace hm := br_p hm c_3
    refine lv_iconst (v := (-1)) hx hb dX6_step_46 (by decide) ?_
    cases hm
    exact hret _ _ _ _ dX6_step_47 rfl hP hD hS
  · replace hm := br_n hm c_3
    refine lv_iload_n hx hb dX6_step_21 rfl (lv_at hl 2 rfl) ?_
    refine lv_iconst (v := 0) hx hb dX6_step_22 (by decide) ?_
    refine lv_iconst (v := 2) hx hb dX6_step_23 (by decide) ?_
    obtain ⟨v4, h_5, hm⟩ := b1_s hm
    refine rd_s hcf (kX6_isIn h_5) (cwX6_step_X6_isIn hts) hK hP Sb.nil rfl hl.1 rfl (Nat.le_of_ble_eq_true rfl) dX6_step_24 ⟨Nat.zero_le _, Nat.zero_le _⟩ ?_
    refine lv_if_eq (tgt := 46) hx hb dX6_step_27 (by decide) (fun c_6 => ?_) (fun c_6 => ?_)
    · replace hm := br_p hm c_6
      refine lv_iconst (v := (-1)) hx hb dX6_step_46 (by decide) ?_
      cases hm
      exact hret _ _ _ _ dX6_step_47 rfl hP hD hS
    · replace hm := br_n hm c_6
      refine lv_aload_n hx hb dX6_step_30 rfl (lv_at hl 0 rfl) ?_
      refine gf (q0 := 0) hx hb hts hown hK flX6_step_70 hP rfl rfl dX6_step_31 ?_
      refine lv_bipush (v := 7) hx hb dX6_step_34 (by decide) ?_
      refine lv_iconst (v := 3) hx hb dX6_step_36 (by decide) ?_
      refine lv_iload_n hx hb dX6_step_37 rfl (lv_at hl 1 rfl) ?_
      refine lv_imul hx hb dX6_step_38 ?_
      refine lv_iadd hx hb dX6_step_39 ?_
      refine lv_iload_n hx hb dX6_step_40 rfl (lv_at hl 2 rfl) ?_
      refine lv_iadd hx hb dX6_step_41 ?_
      obtain ⟨h_7, hm⟩ := ck_s hm
      refine ald (q0 := 2) (k := (((7 + (3 * p1)) + p2) : Int32).toNatClampNeg) hx hb hK hP rfl h_7 rfl dX6_step_42 ?_
      refine lv_goto (tgt := 47) hx hb dX6_step_43 (by decide) ?_
      cases hm
      exact hret _ _ _ _ dX6_step_47 rfl hP hD hS
/-! X6 debtor(II)I -/
abbrev rmX6_debtor : Room := { frames := 3, cells := 0, slots := 0, locals := 68 }
theorem hdX6_debtor : yX6_debtor.cls = RX6 ∧ yX6_debtor.cls ≠ "java/lang/invoke/MethodHandle" ∧ yX6_debtor.cls ≠ "java/lang/invoke/VarHandle" ∧ (parseMethodDescriptor yX6_debtor.desc).map (fun d => d.parameters.length) = some 2 := by decide +kernel
theorem inX6_debtor_X6 : ∀ w ∈ u_ws RX6 TX6 20, w ∈ wsX6_debtor := by decide +kernel
theorem cwX6_debtor_X6_debt {s : State} {args : Array Value} (hts : ∀ w ∈ wsX6_debtor, w.before args s = true) : CallW rmX6_debtor s args RX6 RX6 167 yX6_debt cX6_debt 4 (some .int) wsX6_debt rmX6_debt 0 0 1 := cwV 1 hts gX6_debtor_X6_debt rfl rfl rfl hdX6_debt ⟨Nat.le_of_ble_eq_true rfl, Nat.le_of_ble_eq_true rfl⟩
theorem cwX6_debtor_X6_eldest {s : State} {args : Array Value} (hts : ∀ w ∈ wsX6_debtor, w.before args s = true) : CallW rmX6_debtor s args RX6 RX6 177 yX6_eldest cX6_eldest 4 (some .int) wsX6_eldest rmX6_eldest 0 0 1 := cwV 1 hts gX6_debtor_X6_eldest rfl rfl rfl hdX6_eldest ⟨Nat.le_of_ble_eq_true rfl, Nat.le_of_ble_eq_true rfl⟩
theorem cwX6_debtor_X6_isAtCourt {s : State} {args : Array Value} (hts : ∀ w ∈ wsX6_debtor, w.before args s = true) : CallW rmX6_debtor s args RX6 RX6 180 yX6_isAtCourt cX6_isAtCourt 2 (some .boolean) wsX6_isAtCourt rmX6_isAtCourt 0 0 1 := cwV 1 hts gX6_debtor_X6_isAtCourt rfl rfl rfl hdX6_isAtCourt ⟨Nat.le_of_ble_eq_true rfl, Nat.le_of_ble_eq_true rfl⟩
theorem cwX6_debtor_X6_isDebtor {s : State} {args : Array Value} (hts : ∀ w ∈ wsX6_debtor, w.before args s = true) : CallW rmX6_debtor s args RX6 RX6 221 yX6_isDebtor cX6_isDebtor 2 (some .boolean) wsX6_isDebtor rmX6_isDebtor 0 0 1 := cwV 1 hts gX6_debtor_X6_isDebtor rfl rfl rfl hdX6_isDebtor ⟨Nat.le_of_ble_eq_true rfl, Nat.le_of_ble_eq_true rfl⟩
theorem cwX6_debtor_X6_its {s : State} {args : Array Value} (hts : ∀ w ∈ wsX6_debtor, w.before args s = true) : CallW rmX6_debtor s args RX6 RX6 148 yX6_its cX6_its 3 (some .int) wsX6_its rmX6_its 0 0 2 := cwV 2 hts gX6_debtor_X6_its rfl rfl rfl hdX6_its ⟨Nat.le_of_ble_eq_true rfl, Nat.le_of_ble_eq_true rfl⟩
theorem cwX6_debtor_X6_owes {s : State} {args : Array Value} (hts : ∀ w ∈ wsX6_debtor, w.before args s = true) : CallW rmX6_debtor s args RX6 RX6 151 yX6_owes cX6_owes 4 (some .int) wsX6_owes rmX6_owes 0 0 1 := cwV 1 hts gX6_debtor_X6_owes rfl rfl rfl hdX6_owes ⟨Nat.le_of_ble_eq_true rfl, Nat.le_of_ble_eq_true rfl⟩
theorem cwX6_debtor_X6_refuse {s : State} {args : Array Value} (hts : ∀ w ∈ wsX6_debtor, w.before args s = true) : CallW rmX6_debtor s args RX6 RX6 224 yX6_refuse cX6_refuse 1 (some .int) wsX6_refuse rmX6_refuse 0 0 0 := cwV 0 hts gX6_debtor_X6_refuse rfl rfl rfl hdX6_refuse ⟨Nat.le_of_ble_eq_true rfl, Nat.le_of_ble_eq_true rfl⟩
theorem cwX6_debtor_X6_risk {s : State} {args : Array Value} (hts : ∀ w ∈ wsX6_debtor, w.before args s = true) : CallW rmX6_debtor s args RX6 RX6 161 yX6_risk cX6_risk 4 (some .int) wsX6_risk rmX6_risk 0 0 1 := cwV 1 hts gX6_debtor_X6_risk rfl rfl rfl hdX6_risk ⟨Nat.le_of_ble_eq_true rfl, Nat.le_of_ble_eq_true rfl⟩
theorem fpX6_debtor_1 : Fp wsX6_debtor RX6 1 6 0 false .int := ⟨_, _, _, tyX6, rfl, by decide, inX6_debtor_X6, by decide +kernel, tyX6_ok, nmX6, rfl, rfl, by decide +kernel⟩
set_option maxRecDepth 100000 in
set_option maxHeartbeats 4000000 in
theorem kX6_debtor {l : Launch} {D : va_G} {cI cB cL cK : ClassId} {ad : Nat → Nat} {thr : Int32} {tpd : Int32} {siz : Int32} {too : Int32} {frm : Int32} {srt : Int32} {num : Int32} {flt : Int32} {plc : Int32} {wrd : Int64} {snm : Int32} {lin : Int32} {stp : Int32} {sfo : Int32} {hst : Int32} {tp : Nat → Int32} {nw : Nat → Int32} {rd : Nat → Int32} {kp : Nat → Int32} {sn : Nat → Int32} {p1 : Int32} {p2 : Int32} {res : Int32} {thr' : Int32} (hm : mX6_debtor thr nw p1 p2 = some (res, thr')) : Mu l D cI cB cL cK yX6_debtor wsX6_debtor rmX6_debtor [.ref (ad 0), .int p1, .int p2] (wM cI ad thr tpd siz too frm srt num flt plc wrd snm lin stp sfo hst tp nw rd kp sn) (wM cI ad thr' tpd siz too frm srt num flt plc wrd snm lin stp sfo hst tp nw rd kp sn) (some (.int res)) 0 0 := by
  refine Mu.ofi (cc := cX6_debtor) (own := RX6) (by decide) rfl rfl (Nat.le_of_ble_eq_true rfl) (fun p e s m below meth c ls Q A C hA hP hD hS hl hret => ?_)
  obtain ⟨hx, hb, hr, hml, hown, hts, hlk, hK⟩ := id C
  have hcf : CallFix p m c cX6_debtor 3 s _ wsX6_debtor RX6 := ⟨hx, hb, hml, hown, hts⟩
  have hl : lv_has ls 3 [(0, .ref (ad 0)), (1, .int p1), (2, .int p2)] := hl
  unfold mX6_debtor at hm
  refine lv_aload_n hx hb dX6_debtor_0 rfl (lv_at hl 0 rfl) ?_
  refine lv_iconst (v := 0) hx hb dX6_debtor_1 (by decide) ?_
  refine pf (q0 := 0) (X' := (wM cI ad 0 tpd siz too frm srt num flt plc wrd snm lin stp sfo hst tp nw rd kp sn)) hx hb hts hown hK fpX6_debtor_1 hP hD hS rfl rfl rfl (Nat.le_of_ble_eq_true rfl) rfl dX6_debtor_2 (fun H locs hP hD hS => ?_)
  refine lv_aload_n hx hb dX6_debtor_5 rfl (lv_at hl 0 rfl) ?_
  refine lv_iload_n hx hb dX6_debtor_6 rfl (lv_at hl 1 rfl) ?_
  obtain ⟨v1, h_2, hm⟩ := b1_s hm
  refine rd_v hcf (kX6_isDebtor h_2) (cwX6_debtor_X6_isDebtor hts) hK hP Sb.rf (ci := 6) (q0 := 0) rfl rfl rfl hl.1 rfl (Nat.le_of_ble_eq_true rfl) dX6_debtor_7 ⟨Nat.zero_le _, Nat.zero_le _⟩ ?_
  refine lv_if_ne (tgt := 18) hx hb dX6_debtor_10 (by decide) (fun c_3 => ?_) (fun c_3 => ?_)
  · replace hm := br_n hm c_3
    refine lv_iload_n hx hb dX6_debtor_18 rfl (lv_at hl 2 rfl) ?_
    by_cases c_4 : p2 = 0
    · replace hm := br_p hm c_4
      refine lv_tableIn (tgt := 76) hx hb dX6_debtor_19 (by rw [c_4]; decide) (by rw [c_4]; decide) (by rw [c_4]; rfl) (by decide) ?_
      refine lv_aload_n hx hb dX6_debtor_76 rfl (lv_at hl 0 rfl) ?_
      refine lv_iload_n hx hb dX6_debtor_77 rfl (lv_at hl 1 rfl) ?_
      refine lv_iconst (v := 0) hx hb dX6_debtor_78 (by decide) ?_
      obtain ⟨v5, h_6, hm⟩ := b1_s hm
      refine rd_v hcf (kX6_its h_6) (cwX6_debtor_X6_its hts) hK hP Sb.rf (ci := 6) (q0 := 0) rfl rfl rfl hl.1 rfl (Nat.le_of_ble_eq_true rfl) dX6_debtor_79 ⟨Nat.zero_le _, Nat.zero_le _⟩ ?_
      cases hm
      exact hret _ _ _ _ dX6_debtor_82 rfl hP hD hS
    · replace hm := br_n hm c_4
      by_cases c_7 : p2 = 1
      · replace hm := br_p hm c_7
        refine lv_tableIn (tgt := 83) hx hb dX6_debtor_19 (by rw [c_7]; decide) (by rw [c_7]; decide) (by rw [c_7]; rfl) (by decide) ?_
        refine lv_aload_n hx hb dX6_debtor_83 rfl (lv_at hl 0 rfl) ?_
        refine lv_iload_n hx hb dX6_debtor_84 rfl (lv_at hl 1 rfl) ?_
        refine lv_iconst (v := 1) hx hb dX6_debtor_85 (by decide) ?_
        obtain ⟨v8, h_9, hm⟩ := b1_s hm
        refine rd_v hcf (kX6_its h_9) (cwX6_debtor_X6_its hts) hK hP Sb.rf (ci := 6) (q0 := 0) rfl rfl rfl hl.1 rfl (Nat.le_of_ble_eq_true rfl) dX6_debtor_86 ⟨Nat.zero_le _, Nat.zero_le _⟩ ?_
        cases hm
        exact hret _ _ _ _ dX6_debtor_89 rfl hP hD hS
      · replace hm := br_n hm c_7
        by_cases c_10 : p2 = 2
        · replace hm := br_p hm c_10
          refine lv_tableIn (tgt := 90) hx hb dX6_debtor_19 (by rw [c_10]; decide) (by rw [c_10]; decide) (by rw [c_10]; rfl) (by decide) ?_
          refine lv_aload_n hx hb dX6_debtor_90 rfl (lv_at hl 0 rfl) ?_
          refine lv_iload_n hx hb dX6_debtor_91 rfl (lv_at hl 1 rfl) ?_
          obtain ⟨v11, h_12, hm⟩ := b1_s hm
          refine rd_v hcf (kX6_owes h_12) (cwX6_debtor_X6_owes hts) hK hP Sb.rf (ci := 6) (q0 := 0) rfl rfl rfl hl.1 rfl (Nat.le_of_ble_eq_true rfl) dX6_debtor_92 ⟨Nat.zero_le _, Nat.zero_le _⟩ ?_
          cases hm
          exact hret _ _ _ _ dX6_debtor_95 rfl hP hD hS
        · replace hm := br_n hm c_10
          by_cases c_13 : p2 = 3
          · replace hm := br_p hm c_13
            refine lv_tableIn (tgt := 96) hx hb dX6_debtor_19 (by rw [c_13]; decide) (by rw [c_13]; decide) (by rw [c_13]; rfl) (by decide) ?_
            refine lv_aload_n hx hb dX6_debtor_96 rfl (lv_at hl 0 rfl) ?_
            refine lv_iload_n hx hb dX6_debtor_97 rfl (lv_at hl 1 rfl) ?_
            obtain ⟨v14, h_15, hm⟩ := b1_s hm
            refine rd_v hcf (kX6_debt h_15) (cwX6_debtor_X6_debt hts) hK hP Sb.rf (ci := 6) (q0 := 0) rfl rfl rfl hl.1 rfl (Nat.le_of_ble_eq_true rfl) dX6_debtor_98 ⟨Nat.zero_le _, Nat.zero_le _⟩ ?_
            cases hm
            exact hret _ _ _ _ dX6_debtor_101 rfl hP hD hS
          · replace hm := br_n hm c_13
            by_cases c_16 : p2 = 4
            · replace hm := br_p hm c_16
              refine lv_tableIn (tgt := 102) hx hb dX6_debtor_19 (by rw [c_16]; decide) (by rw [c_16]; decide) (by rw [c_16]; rfl) (by decide) ?_
              refine lv_aload_n hx hb dX6_debtor_102 rfl (lv_at hl 0 rfl) ?_
              refine lv_iload_n hx hb dX6_debtor_103 rfl (lv_at hl 1 rfl) ?_
              refine lv_iconst (v := 2) hx hb dX6_debtor_104 (by decide) ?_
              obtain ⟨v17, h_18, hm⟩ := b1_s hm
              refine rd_v hcf (kX6_its h_18) (cwX6_debtor_X6_its hts) hK hP Sb.rf (ci := 6) (q0 := 0) rfl rfl rfl hl.1 rfl (Nat.le_of_ble_eq_true rfl) dX6_debtor_105 ⟨Nat.zero_le _, Nat.zero_le _⟩ ?_
              cases hm
              exact hret _ _ _ _ dX6_debtor_108 rfl hP hD hS
            · replace hm := br_n hm c_16
              by_cases c_19 : p2 = 5
              · replace hm := br_p hm c_19
                refine lv_tableIn (tgt := 109) hx hb dX6_debtor_19 (by rw [c_19]; decide) (by rw [c_19]; decide) (by rw [c_19]; rfl) (by decide) ?_
                refine lv_aload_n hx hb dX6_debtor_109 rfl (lv_at hl 0 rfl) ?_
                refine lv_iload_n hx hb dX6_debtor_110 rfl (lv_at hl 1 rfl) ?_
                refine lv_iconst (v := 3) hx hb dX6_debtor_111 (by decide) ?_
                obtain ⟨v20, h_21, hm⟩ := b1_s hm
                refine rd_v hcf (kX6_its h_21) (cwX6_debtor_X6_its hts) hK hP Sb.rf (ci := 6) (q0 := 0) rfl rfl rfl hl.1 rfl (Nat.le_of_ble_eq_true rfl) dX6_debtor_112 ⟨Nat.zero_le _, Nat.zero_le _⟩ ?_
                cases hm
                exact hret _ _ _ _ dX6_debtor_115 rfl hP hD hS
              · replace hm := br_n hm c_19
                by_cases c_22 : p2 = 6
                · replace hm := br_p hm c_22
                  refine lv_tableIn (tgt := 116) hx hb dX6_debtor_19 (by rw [c_22]; decide) (by rw [c_22]; decide) (by rw [c_22]; rfl) (by decide) ?_
                  refine lv_aload_n hx hb dX6_debtor_116 rfl (lv_at hl 0 rfl) ?_
                  refine lv_iload_n hx hb dX6_debtor_117 rfl (lv_at hl 1 rfl) ?_
                  refine lv_iconst (v := 4) hx hb dX6_debtor_118 (by decide) ?_
                  obtain ⟨v23, h_24, hm⟩ := b1_s hm
                  refine rd_v hcf (kX6_its h_24) (cwX6_debtor_X6_its hts) hK hP Sb.rf (ci := 6) (q0 := 0) rfl rfl rfl hl.1 rfl (Nat.le_of_ble_eq_true rfl) dX6_debtor_119 ⟨Nat.zero_le _, Nat.zero_le _⟩ ?_
                  cases hm
                  exact hret _ _ _ _ dX6_debtor_122 rfl hP hD hS
                · replace hm := br_n hm c_22
                  by_cases c_25 : p2 = 7
                  · replace hm := br_p hm c_25
                    refine lv_tableIn (tgt := 123) hx hb dX6_debtor_19 (by rw [c_25]; decide) (by rw [c_25]; decide) (by rw [c_25]; rfl) (by decide) ?_
                    refine lv_aload_n hx hb dX6_debtor_123 rfl (lv_at hl 0 rfl) ?_
                    refine lv_iload_n hx hb dX6_debtor_124 rfl (lv_at hl 1 rfl) ?_
                    obtain ⟨v26, h_27, hm⟩ := b1_s hm
                    refine rd_v hcf (kX6_eldest h_27) (cwX6_debtor_X6_eldest hts) hK hP Sb.rf (ci := 6) (q0 := 0) rfl rfl rfl hl.1 rfl (Nat.le_of_ble_eq_true rfl) dX6_debtor_125 ⟨Nat.zero_le _, Nat.zero_le _⟩ ?_
                    cases hm
                    exact hret _ _ _ _ dX6_debtor_128 rfl hP hD hS
                  · replace hm := br_n hm c_25
                    by_cases c_28 : p2 = 8
                    · replace hm := br_p hm c_28
                      refine lv_tableIn (tgt := 129) hx hb dX6_debtor_19 (by rw [c_28]; decide) (by rw [c_28]; decide) (by rw [c_28]; rfl) (by decide) ?_
                      refine lv_aload_n hx hb dX6_debtor_129 rfl (lv_at hl 0 rfl) ?_
                      refine lv_iload_n hx hb dX6_debtor_130 rfl (lv_at hl 1 rfl) ?_
                      refine lv_bipush (v := 8) hx hb dX6_debtor_131 (by decide) ?_
                      obtain ⟨v29, h_30, hm⟩ := b1_s hm
                      refine rd_v hcf (kX6_its h_30) (cwX6_debtor_X6_its hts) hK hP Sb.rf (ci := 6) (q0 := 0) rfl rfl rfl hl.1 rfl (Nat.le_of_ble_eq_true rfl) dX6_debtor_133 ⟨Nat.zero_le _, Nat.zero_le _⟩ ?_
                      cases hm
                      exact hret _ _ _ _ dX6_debtor_136 rfl hP hD hS
                    · replace hm := br_n hm c_28
                      by_cases c_31 : p2 = 9
                      · replace hm := br_p hm c_31
                        refine lv_tableIn (tgt := 137) hx hb dX6_debtor_19 (by rw [c_31]; decide) (by rw [c_31]; decide) (by rw [c_31]; rfl) (by decide) ?_
                        refine lv_aload_n hx hb dX6_debtor_137 rfl (lv_at hl 0 rfl) ?_
                        refine lv_iload_n hx hb dX6_debtor_138 rfl (lv_at hl 1 rfl) ?_
                        obtain ⟨v32, h_33, hm⟩ := b1_s hm
                        refine rd_v hcf (kX6_isAtCourt h_33) (cwX6_debtor_X6_isAtCourt hts) hK hP Sb.rf (ci := 6) (q0 := 0) rfl rfl rfl hl.1 rfl (Nat.le_of_ble_eq_true rfl) dX6_debtor_139 ⟨Nat.zero_le _, Nat.zero_le _⟩ ?_
                        refine lv_if_eq (tgt := 149) hx hb dX6_debtor_142 (by decide) (fun c_34 => ?_) (fun c_34 => ?_)
                        · replace hm := br_p hm c_34
                          refine lv_iconst (v := 0) hx hb dX6_debtor_149 (by decide) ?_
                          cases hm
                          exact hret _ _ _ _ dX6_debtor_150 rfl hP hD hS
                        · replace hm := br_n hm c_34
                          refine lv_iconst (v := 1) hx hb dX6_debtor_145 (by decide) ?_
                          refine lv_goto (tgt := 150) hx hb dX6_debtor_146 (by decide) ?_
                          cases hm
                          exact hret _ _ _ _ dX6_debtor_150 rfl hP hD hS
                      · replace hm := br_n hm c_31
                        by_cases c_35 : p2 = 10
                        · replace hm := br_p hm c_35
                          refine lv_tableIn (tgt := 151) hx hb dX6_debtor_19 (by rw [c_35]; decide) (by rw [c_35]; decide) (by rw [c_35]; rfl) (by decide) ?_
                          refine lv_aload_n hx hb dX6_debtor_151 rfl (lv_at hl 0 rfl) ?_
                          refine lv_iload_n hx hb dX6_debtor_152 rfl (lv_at hl 1 rfl) ?_
                          obtain ⟨v36, h_37, hm⟩ := b1_s hm
                          refine rd_v hcf (kX6_risk h_37) (cwX6_debtor_X6_risk hts) hK hP Sb.rf (ci := 6) (q0 := 0) rfl rfl rfl hl.1 rfl (Nat.le_of_ble_eq_true rfl) dX6_debtor_153 ⟨Nat.zero_le _, Nat.zero_le _⟩ ?_
                          cases hm
                          exact hret _ _ _ _ dX6_debtor_156 rfl hP hD hS
                        · replace hm := br_n hm c_35
                          refine lv_tableOut (tgt := 157) hx hb dX6_debtor_19 (by have q0 := ne_ti (z := 0) (by decide) c_4; have q1 := ne_ti (z := 1) (by decide) c_7; have q2 := ne_ti (z := 2) (by decide) c_10; have q3 := ne_ti (z := 3) (by decide) c_13; have q4 := ne_ti (z := 4) (by decide) c_16; have q5 := ne_ti (z := 5) (by decide) c_19; have q6 := ne_ti (z := 6) (by decide) c_22; have q7 := ne_ti (z := 7) (by decide) c_25; have q8 := ne_ti (z := 8) (by decide) c_28; have q9 := ne_ti (z := 9) (by decide) c_31; have q10 := ne_ti (z := 10) (by decide) c_35; omega) (by decide) ?_
                          refine lv_aload_n hx hb dX6_debtor_157 rfl (lv_at hl 0 rfl) ?_
                          obtain ⟨v38, thr39, h_40, hm⟩ := b2_s hm
                          refine mu_vi hcf (kX6_refuse h_40) (cwX6_debtor_X6_refuse hts) hK hP hD hS hA Jn.rf (ci := 6) (q0 := 0) rfl rfl rfl hl.1 rfl (Nat.le_of_ble_eq_true rfl) dX6_debtor_158 ⟨Nat.zero_le _, Nat.zero_le _⟩ (fun H locs hP hD hS => ?_)
                          cases hm
                          exact hret _ _ _ _ dX6_debtor_161 rfl hP hD hS
  · replace hm := br_p hm c_3
    refine lv_aload_n hx hb dX6_debtor_13 rfl (lv_at hl 0 rfl) ?_
    obtain ⟨v41, thr42, h_43, hm⟩ := b2_s hm
    refine mu_vi hcf (kX6_refuse h_43) (cwX6_debtor_X6_refuse hts) hK hP hD hS hA Jn.rf (ci := 6) (q0 := 0) rfl rfl rfl hl.1 rfl (Nat.le_of_ble_eq_true rfl) dX6_debtor_14 ⟨Nat.zero_le _, Nat.zero_le _⟩ (fun H locs hP hD hS => ?_)
    cases hm
    exact hret _ _ _ _ dX6_debtor_17 rfl hP hD hS
/-! X6 invoice(II)I -/
abbrev rmX6_invoice : Room := { frames := 2, cells := 0, slots := 0, locals := 43 }
theorem hdX6_invoice : yX6_invoice.cls = RX6 ∧ yX6_invoice.cls ≠ "java/lang/invoke/MethodHandle" ∧ yX6_invoice.cls ≠ "java/lang/invoke/VarHandle" ∧ (parseMethodDescriptor yX6_invoice.desc).map (fun d => d.parameters.length) = some 2 := by decide +kernel
theorem inX6_invoice_X6 : ∀ w ∈ u_ws RX6 TX6 20, w ∈ wsX6_invoice := by decide +kernel
theorem cwX6_invoice_X6_billed {s : State} {args : Array Value} (hts : ∀ w ∈ wsX6_invoice, w.before args s = true) : CallW rmX6_invoice s args RX6 RX6 140 yX6_billed cX6_billed 3 (some .int) wsX6_billed rmX6_billed 0 0 2 := cwV 2 hts gX6_invoice_X6_billed rfl rfl rfl hdX6_billed ⟨Nat.le_of_ble_eq_true rfl, Nat.le_of_ble_eq_true rfl⟩
theorem cwX6_invoice_X6_isIn {s : State} {args : Array Value} (hts : ∀ w ∈ wsX6_invoice, w.before args s = true) : CallB rmX6_invoice s args RX6 85 yX6_isIn cX6_isIn 3 (some .boolean) wsX6_isIn rmX6_isIn 0 0 3 ∧ (Cond.static yX6_isIn).before args s = true := va_cwS 3 hts gX6_invoice_X6_isIn rfl rfl rfl hdX6_isIn.2 ⟨Nat.le_of_ble_eq_true rfl, Nat.le_of_ble_eq_true rfl⟩
theorem cwX6_invoice_X6_isInvoice {s : State} {args : Array Value} (hts : ∀ w ∈ wsX6_invoice, w.before args s = true) : CallW rmX6_invoice s args RX6 RX6 227 yX6_isInvoice cX6_isInvoice 2 (some .boolean) wsX6_isInvoice rmX6_isInvoice 0 0 1 := cwV 1 hts gX6_invoice_X6_isInvoice rfl rfl rfl hdX6_isInvoice ⟨Nat.le_of_ble_eq_true rfl, Nat.le_of_ble_eq_true rfl⟩
theorem fpX6_invoice_1 : Fp wsX6_invoice RX6 1 6 0 false .int := ⟨_, _, _, tyX6, rfl, by decide, inX6_invoice_X6, by decide +kernel, tyX6_ok, nmX6, rfl, rfl, by decide +kernel⟩
set_option maxRecDepth 100000 in
set_option maxHeartbeats 4000000 in
theorem kX6_invoice {l : Launch} {D : va_G} {cI cB cL cK : ClassId} {ad : Nat → Nat} {thr : Int32} {tpd : Int32} {siz : Int32} {too : Int32} {frm : Int32} {srt : Int32} {num : Int32} {flt : Int32} {plc : Int32} {wrd : Int64} {snm : Int32} {lin : Int32} {stp : Int32} {sfo : Int32} {hst : Int32} {tp : Nat → Int32} {nw : Nat → Int32} {rd : Nat → Int32} {kp : Nat → Int32} {sn : Nat → Int32} {p1 : Int32} {p2 : Int32} {res : Int32} {thr' : Int32} (hm : mX6_invoice thr nw p1 p2 = some (res, thr')) : Mu l D cI cB cL cK yX6_invoice wsX6_invoice rmX6_invoice [.ref (ad 0), .int p1, .int p2] (wM cI ad thr tpd siz too frm srt num flt plc wrd snm lin stp sfo hst tp nw rd kp sn) (wM cI ad thr' tpd siz too frm srt num flt plc wrd snm lin stp sfo hst tp nw rd kp sn) (some (.int res)) 0 0 := by
  refine Mu.ofi (cc := cX6_invoice) (own := RX6) (by decide) rfl rfl (Nat.le_of_ble_eq_true rfl) (fun p e s m below meth c ls Q A C hA hP hD hS hl hret => ?_)
  obtain ⟨hx, hb, hr, hml, hown, hts, hlk, hK⟩ := id C
  have hcf : CallFix p m c cX6_invoice 3 s _ wsX6_invoice RX6 := ⟨hx, hb, hml, hown, hts⟩
  have hl : lv_has ls 3 [(0, .ref (ad 0)), (1, .int p1), (2, .int p2)] := hl
  unfold mX6_invoice at hm
  refine lv_aload_n hx hb dX6_invoice_0 rfl (lv_at hl 0 rfl) ?_
  refine lv_iconst (v := 0) hx hb dX6_invoice_1 (by decide) ?_
  refine pf (q0 := 0) (X' := (wM cI ad 0 tpd siz too frm srt num flt plc wrd snm lin stp sfo hst tp nw rd kp sn)) hx hb hts hown hK fpX6_invoice_1 hP hD hS rfl rfl rfl (Nat.le_of_ble_eq_true rfl) rfl dX6_invoice_2 (fun H locs hP hD hS => ?_)
  refine lv_aload_n hx hb dX6_invoice_5 rfl (lv_at hl 0 rfl) ?_
  refine lv_iload_n hx hb dX6_invoice_6 rfl (lv_at hl 1 rfl) ?_
  obtain ⟨v1, h_2, hm⟩ := b1_s hm
  refine rd_v hcf (kX6_isInvoice h_2) (cwX6_invoice_X6_isInvoice hts) hK hP Sb.rf (ci := 6) (q0 := 0) rfl rfl rfl hl.1 rfl (Nat.le_of_ble_eq_true rfl) dX6_invoice_7 ⟨Nat.zero_le _, Nat.zero_le _⟩ ?_
  refine lv_if_eq (tgt := 32) hx hb dX6_invoice_10 (by decide) (fun c_3 => ?_) (fun c_3 => ?_)
  · replace hm := br_p hm c_3
    refine lv_iconst (v := (-1)) hx hb dX6_invoice_32 (by decide) ?_
    cases hm
    exact hret _ _ _ _ dX6_invoice_33 rfl hP hD hS
  · replace hm := br_n hm c_3
    refine lv_iload_n hx hb dX6_invoice_13 rfl (lv_at hl 2 rfl) ?_
    refine lv_iconst (v := 0) hx hb dX6_invoice_14 (by decide) ?_
    refine lv_bipush (v := 6) hx hb dX6_invoice_15 (by decide) ?_
    obtain ⟨v4, h_5, hm⟩ := b1_s hm
    refine rd_s hcf (kX6_isIn h_5) (cwX6_invoice_X6_isIn hts) hK hP Sb.nil rfl hl.1 rfl (Nat.le_of_ble_eq_true rfl) dX6_invoice_17 ⟨Nat.zero_le _, Nat.zero_le _⟩ ?_
    refine lv_if_eq (tgt := 32) hx hb dX6_invoice_20 (by decide) (fun c_6 => ?_) (fun c_6 => ?_)
    · replace hm := br_p hm c_6
      refine lv_iconst (v := (-1)) hx hb dX6_invoice_32 (by decide) ?_
      cases hm
      exact hret _ _ _ _ dX6_invoice_33 rfl hP hD hS
    · replace hm := br_n hm c_6
      refine lv_aload_n hx hb dX6_invoice_23 rfl (lv_at hl 0 rfl) ?_
      refine lv_iload_n hx hb dX6_invoice_24 rfl (lv_at hl 1 rfl) ?_
      refine lv_iload_n hx hb dX6_invoice_25 rfl (lv_at hl 2 rfl) ?_
      obtain ⟨v7, h_8, hm⟩ := b1_s hm
      refine rd_v hcf (kX6_billed h_8) (cwX6_invoice_X6_billed hts) hK hP Sb.rf (ci := 6) (q0 := 0) rfl rfl rfl hl.1 rfl (Nat.le_of_ble_eq_true rfl) dX6_invoice_26 ⟨Nat.zero_le _, Nat.zero_le _⟩ ?_
      refine lv_goto (tgt := 33) hx hb dX6_invoice_29 (by decide) ?_
      cases hm
      exact hret _ _ _ _ dX6_invoice_33 rfl hP hD hS
/-! X6 promised(II)I -/
abbrev rmX6_promised : Room := { frames := 2, cells := 0, slots := 0, locals := 43 }
theorem hdX6_promised : yX6_promised.cls = RX6 ∧ yX6_promised.cls ≠ "java/lang/invoke/MethodHandle" ∧ yX6_promised.cls ≠ "java/lang/invoke/VarHandle" ∧ (parseMethodDescriptor yX6_promised.desc).map (fun d => d.parameters.length) = some 2 := by decide +kernel
theorem inX6_promised_X6 : ∀ w ∈ u_ws RX6 TX6 20, w ∈ wsX6_promised := by decide +kernel
theorem cwX6_promised_X6_isDebtor {s : State} {args : Array Value} (hts : ∀ w ∈ wsX6_promised, w.before args s = true) : CallW rmX6_promised s args RX6 RX6 221 yX6_isDebtor cX6_isDebtor 2 (some .boolean) wsX6_isDebtor rmX6_isDebtor 0 0 1 := cwV 1 hts gX6_promised_X6_isDebtor rfl rfl rfl hdX6_isDebtor ⟨Nat.le_of_ble_eq_true rfl, Nat.le_of_ble_eq_true rfl⟩
theorem cwX6_promised_X6_isIn {s : State} {args : Array Value} (hts : ∀ w ∈ wsX6_promised, w.before args s = true) : CallB rmX6_promised s args RX6 85 yX6_isIn cX6_isIn 3 (some .boolean) wsX6_isIn rmX6_isIn 0 0 3 ∧ (Cond.static yX6_isIn).before args s = true := va_cwS 3 hts gX6_promised_X6_isIn rfl rfl rfl hdX6_isIn.2 ⟨Nat.le_of_ble_eq_true rfl, Nat.le_of_ble_eq_true rfl⟩
theorem cwX6_promised_X6_its {s : State} {args : Array Value} (hts : ∀ w ∈ wsX6_promised, w.before args s = true) : CallW rmX6_promised s args RX6 RX6 148 yX6_its cX6_its 3 (some .int) wsX6_its rmX6_its 0 0 2 := cwV 2 hts gX6_promised_X6_its rfl rfl rfl hdX6_its ⟨Nat.le_of_ble_eq_true rfl, Nat.le_of_ble_eq_true rfl⟩
theorem fpX6_promised_1 : Fp wsX6_promised RX6 1 6 0 false .int := ⟨_, _, _, tyX6, rfl, by decide, inX6_promised_X6, by decide +kernel, tyX6_ok, nmX6, rfl, rfl, by decide +kernel⟩
set_option maxRecDepth 100000 in
set_option maxHeartbeats 4000000 in
theorem kX6_promised {l : Launch} {D : va_G} {cI cB cL cK : ClassId} {ad : Nat → Nat} {thr : Int32} {tpd : Int32} {siz : Int32} {too : Int32} {frm : Int32} {srt : Int32} {num : Int32} {flt : Int32} {plc : Int32} {wrd : Int64} {snm : Int32} {lin : Int32} {stp : Int32} {sfo : Int32} {hst : Int32} {tp : Nat → Int32} {nw : Nat → Int32} {rd : Nat → Int32} {kp : Nat → Int32} {sn : Nat → Int32} {p1 : Int32} {p2 : Int32} {res : Int32} {thr' : Int32} (hm : mX6_promised thr nw p1 p2 = some (res, thr')) : Mu l D cI cB cL cK yX6_promised wsX6_promised rmX6_promised [.ref (ad 0), .int p1, .int p2] (wM cI ad thr tpd siz too frm srt num flt plc wrd snm lin stp sfo hst tp nw rd kp sn) (wM cI ad thr' tpd siz too frm srt num flt plc wrd snm lin stp sfo hst tp nw rd kp sn) (some (.int res)) 0 0 := by
  refine Mu.ofi (cc := cX6_promised) (own := RX6) (by decide) rfl rfl (Nat.le_of_ble_eq_true rfl) (fun p e s m below meth c ls Q A C hA hP hD hS hl hret => ?_)
  obtain ⟨hx, hb, hr, hml, hown, hts, hlk, hK⟩ := id C
  have hcf : CallFix p m c cX6_promised 3 s _ wsX6_promised RX6 := ⟨hx, hb, hml, hown, hts⟩
  have hl : lv_has ls 3 [(0, .ref (ad 0)), (1, .int p1), (2, .int p2)] := hl
  unfold mX6_promised at hm
  refine lv_aload_n hx hb dX6_promised_0 rfl (lv_at hl 0 rfl) ?_
  refine lv_iconst (v := 0) hx hb dX6_promised_1 (by decide) ?_
  refine pf (q0 := 0) (X' := (wM cI ad 0 tpd siz too frm srt num flt plc wrd snm lin stp sfo hst tp nw rd kp sn)) hx hb hts hown hK fpX6_promised_1 hP hD hS rfl rfl rfl (Nat.le_of_ble_eq_true rfl) rfl dX6_promised_2 (fun H locs hP hD hS => ?_)
  refine lv_aload_n hx hb dX6_promised_5 rfl (lv_at hl 0 rfl) ?_
  refine lv_iload_n hx hb dX6_promised_6 rfl (lv_at hl 1 rfl) ?_
  obtain ⟨v1, h_2, hm⟩ := b1_s hm
  refine rd_v hcf (kX6_isDebtor h_2) (cwX6_promised_X6_isDebtor hts) hK hP Sb.rf (ci := 6) (q0 := 0) rfl rfl rfl hl.1 rfl (Nat.le_of_ble_eq_true rfl) dX6_promised_7 ⟨Nat.zero_le _, Nat.zero_le _⟩ ?_
  refine lv_if_eq (tgt := 42) hx hb dX6_promised_10 (by decide) (fun c_3 => ?_) (fun c_3 => ?_)
  · replace hm := br_p hm c_3
    refine lv_iconst (v := (-1)) hx hb dX6_promised_42 (by decide) ?_
    cases hm
    exact hret _ _ _ _ dX6_promised_43 rfl hP hD hS
  · replace hm := br_n hm c_3
    refine lv_aload_n hx hb dX6_promised_13 rfl (lv_at hl 0 rfl) ?_
    refine lv_iload_n hx hb dX6_promised_14 rfl (lv_at hl 1 rfl) ?_
    refine lv_iconst (v := 5) hx hb dX6_promised_15 (by decide) ?_
    obtain ⟨v4, h_5, hm⟩ := b1_s hm
    refine rd_v hcf (kX6_its h_5) (cwX6_promised_X6_its hts) hK hP Sb.rf (ci := 6) (q0 := 0) rfl rfl rfl hl.1 rfl (Nat.le_of_ble_eq_true rfl) dX6_promised_16 ⟨Nat.zero_le _, Nat.zero_le _⟩ ?_
    refine lv_if_le (tgt := 42) hx hb dX6_promised_19 (by decide) (fun c_6 => ?_) (fun c_6 => ?_)
    · replace hm := br_p hm c_6
      refine lv_iconst (v := (-1)) hx hb dX6_promised_42 (by decide) ?_
      cases hm
      exact hret _ _ _ _ dX6_promised_43 rfl hP hD hS
    · replace hm := br_n hm c_6
      refine lv_iload_n hx hb dX6_promised_22 rfl (lv_at hl 2 rfl) ?_
      refine lv_iconst (v := 0) hx hb dX6_promised_23 (by decide) ?_
      refine lv_iconst (v := 2) hx hb dX6_promised_24 (by decide) ?_
      obtain ⟨v7, h_8, hm⟩ := b1_s hm
      refine rd_s hcf (kX6_isIn h_8) (cwX6_promised_X6_isIn hts) hK hP Sb.nil rfl hl.1 rfl (Nat.le_of_ble_eq_true rfl) dX6_promised_25 ⟨Nat.zero_le _, Nat.zero_le _⟩ ?_
      refine lv_if_eq (tgt := 42) hx hb dX6_promised_28 (by decide) (fun c_9 => ?_) (fun c_9 => ?_)
      · replace hm := br_p hm c_9
        refine lv_iconst (v := (-1)) hx hb dX6_promised_42 (by decide) ?_
        cases hm
        exact hret _ _ _ _ dX6_promised_43 rfl hP hD hS
      · replace hm := br_n hm c_9
        refine lv_aload_n hx hb dX6_promised_31 rfl (lv_at hl 0 rfl) ?_
        refine lv_iload_n hx hb dX6_promised_32 rfl (lv_at hl 1 rfl) ?_
        refine lv_iconst (v := 5) hx hb dX6_promised_33 (by decide) ?_
        refine lv_iload_n hx hb dX6_promised_34 rfl (lv_at hl 2 rfl) ?_
        refine lv_iadd hx hb dX6_promised_35 ?_
        obtain ⟨v10, h_11, hm⟩ := b1_s hm
        refine rd_v hcf (kX6_its h_11) (cwX6_promised_X6_its hts) hK hP Sb.rf (ci := 6) (q0 := 0) rfl rfl rfl hl.1 rfl (Nat.le_of_ble_eq_true rfl) dX6_promised_36 ⟨Nat.zero_le _, Nat.zero_le _⟩ ?_
        refine lv_goto (tgt := 43) hx hb dX6_promised_39 (by decide) ?_
        cases hm
        exact hret _ _ _ _ dX6_promised_43 rfl hP hD hS
/-! X6 nextDay(I)I -/
abbrev rmX6_nextDay : Room := { frames := 2, cells := 0, slots := 0, locals := 44 }
theorem hdX6_nextDay : yX6_nextDay.cls = RX6 ∧ yX6_nextDay.cls ≠ "java/lang/invoke/MethodHandle" ∧ yX6_nextDay.cls ≠ "java/lang/invoke/VarHandle" ∧ (parseMethodDescriptor yX6_nextDay.desc).map (fun d => d.parameters.length) = some 1 := by decide +kernel
theorem cwX6_nextDay_X6_dayOf {s : State} {args : Array Value} (hts : ∀ w ∈ wsX6_nextDay, w.before args s = true) : CallW rmX6_nextDay s args RX6 RX6 170 yX6_dayOf cX6_dayOf 3 (some .int) wsX6_dayOf rmX6_dayOf 0 0 2 := cwV 2 hts gX6_nextDay_X6_dayOf rfl rfl rfl hdX6_dayOf ⟨Nat.le_of_ble_eq_true rfl, Nat.le_of_ble_eq_true rfl⟩
theorem cwX6_nextDay_X6_its {s : State} {args : Array Value} (hts : ∀ w ∈ wsX6_nextDay, w.before args s = true) : CallW rmX6_nextDay s args RX6 RX6 148 yX6_its cX6_its 3 (some .int) wsX6_its rmX6_its 0 0 2 := cwV 2 hts gX6_nextDay_X6_its rfl rfl rfl hdX6_its ⟨Nat.le_of_ble_eq_true rfl, Nat.le_of_ble_eq_true rfl⟩
theorem cwX6_nextDay_X6_today {s : State} {args : Array Value} (hts : ∀ w ∈ wsX6_nextDay, w.before args s = true) : CallW rmX6_nextDay s args RX6 RX6 173 yX6_today cX6_today 1 (some .int) wsX6_today rmX6_today 0 0 0 := cwV 0 hts gX6_nextDay_X6_today rfl rfl rfl hdX6_today ⟨Nat.le_of_ble_eq_true rfl, Nat.le_of_ble_eq_true rfl⟩
set_option maxRecDepth 100000 in
set_option maxHeartbeats 4000000 in
theorem tX6_nextDay_L2 {ad : Nat → Nat} {thr : Int32} {tpd : Int32} {siz : Int32} {too : Int32} {frm : Int32} {srt : Int32} {num : Int32} {flt : Int32} {plc : Int32} {wrd : Int64} {snm : Int32} {lin : Int32} {stp : Int32} {sfo : Int32} {hst : Int32} {tp : Nat → Int32} {nw : Nat → Int32} {rd : Nat → Int32} {kp : Nat → Int32} {sn : Nat → Int32} {res : Int32} (C : Cx p s m args meth c cX6_nextDay (some .int) 3 wsX6_nextDay RX6 D cI cB cL cK) (hP : va_P D vwCl (wM cI ad thr tpd siz too frm srt num flt plc wrd snm lin stp sfo hst tp nw rd kp sn) s.heap) (hret : ∀ (pc : Nat) (ls : Array Slot), decode cX6_nextDay pc = .ok (.ireturn, 1) → narrow .int (.int res) = .int res → W p l e rmX6_nextDay s m args below meth c s.heap [] 0 0 Q (F0 m pc ls [.int res])) : ∀ (n9 : Nat) (x1 : Int32) (x2 : Int32), mX6_nextDay_L2 n9 nw x1 x2 = some res → ∀ (ls : Array Slot), lv_has ls 3 [(0, .ref (ad 0)), (1, .int x1), (2, .int x2)] → W p l e rmX6_nextDay s m args below meth c s.heap [] 0 0 Q (F0 m 2 ls []) := by
  obtain ⟨hx, hb, hr, hml, hown, hts, hlk, hK⟩ := id C
  have hcf : CallFix p m c cX6_nextDay 3 s args wsX6_nextDay RX6 := ⟨hx, hb, hml, hown, hts⟩
  intro n9
  induction n9 with
  | zero => intro x1 x2 hm; cases hm
  | succ k ih =>
    intro x1 x2 hm ls hl
    rw [mX6_nextDay_L2.eq_2] at hm
    refine lv_iload_n hx hb dX6_nextDay_2 rfl (lv_at hl 2 rfl) ?_
    refine lv_aload_n hx hb dX6_nextDay_3 rfl (lv_at hl 0 rfl) ?_
    refine lv_iload_n hx hb dX6_nextDay_4 rfl (lv_at hl 1 rfl) ?_
    refine lv_bipush (v := 9) hx hb dX6_nextDay_5 (by decide) ?_
    obtain ⟨v1, h_2, hm⟩ := b1_s hm
    refine rd_v hcf (kX6_its h_2) (cwX6_nextDay_X6_its hts) hK hP Sb.rf (ci := 6) (q0 := 0) rfl rfl rfl hl.1 rfl (Nat.le_of_ble_eq_true rfl) dX6_nextDay_7 ⟨Nat.zero_le _, Nat.zero_le _⟩ ?_
    refine lv_icmp_ge (tgt := 39) hx hb dX6_nextDay_10 (by decide) (fun c_3 => ?_) (fun c_3 => ?_)
    · replace hm := br_p hm c_3
      refine lv_iconst (v := (-1)) hx hb dX6_nextDay_39 (by decide) ?_
      cases hm
      exact hret _ _ dX6_nextDay_40 rfl
    · replace hm := br_n hm c_3
      refine lv_aload_n hx hb dX6_nextDay_13 rfl (lv_at hl 0 rfl) ?_
      refine lv_iload_n hx hb dX6_nextDay_14 rfl (lv_at hl 1 rfl) ?_
      refine lv_iload_n hx hb dX6_nextDay_15 rfl (lv_at hl 2 rfl) ?_
      obtain ⟨v4, h_5, hm⟩ := b1_s hm
      refine rd_v hcf (kX6_dayOf h_5) (cwX6_nextDay_X6_dayOf hts) hK hP Sb.rf (ci := 6) (q0 := 0) rfl rfl rfl hl.1 rfl (Nat.le_of_ble_eq_true rfl) dX6_nextDay_16 ⟨Nat.zero_le _, Nat.zero_le _⟩ ?_
      refine lv_aload_n hx hb dX6_nextDay_19 rfl (lv_at hl 0 rfl) ?_
      obtain ⟨v6, h_7, hm⟩ := b1_s hm
      refine rd_v hcf (kX6_today h_7) (cwX6_nextDay_X6_today hts) hK hP Sb.rf (ci := 6) (q0 := 0) rfl rfl rfl hl.1 rfl (Nat.le_of_ble_eq_true rfl) dX6_nextDay_20 ⟨Nat.zero_le _, Nat.zero_le _⟩ ?_
      refine lv_icmp_lt (tgt := 33) hx hb dX6_nextDay_23 (by decide) (fun c_8 => ?_) (fun c_8 => ?_)
      · replace hm := br_p hm c_8
        refine lv_iinc (v := (x2 + 1)) (lv' := [(2, .int (x2 + 1)), (0, .ref (ad 0)), (1, .int x1)]) hx hb dX6_nextDay_33 hl (k := 2) rfl rfl (by decide) rfl (fun ls hl => ?_)
        refine lv_goto (tgt := 2) hx hb dX6_nextDay_36 (by decide) ?_
        exact ih _ _ hm _ (lv_sub hl [1, 2, 0] rfl)
      · replace hm := br_n hm c_8
        refine lv_aload_n hx hb dX6_nextDay_26 rfl (lv_at hl 0 rfl) ?_
        refine lv_iload_n hx hb dX6_nextDay_27 rfl (lv_at hl 1 rfl) ?_
        refine lv_iload_n hx hb dX6_nextDay_28 rfl (lv_at hl 2 rfl) ?_
        obtain ⟨v9, h_10, hm⟩ := b1_s hm
        refine rd_v hcf (kX6_dayOf h_10) (cwX6_nextDay_X6_dayOf hts) hK hP Sb.rf (ci := 6) (q0 := 0) rfl rfl rfl hl.1 rfl (Nat.le_of_ble_eq_true rfl) dX6_nextDay_29 ⟨Nat.zero_le _, Nat.zero_le _⟩ ?_
        cases hm
        exact hret _ _ dX6_nextDay_32 rfl
set_option maxRecDepth 100000 in
set_option maxHeartbeats 4000000 in
theorem kX6_nextDay {l : Launch} {D : va_G} {cI cB cL cK : ClassId} {ad : Nat → Nat} {thr : Int32} {tpd : Int32} {siz : Int32} {too : Int32} {frm : Int32} {srt : Int32} {num : Int32} {flt : Int32} {plc : Int32} {wrd : Int64} {snm : Int32} {lin : Int32} {stp : Int32} {sfo : Int32} {hst : Int32} {tp : Nat → Int32} {nw : Nat → Int32} {rd : Nat → Int32} {kp : Nat → Int32} {sn : Nat → Int32} {p1 : Int32} {res : Int32} (hm : mX6_nextDay nw p1 = some res) : Rd l D cI cB cL cK yX6_nextDay wsX6_nextDay rmX6_nextDay [.ref (ad 0), .int p1] (wM cI ad thr tpd siz too frm srt num flt plc wrd snm lin stp sfo hst tp nw rd kp sn) res := by
  refine Rd.of (cc := cX6_nextDay) (own := RX6) (by decide) rfl rfl (Nat.le_of_ble_eq_true rfl) (fun p e s m below meth c ls Q C hP hl hret => ?_)
  obtain ⟨hx, hb, hr, hml, hown, hts, hlk, hK⟩ := id C
  have hcf : CallFix p m c cX6_nextDay 3 s _ wsX6_nextDay RX6 := ⟨hx, hb, hml, hown, hts⟩
  have hl : lv_has ls 3 [(0, .ref (ad 0)), (1, .int p1)] := hl
  unfold mX6_nextDay at hm
  refine lv_iconst (v := 0) hx hb dX6_nextDay_0 (by decide) ?_
  refine lv_istore_n (lv' := [(2, .int 0), (0, .ref (ad 0)), (1, .int p1)]) hx hb dX6_nextDay_1 rfl hl (by decide) rfl (fun ls hl => ?_)
  exact tX6_nextDay_L2 C hP hret _ _ _ hm _ (lv_sub hl [1, 2, 0] rfl)
/-! X6 planned(II)I -/
abbrev rmX6_planned : Room := { frames := 3, cells := 0, slots := 0, locals := 66 }
theorem hdX6_planned : yX6_planned.cls = RX6 ∧ yX6_planned.cls ≠ "java/lang/invoke/MethodHandle" ∧ yX6_planned.cls ≠ "java/lang/invoke/VarHandle" ∧ (parseMethodDescriptor yX6_planned.desc).map (fun d => d.parameters.length) = some 2 := by decide +kernel
theorem inX6_planned_X6 : ∀ w ∈ u_ws RX6 TX6 20, w ∈ wsX6_planned := by decide +kernel
theorem cwX6_planned_X6_dayOf {s : State} {args : Array Value} (hts : ∀ w ∈ wsX6_planned, w.before args s = true) : CallW rmX6_planned s args RX6 RX6 170 yX6_dayOf cX6_dayOf 3 (some .int) wsX6_dayOf rmX6_dayOf 0 0 2 := cwV 2 hts gX6_planned_X6_dayOf rfl rfl rfl hdX6_dayOf ⟨Nat.le_of_ble_eq_true rfl, Nat.le_of_ble_eq_true rfl⟩
theorem cwX6_planned_X6_isDebtor {s : State} {args : Array Value} (hts : ∀ w ∈ wsX6_planned, w.before args s = true) : CallW rmX6_planned s args RX6 RX6 221 yX6_isDebtor cX6_isDebtor 2 (some .boolean) wsX6_isDebtor rmX6_isDebtor 0 0 1 := cwV 1 hts gX6_planned_X6_isDebtor rfl rfl rfl hdX6_isDebtor ⟨Nat.le_of_ble_eq_true rfl, Nat.le_of_ble_eq_true rfl⟩
theorem cwX6_planned_X6_isIn {s : State} {args : Array Value} (hts : ∀ w ∈ wsX6_planned, w.before args s = true) : CallB rmX6_planned s args RX6 85 yX6_isIn cX6_isIn 3 (some .boolean) wsX6_isIn rmX6_isIn 0 0 3 ∧ (Cond.static yX6_isIn).before args s = true := va_cwS 3 hts gX6_planned_X6_isIn rfl rfl rfl hdX6_isIn.2 ⟨Nat.le_of_ble_eq_true rfl, Nat.le_of_ble_eq_true rfl⟩
theorem cwX6_planned_X6_its {s : State} {args : Array Value} (hts : ∀ w ∈ wsX6_planned, w.before args s = true) : CallW rmX6_planned s args RX6 RX6 148 yX6_its cX6_its 3 (some .int) wsX6_its rmX6_its 0 0 2 := cwV 2 hts gX6_planned_X6_its rfl rfl rfl hdX6_its ⟨Nat.le_of_ble_eq_true rfl, Nat.le_of_ble_eq_true rfl⟩
theorem cwX6_planned_X6_nextDay {s : State} {args : Array Value} (hts : ∀ w ∈ wsX6_planned, w.before args s = true) : CallW rmX6_planned s args RX6 RX6 230 yX6_nextDay cX6_nextDay 3 (some .int) wsX6_nextDay rmX6_nextDay 0 0 1 := cwV 1 hts gX6_planned_X6_nextDay rfl rfl rfl hdX6_nextDay ⟨Nat.le_of_ble_eq_true rfl, Nat.le_of_ble_eq_true rfl⟩
theorem fpX6_planned_1 : Fp wsX6_planned RX6 1 6 0 false .int := ⟨_, _, _, tyX6, rfl, by decide, inX6_planned_X6, by decide +kernel, tyX6_ok, nmX6, rfl, rfl, by decide +kernel⟩
set_option maxRecDepth 100000 in
set_option maxHeartbeats 4000000 in
theorem kX6_planned {l : Launch} {D : va_G} {cI cB cL cK : ClassId} {ad : Nat → Nat} {thr : Int32} {tpd : Int32} {siz : Int32} {too : Int32} {frm : Int32} {srt : Int32} {num : Int32} {flt : Int32} {plc : Int32} {wrd : Int64} {snm : Int32} {lin : Int32} {stp : Int32} {sfo : Int32} {hst : Int32} {tp : Nat → Int32} {nw : Nat → Int32} {rd : Nat → Int32} {kp : Nat → Int32} {sn : Nat → Int32} {p1 : Int32} {p2 : Int32} {res : Int32} {thr' : Int32} (hm : mX6_planned thr nw p1 p2 = some (res, thr')) : Mu l D cI cB cL cK yX6_planned wsX6_planned rmX6_planned [.ref (ad 0), .int p1, .int p2] (wM cI ad thr tpd siz too frm srt num flt plc wrd snm lin stp sfo hst tp nw rd kp sn) (wM cI ad thr' tpd siz too frm srt num flt plc wrd snm lin stp sfo hst tp nw rd kp sn) (some (.int res)) 0 0 := by
  refine Mu.ofi (cc := cX6_planned) (own := RX6) (by decide) rfl rfl (Nat.le_of_ble_eq_true rfl) (fun p e s m below meth c ls Q A C hA hP hD hS hl hret => ?_)
  obtain ⟨hx, hb, hr, hml, hown, hts, hlk, hK⟩ := id C
  have hcf : CallFix p m c cX6_planned 4 s _ wsX6_planned RX6 := ⟨hx, hb, hml, hown, hts⟩
  have hl : lv_has ls 4 [(0, .ref (ad 0)), (1, .int p1), (2, .int p2)] := hl
  unfold mX6_planned at hm
  refine lv_aload_n hx hb dX6_planned_0 rfl (lv_at hl 0 rfl) ?_
  refine lv_iconst (v := 0) hx hb dX6_planned_1 (by decide) ?_
  refine pf (q0 := 0) (X' := (wM cI ad 0 tpd siz too frm srt num flt plc wrd snm lin stp sfo hst tp nw rd kp sn)) hx hb hts hown hK fpX6_planned_1 hP hD hS rfl rfl rfl (Nat.le_of_ble_eq_true rfl) rfl dX6_planned_2 (fun H locs hP hD hS => ?_)
  refine lv_aload_n hx hb dX6_planned_5 rfl (lv_at hl 0 rfl) ?_
  refine lv_iload_n hx hb dX6_planned_6 rfl (lv_at hl 1 rfl) ?_
  obtain ⟨v1, h_2, hm⟩ := b1_s hm
  refine rd_v hcf (kX6_isDebtor h_2) (cwX6_planned_X6_isDebtor hts) hK hP Sb.rf (ci := 6) (q0 := 0) rfl rfl rfl hl.1 rfl (Nat.le_of_ble_eq_true rfl) dX6_planned_7 ⟨Nat.zero_le _, Nat.zero_le _⟩ ?_
  refine lv_if_eq (tgt := 23) hx hb dX6_planned_10 (by decide) (fun c_3 => ?_) (fun c_3 => ?_)
  · replace hm := br_p hm c_3
    refine lv_iconst (v := (-1)) hx hb dX6_planned_23 (by decide) ?_
    cases hm
    exact hret _ _ _ _ dX6_planned_24 rfl hP hD hS
  · replace hm := br_n hm c_3
    refine lv_aload_n hx hb dX6_planned_13 rfl (lv_at hl 0 rfl) ?_
    refine lv_iload_n hx hb dX6_planned_14 rfl (lv_at hl 1 rfl) ?_
    refine lv_bipush (v := 9) hx hb dX6_planned_15 (by decide) ?_
    obtain ⟨v4, h_5, hm⟩ := b1_s hm
    refine rd_v hcf (kX6_its h_5) (cwX6_planned_X6_its hts) hK hP Sb.rf (ci := 6) (q0 := 0) rfl rfl rfl hl.1 rfl (Nat.le_of_ble_eq_true rfl) dX6_planned_17 ⟨Nat.zero_le _, Nat.zero_le _⟩ ?_
    refine lv_if_ne (tgt := 25) hx hb dX6_planned_20 (by decide) (fun c_6 => ?_) (fun c_6 => ?_)
    · replace hm := br_n hm c_6
      refine lv_aload_n hx hb dX6_planned_25 rfl (lv_at hl 0 rfl) ?_
      refine lv_iload_n hx hb dX6_planned_26 rfl (lv_at hl 1 rfl) ?_
      refine lv_bipush (v := 9) hx hb dX6_planned_27 (by decide) ?_
      obtain ⟨v7, h_8, hm⟩ := b1_s hm
      refine rd_v hcf (kX6_its h_8) (cwX6_planned_X6_its hts) hK hP Sb.rf (ci := 6) (q0 := 0) rfl rfl rfl hl.1 rfl (Nat.le_of_ble_eq_true rfl) dX6_planned_29 ⟨Nat.zero_le _, Nat.zero_le _⟩ ?_
      refine lv_istore_n (lv' := [(3, .int v7), (0, .ref (ad 0)), (1, .int p1), (2, .int p2)]) hx hb dX6_planned_32 rfl hl (by decide) rfl (fun ls hl => ?_)
      refine lv_iload_n hx hb dX6_planned_33 rfl (lv_at hl 3 rfl) ?_
      refine lv_bipush (v := 10) hx hb dX6_planned_34 (by decide) ?_
      refine lv_bipush (v := 9) hx hb dX6_planned_36 (by decide) ?_
      refine lv_iload_n hx hb dX6_planned_38 rfl (lv_at hl 0 rfl) ?_
      refine lv_iadd hx hb dX6_planned_39 ?_
      obtain ⟨v9, h_10, hm⟩ := b1_s hm
      refine rd_s hcf (kX6_isIn h_10) (cwX6_planned_X6_isIn hts) hK hP Sb.nil rfl hl.1 rfl (Nat.le_of_ble_eq_true rfl) dX6_planned_40 ⟨Nat.zero_le _, Nat.zero_le _⟩ ?_
      refine lv_if_eq (tgt := 59) hx hb dX6_planned_43 (by decide) (fun c_11 => ?_) (fun c_11 => ?_)
      · replace hm := br_p hm c_11
        refine lv_iload_n hx hb dX6_planned_59 rfl (lv_at hl 3 rfl) ?_
        refine lv_bipush (v := 30) hx hb dX6_planned_60 (by decide) ?_
        refine lv_bipush (v := 29) hx hb dX6_planned_62 (by decide) ?_
        refine lv_iload_n hx hb dX6_planned_64 rfl (lv_at hl 0 rfl) ?_
        refine lv_iadd hx hb dX6_planned_65 ?_
        obtain ⟨v12, h_13, hm⟩ := b1_s hm
        refine rd_s hcf (kX6_isIn h_13) (cwX6_planned_X6_isIn hts) hK hP Sb.nil rfl hl.1 rfl (Nat.le_of_ble_eq_true rfl) dX6_planned_66 ⟨Nat.zero_le _, Nat.zero_le _⟩ ?_
        refine lv_if_eq (tgt := 82) hx hb dX6_planned_69 (by decide) (fun c_14 => ?_) (fun c_14 => ?_)
        · replace hm := br_p hm c_14
          refine lv_iload_n hx hb dX6_planned_82 rfl (lv_at hl 3 rfl) ?_
          refine lv_if_ne (tgt := 90) hx hb dX6_planned_83 (by decide) (fun c_15 => ?_) (fun c_15 => ?_)
          · replace hm := br_n hm c_15
            refine lv_iload_n hx hb dX6_planned_90 rfl (lv_at hl 3 rfl) ?_
            refine lv_iconst (v := 1) hx hb dX6_planned_91 (by decide) ?_
            refine lv_icmp_ne (tgt := 105) hx hb dX6_planned_92 (by decide) (fun c_16 => ?_) (fun c_16 => ?_)
            · replace hm := br_n hm c_16
              refine lv_iload_n hx hb dX6_planned_105 rfl (lv_at hl 3 rfl) ?_
              refine lv_iconst (v := 2) hx hb dX6_planned_106 (by decide) ?_
              refine lv_icmp_ne (tgt := 118) hx hb dX6_planned_107 (by decide) (fun c_17 => ?_) (fun c_17 => ?_)
              · replace hm := br_n hm c_17
                refine lv_iconst (v := (-1)) hx hb dX6_planned_118 (by decide) ?_
                cases hm
                exact hret _ _ _ _ dX6_planned_119 rfl hP hD hS
              · replace hm := br_p hm c_17
                refine lv_aload_n hx hb dX6_planned_110 rfl (lv_at hl 1 rfl) ?_
                refine lv_iload_n hx hb dX6_planned_111 rfl (lv_at hl 2 rfl) ?_
                obtain ⟨v18, h_19, hm⟩ := b1_s hm
                refine rd_v hcf (kX6_nextDay h_19) (cwX6_planned_X6_nextDay hts) hK hP Sb.rf (ci := 6) (q0 := 0) rfl rfl rfl hl.1 rfl (Nat.le_of_ble_eq_true rfl) dX6_planned_112 ⟨Nat.zero_le _, Nat.zero_le _⟩ ?_
                refine lv_goto (tgt := 119) hx hb dX6_planned_115 (by decide) ?_
                cases hm
                exact hret _ _ _ _ dX6_planned_119 rfl hP hD hS
            · replace hm := br_p hm c_16
              refine lv_aload_n hx hb dX6_planned_95 rfl (lv_at hl 1 rfl) ?_
              refine lv_iload_n hx hb dX6_planned_96 rfl (lv_at hl 2 rfl) ?_
              refine lv_bipush (v := 12) hx hb dX6_planned_97 (by decide) ?_
              obtain ⟨v20, h_21, hm⟩ := b1_s hm
              refine rd_v hcf (kX6_its h_21) (cwX6_planned_X6_its hts) hK hP Sb.rf (ci := 6) (q0 := 0) rfl rfl rfl hl.1 rfl (Nat.le_of_ble_eq_true rfl) dX6_planned_99 ⟨Nat.zero_le _, Nat.zero_le _⟩ ?_
              refine lv_goto (tgt := 119) hx hb dX6_planned_102 (by decide) ?_
              cases hm
              exact hret _ _ _ _ dX6_planned_119 rfl hP hD hS
          · replace hm := br_p hm c_15
            refine lv_iload_n hx hb dX6_planned_86 rfl (lv_at hl 0 rfl) ?_
            refine lv_goto (tgt := 119) hx hb dX6_planned_87 (by decide) ?_
            cases hm
            exact hret _ _ _ _ dX6_planned_119 rfl hP hD hS
        · replace hm := br_n hm c_14
          refine lv_aload_n hx hb dX6_planned_72 rfl (lv_at hl 1 rfl) ?_
          refine lv_iload_n hx hb dX6_planned_73 rfl (lv_at hl 2 rfl) ?_
          refine lv_iload_n hx hb dX6_planned_74 rfl (lv_at hl 3 rfl) ?_
          refine lv_bipush (v := 30) hx hb dX6_planned_75 (by decide) ?_
          refine lv_isub hx hb dX6_planned_77 ?_
          obtain ⟨v22, h_23, hm⟩ := b1_s hm
          refine rd_v hcf (kX6_dayOf h_23) (cwX6_planned_X6_dayOf hts) hK hP Sb.rf (ci := 6) (q0 := 0) rfl rfl rfl hl.1 rfl (Nat.le_of_ble_eq_true rfl) dX6_planned_78 ⟨Nat.zero_le _, Nat.zero_le _⟩ ?_
          cases hm
          exact hret _ _ _ _ dX6_planned_81 rfl hP hD hS
      · replace hm := br_n hm c_11
        refine lv_aload_n hx hb dX6_planned_46 rfl (lv_at hl 1 rfl) ?_
        refine lv_iload_n hx hb dX6_planned_47 rfl (lv_at hl 2 rfl) ?_
        refine lv_bipush (v := 13) hx hb dX6_planned_48 (by decide) ?_
        refine lv_iload_n hx hb dX6_planned_50 rfl (lv_at hl 3 rfl) ?_
        refine lv_iadd hx hb dX6_planned_51 ?_
        refine lv_bipush (v := 10) hx hb dX6_planned_52 (by decide) ?_
        refine lv_isub hx hb dX6_planned_54 ?_
        obtain ⟨v24, h_25, hm⟩ := b1_s hm
        refine rd_v hcf (kX6_its h_25) (cwX6_planned_X6_its hts) hK hP Sb.rf (ci := 6) (q0 := 0) rfl rfl rfl hl.1 rfl (Nat.le_of_ble_eq_true rfl) dX6_planned_55 ⟨Nat.zero_le _, Nat.zero_le _⟩ ?_
        cases hm
        exact hret _ _ _ _ dX6_planned_58 rfl hP hD hS
    · replace hm := br_p hm c_6
      refine lv_iconst (v := (-1)) hx hb dX6_planned_23 (by decide) ?_
      cases hm
      exact hret _ _ _ _ dX6_planned_24 rfl hP hD hS
/-! X6 order(II)I -/
abbrev rmX6_order : Room := { frames := 2, cells := 0, slots := 0, locals := 43 }
theorem hdX6_order : yX6_order.cls = RX6 ∧ yX6_order.cls ≠ "java/lang/invoke/MethodHandle" ∧ yX6_order.cls ≠ "java/lang/invoke/VarHandle" ∧ (parseMethodDescriptor yX6_order.desc).map (fun d => d.parameters.length) = some 2 := by decide +kernel
theorem inX6_order_X6 : ∀ w ∈ u_ws RX6 TX6 20, w ∈ wsX6_order := by decide +kernel
theorem cwX6_order_X6_isIn {s : State} {args : Array Value} (hts : ∀ w ∈ wsX6_order, w.before args s = true) : CallB rmX6_order s args RX6 85 yX6_isIn cX6_isIn 3 (some .boolean) wsX6_isIn rmX6_isIn 0 0 3 ∧ (Cond.static yX6_isIn).before args s = true := va_cwS 3 hts gX6_order_X6_isIn rfl rfl rfl hdX6_isIn.2 ⟨Nat.le_of_ble_eq_true rfl, Nat.le_of_ble_eq_true rfl⟩
theorem cwX6_order_X6_isOrder {s : State} {args : Array Value} (hts : ∀ w ∈ wsX6_order, w.before args s = true) : CallW rmX6_order s args RX6 RX6 233 yX6_isOrder cX6_isOrder 2 (some .boolean) wsX6_isOrder rmX6_isOrder 0 0 1 := cwV 1 hts gX6_order_X6_isOrder rfl rfl rfl hdX6_isOrder ⟨Nat.le_of_ble_eq_true rfl, Nat.le_of_ble_eq_true rfl⟩
theorem cwX6_order_X6_ordered {s : State} {args : Array Value} (hts : ∀ w ∈ wsX6_order, w.before args s = true) : CallW rmX6_order s args RX6 RX6 154 yX6_ordered cX6_ordered 3 (some .int) wsX6_ordered rmX6_ordered 0 0 2 := cwV 2 hts gX6_order_X6_ordered rfl rfl rfl hdX6_ordered ⟨Nat.le_of_ble_eq_true rfl, Nat.le_of_ble_eq_true rfl⟩
theorem fpX6_order_1 : Fp wsX6_order RX6 1 6 0 false .int := ⟨_, _, _, tyX6, rfl, by decide, inX6_order_X6, by decide +kernel, tyX6_ok, nmX6, rfl, rfl, by decide +kernel⟩
set_option maxRecDepth 100000 in
set_option maxHeartbeats 4000000 in
theorem kX6_order {l : Launch} {D : va_G} {cI cB cL cK : ClassId} {ad : Nat → Nat} {thr : Int32} {tpd : Int32} {siz : Int32} {too : Int32} {frm : Int32} {srt : Int32} {num : Int32} {flt : Int32} {plc : Int32} {wrd : Int64} {snm : Int32} {lin : Int32} {stp : Int32} {sfo : Int32} {hst : Int32} {tp : Nat → Int32} {nw : Nat → Int32} {rd : Nat → Int32} {kp : Nat → Int32} {sn : Nat → Int32} {p1 : Int32} {p2 : Int32} {res : Int32} {thr' : Int32} (hm : mX6_order thr nw p1 p2 = some (res, thr')) : Mu l D cI cB cL cK yX6_order wsX6_order rmX6_order [.ref (ad 0), .int p1, .int p2] (wM cI ad thr tpd siz too frm srt num flt plc wrd snm lin stp sfo hst tp nw rd kp sn) (wM cI ad thr' tpd siz too frm srt num flt plc wrd snm lin stp sfo hst tp nw rd kp sn) (some (.int res)) 0 0 := by
  refine Mu.ofi (cc := cX6_order) (own := RX6) (by decide) rfl rfl (Nat.le_of_ble_eq_true rfl) (fun p e s m below meth c ls Q A C hA hP hD hS hl hret => ?_)
  obtain ⟨hx, hb, hr, hml, hown, hts, hlk, hK⟩ := id C
  have hcf : CallFix p m c cX6_order 3 s _ wsX6_order RX6 := ⟨hx, hb, hml, hown, hts⟩
  have hl : lv_has ls 3 [(0, .ref (ad 0)), (1, .int p1), (2, .int p2)] := hl
  unfold mX6_order at hm
  refine lv_aload_n hx hb dX6_order_0 rfl (lv_at hl 0 rfl) ?_
  refine lv_iconst (v := 0) hx hb dX6_order_1 (by decide) ?_
  refine pf (q0 := 0) (X' := (wM cI ad 0 tpd siz too frm srt num flt plc wrd snm lin stp sfo hst tp nw rd kp sn)) hx hb hts hown hK fpX6_order_1 hP hD hS rfl rfl rfl (Nat.le_of_ble_eq_true rfl) rfl dX6_order_2 (fun H locs hP hD hS => ?_)
  refine lv_aload_n hx hb dX6_order_5 rfl (lv_at hl 0 rfl) ?_
  refine lv_iload_n hx hb dX6_order_6 rfl (lv_at hl 1 rfl) ?_
  obtain ⟨v1, h_2, hm⟩ := b1_s hm
  refine rd_v hcf (kX6_isOrder h_2) (cwX6_order_X6_isOrder hts) hK hP Sb.rf (ci := 6) (q0 := 0) rfl rfl rfl hl.1 rfl (Nat.le_of_ble_eq_true rfl) dX6_order_7 ⟨Nat.zero_le _, Nat.zero_le _⟩ ?_
  refine lv_if_eq (tgt := 31) hx hb dX6_order_10 (by decide) (fun c_3 => ?_) (fun c_3 => ?_)
  · replace hm := br_p hm c_3
    refine lv_iconst (v := (-1)) hx hb dX6_order_31 (by decide) ?_
    cases hm
    exact hret _ _ _ _ dX6_order_32 rfl hP hD hS
  · replace hm := br_n hm c_3
    refine lv_iload_n hx hb dX6_order_13 rfl (lv_at hl 2 rfl) ?_
    refine lv_iconst (v := 0) hx hb dX6_order_14 (by decide) ?_
    refine lv_iconst (v := 3) hx hb dX6_order_15 (by decide) ?_
    obtain ⟨v4, h_5, hm⟩ := b1_s hm
    refine rd_s hcf (kX6_isIn h_5) (cwX6_order_X6_isIn hts) hK hP Sb.nil rfl hl.1 rfl (Nat.le_of_ble_eq_true rfl) dX6_order_16 ⟨Nat.zero_le _, Nat.zero_le _⟩ ?_
    refine lv_if_eq (tgt := 31) hx hb dX6_order_19 (by decide) (fun c_6 => ?_) (fun c_6 => ?_)
    · replace hm := br_p hm c_6
      refine lv_iconst (v := (-1)) hx hb dX6_order_31 (by decide) ?_
      cases hm
      exact hret _ _ _ _ dX6_order_32 rfl hP hD hS
    · replace hm := br_n hm c_6
      refine lv_aload_n hx hb dX6_order_22 rfl (lv_at hl 0 rfl) ?_
      refine lv_iload_n hx hb dX6_order_23 rfl (lv_at hl 1 rfl) ?_
      refine lv_iload_n hx hb dX6_order_24 rfl (lv_at hl 2 rfl) ?_
      obtain ⟨v7, h_8, hm⟩ := b1_s hm
      refine rd_v hcf (kX6_ordered h_8) (cwX6_order_X6_ordered hts) hK hP Sb.rf (ci := 6) (q0 := 0) rfl rfl rfl hl.1 rfl (Nat.le_of_ble_eq_true rfl) dX6_order_25 ⟨Nat.zero_le _, Nat.zero_le _⟩ ?_
      refine lv_goto (tgt := 32) hx hb dX6_order_28 (by decide) ?_
      cases hm
      exact hret _ _ _ _ dX6_order_32 rfl hP hD hS
/-! X6 isAged(II)Z -/
abbrev rmX6_isAged : Room := { frames := 1, cells := 0, slots := 0, locals := 22 }
theorem hdX6_isAged : yX6_isAged.cls = RX6 ∧ yX6_isAged.cls ≠ "java/lang/invoke/MethodHandle" ∧ yX6_isAged.cls ≠ "java/lang/invoke/VarHandle" ∧ (parseMethodDescriptor yX6_isAged.desc).map (fun d => d.parameters.length) = some 2 := by decide +kernel
theorem cwX6_isAged_X6_isIn {s : State} {args : Array Value} (hts : ∀ w ∈ wsX6_isAged, w.before args s = true) : CallB rmX6_isAged s args RX6 85 yX6_isIn cX6_isIn 3 (some .boolean) wsX6_isIn rmX6_isIn 0 0 3 ∧ (Cond.static yX6_isIn).before args s = true := va_cwS 3 hts gX6_isAged_X6_isIn rfl rfl rfl hdX6_isIn.2 ⟨Nat.le_of_ble_eq_true rfl, Nat.le_of_ble_eq_true rfl⟩
set_option maxRecDepth 100000 in
set_option maxHeartbeats 4000000 in
theorem kX6_isAged {l : Launch} {D : va_G} {cI cB cL cK : ClassId}   {p1 : Int32} {p2 : Int32} {res : Int32} (hm : mX6_isAged p1 p2 = some res) : Rd l D cI cB cL cK yX6_isAged wsX6_isAged rmX6_isAged [.int p1, .int p2] [] res := by
  refine Rd.of (cc := cX6_isAged) (own := RX6) (by decide) rfl rfl (Nat.le_of_ble_eq_true rfl) (fun p e s m below meth c ls Q C hP hl hret => ?_)
  obtain ⟨hx, hb, hr, hml, hown, hts, hlk, hK⟩ := id C
  have hcf : CallFix p m c cX6_isAged 2 s _ wsX6_isAged RX6 := ⟨hx, hb, hml, hown, hts⟩
  have hl : lv_has ls 2 [(0, .int p1), (1, .int p2)] := hl
  unfold mX6_isAged at hm
  refine lv_iload_n hx hb dX6_isAged_0 rfl (lv_at hl 1 rfl) ?_
  refine lv_if_ne (tgt := 16) hx hb dX6_isAged_1 (by decide) (fun c_1 => ?_) (fun c_1 => ?_)
  · replace hm := br_n hm c_1
    refine lv_iload_n hx hb dX6_isAged_16 rfl (lv_at hl 1 rfl) ?_
    refine lv_iconst (v := 1) hx hb dX6_isAged_17 (by decide) ?_
    refine lv_icmp_ne (tgt := 31) hx hb dX6_isAged_18 (by decide) (fun c_2 => ?_) (fun c_2 => ?_)
    · replace hm := br_n hm c_2
      refine lv_iload_n hx hb dX6_isAged_31 rfl (lv_at hl 1 rfl) ?_
      refine lv_iconst (v := 2) hx hb dX6_isAged_32 (by decide) ?_
      refine lv_icmp_ne (tgt := 47) hx hb dX6_isAged_33 (by decide) (fun c_3 => ?_) (fun c_3 => ?_)
      · replace hm := br_n hm c_3
        refine lv_iload_n hx hb dX6_isAged_47 rfl (lv_at hl 0 rfl) ?_
        refine lv_bipush (v := 60) hx hb dX6_isAged_48 (by decide) ?_
        refine lv_icmp_le (tgt := 57) hx hb dX6_isAged_50 (by decide) (fun c_4 => ?_) (fun c_4 => ?_)
        · replace hm := br_p hm c_4
          refine lv_iconst (v := 0) hx hb dX6_isAged_57 (by decide) ?_
          cases hm
          exact hret _ _ dX6_isAged_58 rfl
        · replace hm := br_n hm c_4
          refine lv_iconst (v := 1) hx hb dX6_isAged_53 (by decide) ?_
          refine lv_goto (tgt := 58) hx hb dX6_isAged_54 (by decide) ?_
          cases hm
          exact hret _ _ dX6_isAged_58 rfl
      · replace hm := br_p hm c_3
        refine lv_iload_n hx hb dX6_isAged_36 rfl (lv_at hl 0 rfl) ?_
        refine lv_bipush (v := 31) hx hb dX6_isAged_37 (by decide) ?_
        refine lv_bipush (v := 60) hx hb dX6_isAged_39 (by decide) ?_
        obtain ⟨v5, h_6, hm⟩ := b1_s hm
        refine rd_s hcf (kX6_isIn h_6) (cwX6_isAged_X6_isIn hts) hK hP Sb.nil rfl hl.1 rfl (Nat.le_of_ble_eq_true rfl) dX6_isAged_41 ⟨Nat.zero_le _, Nat.zero_le _⟩ ?_
        refine lv_goto (tgt := 58) hx hb dX6_isAged_44 (by decide) ?_
        obtain ⟨h_7, hm⟩ := ck_s hm
        cases hm
        exact hret _ _ dX6_isAged_58 (bz_n h_7)
    · replace hm := br_p hm c_2
      refine lv_iload_n hx hb dX6_isAged_21 rfl (lv_at hl 0 rfl) ?_
      refine lv_iconst (v := 1) hx hb dX6_isAged_22 (by decide) ?_
      refine lv_bipush (v := 30) hx hb dX6_isAged_23 (by decide) ?_
      obtain ⟨v8, h_9, hm⟩ := b1_s hm
      refine rd_s hcf (kX6_isIn h_9) (cwX6_isAged_X6_isIn hts) hK hP Sb.nil rfl hl.1 rfl (Nat.le_of_ble_eq_true rfl) dX6_isAged_25 ⟨Nat.zero_le _, Nat.zero_le _⟩ ?_
      refine lv_goto (tgt := 58) hx hb dX6_isAged_28 (by decide) ?_
      obtain ⟨h_10, hm⟩ := ck_s hm
      cases hm
      exact hret _ _ dX6_isAged_58 (bz_n h_10)
  · replace hm := br_p hm c_1
    refine lv_iload_n hx hb dX6_isAged_4 rfl (lv_at hl 0 rfl) ?_
    refine lv_if_ne (tgt := 12) hx hb dX6_isAged_5 (by decide) (fun c_11 => ?_) (fun c_11 => ?_)
    · replace hm := br_n hm c_11
      refine lv_iconst (v := 0) hx hb dX6_isAged_12 (by decide) ?_
      refine lv_goto (tgt := 58) hx hb dX6_isAged_13 (by decide) ?_
      cases hm
      exact hret _ _ dX6_isAged_58 rfl
    · replace hm := br_p hm c_11
      refine lv_iconst (v := 1) hx hb dX6_isAged_8 (by decide) ?_
      refine lv_goto (tgt := 58) hx hb dX6_isAged_9 (by decide) ?_
      cases hm
      exact hret _ _ dX6_isAged_58 rfl
/-! X6 aged(II)I -/
abbrev rmX6_aged : Room := { frames := 2, cells := 0, slots := 0, locals := 43 }
theorem hdX6_aged : yX6_aged.cls = RX6 ∧ yX6_aged.cls ≠ "java/lang/invoke/MethodHandle" ∧ yX6_aged.cls ≠ "java/lang/invoke/VarHandle" ∧ (parseMethodDescriptor yX6_aged.desc).map (fun d => d.parameters.length) = some 2 := by decide +kernel
theorem inX6_aged_X6 : ∀ w ∈ u_ws RX6 TX6 20, w ∈ wsX6_aged := by decide +kernel
theorem cwX6_aged_X6_billed {s : State} {args : Array Value} (hts : ∀ w ∈ wsX6_aged, w.before args s = true) : CallW rmX6_aged s args RX6 RX6 140 yX6_billed cX6_billed 3 (some .int) wsX6_billed rmX6_billed 0 0 2 := cwV 2 hts gX6_aged_X6_billed rfl rfl rfl hdX6_billed ⟨Nat.le_of_ble_eq_true rfl, Nat.le_of_ble_eq_true rfl⟩
theorem cwX6_aged_X6_isAged {s : State} {args : Array Value} (hts : ∀ w ∈ wsX6_aged, w.before args s = true) : CallB rmX6_aged s args RX6 237 yX6_isAged cX6_isAged 2 (some .boolean) wsX6_isAged rmX6_isAged 0 0 2 ∧ (Cond.static yX6_isAged).before args s = true := va_cwS 2 hts gX6_aged_X6_isAged rfl rfl rfl hdX6_isAged.2 ⟨Nat.le_of_ble_eq_true rfl, Nat.le_of_ble_eq_true rfl⟩
theorem cwX6_aged_X6_isDebtor {s : State} {args : Array Value} (hts : ∀ w ∈ wsX6_aged, w.before args s = true) : CallW rmX6_aged s args RX6 RX6 221 yX6_isDebtor cX6_isDebtor 2 (some .boolean) wsX6_isDebtor rmX6_isDebtor 0 0 1 := cwV 1 hts gX6_aged_X6_isDebtor rfl rfl rfl hdX6_isDebtor ⟨Nat.le_of_ble_eq_true rfl, Nat.le_of_ble_eq_true rfl⟩
theorem cwX6_aged_X6_isIn {s : State} {args : Array Value} (hts : ∀ w ∈ wsX6_aged, w.before args s = true) : CallB rmX6_aged s args RX6 85 yX6_isIn cX6_isIn 3 (some .boolean) wsX6_isIn rmX6_isIn 0 0 3 ∧ (Cond.static yX6_isIn).before args s = true := va_cwS 3 hts gX6_aged_X6_isIn rfl rfl rfl hdX6_isIn.2 ⟨Nat.le_of_ble_eq_true rfl, Nat.le_of_ble_eq_true rfl⟩
theorem flX6_aged_70 : Fl wsX6_aged RX6 70 6 11 := ⟨_, _, _, rfl, by decide, inX6_aged_X6, by decide +kernel⟩
theorem fpX6_aged_1 : Fp wsX6_aged RX6 1 6 0 false .int := ⟨_, _, _, tyX6, rfl, by decide, inX6_aged_X6, by decide +kernel, tyX6_ok, nmX6, rfl, rfl, by decide +kernel⟩
theorem kcX6_aged_236 : Cond.constant RX6 236 (-100000000) ∈ wsX6_aged := by decide +kernel
set_option maxRecDepth 100000 in
set_option maxHeartbeats 4000000 in
theorem tX6_aged_b118 {ad : Nat → Nat} {tpd : Int32} {siz : Int32} {too : Int32} {frm : Int32} {srt : Int32} {num : Int32} {flt : Int32} {plc : Int32} {wrd : Int64} {snm : Int32} {lin : Int32} {stp : Int32} {sfo : Int32} {hst : Int32} {tp : Nat → Int32} {nw : Nat → Int32} {rd : Nat → Int32} {kp : Nat → Int32} {sn : Nat → Int32} {res : Int32} {thr' : Int32} {rec35 : Int32 → Int32 → Int32 → Int32 → Int32 → Option (Int32 × Int32)} (C : Cx p s m args meth c cX6_aged (some .int) 6 wsX6_aged RX6 D cI cB cL cK) (hA : ∀ q : Nat, s.heap.size ≤ q → A q) (hret : ∀ (pc : Nat) (ls : Array Slot) (H : Heap) (locs : List Loc), decode cX6_aged pc = .ok (.ireturn, 1) → narrow .int (.int res) = .int res → va_P D vwCl (wM cI ad thr' tpd siz too frm srt num flt plc wrd snm lin stp sfo hst tp nw rd kp sn) H → va_D A (wM cI ad thr' tpd siz too frm srt num flt plc wrd snm lin stp sfo hst tp nw rd kp sn) → va_S A s.heap H locs → W p l e rmX6_aged s m args below meth c H locs 0 0 Q (F0 m pc ls [.int res])) (hrec35 : ∀ (x1 : Int32) (x2 : Int32) (x3 : Int32) (x4 : Int32) (thr : Int32), rec35 x1 x2 x3 x4 thr = some (res, thr') → ∀ (H : Heap) (locs : List Loc) (ls : Array Slot), va_P D vwCl (wM cI ad thr tpd siz too frm srt num flt plc wrd snm lin stp sfo hst tp nw rd kp sn) H → va_D A (wM cI ad thr tpd siz too frm srt num flt plc wrd snm lin stp sfo hst tp nw rd kp sn) → va_S A s.heap H locs → lv_has ls 6 [(0, .ref (ad 0)), (1, .int x1), (2, .int x2), (3, .int x3), (4, .int x4)] → W p l e rmX6_aged s m args below meth c H locs 0 0 Q (F0 m 35 ls [])) : ∀ (x1 : Int32) (x2 : Int32) (x3 : Int32) (x4 : Int32) (k0 : Int32) (thr : Int32), mX6_aged_b118 rec35 nw x1 x2 x3 x4 k0 thr = some (res, thr') → ∀ (H : Heap) (locs : List Loc) (ls : Array Slot), va_P D vwCl (wM cI ad thr tpd siz too frm srt num flt plc wrd snm lin stp sfo hst tp nw rd kp sn) H → va_D A (wM cI ad thr tpd siz too frm srt num flt plc wrd snm lin stp sfo hst tp nw rd kp sn) → va_S A s.heap H locs → lv_has ls 6 [(0, .ref (ad 0)), (1, .int x1), (2, .int x2), (3, .int x3), (4, .int x4)] → W p l e rmX6_aged s m args below meth c H locs 0 0 Q (F0 m 118 ls [.int k0]) := by
  obtain ⟨hx, hb, hr, hml, hown, hts, hlk, hK⟩ := id C
  have hcf : CallFix p m c cX6_aged 6 s args wsX6_aged RX6 := ⟨hx, hb, hml, hown, hts⟩
  intro x1 x2 x3 x4 k0 thr hm H locs ls hP hD hS hl
  unfold mX6_aged_b118 at hm
  refine lv_istore (lv' := [(5, .int k0), (0, .ref (ad 0)), (1, .int x1), (2, .int x2), (3, .int x3), (4, .int x4)]) hx hb dX6_aged_118 hl (by decide) rfl (fun ls hl => ?_)
  refine lv_iload hx hb dX6_aged_120 (lv_at hl 0 rfl) ?_
  refine lv_if_eq (tgt := 135) hx hb dX6_aged_122 (by decide) (fun c_25 => ?_) (fun c_25 => ?_)
  · replace hm := br_p hm c_25
    refine lv_iinc (v := (x4 + 1)) (lv' := [(4, .int (x4 + 1)), (5, .int k0), (0, .ref (ad 0)), (1, .int x1), (2, .int x2), (3, .int x3)]) hx hb dX6_aged_135 hl (k := 5) rfl rfl (by decide) rfl (fun ls hl => ?_)
    refine lv_goto (tgt := 35) hx hb dX6_aged_138 (by decide) ?_
    exact hrec35 _ _ _ _ _ hm _ _ _ hP hD hS (lv_sub hl [2, 3, 4, 5, 0] rfl)
  · replace hm := br_n hm c_25
    refine lv_iload_n hx hb dX6_aged_125 rfl (lv_at hl 4 rfl) ?_
    refine lv_aload_n hx hb dX6_aged_126 rfl (lv_at hl 1 rfl) ?_
    refine lv_iload hx hb dX6_aged_127 (lv_at hl 5 rfl) ?_
    refine lv_iconst (v := 2) hx hb dX6_aged_129 (by decide) ?_
    obtain ⟨v26, h_27, hm⟩ := b1_s hm
    refine rd_v hcf (kX6_billed h_27) (cwX6_aged_X6_billed hts) hK hP Sb.rf (ci := 6) (q0 := 0) rfl rfl rfl hl.1 rfl (Nat.le_of_ble_eq_true rfl) dX6_aged_130 ⟨Nat.zero_le _, Nat.zero_le _⟩ ?_
    refine lv_iadd hx hb dX6_aged_133 ?_
    refine lv_istore_n (lv' := [(3, .int (x3 + v26)), (5, .int k0), (0, .ref (ad 0)), (1, .int x1), (2, .int x2), (4, .int x4)]) hx hb dX6_aged_134 rfl hl (by decide) rfl (fun ls hl => ?_)
    refine lv_iinc (v := (x4 + 1)) (lv' := [(4, .int (x4 + 1)), (3, .int (x3 + v26)), (5, .int k0), (0, .ref (ad 0)), (1, .int x1), (2, .int x2)]) hx hb dX6_aged_135 hl (k := 5) rfl rfl (by decide) rfl (fun ls hl => ?_)
    refine lv_goto (tgt := 35) hx hb dX6_aged_138 (by decide) ?_
    exact hrec35 _ _ _ _ _ hm _ _ _ hP hD hS (lv_sub hl [3, 4, 5, 1, 0] rfl)
set_option maxRecDepth 100000 in
set_option maxHeartbeats 4000000 in
theorem tX6_aged_b65 {ad : Nat → Nat} {tpd : Int32} {siz : Int32} {too : Int32} {frm : Int32} {srt : Int32} {num : Int32} {flt : Int32} {plc : Int32} {wrd : Int64} {snm : Int32} {lin : Int32} {stp : Int32} {sfo : Int32} {hst : Int32} {tp : Nat → Int32} {nw : Nat → Int32} {rd : Nat → Int32} {kp : Nat → Int32} {sn : Nat → Int32} {res : Int32} {thr' : Int32} {rec35 : Int32 → Int32 → Int32 → Int32 → Int32 → Option (Int32 × Int32)} (C : Cx p s m args meth c cX6_aged (some .int) 6 wsX6_aged RX6 D cI cB cL cK) (hA : ∀ q : Nat, s.heap.size ≤ q → A q) (hret : ∀ (pc : Nat) (ls : Array Slot) (H : Heap) (locs : List Loc), decode cX6_aged pc = .ok (.ireturn, 1) → narrow .int (.int res) = .int res → va_P D vwCl (wM cI ad thr' tpd siz too frm srt num flt plc wrd snm lin stp sfo hst tp nw rd kp sn) H → va_D A (wM cI ad thr' tpd siz too frm srt num flt plc wrd snm lin stp sfo hst tp nw rd kp sn) → va_S A s.heap H locs → W p l e rmX6_aged s m args below meth c H locs 0 0 Q (F0 m pc ls [.int res])) (hrec35 : ∀ (x1 : Int32) (x2 : Int32) (x3 : Int32) (x4 : Int32) (thr : Int32), rec35 x1 x2 x3 x4 thr = some (res, thr') → ∀ (H : Heap) (locs : List Loc) (ls : Array Slot), va_P D vwCl (wM cI ad thr tpd siz too frm srt num flt plc wrd snm lin stp sfo hst tp nw rd kp sn) H → va_D A (wM cI ad thr tpd siz too frm srt num flt plc wrd snm lin stp sfo hst tp nw rd kp sn) → va_S A s.heap H locs → lv_has ls 6 [(0, .ref (ad 0)), (1, .int x1), (2, .int x2), (3, .int x3), (4, .int x4)] → W p l e rmX6_aged s m args below meth c H locs 0 0 Q (F0 m 35 ls [])) : ∀ (x1 : Int32) (x2 : Int32) (x3 : Int32) (x4 : Int32) (thr : Int32), mX6_aged_b65 rec35 nw x1 x2 x3 x4 thr = some (res, thr') → ∀ (H : Heap) (locs : List Loc) (ls : Array Slot), va_P D vwCl (wM cI ad thr tpd siz too frm srt num flt plc wrd snm lin stp sfo hst tp nw rd kp sn) H → va_D A (wM cI ad thr tpd siz too frm srt num flt plc wrd snm lin stp sfo hst tp nw rd kp sn) → va_S A s.heap H locs → lv_has ls 6 [(0, .ref (ad 0)), (1, .int x1), (2, .int x2), (3, .int x3), (4, .int x4)] → W p l e rmX6_aged s m args below meth c H locs 0 0 Q (F0 m 65 ls []) := by
  obtain ⟨hx, hb, hr, hml, hown, hts, hlk, hK⟩ := id C
  have hcf : CallFix p m c cX6_aged 6 s args wsX6_aged RX6 := ⟨hx, hb, hml, hown, hts⟩
  intro x1 x2 x3 x4 thr hm H locs ls hP hD hS hl
  unfold mX6_aged_b65 at hm
  refine lv_iload_n hx hb dX6_aged_65 rfl (lv_at hl 2 rfl) ?_
  refine lv_iconst (v := 4) hx hb dX6_aged_66 (by decide) ?_
  refine lv_icmp_ne (tgt := 89) hx hb dX6_aged_67 (by decide) (fun c_13 => ?_) (fun c_13 => ?_)
  · replace hm := br_n hm c_13
    refine lv_aload_n hx hb dX6_aged_89 rfl (lv_at hl 0 rfl) ?_
    refine lv_iload hx hb dX6_aged_90 (lv_at hl 4 rfl) ?_
    refine lv_iconst (v := 5) hx hb dX6_aged_92 (by decide) ?_
    obtain ⟨v14, h_15, hm⟩ := b1_s hm
    refine rd_v hcf (kX6_billed h_15) (cwX6_aged_X6_billed hts) hK hP Sb.rf (ci := 6) (q0 := 0) rfl rfl rfl hl.1 rfl (Nat.le_of_ble_eq_true rfl) dX6_aged_93 ⟨Nat.zero_le _, Nat.zero_le _⟩ ?_
    refine lv_if_ne (tgt := 117) hx hb dX6_aged_96 (by decide) (fun c_16 => ?_) (fun c_16 => ?_)
    · replace hm := br_n hm c_16
      refine lv_iconst (v := 0) hx hb dX6_aged_117 (by decide) ?_
      exact tX6_aged_b118 C hA hret hrec35 _ _ _ _ _ _ hm _ _ _ hP hD hS (lv_sub hl [0, 1, 2, 3, 4] rfl)
    · replace hm := br_p hm c_16
      refine lv_aload_n hx hb dX6_aged_99 rfl (lv_at hl 0 rfl) ?_
      refine lv_iload hx hb dX6_aged_100 (lv_at hl 4 rfl) ?_
      refine lv_iconst (v := 4) hx hb dX6_aged_102 (by decide) ?_
      obtain ⟨v17, h_18, hm⟩ := b1_s hm
      refine rd_v hcf (kX6_billed h_18) (cwX6_aged_X6_billed hts) hK hP Sb.rf (ci := 6) (q0 := 0) rfl rfl rfl hl.1 rfl (Nat.le_of_ble_eq_true rfl) dX6_aged_103 ⟨Nat.zero_le _, Nat.zero_le _⟩ ?_
      refine lv_iload_n hx hb dX6_aged_106 rfl (lv_at hl 2 rfl) ?_
      obtain ⟨v19, h_20, hm⟩ := b1_s hm
      refine rd_s hcf (kX6_isAged h_20) (cwX6_aged_X6_isAged hts) hK hP Sb.nil rfl hl.1 rfl (Nat.le_of_ble_eq_true rfl) dX6_aged_107 ⟨Nat.zero_le _, Nat.zero_le _⟩ ?_
      refine lv_if_eq (tgt := 117) hx hb dX6_aged_110 (by decide) (fun c_21 => ?_) (fun c_21 => ?_)
      · replace hm := br_p hm c_21
        refine lv_iconst (v := 0) hx hb dX6_aged_117 (by decide) ?_
        exact tX6_aged_b118 C hA hret hrec35 _ _ _ _ _ _ hm _ _ _ hP hD hS (lv_sub hl [0, 1, 2, 3, 4] rfl)
      · replace hm := br_n hm c_21
        refine lv_iconst (v := 1) hx hb dX6_aged_113 (by decide) ?_
        refine lv_goto (tgt := 118) hx hb dX6_aged_114 (by decide) ?_
        exact tX6_aged_b118 C hA hret hrec35 _ _ _ _ _ _ hm _ _ _ hP hD hS (lv_sub hl [0, 1, 2, 3, 4] rfl)
  · replace hm := br_p hm c_13
    refine lv_aload_n hx hb dX6_aged_70 rfl (lv_at hl 0 rfl) ?_
    refine lv_iload hx hb dX6_aged_71 (lv_at hl 4 rfl) ?_
    refine lv_iconst (v := 5) hx hb dX6_aged_73 (by decide) ?_
    obtain ⟨v22, h_23, hm⟩ := b1_s hm
    refine rd_v hcf (kX6_billed h_23) (cwX6_aged_X6_billed hts) hK hP Sb.rf (ci := 6) (q0 := 0) rfl rfl rfl hl.1 rfl (Nat.le_of_ble_eq_true rfl) dX6_aged_74 ⟨Nat.zero_le _, Nat.zero_le _⟩ ?_
    refine lv_iconst (v := 1) hx hb dX6_aged_77 (by decide) ?_
    refine lv_icmp_ne (tgt := 85) hx hb dX6_aged_78 (by decide) (fun c_24 => ?_) (fun c_24 => ?_)
    · replace hm := br_n hm c_24
      refine lv_iconst (v := 0) hx hb dX6_aged_85 (by decide) ?_
      refine lv_goto (tgt := 118) hx hb dX6_aged_86 (by decide) ?_
      exact tX6_aged_b118 C hA hret hrec35 _ _ _ _ _ _ hm _ _ _ hP hD hS (lv_sub hl [0, 1, 2, 3, 4] rfl)
    · replace hm := br_p hm c_24
      refine lv_iconst (v := 1) hx hb dX6_aged_81 (by decide) ?_
      refine lv_goto (tgt := 118) hx hb dX6_aged_82 (by decide) ?_
      exact tX6_aged_b118 C hA hret hrec35 _ _ _ _ _ _ hm _ _ _ hP hD hS (lv_sub hl [0, 1, 2, 3, 4] rfl)
set_option maxRecDepth 100000 in
set_option maxHeartbeats 4000000 in
theorem tX6_aged_L35 {ad : Nat → Nat} {tpd : Int32} {siz : Int32} {too : Int32} {frm : Int32} {srt : Int32} {num : Int32} {flt : Int32} {plc : Int32} {wrd : Int64} {snm : Int32} {lin : Int32} {stp : Int32} {sfo : Int32} {hst : Int32} {tp : Nat → Int32} {nw : Nat → Int32} {rd : Nat → Int32} {kp : Nat → Int32} {sn : Nat → Int32} {res : Int32} {thr' : Int32} (C : Cx p s m args meth c cX6_aged (some .int) 6 wsX6_aged RX6 D cI cB cL cK) (hA : ∀ q : Nat, s.heap.size ≤ q → A q) (hret : ∀ (pc : Nat) (ls : Array Slot) (H : Heap) (locs : List Loc), decode cX6_aged pc = .ok (.ireturn, 1) → narrow .int (.int res) = .int res → va_P D vwCl (wM cI ad thr' tpd siz too frm srt num flt plc wrd snm lin stp sfo hst tp nw rd kp sn) H → va_D A (wM cI ad thr' tpd siz too frm srt num flt plc wrd snm lin stp sfo hst tp nw rd kp sn) → va_S A s.heap H locs → W p l e rmX6_aged s m args below meth c H locs 0 0 Q (F0 m pc ls [.int res])) : ∀ (n9 : Nat) (x1 : Int32) (x2 : Int32) (x3 : Int32) (x4 : Int32) (thr : Int32), mX6_aged_L35 n9 nw x1 x2 x3 x4 thr = some (res, thr') → ∀ (H : Heap) (locs : List Loc) (ls : Array Slot), va_P D vwCl (wM cI ad thr tpd siz too frm srt num flt plc wrd snm lin stp sfo hst tp nw rd kp sn) H → va_D A (wM cI ad thr tpd siz too frm srt num flt plc wrd snm lin stp sfo hst tp nw rd kp sn) → va_S A s.heap H locs → lv_has ls 6 [(0, .ref (ad 0)), (1, .int x1), (2, .int x2), (3, .int x3), (4, .int x4)] → W p l e rmX6_aged s m args below meth c H locs 0 0 Q (F0 m 35 ls []) := by
  obtain ⟨hx, hb, hr, hml, hown, hts, hlk, hK⟩ := id C
  have hcf : CallFix p m c cX6_aged 6 s args wsX6_aged RX6 := ⟨hx, hb, hml, hown, hts⟩
  intro n9
  induction n9 with
  | zero => intro x1 x2 x3 x4 thr hm; cases hm
  | succ k ih =>
    intro x1 x2 x3 x4 thr hm H locs ls hP hD hS hl
    rw [mX6_aged_L35.eq_2] at hm
    refine lv_iload hx hb dX6_aged_35 (lv_at hl 4 rfl) ?_
    refine lv_aload_n hx hb dX6_aged_37 rfl (lv_at hl 0 rfl) ?_
    refine gf (q0 := 0) hx hb hts hown hK flX6_aged_70 hP rfl rfl dX6_aged_38 ?_
    refine lv_iconst (v := 4) hx hb dX6_aged_41 (by decide) ?_
    refine ald (q0 := 2) (k := 4) hx hb hK hP rfl (by decide) (by decide) dX6_aged_42 ?_
    refine lv_icmp_ge (tgt := 141) hx hb dX6_aged_43 (by decide) (fun c_8 => ?_) (fun c_8 => ?_)
    · replace hm := br_p hm c_8
      refine lv_iload_n hx hb dX6_aged_141 rfl (lv_at hl 3 rfl) ?_
      cases hm
      exact hret _ _ _ _ dX6_aged_142 rfl hP hD hS
    · replace hm := br_n hm c_8
      refine lv_iload_n hx hb dX6_aged_46 rfl (lv_at hl 1 rfl) ?_
      refine lv_iconst (v := (-1)) hx hb dX6_aged_47 (by decide) ?_
      refine lv_icmp_eq (tgt := 65) hx hb dX6_aged_48 (by decide) (fun c_9 => ?_) (fun c_9 => ?_)
      · replace hm := br_p hm c_9
        exact tX6_aged_b65 C hA hret ih _ _ _ _ _ hm _ _ _ hP hD hS (lv_sub hl [0, 1, 2, 3, 4] rfl)
      · replace hm := br_n hm c_9
        refine lv_aload_n hx hb dX6_aged_51 rfl (lv_at hl 0 rfl) ?_
        refine lv_iload hx hb dX6_aged_52 (lv_at hl 4 rfl) ?_
        refine lv_iconst (v := 0) hx hb dX6_aged_54 (by decide) ?_
        obtain ⟨v10, h_11, hm⟩ := b1_s hm
        refine rd_v hcf (kX6_billed h_11) (cwX6_aged_X6_billed hts) hK hP Sb.rf (ci := 6) (q0 := 0) rfl rfl rfl hl.1 rfl (Nat.le_of_ble_eq_true rfl) dX6_aged_55 ⟨Nat.zero_le _, Nat.zero_le _⟩ ?_
        refine lv_iload_n hx hb dX6_aged_58 rfl (lv_at hl 1 rfl) ?_
        refine lv_icmp_eq (tgt := 65) hx hb dX6_aged_59 (by decide) (fun c_12 => ?_) (fun c_12 => ?_)
        · replace hm := br_p hm c_12
          exact tX6_aged_b65 C hA hret ih _ _ _ _ _ hm _ _ _ hP hD hS (lv_sub hl [0, 1, 2, 3, 4] rfl)
        · replace hm := br_n hm c_12
          refine lv_goto (tgt := 135) hx hb dX6_aged_62 (by decide) ?_
          refine lv_iinc (v := (x4 + 1)) (lv' := [(4, .int (x4 + 1)), (0, .ref (ad 0)), (1, .int x1), (2, .int x2), (3, .int x3)]) hx hb dX6_aged_135 hl (k := 4) rfl rfl (by decide) rfl (fun ls hl => ?_)
          refine lv_goto (tgt := 35) hx hb dX6_aged_138 (by decide) ?_
          exact ih _ _ _ _ _ hm _ _ _ hP hD hS (lv_sub hl [1, 2, 3, 4, 0] rfl)
set_option maxRecDepth 100000 in
set_option maxHeartbeats 4000000 in
theorem tX6_aged_b18 {ad : Nat → Nat} {tpd : Int32} {siz : Int32} {too : Int32} {frm : Int32} {srt : Int32} {num : Int32} {flt : Int32} {plc : Int32} {wrd : Int64} {snm : Int32} {lin : Int32} {stp : Int32} {sfo : Int32} {hst : Int32} {tp : Nat → Int32} {nw : Nat → Int32} {rd : Nat → Int32} {kp : Nat → Int32} {sn : Nat → Int32} {res : Int32} {thr' : Int32} (C : Cx p s m args meth c cX6_aged (some .int) 6 wsX6_aged RX6 D cI cB cL cK) (hA : ∀ q : Nat, s.heap.size ≤ q → A q) (hret : ∀ (pc : Nat) (ls : Array Slot) (H : Heap) (locs : List Loc), decode cX6_aged pc = .ok (.ireturn, 1) → narrow .int (.int res) = .int res → va_P D vwCl (wM cI ad thr' tpd siz too frm srt num flt plc wrd snm lin stp sfo hst tp nw rd kp sn) H → va_D A (wM cI ad thr' tpd siz too frm srt num flt plc wrd snm lin stp sfo hst tp nw rd kp sn) → va_S A s.heap H locs → W p l e rmX6_aged s m args below meth c H locs 0 0 Q (F0 m pc ls [.int res])) : ∀ (x1 : Int32) (x2 : Int32) (thr : Int32), mX6_aged_b18 nw x1 x2 thr = some (res, thr') → ∀ (H : Heap) (locs : List Loc) (ls : Array Slot), va_P D vwCl (wM cI ad thr tpd siz too frm srt num flt plc wrd snm lin stp sfo hst tp nw rd kp sn) H → va_D A (wM cI ad thr tpd siz too frm srt num flt plc wrd snm lin stp sfo hst tp nw rd kp sn) → va_S A s.heap H locs → lv_has ls 6 [(0, .ref (ad 0)), (1, .int x1), (2, .int x2)] → W p l e rmX6_aged s m args below meth c H locs 0 0 Q (F0 m 18 ls []) := by
  obtain ⟨hx, hb, hr, hml, hown, hts, hlk, hK⟩ := id C
  have hcf : CallFix p m c cX6_aged 6 s args wsX6_aged RX6 := ⟨hx, hb, hml, hown, hts⟩
  intro x1 x2 thr hm H locs ls hP hD hS hl
  unfold mX6_aged_b18 at hm
  refine lv_iload_n hx hb dX6_aged_18 rfl (lv_at hl 2 rfl) ?_
  refine lv_iconst (v := 0) hx hb dX6_aged_19 (by decide) ?_
  refine lv_iconst (v := 4) hx hb dX6_aged_20 (by decide) ?_
  obtain ⟨v5, h_6, hm⟩ := b1_s hm
  refine rd_s hcf (kX6_isIn h_6) (cwX6_aged_X6_isIn hts) hK hP Sb.nil rfl hl.1 rfl (Nat.le_of_ble_eq_true rfl) dX6_aged_21 ⟨Nat.zero_le _, Nat.zero_le _⟩ ?_
  refine lv_if_ne (tgt := 30) hx hb dX6_aged_24 (by decide) (fun c_7 => ?_) (fun c_7 => ?_)
  · replace hm := br_n hm c_7
    refine lv_iconst (v := 0) hx hb dX6_aged_30 (by decide) ?_
    refine lv_istore_n (lv' := [(3, .int 0), (0, .ref (ad 0)), (1, .int x1), (2, .int x2)]) hx hb dX6_aged_31 rfl hl (by decide) rfl (fun ls hl => ?_)
    refine lv_iconst (v := 0) hx hb dX6_aged_32 (by decide) ?_
    refine lv_istore (lv' := [(4, .int 0), (3, .int 0), (0, .ref (ad 0)), (1, .int x1), (2, .int x2)]) hx hb dX6_aged_33 hl (by decide) rfl (fun ls hl => ?_)
    exact tX6_aged_L35 C hA hret _ _ _ _ _ _ hm _ _ _ hP hD hS (lv_sub hl [2, 3, 4, 1, 0] rfl)
  · replace hm := br_p hm c_7
    refine lv_ldc (v := (-100000000)) hx hb hown (hts _ kcX6_aged_236) dX6_aged_27 ?_
    cases hm
    exact hret _ _ _ _ dX6_aged_29 rfl hP hD hS
set_option maxRecDepth 100000 in
set_option maxHeartbeats 4000000 in
theorem kX6_aged {l : Launch} {D : va_G} {cI cB cL cK : ClassId} {ad : Nat → Nat} {thr : Int32} {tpd : Int32} {siz : Int32} {too : Int32} {frm : Int32} {srt : Int32} {num : Int32} {flt : Int32} {plc : Int32} {wrd : Int64} {snm : Int32} {lin : Int32} {stp : Int32} {sfo : Int32} {hst : Int32} {tp : Nat → Int32} {nw : Nat → Int32} {rd : Nat → Int32} {kp : Nat → Int32} {sn : Nat → Int32} {p1 : Int32} {p2 : Int32} {res : Int32} {thr' : Int32} (hm : mX6_aged thr nw p1 p2 = some (res, thr')) : Mu l D cI cB cL cK yX6_aged wsX6_aged rmX6_aged [.ref (ad 0), .int p1, .int p2] (wM cI ad thr tpd siz too frm srt num flt plc wrd snm lin stp sfo hst tp nw rd kp sn) (wM cI ad thr' tpd siz too frm srt num flt plc wrd snm lin stp sfo hst tp nw rd kp sn) (some (.int res)) 0 0 := by
  refine Mu.ofi (cc := cX6_aged) (own := RX6) (by decide) rfl rfl (Nat.le_of_ble_eq_true rfl) (fun p e s m below meth c ls Q A C hA hP hD hS hl hret => ?_)
  obtain ⟨hx, hb, hr, hml, hown, hts, hlk, hK⟩ := id C
  have hcf : CallFix p m c cX6_aged 6 s _ wsX6_aged RX6 := ⟨hx, hb, hml, hown, hts⟩
  have hl : lv_has ls 6 [(0, .ref (ad 0)), (1, .int p1), (2, .int p2)] := hl
  unfold mX6_aged at hm
  refine lv_aload_n hx hb dX6_aged_0 rfl (lv_at hl 0 rfl) ?_
  refine lv_iconst (v := 0) hx hb dX6_aged_1 (by decide) ?_
  refine pf (q0 := 0) (X' := (wM cI ad 0 tpd siz too frm srt num flt plc wrd snm lin stp sfo hst tp nw rd kp sn)) hx hb hts hown hK fpX6_aged_1 hP hD hS rfl rfl rfl (Nat.le_of_ble_eq_true rfl) rfl dX6_aged_2 (fun H locs hP hD hS => ?_)
  refine lv_iload_n hx hb dX6_aged_5 rfl (lv_at hl 1 rfl) ?_
  refine lv_iconst (v := (-1)) hx hb dX6_aged_6 (by decide) ?_
  refine lv_icmp_eq (tgt := 18) hx hb dX6_aged_7 (by decide) (fun c_1 => ?_) (fun c_1 => ?_)
  · replace hm := br_p hm c_1
    exact tX6_aged_b18 C hA hret _ _ _ hm _ _ _ hP hD hS (lv_sub hl [0, 1, 2] rfl)
  · replace hm := br_n hm c_1
    refine lv_aload_n hx hb dX6_aged_10 rfl (lv_at hl 0 rfl) ?_
    refine lv_iload_n hx hb dX6_aged_11 rfl (lv_at hl 1 rfl) ?_
    obtain ⟨v2, h_3, hm⟩ := b1_s hm
    refine rd_v hcf (kX6_isDebtor h_3) (cwX6_aged_X6_isDebtor hts) hK hP Sb.rf (ci := 6) (q0 := 0) rfl rfl rfl hl.1 rfl (Nat.le_of_ble_eq_true rfl) dX6_aged_12 ⟨Nat.zero_le _, Nat.zero_le _⟩ ?_
    refine lv_if_eq (tgt := 27) hx hb dX6_aged_15 (by decide) (fun c_4 => ?_) (fun c_4 => ?_)
    · replace hm := br_p hm c_4
      refine lv_ldc (v := (-100000000)) hx hb hown (hts _ kcX6_aged_236) dX6_aged_27 ?_
      cases hm
      exact hret _ _ _ _ dX6_aged_29 rfl hP hD hS
    · replace hm := br_n hm c_4
      exact tX6_aged_b18 C hA hret _ _ _ hm _ _ _ hP hD hS (lv_sub hl [0, 1, 2] rfl)
/-! X6 keeps()V -/
abbrev rmX6_keeps : Room := { frames := 0, cells := 0, slots := 0, locals := 0 }
theorem hdX6_keeps : yX6_keeps.cls = RX6 ∧ yX6_keeps.cls ≠ "java/lang/invoke/MethodHandle" ∧ yX6_keeps.cls ≠ "java/lang/invoke/VarHandle" ∧ (parseMethodDescriptor yX6_keeps.desc).map (fun d => d.parameters.length) = some 0 := by decide +kernel
theorem inX6_keeps_X6 : ∀ w ∈ u_ws RX6 TX6 20, w ∈ wsX6_keeps := by decide +kernel
theorem flX6_keeps_70 : Fl wsX6_keeps RX6 70 6 11 := ⟨_, _, _, rfl, by decide, inX6_keeps_X6, by decide +kernel⟩
theorem flX6_keeps_76 : Fl wsX6_keeps RX6 76 6 13 := ⟨_, _, _, rfl, by decide, inX6_keeps_X6, by decide +kernel⟩
set_option maxRecDepth 100000 in
set_option maxHeartbeats 4000000 in
theorem tX6_keeps_L2 {ad : Nat → Nat} {thr : Int32} {tpd : Int32} {siz : Int32} {too : Int32} {frm : Int32} {srt : Int32} {num : Int32} {flt : Int32} {plc : Int32} {wrd : Int64} {snm : Int32} {lin : Int32} {stp : Int32} {sfo : Int32} {hst : Int32} {tp : Nat → Int32} {nw : Nat → Int32} {rd : Nat → Int32} {sn : Nat → Int32} {kp' : Nat → Int32} (C : Cx p s m args meth c cX6_keeps none 2 wsX6_keeps RX6 D cI cB cL cK) (hA : ∀ q : Nat, s.heap.size ≤ q → A q) (hret : ∀ (pc : Nat) (ls : Array Slot) (H : Heap) (locs : List Loc), decode cX6_keeps pc = .ok (.return_, 1) → va_P D vwCl (wM cI ad thr tpd siz too frm srt num flt plc wrd snm lin stp sfo hst tp nw rd kp' sn) H → va_D A (wM cI ad thr tpd siz too frm srt num flt plc wrd snm lin stp sfo hst tp nw rd kp' sn) → va_S A s.heap H locs → W p l e rmX6_keeps s m args below meth c H locs 0 0 Q (F0 m pc ls [])) : ∀ (n9 : Nat) (x1 : Int32) (kp : Nat → Int32), mX6_keeps_L2 n9 nw x1 kp = some kp' → ∀ (H : Heap) (locs : List Loc) (ls : Array Slot), va_P D vwCl (wM cI ad thr tpd siz too frm srt num flt plc wrd snm lin stp sfo hst tp nw rd kp sn) H → va_D A (wM cI ad thr tpd siz too frm srt num flt plc wrd snm lin stp sfo hst tp nw rd kp sn) → va_S A s.heap H locs → lv_has ls 2 [(0, .ref (ad 0)), (1, .int x1)] → W p l e rmX6_keeps s m args below meth c H locs 0 0 Q (F0 m 2 ls []) := by
  obtain ⟨hx, hb, hr, hml, hown, hts, hlk, hK⟩ := id C
  have hcf : CallFix p m c cX6_keeps 2 s args wsX6_keeps RX6 := ⟨hx, hb, hml, hown, hts⟩
  intro n9
  induction n9 with
  | zero => intro x1 kp hm; cases hm
  | succ k ih =>
    intro x1 kp hm H locs ls hP hD hS hl
    rw [mX6_keeps_L2.eq_2] at hm
    refine lv_iload_n hx hb dX6_keeps_2 rfl (lv_at hl 1 rfl) ?_
    refine lv_sipush (v := 785) hx hb dX6_keeps_3 (by decide) ?_
    refine lv_icmp_ge (tgt := 27) hx hb dX6_keeps_6 (by decide) (fun c_1 => ?_) (fun c_1 => ?_)
    · replace hm := br_p hm c_1
      cases hm
      exact hret _ _ _ _ dX6_keeps_27 hP hD hS
    · replace hm := br_n hm c_1
      refine lv_aload_n hx hb dX6_keeps_9 rfl (lv_at hl 0 rfl) ?_
      refine gf (q0 := 0) hx hb hts hown hK flX6_keeps_76 hP rfl rfl dX6_keeps_10 ?_
      refine lv_iload_n hx hb dX6_keeps_13 rfl (lv_at hl 1 rfl) ?_
      refine lv_aload_n hx hb dX6_keeps_14 rfl (lv_at hl 0 rfl) ?_
      refine gf (q0 := 0) hx hb hts hown hK flX6_keeps_70 hP rfl rfl dX6_keeps_15 ?_
      refine lv_iload_n hx hb dX6_keeps_18 rfl (lv_at hl 1 rfl) ?_
      obtain ⟨h_2, hm⟩ := ck_s hm
      refine ald (q0 := 2) (k := (x1 : Int32).toNatClampNeg) hx hb hK hP rfl h_2 rfl dX6_keeps_19 ?_
      obtain ⟨h_3, hm⟩ := ck_s hm
      refine ast (q0 := 4) (k := (x1 : Int32).toNatClampNeg) (X' := (wM cI ad thr tpd siz too frm srt num flt plc wrd snm lin stp sfo hst tp nw rd (upd kp ((x1 : Int32).toNatClampNeg) (nw ((x1 : Int32).toNatClampNeg))) sn)) hx hb hK hP hD hS rfl h_3 rfl rfl dX6_keeps_20 (fun H locs hP hD hS => ?_)
      refine lv_iinc (v := (x1 + 1)) (lv' := [(1, .int (x1 + 1)), (0, .ref (ad 0))]) hx hb dX6_keeps_21 hl (k := 1) rfl rfl (by decide) rfl (fun ls hl => ?_)
      refine lv_goto (tgt := 2) hx hb dX6_keeps_24 (by decide) ?_
      exact ih _ _ hm _ _ _ hP hD hS (lv_sub hl [1, 0] rfl)
set_option maxRecDepth 100000 in
set_option maxHeartbeats 4000000 in
theorem kX6_keeps {l : Launch} {D : va_G} {cI cB cL cK : ClassId} {ad : Nat → Nat} {thr : Int32} {tpd : Int32} {siz : Int32} {too : Int32} {frm : Int32} {srt : Int32} {num : Int32} {flt : Int32} {plc : Int32} {wrd : Int64} {snm : Int32} {lin : Int32} {stp : Int32} {sfo : Int32} {hst : Int32} {tp : Nat → Int32} {nw : Nat → Int32} {rd : Nat → Int32} {kp : Nat → Int32} {sn : Nat → Int32}  {kp' : Nat → Int32} (hm : mX6_keeps nw kp = some kp') : Mu l D cI cB cL cK yX6_keeps wsX6_keeps rmX6_keeps [.ref (ad 0)] (wM cI ad thr tpd siz too frm srt num flt plc wrd snm lin stp sfo hst tp nw rd kp sn) (wM cI ad thr tpd siz too frm srt num flt plc wrd snm lin stp sfo hst tp nw rd kp' sn) none 0 0 := by
  refine Mu.ofv (cc := cX6_keeps) (own := RX6) (by decide) rfl rfl (Nat.le_of_ble_eq_true rfl) (fun p e s m below meth c ls Q A C _ hA hP hD hS hl hret => ?_)
  obtain ⟨hx, hb, hr, hml, hown, hts, hlk, hK⟩ := id C
  have hcf : CallFix p m c cX6_keeps 2 s _ wsX6_keeps RX6 := ⟨hx, hb, hml, hown, hts⟩
  have hl : lv_has ls 2 [(0, .ref (ad 0))] := hl
  unfold mX6_keeps at hm
  refine lv_iconst (v := 0) hx hb dX6_keeps_0 (by decide) ?_
  refine lv_istore_n (lv' := [(1, .int 0), (0, .ref (ad 0))]) hx hb dX6_keeps_1 rfl hl (by decide) rfl (fun ls hl => ?_)
  exact tX6_keeps_L2 C hA hret _ _ _ hm _ _ _ hP hD hS (lv_sub hl [1, 0] rfl)
/-! X6 back()V -/
abbrev rmX6_back : Room := { frames := 0, cells := 0, slots := 0, locals := 0 }
theorem hdX6_back : yX6_back.cls = RX6 ∧ yX6_back.cls ≠ "java/lang/invoke/MethodHandle" ∧ yX6_back.cls ≠ "java/lang/invoke/VarHandle" ∧ (parseMethodDescriptor yX6_back.desc).map (fun d => d.parameters.length) = some 0 := by decide +kernel
theorem inX6_back_X6 : ∀ w ∈ u_ws RX6 TX6 20, w ∈ wsX6_back := by decide +kernel
theorem flX6_back_70 : Fl wsX6_back RX6 70 6 11 := ⟨_, _, _, rfl, by decide, inX6_back_X6, by decide +kernel⟩
theorem flX6_back_76 : Fl wsX6_back RX6 76 6 13 := ⟨_, _, _, rfl, by decide, inX6_back_X6, by decide +kernel⟩
set_option maxRecDepth 100000 in
set_option maxHeartbeats 4000000 in
theorem tX6_back_L2 {ad : Nat → Nat} {thr : Int32} {tpd : Int32} {siz : Int32} {too : Int32} {frm : Int32} {srt : Int32} {num : Int32} {flt : Int32} {plc : Int32} {wrd : Int64} {snm : Int32} {lin : Int32} {stp : Int32} {sfo : Int32} {hst : Int32} {tp : Nat → Int32} {rd : Nat → Int32} {kp : Nat → Int32} {sn : Nat → Int32} {nw' : Nat → Int32} (C : Cx p s m args meth c cX6_back none 2 wsX6_back RX6 D cI cB cL cK) (hA : ∀ q : Nat, s.heap.size ≤ q → A q) (hret : ∀ (pc : Nat) (ls : Array Slot) (H : Heap) (locs : List Loc), decode cX6_back pc = .ok (.return_, 1) → va_P D vwCl (wM cI ad thr tpd siz too frm srt num flt plc wrd snm lin stp sfo hst tp nw' rd kp sn) H → va_D A (wM cI ad thr tpd siz too frm srt num flt plc wrd snm lin stp sfo hst tp nw' rd kp sn) → va_S A s.heap H locs → W p l e rmX6_back s m args below meth c H locs 0 0 Q (F0 m pc ls [])) : ∀ (n9 : Nat) (x1 : Int32) (nw : Nat → Int32), mX6_back_L2 n9 kp x1 nw = some nw' → ∀ (H : Heap) (locs : List Loc) (ls : Array Slot), va_P D vwCl (wM cI ad thr tpd siz too frm srt num flt plc wrd snm lin stp sfo hst tp nw rd kp sn) H → va_D A (wM cI ad thr tpd siz too frm srt num flt plc wrd snm lin stp sfo hst tp nw rd kp sn) → va_S A s.heap H locs → lv_has ls 2 [(0, .ref (ad 0)), (1, .int x1)] → W p l e rmX6_back s m args below meth c H locs 0 0 Q (F0 m 2 ls []) := by
  obtain ⟨hx, hb, hr, hml, hown, hts, hlk, hK⟩ := id C
  have hcf : CallFix p m c cX6_back 2 s args wsX6_back RX6 := ⟨hx, hb, hml, hown, hts⟩
  intro n9
  induction n9 with
  | zero => intro x1 nw hm; cases hm
  | succ k ih =>
    intro x1 nw hm H locs ls hP hD hS hl
    rw [mX6_back_L2.eq_2] at hm
    refine lv_iload_n hx hb dX6_back_2 rfl (lv_at hl 1 rfl) ?_
    refine lv_sipush (v := 785) hx hb dX6_back_3 (by decide) ?_
    refine lv_icmp_ge (tgt := 27) hx hb dX6_back_6 (by decide) (fun c_1 => ?_) (fun c_1 => ?_)
    · replace hm := br_p hm c_1
      cases hm
      exact hret _ _ _ _ dX6_back_27 hP hD hS
    · replace hm := br_n hm c_1
      refine lv_aload_n hx hb dX6_back_9 rfl (lv_at hl 0 rfl) ?_
      refine gf (q0 := 0) hx hb hts hown hK flX6_back_70 hP rfl rfl dX6_back_10 ?_
      refine lv_iload_n hx hb dX6_back_13 rfl (lv_at hl 1 rfl) ?_
      refine lv_aload_n hx hb dX6_back_14 rfl (lv_at hl 0 rfl) ?_
      refine gf (q0 := 0) hx hb hts hown hK flX6_back_76 hP rfl rfl dX6_back_15 ?_
      refine lv_iload_n hx hb dX6_back_18 rfl (lv_at hl 1 rfl) ?_
      obtain ⟨h_2, hm⟩ := ck_s hm
      refine ald (q0 := 4) (k := (x1 : Int32).toNatClampNeg) hx hb hK hP rfl h_2 rfl dX6_back_19 ?_
      obtain ⟨h_3, hm⟩ := ck_s hm
      refine ast (q0 := 2) (k := (x1 : Int32).toNatClampNeg) (X' := (wM cI ad thr tpd siz too frm srt num flt plc wrd snm lin stp sfo hst tp (upd nw ((x1 : Int32).toNatClampNeg) (kp ((x1 : Int32).toNatClampNeg))) rd kp sn)) hx hb hK hP hD hS rfl h_3 rfl rfl dX6_back_20 (fun H locs hP hD hS => ?_)
      refine lv_iinc (v := (x1 + 1)) (lv' := [(1, .int (x1 + 1)), (0, .ref (ad 0))]) hx hb dX6_back_21 hl (k := 1) rfl rfl (by decide) rfl (fun ls hl => ?_)
      refine lv_goto (tgt := 2) hx hb dX6_back_24 (by decide) ?_
      exact ih _ _ hm _ _ _ hP hD hS (lv_sub hl [1, 0] rfl)
set_option maxRecDepth 100000 in
set_option maxHeartbeats 4000000 in
theorem kX6_back {l : Launch} {D : va_G} {cI cB cL cK : ClassId} {ad : Nat → Nat} {thr : Int32} {tpd : Int32} {siz : Int32} {too : Int32} {frm : Int32} {srt : Int32} {num : Int32} {flt : Int32} {plc : Int32} {wrd : Int64} {snm : Int32} {lin : Int32} {stp : Int32} {sfo : Int32} {hst : Int32} {tp : Nat → Int32} {nw : Nat → Int32} {rd : Nat → Int32} {kp : Nat → Int32} {sn : Nat → Int32}  {nw' : Nat → Int32} (hm : mX6_back nw kp = some nw') : Mu l D cI cB cL cK yX6_back wsX6_back rmX6_back [.ref (ad 0)] (wM cI ad thr tpd siz too frm srt num flt plc wrd snm lin stp sfo hst tp nw rd kp sn) (wM cI ad thr tpd siz too frm srt num flt plc wrd snm lin stp sfo hst tp nw' rd kp sn) none 0 0 := by
  refine Mu.ofv (cc := cX6_back) (own := RX6) (by decide) rfl rfl (Nat.le_of_ble_eq_true rfl) (fun p e s m below meth c ls Q A C _ hA hP hD hS hl hret => ?_)
  obtain ⟨hx, hb, hr, hml, hown, hts, hlk, hK⟩ := id C
  have hcf : CallFix p m c cX6_back 2 s _ wsX6_back RX6 := ⟨hx, hb, hml, hown, hts⟩
  have hl : lv_has ls 2 [(0, .ref (ad 0))] := hl
  unfold mX6_back at hm
  refine lv_iconst (v := 0) hx hb dX6_back_0 (by decide) ?_
  refine lv_istore_n (lv' := [(1, .int 0), (0, .ref (ad 0))]) hx hb dX6_back_1 rfl hl (by decide) rfl (fun ls hl => ?_)
  exact tX6_back_L2 C hA hret _ _ _ hm _ _ _ hP hD hS (lv_sub hl [1, 0] rfl)
end
