section
variable {p : Program} {l : Launch} {e : Env} {s : State} {m : MethodId} {args : Array Value} {below : List Frame} {meth : Method} {c : Code} {Q : State → Prop} {A : Nat → Prop} {D : va_G} {cI cB cL cK : ClassId}
/-! X6 risk(I)I -/
abbrev rmX6_risk : Room := { frames := 2, cells := 0, slots := 0, locals := 45 }
theorem hdX6_risk : yX6_risk.cls = RX6 ∧ yX6_risk.cls ≠ "java/lang/invoke/MethodHandle" ∧ yX6_risk.cls ≠ "java/lang/invoke/VarHandle" ∧ (parseMethodDescriptor yX6_risk.desc).map (fun d => d.parameters.length) = some 1 := by decide +kernel
theorem inX6_risk_X6 : ∀ w ∈ u_ws RX6 TX6 20, w ∈ wsX6_risk := by decide +kernel
theorem cwX6_risk_X6_its {s : State} {args : Array Value} (hts : ∀ w ∈ wsX6_risk, w.before args s = true) : CallW rmX6_risk s args RX6 RX6 148 yX6_its cX6_its 3 (some .int) wsX6_its rmX6_its 0 0 2 := cwV 2 hts gX6_risk_X6_its rfl rfl rfl hdX6_its ⟨Nat.le_of_ble_eq_true rfl, Nat.le_of_ble_eq_true rfl⟩
theorem cwX6_risk_X6_ordered {s : State} {args : Array Value} (hts : ∀ w ∈ wsX6_risk, w.before args s = true) : CallW rmX6_risk s args RX6 RX6 154 yX6_ordered cX6_ordered 3 (some .int) wsX6_ordered rmX6_ordered 0 0 2 := cwV 2 hts gX6_risk_X6_ordered rfl rfl rfl hdX6_ordered ⟨Nat.le_of_ble_eq_true rfl, Nat.le_of_ble_eq_true rfl⟩
theorem cwX6_risk_X6_owes {s : State} {args : Array Value} (hts : ∀ w ∈ wsX6_risk, w.before args s = true) : CallW rmX6_risk s args RX6 RX6 151 yX6_owes cX6_owes 4 (some .int) wsX6_owes rmX6_owes 0 0 1 := cwV 1 hts gX6_risk_X6_owes rfl rfl rfl hdX6_owes ⟨Nat.le_of_ble_eq_true rfl, Nat.le_of_ble_eq_true rfl⟩
theorem flX6_risk_70 : Fl wsX6_risk RX6 70 6 11 := ⟨_, _, _, rfl, by decide, inX6_risk_X6, by decide +kernel⟩
set_option maxRecDepth 100000 in
set_option maxHeartbeats 4000000 in
theorem tX6_risk_L15 {ad : Nat → Nat} {thr : Int32} {tpd : Int32} {siz : Int32} {too : Int32} {frm : Int32} {srt : Int32} {num : Int32} {flt : Int32} {plc : Int32} {wrd : Int64} {snm : Int32} {lin : Int32} {stp : Int32} {sfo : Int32} {hst : Int32} {tp : Nat → Int32} {nw : Nat → Int32} {rd : Nat → Int32} {kp : Nat → Int32} {sn : Nat → Int32} {res : Int32} (C : Cx p s m args meth c cX6_risk (some .int) 4 wsX6_risk RX6 D cI cB cL cK) (hP : va_P D vwCl (wM cI ad thr tpd siz too frm srt num flt plc wrd snm lin stp sfo hst tp nw rd kp sn) s.heap) (hret : ∀ (pc : Nat) (ls : Array Slot), decode cX6_risk pc = .ok (.ireturn, 1) → narrow .int (.int res) = .int res → W p l e rmX6_risk s m args below meth c s.heap [] 0 0 Q (F0 m pc ls [.int res])) : ∀ (n9 : Nat) (x1 : Int32) (x2 : Int32) (x3 : Int32), mX6_risk_L15 n9 nw x1 x2 x3 = some res → ∀ (ls : Array Slot), lv_has ls 4 [(0, .ref (ad 0)), (1, .int x1), (2, .int x2), (3, .int x3)] → W p l e rmX6_risk s m args below meth c s.heap [] 0 0 Q (F0 m 15 ls []) := by
  obtain ⟨hx, hb, hr, hml, hown, hts, hlk, hK⟩ := id C
  have hcf : CallFix p m c cX6_risk 4 s args wsX6_risk RX6 := ⟨hx, hb, hml, hown, hts⟩
  intro n9
  induction n9 with
  | zero => intro x1 x2 x3 hm; cases hm
  | succ k ih =>
    intro x1 x2 x3 hm ls hl
    rw [mX6_risk_L15.eq_2] at hm
    refine lv_iload_n hx hb dX6_risk_15 rfl (lv_at hl 3 rfl) ?_
    refine lv_aload_n hx hb dX6_risk_16 rfl (lv_at hl 0 rfl) ?_
    refine gf (q0 := 0) hx hb hts hown hK flX6_risk_70 hP rfl rfl dX6_risk_17 ?_
    refine lv_iconst (v := 5) hx hb dX6_risk_20 (by decide) ?_
    refine ald (q0 := 2) (k := 5) hx hb hK hP rfl (by decide) (by decide) dX6_risk_21 ?_
    refine lv_icmp_ge (tgt := 60) hx hb dX6_risk_22 (by decide) (fun c_5 => ?_) (fun c_5 => ?_)
    · replace hm := br_p hm c_5
      refine lv_iload_n hx hb dX6_risk_60 rfl (lv_at hl 2 rfl) ?_
      cases hm
      exact hret _ _ dX6_risk_61 rfl
    · replace hm := br_n hm c_5
      refine lv_aload_n hx hb dX6_risk_25 rfl (lv_at hl 0 rfl) ?_
      refine lv_iload_n hx hb dX6_risk_26 rfl (lv_at hl 3 rfl) ?_
      refine lv_iconst (v := 0) hx hb dX6_risk_27 (by decide) ?_
      obtain ⟨v6, h_7, hm⟩ := b1_s hm
      refine rd_v hcf (kX6_ordered h_7) (cwX6_risk_X6_ordered hts) hK hP Sb.rf (ci := 6) (q0 := 0) rfl rfl rfl hl.1 rfl (Nat.le_of_ble_eq_true rfl) dX6_risk_28 ⟨Nat.zero_le _, Nat.zero_le _⟩ ?_
      refine lv_iload_n hx hb dX6_risk_31 rfl (lv_at hl 1 rfl) ?_
      refine lv_icmp_ne (tgt := 54) hx hb dX6_risk_32 (by decide) (fun c_8 => ?_) (fun c_8 => ?_)
      · replace hm := br_n hm c_8
        refine lv_iinc (v := (x3 + 1)) (lv' := [(3, .int (x3 + 1)), (0, .ref (ad 0)), (1, .int x1), (2, .int x2)]) hx hb dX6_risk_54 hl (k := 3) rfl rfl (by decide) rfl (fun ls hl => ?_)
        refine lv_goto (tgt := 15) hx hb dX6_risk_57 (by decide) ?_
        exact ih _ _ _ hm _ (lv_sub hl [1, 2, 3, 0] rfl)
      · replace hm := br_p hm c_8
        refine lv_aload_n hx hb dX6_risk_35 rfl (lv_at hl 0 rfl) ?_
        refine lv_iload_n hx hb dX6_risk_36 rfl (lv_at hl 3 rfl) ?_
        refine lv_iconst (v := 2) hx hb dX6_risk_37 (by decide) ?_
        obtain ⟨v9, h_10, hm⟩ := b1_s hm
        refine rd_v hcf (kX6_ordered h_10) (cwX6_risk_X6_ordered hts) hK hP Sb.rf (ci := 6) (q0 := 0) rfl rfl rfl hl.1 rfl (Nat.le_of_ble_eq_true rfl) dX6_risk_38 ⟨Nat.zero_le _, Nat.zero_le _⟩ ?_
        refine lv_iconst (v := 1) hx hb dX6_risk_41 (by decide) ?_
        refine lv_icmp_ne (tgt := 54) hx hb dX6_risk_42 (by decide) (fun c_11 => ?_) (fun c_11 => ?_)
        · replace hm := br_n hm c_11
          refine lv_iinc (v := (x3 + 1)) (lv' := [(3, .int (x3 + 1)), (0, .ref (ad 0)), (1, .int x1), (2, .int x2)]) hx hb dX6_risk_54 hl (k := 3) rfl rfl (by decide) rfl (fun ls hl => ?_)
          refine lv_goto (tgt := 15) hx hb dX6_risk_57 (by decide) ?_
          exact ih _ _ _ hm _ (lv_sub hl [1, 2, 3, 0] rfl)
        · replace hm := br_p hm c_11
          refine lv_iload_n hx hb dX6_risk_45 rfl (lv_at hl 2 rfl) ?_
          refine lv_aload_n hx hb dX6_risk_46 rfl (lv_at hl 0 rfl) ?_
          refine lv_iload_n hx hb dX6_risk_47 rfl (lv_at hl 3 rfl) ?_
          refine lv_iconst (v := 1) hx hb dX6_risk_48 (by decide) ?_
          obtain ⟨v12, h_13, hm⟩ := b1_s hm
          refine rd_v hcf (kX6_ordered h_13) (cwX6_risk_X6_ordered hts) hK hP Sb.rf (ci := 6) (q0 := 0) rfl rfl rfl hl.1 rfl (Nat.le_of_ble_eq_true rfl) dX6_risk_49 ⟨Nat.zero_le _, Nat.zero_le _⟩ ?_
          refine lv_iadd hx hb dX6_risk_52 ?_
          refine lv_istore_n (lv' := [(2, .int (x2 + v12)), (0, .ref (ad 0)), (1, .int x1), (3, .int x3)]) hx hb dX6_risk_53 rfl hl (by decide) rfl (fun ls hl => ?_)
          refine lv_iinc (v := (x3 + 1)) (lv' := [(3, .int (x3 + 1)), (2, .int (x2 + v12)), (0, .ref (ad 0)), (1, .int x1)]) hx hb dX6_risk_54 hl (k := 3) rfl rfl (by decide) rfl (fun ls hl => ?_)
          refine lv_goto (tgt := 15) hx hb dX6_risk_57 (by decide) ?_
          exact ih _ _ _ hm _ (lv_sub hl [2, 3, 1, 0] rfl)
set_option maxRecDepth 100000 in
set_option maxHeartbeats 4000000 in
theorem kX6_risk {l : Launch} {D : va_G} {cI cB cL cK : ClassId} {ad : Nat → Nat} {thr : Int32} {tpd : Int32} {siz : Int32} {too : Int32} {frm : Int32} {srt : Int32} {num : Int32} {flt : Int32} {plc : Int32} {wrd : Int64} {snm : Int32} {lin : Int32} {stp : Int32} {sfo : Int32} {hst : Int32} {tp : Nat → Int32} {nw : Nat → Int32} {rd : Nat → Int32} {kp : Nat → Int32} {sn : Nat → Int32} {p1 : Int32} {res : Int32} (hm : mX6_risk nw p1 = some res) : Rd l D cI cB cL cK yX6_risk wsX6_risk rmX6_risk [.ref (ad 0), .int p1] (wM cI ad thr tpd siz too frm srt num flt plc wrd snm lin stp sfo hst tp nw rd kp sn) res := by
  refine Rd.of (cc := cX6_risk) (own := RX6) (by decide) rfl rfl (Nat.le_of_ble_eq_true rfl) (fun p e s m below meth c ls Q C hP hl hret => ?_)
  obtain ⟨hx, hb, hr, hml, hown, hts, hlk, hK⟩ := id C
  have hcf : CallFix p m c cX6_risk 4 s _ wsX6_risk RX6 := ⟨hx, hb, hml, hown, hts⟩
  have hl : lv_has ls 4 [(0, .ref (ad 0)), (1, .int p1)] := hl
  unfold mX6_risk at hm
  refine lv_aload_n hx hb dX6_risk_0 rfl (lv_at hl 0 rfl) ?_
  refine lv_iload_n hx hb dX6_risk_1 rfl (lv_at hl 1 rfl) ?_
  obtain ⟨v1, h_2, hm⟩ := b1_s hm
  refine rd_v hcf (kX6_owes h_2) (cwX6_risk_X6_owes hts) hK hP Sb.rf (ci := 6) (q0 := 0) rfl rfl rfl hl.1 rfl (Nat.le_of_ble_eq_true rfl) dX6_risk_2 ⟨Nat.zero_le _, Nat.zero_le _⟩ ?_
  refine lv_aload_n hx hb dX6_risk_5 rfl (lv_at hl 0 rfl) ?_
  refine lv_iload_n hx hb dX6_risk_6 rfl (lv_at hl 1 rfl) ?_
  refine lv_iconst (v := 2) hx hb dX6_risk_7 (by decide) ?_
  obtain ⟨v3, h_4, hm⟩ := b1_s hm
  refine rd_v hcf (kX6_its h_4) (cwX6_risk_X6_its hts) hK hP Sb.rf (ci := 6) (q0 := 0) rfl rfl rfl hl.1 rfl (Nat.le_of_ble_eq_true rfl) dX6_risk_8 ⟨Nat.zero_le _, Nat.zero_le _⟩ ?_
  refine lv_isub hx hb dX6_risk_11 ?_
  refine lv_istore_n (lv' := [(2, .int (v1 - v3)), (0, .ref (ad 0)), (1, .int p1)]) hx hb dX6_risk_12 rfl hl (by decide) rfl (fun ls hl => ?_)
  refine lv_iconst (v := 0) hx hb dX6_risk_13 (by decide) ?_
  refine lv_istore_n (lv' := [(3, .int 0), (2, .int (v1 - v3)), (0, .ref (ad 0)), (1, .int p1)]) hx hb dX6_risk_14 rfl hl (by decide) rfl (fun ls hl => ?_)
  exact tX6_risk_L15 C hP hret _ _ _ _ hm _ (lv_sub hl [2, 3, 1, 0] rfl)
/-! X6 places(I)V -/
abbrev rmX6_places : Room := { frames := 2, cells := 0, slots := 0, locals := 44 }
theorem hdX6_places : yX6_places.cls = RX6 ∧ yX6_places.cls ≠ "java/lang/invoke/MethodHandle" ∧ yX6_places.cls ≠ "java/lang/invoke/VarHandle" ∧ (parseMethodDescriptor yX6_places.desc).map (fun d => d.parameters.length) = some 1 := by decide +kernel
theorem inX6_places_X6 : ∀ w ∈ u_ws RX6 TX6 20, w ∈ wsX6_places := by decide +kernel
theorem cwX6_places_X6_billed {s : State} {args : Array Value} (hts : ∀ w ∈ wsX6_places, w.before args s = true) : CallW rmX6_places s args RX6 RX6 140 yX6_billed cX6_billed 3 (some .int) wsX6_billed rmX6_billed 0 0 2 := cwV 2 hts gX6_places_X6_billed rfl rfl rfl hdX6_billed ⟨Nat.le_of_ble_eq_true rfl, Nat.le_of_ble_eq_true rfl⟩
theorem cwX6_places_X6_counts {s : State} {args : Array Value} (hts : ∀ w ∈ wsX6_places, w.before args s = true) : CallW rmX6_places s args RX6 RX6 144 yX6_counts cX6_counts 3 (some .boolean) wsX6_counts rmX6_counts 0 0 2 := cwV 2 hts gX6_places_X6_counts rfl rfl rfl hdX6_counts ⟨Nat.le_of_ble_eq_true rfl, Nat.le_of_ble_eq_true rfl⟩
theorem cwX6_places_X6_its {s : State} {args : Array Value} (hts : ∀ w ∈ wsX6_places, w.before args s = true) : CallW rmX6_places s args RX6 RX6 148 yX6_its cX6_its 3 (some .int) wsX6_its rmX6_its 0 0 2 := cwV 2 hts gX6_places_X6_its rfl rfl rfl hdX6_its ⟨Nat.le_of_ble_eq_true rfl, Nat.le_of_ble_eq_true rfl⟩
theorem cwX6_places_X6_puts {s : State} {args : Array Value} (hts : ∀ w ∈ wsX6_places, w.before args s = true) : CallW rmX6_places s args RX6 RX6 157 yX6_puts cX6_puts 4 none wsX6_puts rmX6_puts 0 0 3 := cwV 3 hts gX6_places_X6_puts rfl rfl rfl hdX6_puts ⟨Nat.le_of_ble_eq_true rfl, Nat.le_of_ble_eq_true rfl⟩
theorem flX6_places_70 : Fl wsX6_places RX6 70 6 11 := ⟨_, _, _, rfl, by decide, inX6_places_X6, by decide +kernel⟩
set_option maxRecDepth 100000 in
set_option maxHeartbeats 4000000 in
theorem tX6_places_b103 {ad : Nat → Nat} {thr : Int32} {tpd : Int32} {siz : Int32} {too : Int32} {frm : Int32} {srt : Int32} {num : Int32} {flt : Int32} {plc : Int32} {wrd : Int64} {snm : Int32} {lin : Int32} {stp : Int32} {sfo : Int32} {hst : Int32} {tp : Nat → Int32} {rd : Nat → Int32} {kp : Nat → Int32} {sn : Nat → Int32} {nw' : Nat → Int32} {rec2 : Int32 → Int32 → (Nat → Int32) → Option ((Nat → Int32))} (C : Cx p s m args meth c cX6_places none 4 wsX6_places RX6 D cI cB cL cK) (hA : ∀ q : Nat, s.heap.size ≤ q → A q) (hret : ∀ (pc : Nat) (ls : Array Slot) (H : Heap) (locs : List Loc), decode cX6_places pc = .ok (.return_, 1) → va_P D vwCl (wM cI ad thr tpd siz too frm srt num flt plc wrd snm lin stp sfo hst tp nw' rd kp sn) H → va_D A (wM cI ad thr tpd siz too frm srt num flt plc wrd snm lin stp sfo hst tp nw' rd kp sn) → va_S A s.heap H locs → W p l e rmX6_places s m args below meth c H locs 0 0 Q (F0 m pc ls [])) (hrec2 : ∀ (x1 : Int32) (x2 : Int32) (nw : Nat → Int32), rec2 x1 x2 nw = some nw' → ∀ (H : Heap) (locs : List Loc) (ls : Array Slot), va_P D vwCl (wM cI ad thr tpd siz too frm srt num flt plc wrd snm lin stp sfo hst tp nw rd kp sn) H → va_D A (wM cI ad thr tpd siz too frm srt num flt plc wrd snm lin stp sfo hst tp nw rd kp sn) → va_S A s.heap H locs → lv_has ls 4 [(0, .ref (ad 0)), (1, .int x1), (2, .int x2)] → W p l e rmX6_places s m args below meth c H locs 0 0 Q (F0 m 2 ls [])) : ∀ (x1 : Int32) (x2 : Int32) (k0 : Int32) (nw : Nat → Int32), mX6_places_b103 rec2 x1 x2 k0 nw = some nw' → ∀ (H : Heap) (locs : List Loc) (ls : Array Slot), va_P D vwCl (wM cI ad thr tpd siz too frm srt num flt plc wrd snm lin stp sfo hst tp nw rd kp sn) H → va_D A (wM cI ad thr tpd siz too frm srt num flt plc wrd snm lin stp sfo hst tp nw rd kp sn) → va_S A s.heap H locs → lv_has ls 4 [(0, .ref (ad 0)), (1, .int x1), (2, .int x2)] → W p l e rmX6_places s m args below meth c H locs 0 0 Q (F0 m 103 ls [.int k0]) := by
  obtain ⟨hx, hb, hr, hml, hown, hts, hlk, hK⟩ := id C
  have hcf : CallFix p m c cX6_places 4 s args wsX6_places RX6 := ⟨hx, hb, hml, hown, hts⟩
  intro x1 x2 k0 nw hm H locs ls hP hD hS hl
  unfold mX6_places_b103 at hm
  refine lv_istore_n (lv' := [(3, .int k0), (0, .ref (ad 0)), (1, .int x1), (2, .int x2)]) hx hb dX6_places_103 rfl hl (by decide) rfl (fun ls hl => ?_)
  refine lv_aload_n hx hb dX6_places_104 rfl (lv_at hl 1 rfl) ?_
  refine lv_iload_n hx hb dX6_places_105 rfl (lv_at hl 2 rfl) ?_
  refine lv_iconst (v := 2) hx hb dX6_places_106 (by decide) ?_
  refine lv_aload_n hx hb dX6_places_107 rfl (lv_at hl 1 rfl) ?_
  refine lv_iload_n hx hb dX6_places_108 rfl (lv_at hl 2 rfl) ?_
  refine lv_iconst (v := 2) hx hb dX6_places_109 (by decide) ?_
  obtain ⟨v25, h_26, hm⟩ := b1_s hm
  refine rd_v hcf (kX6_its h_26) (cwX6_places_X6_its hts) hK hP Sb.rf (ci := 6) (q0 := 0) rfl rfl rfl hl.1 rfl (Nat.le_of_ble_eq_true rfl) dX6_places_110 ⟨Nat.zero_le _, Nat.zero_le _⟩ ?_
  refine lv_iload_n hx hb dX6_places_113 rfl (lv_at hl 0 rfl) ?_
  refine lv_isub hx hb dX6_places_114 ?_
  obtain ⟨nw27, h_28, hm⟩ := b1_s hm
  refine mu_vv hcf (kX6_puts h_28) (cwX6_places_X6_puts hts) hK hP hD hS hA Jn.rf (ci := 6) (q0 := 0) rfl rfl rfl hl.1 rfl (Nat.le_of_ble_eq_true rfl) dX6_places_115 ⟨Nat.zero_le _, Nat.zero_le _⟩ (fun H locs hP hD hS => ?_)
  refine lv_aload_n hx hb dX6_places_118 rfl (lv_at hl 1 rfl) ?_
  refine gf (q0 := 0) hx hb hts hown hK flX6_places_70 hP rfl rfl dX6_places_119 ?_
  refine lv_sipush (v := 205) hx hb dX6_places_122 (by decide) ?_
  refine lv_bipush (v := 7) hx hb dX6_places_125 (by decide) ?_
  refine lv_iload_n hx hb dX6_places_127 rfl (lv_at hl 3 rfl) ?_
  refine lv_imul hx hb dX6_places_128 ?_
  refine lv_iadd hx hb dX6_places_129 ?_
  refine lv_iconst (v := 2) hx hb dX6_places_130 (by decide) ?_
  refine lv_iadd hx hb dX6_places_131 ?_
  refine lv_dup2_11 hx hb dX6_places_132 rfl rfl ?_
  obtain ⟨h_29, hm⟩ := ck_s hm
  refine ald (q0 := 2) (k := (((205 + (7 * x2)) + 2) : Int32).toNatClampNeg) hx hb hK hP rfl h_29 rfl dX6_places_133 ?_
  refine lv_iload_n hx hb dX6_places_134 rfl (lv_at hl 0 rfl) ?_
  refine lv_isub hx hb dX6_places_135 ?_
  obtain ⟨h_30, hm⟩ := ck_s hm
  refine ast (q0 := 2) (k := (((205 + (7 * x2)) + 2) : Int32).toNatClampNeg) (X' := (wM cI ad thr tpd siz too frm srt num flt plc wrd snm lin stp sfo hst tp (upd nw27 ((((205 + (7 * x2)) + 2) : Int32).toNatClampNeg) ((nw27 ((((205 + (7 * x2)) + 2) : Int32).toNatClampNeg)) - k0)) rd kp sn)) hx hb hK hP hD hS rfl h_30 rfl rfl dX6_places_136 (fun H locs hP hD hS => ?_)
  refine lv_goto (tgt := 2) hx hb dX6_places_137 (by decide) ?_
  exact hrec2 _ _ _ hm _ _ _ hP hD hS (lv_sub hl [1, 2, 3] rfl)
set_option maxRecDepth 100000 in
set_option maxHeartbeats 4000000 in
theorem tX6_places_L20 {ad : Nat → Nat} {thr : Int32} {tpd : Int32} {siz : Int32} {too : Int32} {frm : Int32} {srt : Int32} {num : Int32} {flt : Int32} {plc : Int32} {wrd : Int64} {snm : Int32} {lin : Int32} {stp : Int32} {sfo : Int32} {hst : Int32} {tp : Nat → Int32} {rd : Nat → Int32} {kp : Nat → Int32} {sn : Nat → Int32} {nw' : Nat → Int32} {rec2 : Int32 → Int32 → (Nat → Int32) → Option ((Nat → Int32))} (C : Cx p s m args meth c cX6_places none 4 wsX6_places RX6 D cI cB cL cK) (hA : ∀ q : Nat, s.heap.size ≤ q → A q) (hret : ∀ (pc : Nat) (ls : Array Slot) (H : Heap) (locs : List Loc), decode cX6_places pc = .ok (.return_, 1) → va_P D vwCl (wM cI ad thr tpd siz too frm srt num flt plc wrd snm lin stp sfo hst tp nw' rd kp sn) H → va_D A (wM cI ad thr tpd siz too frm srt num flt plc wrd snm lin stp sfo hst tp nw' rd kp sn) → va_S A s.heap H locs → W p l e rmX6_places s m args below meth c H locs 0 0 Q (F0 m pc ls [])) (hrec2 : ∀ (x1 : Int32) (x2 : Int32) (nw : Nat → Int32), rec2 x1 x2 nw = some nw' → ∀ (H : Heap) (locs : List Loc) (ls : Array Slot), va_P D vwCl (wM cI ad thr tpd siz too frm srt num flt plc wrd snm lin stp sfo hst tp nw rd kp sn) H → va_D A (wM cI ad thr tpd siz too frm srt num flt plc wrd snm lin stp sfo hst tp nw rd kp sn) → va_S A s.heap H locs → lv_has ls 4 [(0, .ref (ad 0)), (1, .int x1), (2, .int x2)] → W p l e rmX6_places s m args below meth c H locs 0 0 Q (F0 m 2 ls [])) : ∀ (n9 : Nat) (x1 : Int32) (x2 : Int32) (x3 : Int32) (nw : Nat → Int32), mX6_places_L20 n9 rec2 x1 x2 x3 nw = some nw' → ∀ (H : Heap) (locs : List Loc) (ls : Array Slot), va_P D vwCl (wM cI ad thr tpd siz too frm srt num flt plc wrd snm lin stp sfo hst tp nw rd kp sn) H → va_D A (wM cI ad thr tpd siz too frm srt num flt plc wrd snm lin stp sfo hst tp nw rd kp sn) → va_S A s.heap H locs → lv_has ls 4 [(0, .ref (ad 0)), (1, .int x1), (2, .int x2), (3, .int x3)] → W p l e rmX6_places s m args below meth c H locs 0 0 Q (F0 m 20 ls []) := by
  obtain ⟨hx, hb, hr, hml, hown, hts, hlk, hK⟩ := id C
  have hcf : CallFix p m c cX6_places 4 s args wsX6_places RX6 := ⟨hx, hb, hml, hown, hts⟩
  intro n9
  induction n9 with
  | zero => intro x1 x2 x3 nw hm; cases hm
  | succ k ih =>
    intro x1 x2 x3 nw hm H locs ls hP hD hS hl
    rw [mX6_places_L20.eq_2] at hm
    refine lv_iload_n hx hb dX6_places_20 rfl (lv_at hl 3 rfl) ?_
    refine lv_aload_n hx hb dX6_places_21 rfl (lv_at hl 0 rfl) ?_
    refine gf (q0 := 0) hx hb hts hown hK flX6_places_70 hP rfl rfl dX6_places_22 ?_
    refine lv_iconst (v := 4) hx hb dX6_places_25 (by decide) ?_
    refine ald (q0 := 2) (k := 4) hx hb hK hP rfl (by decide) (by decide) dX6_places_26 ?_
    refine lv_icmp_ge (tgt := 67) hx hb dX6_places_27 (by decide) (fun c_5 => ?_) (fun c_5 => ?_)
    · replace hm := br_p hm c_5
      refine lv_iload_n hx hb dX6_places_67 rfl (lv_at hl 2 rfl) ?_
      refine lv_iconst (v := (-1)) hx hb dX6_places_68 (by decide) ?_
      refine lv_icmp_ne (tgt := 73) hx hb dX6_places_69 (by decide) (fun c_6 => ?_) (fun c_6 => ?_)
      · replace hm := br_n hm c_6
        refine lv_aload_n hx hb dX6_places_73 rfl (lv_at hl 0 rfl) ?_
        refine lv_iload_n hx hb dX6_places_74 rfl (lv_at hl 1 rfl) ?_
        refine lv_iconst (v := 2) hx hb dX6_places_75 (by decide) ?_
        obtain ⟨v7, h_8, hm⟩ := b1_s hm
        refine rd_v hcf (kX6_its h_8) (cwX6_places_X6_its hts) hK hP Sb.rf (ci := 6) (q0 := 0) rfl rfl rfl hl.1 rfl (Nat.le_of_ble_eq_true rfl) dX6_places_76 ⟨Nat.zero_le _, Nat.zero_le _⟩ ?_
        refine lv_aload_n hx hb dX6_places_79 rfl (lv_at hl 0 rfl) ?_
        refine lv_iload_n hx hb dX6_places_80 rfl (lv_at hl 2 rfl) ?_
        refine lv_iconst (v := 2) hx hb dX6_places_81 (by decide) ?_
        obtain ⟨v9, h_10, hm⟩ := b1_s hm
        refine rd_v hcf (kX6_billed h_10) (cwX6_places_X6_billed hts) hK hP Sb.rf (ci := 6) (q0 := 0) rfl rfl rfl hl.1 rfl (Nat.le_of_ble_eq_true rfl) dX6_places_82 ⟨Nat.zero_le _, Nat.zero_le _⟩ ?_
        refine lv_icmp_ge (tgt := 97) hx hb dX6_places_85 (by decide) (fun c_11 => ?_) (fun c_11 => ?_)
        · replace hm := br_p hm c_11
          refine lv_aload_n hx hb dX6_places_97 rfl (lv_at hl 0 rfl) ?_
          refine lv_iload_n hx hb dX6_places_98 rfl (lv_at hl 2 rfl) ?_
          refine lv_iconst (v := 2) hx hb dX6_places_99 (by decide) ?_
          obtain ⟨v12, h_13, hm⟩ := b1_s hm
          refine rd_v hcf (kX6_billed h_13) (cwX6_places_X6_billed hts) hK hP Sb.rf (ci := 6) (q0 := 0) rfl rfl rfl hl.1 rfl (Nat.le_of_ble_eq_true rfl) dX6_places_100 ⟨Nat.zero_le _, Nat.zero_le _⟩ ?_
          exact tX6_places_b103 C hA hret hrec2 _ _ _ _ hm _ _ _ hP hD hS (lv_sub hl [0, 1, 2] rfl)
        · replace hm := br_n hm c_11
          refine lv_aload_n hx hb dX6_places_88 rfl (lv_at hl 0 rfl) ?_
          refine lv_iload_n hx hb dX6_places_89 rfl (lv_at hl 1 rfl) ?_
          refine lv_iconst (v := 2) hx hb dX6_places_90 (by decide) ?_
          obtain ⟨v14, h_15, hm⟩ := b1_s hm
          refine rd_v hcf (kX6_its h_15) (cwX6_places_X6_its hts) hK hP Sb.rf (ci := 6) (q0 := 0) rfl rfl rfl hl.1 rfl (Nat.le_of_ble_eq_true rfl) dX6_places_91 ⟨Nat.zero_le _, Nat.zero_le _⟩ ?_
          refine lv_goto (tgt := 103) hx hb dX6_places_94 (by decide) ?_
          exact tX6_places_b103 C hA hret hrec2 _ _ _ _ hm _ _ _ hP hD hS (lv_sub hl [0, 1, 2] rfl)
      · replace hm := br_p hm c_6
        cases hm
        exact hret _ _ _ _ dX6_places_72 hP hD hS
    · replace hm := br_n hm c_5
      refine lv_aload_n hx hb dX6_places_30 rfl (lv_at hl 0 rfl) ?_
      refine lv_iload_n hx hb dX6_places_31 rfl (lv_at hl 3 rfl) ?_
      refine lv_iload_n hx hb dX6_places_32 rfl (lv_at hl 1 rfl) ?_
      obtain ⟨v16, h_17, hm⟩ := b1_s hm
      refine rd_v hcf (kX6_counts h_17) (cwX6_places_X6_counts hts) hK hP Sb.rf (ci := 6) (q0 := 0) rfl rfl rfl hl.1 rfl (Nat.le_of_ble_eq_true rfl) dX6_places_33 ⟨Nat.zero_le _, Nat.zero_le _⟩ ?_
      refine lv_if_eq (tgt := 61) hx hb dX6_places_36 (by decide) (fun c_18 => ?_) (fun c_18 => ?_)
      · replace hm := br_p hm c_18
        refine lv_iinc (v := (x3 + 1)) (lv' := [(3, .int (x3 + 1)), (0, .ref (ad 0)), (1, .int x1), (2, .int x2)]) hx hb dX6_places_61 hl (k := 3) rfl rfl (by decide) rfl (fun ls hl => ?_)
        refine lv_goto (tgt := 20) hx hb dX6_places_64 (by decide) ?_
        exact ih _ _ _ _ hm _ _ _ hP hD hS (lv_sub hl [1, 2, 3, 0] rfl)
      · replace hm := br_n hm c_18
        refine lv_iload_n hx hb dX6_places_39 rfl (lv_at hl 2 rfl) ?_
        refine lv_iconst (v := (-1)) hx hb dX6_places_40 (by decide) ?_
        refine lv_icmp_eq (tgt := 59) hx hb dX6_places_41 (by decide) (fun c_19 => ?_) (fun c_19 => ?_)
        · replace hm := br_p hm c_19
          refine lv_iload_n hx hb dX6_places_59 rfl (lv_at hl 3 rfl) ?_
          refine lv_istore_n (lv' := [(2, .int x3), (0, .ref (ad 0)), (1, .int x1), (3, .int x3)]) hx hb dX6_places_60 rfl hl (by decide) rfl (fun ls hl => ?_)
          refine lv_iinc (v := (x3 + 1)) (lv' := [(3, .int (x3 + 1)), (2, .int x3), (0, .ref (ad 0)), (1, .int x1)]) hx hb dX6_places_61 hl (k := 3) rfl rfl (by decide) rfl (fun ls hl => ?_)
          refine lv_goto (tgt := 20) hx hb dX6_places_64 (by decide) ?_
          exact ih _ _ _ _ hm _ _ _ hP hD hS (lv_sub hl [2, 3, 1, 0] rfl)
        · replace hm := br_n hm c_19
          refine lv_aload_n hx hb dX6_places_44 rfl (lv_at hl 0 rfl) ?_
          refine lv_iload_n hx hb dX6_places_45 rfl (lv_at hl 3 rfl) ?_
          refine lv_iconst (v := 3) hx hb dX6_places_46 (by decide) ?_
          obtain ⟨v20, h_21, hm⟩ := b1_s hm
          refine rd_v hcf (kX6_billed h_21) (cwX6_places_X6_billed hts) hK hP Sb.rf (ci := 6) (q0 := 0) rfl rfl rfl hl.1 rfl (Nat.le_of_ble_eq_true rfl) dX6_places_47 ⟨Nat.zero_le _, Nat.zero_le _⟩ ?_
          refine lv_aload_n hx hb dX6_places_50 rfl (lv_at hl 0 rfl) ?_
          refine lv_iload_n hx hb dX6_places_51 rfl (lv_at hl 2 rfl) ?_
          refine lv_iconst (v := 3) hx hb dX6_places_52 (by decide) ?_
          obtain ⟨v22, h_23, hm⟩ := b1_s hm
          refine rd_v hcf (kX6_billed h_23) (cwX6_places_X6_billed hts) hK hP Sb.rf (ci := 6) (q0 := 0) rfl rfl rfl hl.1 rfl (Nat.le_of_ble_eq_true rfl) dX6_places_53 ⟨Nat.zero_le _, Nat.zero_le _⟩ ?_
          refine lv_icmp_ge (tgt := 61) hx hb dX6_places_56 (by decide) (fun c_24 => ?_) (fun c_24 => ?_)
          · replace hm := br_p hm c_24
            refine lv_iinc (v := (x3 + 1)) (lv' := [(3, .int (x3 + 1)), (0, .ref (ad 0)), (1, .int x1), (2, .int x2)]) hx hb dX6_places_61 hl (k := 3) rfl rfl (by decide) rfl (fun ls hl => ?_)
            refine lv_goto (tgt := 20) hx hb dX6_places_64 (by decide) ?_
            exact ih _ _ _ _ hm _ _ _ hP hD hS (lv_sub hl [1, 2, 3, 0] rfl)
          · replace hm := br_n hm c_24
            refine lv_iload_n hx hb dX6_places_59 rfl (lv_at hl 3 rfl) ?_
            refine lv_istore_n (lv' := [(2, .int x3), (0, .ref (ad 0)), (1, .int x1), (3, .int x3)]) hx hb dX6_places_60 rfl hl (by decide) rfl (fun ls hl => ?_)
            refine lv_iinc (v := (x3 + 1)) (lv' := [(3, .int (x3 + 1)), (2, .int x3), (0, .ref (ad 0)), (1, .int x1)]) hx hb dX6_places_61 hl (k := 3) rfl rfl (by decide) rfl (fun ls hl => ?_)
            refine lv_goto (tgt := 20) hx hb dX6_places_64 (by decide) ?_
            exact ih _ _ _ _ hm _ _ _ hP hD hS (lv_sub hl [2, 3, 1, 0] rfl)
set_option maxRecDepth 100000 in
set_option maxHeartbeats 4000000 in
theorem tX6_places_L2 {ad : Nat → Nat} {thr : Int32} {tpd : Int32} {siz : Int32} {too : Int32} {frm : Int32} {srt : Int32} {num : Int32} {flt : Int32} {plc : Int32} {wrd : Int64} {snm : Int32} {lin : Int32} {stp : Int32} {sfo : Int32} {hst : Int32} {tp : Nat → Int32} {rd : Nat → Int32} {kp : Nat → Int32} {sn : Nat → Int32} {nw' : Nat → Int32} (C : Cx p s m args meth c cX6_places none 4 wsX6_places RX6 D cI cB cL cK) (hA : ∀ q : Nat, s.heap.size ≤ q → A q) (hret : ∀ (pc : Nat) (ls : Array Slot) (H : Heap) (locs : List Loc), decode cX6_places pc = .ok (.return_, 1) → va_P D vwCl (wM cI ad thr tpd siz too frm srt num flt plc wrd snm lin stp sfo hst tp nw' rd kp sn) H → va_D A (wM cI ad thr tpd siz too frm srt num flt plc wrd snm lin stp sfo hst tp nw' rd kp sn) → va_S A s.heap H locs → W p l e rmX6_places s m args below meth c H locs 0 0 Q (F0 m pc ls [])) : ∀ (n9 : Nat) (x1 : Int32) (x2 : Int32) (nw : Nat → Int32), mX6_places_L2 n9 x1 x2 nw = some nw' → ∀ (H : Heap) (locs : List Loc) (ls : Array Slot), va_P D vwCl (wM cI ad thr tpd siz too frm srt num flt plc wrd snm lin stp sfo hst tp nw rd kp sn) H → va_D A (wM cI ad thr tpd siz too frm srt num flt plc wrd snm lin stp sfo hst tp nw rd kp sn) → va_S A s.heap H locs → lv_has ls 4 [(0, .ref (ad 0)), (1, .int x1), (2, .int x2)] → W p l e rmX6_places s m args below meth c H locs 0 0 Q (F0 m 2 ls []) := by
  obtain ⟨hx, hb, hr, hml, hown, hts, hlk, hK⟩ := id C
  have hcf : CallFix p m c cX6_places 4 s args wsX6_places RX6 := ⟨hx, hb, hml, hown, hts⟩
  intro n9
  induction n9 with
  | zero => intro x1 x2 nw hm; cases hm
  | succ k ih =>
    intro x1 x2 nw hm H locs ls hP hD hS hl
    rw [mX6_places_L2.eq_2] at hm
    refine lv_aload_n hx hb dX6_places_2 rfl (lv_at hl 0 rfl) ?_
    refine lv_iload_n hx hb dX6_places_3 rfl (lv_at hl 1 rfl) ?_
    refine lv_iconst (v := 2) hx hb dX6_places_4 (by decide) ?_
    obtain ⟨v1, h_2, hm⟩ := b1_s hm
    refine rd_v hcf (kX6_its h_2) (cwX6_places_X6_its hts) hK hP Sb.rf (ci := 6) (q0 := 0) rfl rfl rfl hl.1 rfl (Nat.le_of_ble_eq_true rfl) dX6_places_5 ⟨Nat.zero_le _, Nat.zero_le _⟩ ?_
    refine lv_if_le (tgt := 140) hx hb dX6_places_8 (by decide) (fun c_3 => ?_) (fun c_3 => ?_)
    · replace hm := br_p hm c_3
      cases hm
      exact hret _ _ _ _ dX6_places_140 hP hD hS
    · replace hm := br_n hm c_3
      refine lv_iload_n hx hb dX6_places_11 rfl (lv_at hl 2 rfl) ?_
      refine lv_iconst (v := (-1)) hx hb dX6_places_12 (by decide) ?_
      refine lv_icmp_eq (tgt := 140) hx hb dX6_places_13 (by decide) (fun c_4 => ?_) (fun c_4 => ?_)
      · replace hm := br_p hm c_4
        cases hm
        exact hret _ _ _ _ dX6_places_140 hP hD hS
      · replace hm := br_n hm c_4
        refine lv_iconst (v := (-1)) hx hb dX6_places_16 (by decide) ?_
        refine lv_istore_n (lv' := [(2, .int (-1)), (0, .ref (ad 0)), (1, .int x1)]) hx hb dX6_places_17 rfl hl (by decide) rfl (fun ls hl => ?_)
        refine lv_iconst (v := 0) hx hb dX6_places_18 (by decide) ?_
        refine lv_istore_n (lv' := [(3, .int 0), (2, .int (-1)), (0, .ref (ad 0)), (1, .int x1)]) hx hb dX6_places_19 rfl hl (by decide) rfl (fun ls hl => ?_)
        exact tX6_places_L20 C hA hret ih _ _ _ _ _ hm _ _ _ hP hD hS (lv_sub hl [2, 3, 1, 0] rfl)
set_option maxRecDepth 100000 in
set_option maxHeartbeats 4000000 in
theorem kX6_places {l : Launch} {D : va_G} {cI cB cL cK : ClassId} {ad : Nat → Nat} {thr : Int32} {tpd : Int32} {siz : Int32} {too : Int32} {frm : Int32} {srt : Int32} {num : Int32} {flt : Int32} {plc : Int32} {wrd : Int64} {snm : Int32} {lin : Int32} {stp : Int32} {sfo : Int32} {hst : Int32} {tp : Nat → Int32} {nw : Nat → Int32} {rd : Nat → Int32} {kp : Nat → Int32} {sn : Nat → Int32} {p1 : Int32} {nw' : Nat → Int32} (hm : mX6_places nw p1 = some nw') : Mu l D cI cB cL cK yX6_places wsX6_places rmX6_places [.ref (ad 0), .int p1] (wM cI ad thr tpd siz too frm srt num flt plc wrd snm lin stp sfo hst tp nw rd kp sn) (wM cI ad thr tpd siz too frm srt num flt plc wrd snm lin stp sfo hst tp nw' rd kp sn) none 0 0 := by
  refine Mu.ofv (cc := cX6_places) (own := RX6) (by decide) rfl rfl (Nat.le_of_ble_eq_true rfl) (fun p e s m below meth c ls Q A C _ hA hP hD hS hl hret => ?_)
  obtain ⟨hx, hb, hr, hml, hown, hts, hlk, hK⟩ := id C
  have hcf : CallFix p m c cX6_places 4 s _ wsX6_places RX6 := ⟨hx, hb, hml, hown, hts⟩
  have hl : lv_has ls 4 [(0, .ref (ad 0)), (1, .int p1)] := hl
  unfold mX6_places at hm
  refine lv_iconst (v := 0) hx hb dX6_places_0 (by decide) ?_
  refine lv_istore_n (lv' := [(2, .int 0), (0, .ref (ad 0)), (1, .int p1)]) hx hb dX6_places_1 rfl hl (by decide) rfl (fun ls hl => ?_)
  exact tX6_places_L2 C hA hret _ _ _ _ hm _ _ _ hP hD hS (lv_sub hl [1, 2, 0] rfl)
/-! X6 releases(I)I -/
abbrev rmX6_releases : Room := { frames := 3, cells := 0, slots := 0, locals := 68 }
theorem hdX6_releases : yX6_releases.cls = RX6 ∧ yX6_releases.cls ≠ "java/lang/invoke/MethodHandle" ∧ yX6_releases.cls ≠ "java/lang/invoke/VarHandle" ∧ (parseMethodDescriptor yX6_releases.desc).map (fun d => d.parameters.length) = some 1 := by decide +kernel
theorem inX6_releases_X6 : ∀ w ∈ u_ws RX6 TX6 20, w ∈ wsX6_releases := by decide +kernel
theorem cwX6_releases_X6_its {s : State} {args : Array Value} (hts : ∀ w ∈ wsX6_releases, w.before args s = true) : CallW rmX6_releases s args RX6 RX6 148 yX6_its cX6_its 3 (some .int) wsX6_its rmX6_its 0 0 2 := cwV 2 hts gX6_releases_X6_its rfl rfl rfl hdX6_its ⟨Nat.le_of_ble_eq_true rfl, Nat.le_of_ble_eq_true rfl⟩
theorem cwX6_releases_X6_ordered {s : State} {args : Array Value} (hts : ∀ w ∈ wsX6_releases, w.before args s = true) : CallW rmX6_releases s args RX6 RX6 154 yX6_ordered cX6_ordered 3 (some .int) wsX6_ordered rmX6_ordered 0 0 2 := cwV 2 hts gX6_releases_X6_ordered rfl rfl rfl hdX6_ordered ⟨Nat.le_of_ble_eq_true rfl, Nat.le_of_ble_eq_true rfl⟩
theorem cwX6_releases_X6_risk {s : State} {args : Array Value} (hts : ∀ w ∈ wsX6_releases, w.before args s = true) : CallW rmX6_releases s args RX6 RX6 161 yX6_risk cX6_risk 4 (some .int) wsX6_risk rmX6_risk 0 0 1 := cwV 1 hts gX6_releases_X6_risk rfl rfl rfl hdX6_risk ⟨Nat.le_of_ble_eq_true rfl, Nat.le_of_ble_eq_true rfl⟩
theorem flX6_releases_70 : Fl wsX6_releases RX6 70 6 11 := ⟨_, _, _, rfl, by decide, inX6_releases_X6, by decide +kernel⟩
set_option maxRecDepth 100000 in
set_option maxHeartbeats 4000000 in
theorem tX6_releases_L4 {ad : Nat → Nat} {thr : Int32} {tpd : Int32} {siz : Int32} {too : Int32} {frm : Int32} {srt : Int32} {num : Int32} {flt : Int32} {plc : Int32} {wrd : Int64} {snm : Int32} {lin : Int32} {stp : Int32} {sfo : Int32} {hst : Int32} {tp : Nat → Int32} {rd : Nat → Int32} {kp : Nat → Int32} {sn : Nat → Int32} {res : Int32} {nw' : Nat → Int32} (C : Cx p s m args meth c cX6_releases (some .int) 4 wsX6_releases RX6 D cI cB cL cK) (hA : ∀ q : Nat, s.heap.size ≤ q → A q) (hret : ∀ (pc : Nat) (ls : Array Slot) (H : Heap) (locs : List Loc), decode cX6_releases pc = .ok (.ireturn, 1) → narrow .int (.int res) = .int res → va_P D vwCl (wM cI ad thr tpd siz too frm srt num flt plc wrd snm lin stp sfo hst tp nw' rd kp sn) H → va_D A (wM cI ad thr tpd siz too frm srt num flt plc wrd snm lin stp sfo hst tp nw' rd kp sn) → va_S A s.heap H locs → W p l e rmX6_releases s m args below meth c H locs 0 0 Q (F0 m pc ls [.int res])) : ∀ (n9 : Nat) (x1 : Int32) (x2 : Int32) (x3 : Int32) (nw : Nat → Int32), mX6_releases_L4 n9 x1 x2 x3 nw = some (res, nw') → ∀ (H : Heap) (locs : List Loc) (ls : Array Slot), va_P D vwCl (wM cI ad thr tpd siz too frm srt num flt plc wrd snm lin stp sfo hst tp nw rd kp sn) H → va_D A (wM cI ad thr tpd siz too frm srt num flt plc wrd snm lin stp sfo hst tp nw rd kp sn) → va_S A s.heap H locs → lv_has ls 4 [(0, .ref (ad 0)), (1, .int x1), (2, .int x2), (3, .int x3)] → W p l e rmX6_releases s m args below meth c H locs 0 0 Q (F0 m 4 ls []) := by
  obtain ⟨hx, hb, hr, hml, hown, hts, hlk, hK⟩ := id C
  have hcf : CallFix p m c cX6_releases 4 s args wsX6_releases RX6 := ⟨hx, hb, hml, hown, hts⟩
  intro n9
  induction n9 with
  | zero => intro x1 x2 x3 nw hm; cases hm
  | succ k ih =>
    intro x1 x2 x3 nw hm H locs ls hP hD hS hl
    rw [mX6_releases_L4.eq_2] at hm
    refine lv_iload_n hx hb dX6_releases_4 rfl (lv_at hl 3 rfl) ?_
    refine lv_aload_n hx hb dX6_releases_5 rfl (lv_at hl 0 rfl) ?_
    refine gf (q0 := 0) hx hb hts hown hK flX6_releases_70 hP rfl rfl dX6_releases_6 ?_
    refine lv_iconst (v := 5) hx hb dX6_releases_9 (by decide) ?_
    refine ald (q0 := 2) (k := 5) hx hb hK hP rfl (by decide) (by decide) dX6_releases_10 ?_
    refine lv_icmp_ge (tgt := 98) hx hb dX6_releases_11 (by decide) (fun c_1 => ?_) (fun c_1 => ?_)
    · replace hm := br_p hm c_1
      refine lv_iload_n hx hb dX6_releases_98 rfl (lv_at hl 2 rfl) ?_
      cases hm
      exact hret _ _ _ _ dX6_releases_99 rfl hP hD hS
    · replace hm := br_n hm c_1
      refine lv_aload_n hx hb dX6_releases_14 rfl (lv_at hl 0 rfl) ?_
      refine lv_iload_n hx hb dX6_releases_15 rfl (lv_at hl 3 rfl) ?_
      refine lv_iconst (v := 0) hx hb dX6_releases_16 (by decide) ?_
      obtain ⟨v2, h_3, hm⟩ := b1_s hm
      refine rd_v hcf (kX6_ordered h_3) (cwX6_releases_X6_ordered hts) hK hP Sb.rf (ci := 6) (q0 := 0) rfl rfl rfl hl.1 rfl (Nat.le_of_ble_eq_true rfl) dX6_releases_17 ⟨Nat.zero_le _, Nat.zero_le _⟩ ?_
      refine lv_iload_n hx hb dX6_releases_20 rfl (lv_at hl 1 rfl) ?_
      refine lv_icmp_ne (tgt := 92) hx hb dX6_releases_21 (by decide) (fun c_4 => ?_) (fun c_4 => ?_)
      · replace hm := br_n hm c_4
        refine lv_iinc (v := (x3 + 1)) (lv' := [(3, .int (x3 + 1)), (0, .ref (ad 0)), (1, .int x1), (2, .int x2)]) hx hb dX6_releases_92 hl (k := 3) rfl rfl (by decide) rfl (fun ls hl => ?_)
        refine lv_goto (tgt := 4) hx hb dX6_releases_95 (by decide) ?_
        exact ih _ _ _ _ hm _ _ _ hP hD hS (lv_sub hl [1, 2, 3, 0] rfl)
      · replace hm := br_p hm c_4
        refine lv_aload_n hx hb dX6_releases_24 rfl (lv_at hl 0 rfl) ?_
        refine lv_iload_n hx hb dX6_releases_25 rfl (lv_at hl 3 rfl) ?_
        refine lv_iconst (v := 2) hx hb dX6_releases_26 (by decide) ?_
        obtain ⟨v5, h_6, hm⟩ := b1_s hm
        refine rd_v hcf (kX6_ordered h_6) (cwX6_releases_X6_ordered hts) hK hP Sb.rf (ci := 6) (q0 := 0) rfl rfl rfl hl.1 rfl (Nat.le_of_ble_eq_true rfl) dX6_releases_27 ⟨Nat.zero_le _, Nat.zero_le _⟩ ?_
        refine lv_if_eq (tgt := 36) hx hb dX6_releases_30 (by decide) (fun c_7 => ?_) (fun c_7 => ?_)
        · replace hm := br_p hm c_7
          refine lv_aload_n hx hb dX6_releases_36 rfl (lv_at hl 0 rfl) ?_
          refine lv_iload_n hx hb dX6_releases_37 rfl (lv_at hl 1 rfl) ?_
          refine lv_iconst (v := 3) hx hb dX6_releases_38 (by decide) ?_
          obtain ⟨v8, h_9, hm⟩ := b1_s hm
          refine rd_v hcf (kX6_its h_9) (cwX6_releases_X6_its hts) hK hP Sb.rf (ci := 6) (q0 := 0) rfl rfl rfl hl.1 rfl (Nat.le_of_ble_eq_true rfl) dX6_releases_39 ⟨Nat.zero_le _, Nat.zero_le _⟩ ?_
          refine lv_aload_n hx hb dX6_releases_42 rfl (lv_at hl 0 rfl) ?_
          refine gf (q0 := 0) hx hb hts hown hK flX6_releases_70 hP rfl rfl dX6_releases_43 ?_
          refine lv_iconst (v := 1) hx hb dX6_releases_46 (by decide) ?_
          refine ald (q0 := 2) (k := 1) hx hb hK hP rfl (by decide) (by decide) dX6_releases_47 ?_
          refine lv_icmp_ge (tgt := 72) hx hb dX6_releases_48 (by decide) (fun c_10 => ?_) (fun c_10 => ?_)
          · replace hm := br_p hm c_10
            refine lv_iload_n hx hb dX6_releases_72 rfl (lv_at hl 2 rfl) ?_
            cases hm
            exact hret _ _ _ _ dX6_releases_73 rfl hP hD hS
          · replace hm := br_n hm c_10
            refine lv_aload_n hx hb dX6_releases_51 rfl (lv_at hl 0 rfl) ?_
            refine lv_iload_n hx hb dX6_releases_52 rfl (lv_at hl 1 rfl) ?_
            obtain ⟨v11, h_12, hm⟩ := b1_s hm
            refine rd_v hcf (kX6_risk h_12) (cwX6_releases_X6_risk hts) hK hP Sb.rf (ci := 6) (q0 := 0) rfl rfl rfl hl.1 rfl (Nat.le_of_ble_eq_true rfl) dX6_releases_53 ⟨Nat.zero_le _, Nat.zero_le _⟩ ?_
            refine lv_aload_n hx hb dX6_releases_56 rfl (lv_at hl 0 rfl) ?_
            refine lv_iload_n hx hb dX6_releases_57 rfl (lv_at hl 3 rfl) ?_
            refine lv_iconst (v := 1) hx hb dX6_releases_58 (by decide) ?_
            obtain ⟨v13, h_14, hm⟩ := b1_s hm
            refine rd_v hcf (kX6_ordered h_14) (cwX6_releases_X6_ordered hts) hK hP Sb.rf (ci := 6) (q0 := 0) rfl rfl rfl hl.1 rfl (Nat.le_of_ble_eq_true rfl) dX6_releases_59 ⟨Nat.zero_le _, Nat.zero_le _⟩ ?_
            refine lv_iadd hx hb dX6_releases_62 ?_
            refine lv_aload_n hx hb dX6_releases_63 rfl (lv_at hl 0 rfl) ?_
            refine lv_iload_n hx hb dX6_releases_64 rfl (lv_at hl 1 rfl) ?_
            refine lv_iconst (v := 0) hx hb dX6_releases_65 (by decide) ?_
            obtain ⟨v15, h_16, hm⟩ := b1_s hm
            refine rd_v hcf (kX6_its h_16) (cwX6_releases_X6_its hts) hK hP Sb.rf (ci := 6) (q0 := 0) rfl rfl rfl hl.1 rfl (Nat.le_of_ble_eq_true rfl) dX6_releases_66 ⟨Nat.zero_le _, Nat.zero_le _⟩ ?_
            refine lv_icmp_le (tgt := 74) hx hb dX6_releases_69 (by decide) (fun c_17 => ?_) (fun c_17 => ?_)
            · replace hm := br_p hm c_17
              refine lv_aload_n hx hb dX6_releases_74 rfl (lv_at hl 0 rfl) ?_
              refine gf (q0 := 0) hx hb hts hown hK flX6_releases_70 hP rfl rfl dX6_releases_75 ?_
              refine lv_sipush (v := 625) hx hb dX6_releases_78 (by decide) ?_
              refine lv_iconst (v := 4) hx hb dX6_releases_81 (by decide) ?_
              refine lv_iload_n hx hb dX6_releases_82 rfl (lv_at hl 3 rfl) ?_
              refine lv_imul hx hb dX6_releases_83 ?_
              refine lv_iadd hx hb dX6_releases_84 ?_
              refine lv_iconst (v := 2) hx hb dX6_releases_85 (by decide) ?_
              refine lv_iadd hx hb dX6_releases_86 ?_
              refine lv_iconst (v := 1) hx hb dX6_releases_87 (by decide) ?_
              obtain ⟨h_18, hm⟩ := ck_s hm
              refine ast (q0 := 2) (k := (((625 + (4 * x3)) + 2) : Int32).toNatClampNeg) (X' := (wM cI ad thr tpd siz too frm srt num flt plc wrd snm lin stp sfo hst tp (upd nw ((((625 + (4 * x3)) + 2) : Int32).toNatClampNeg) 1) rd kp sn)) hx hb hK hP hD hS rfl h_18 rfl rfl dX6_releases_88 (fun H locs hP hD hS => ?_)
              refine lv_iinc (v := (x2 + 1)) (lv' := [(2, .int (x2 + 1)), (0, .ref (ad 0)), (1, .int x1), (3, .int x3)]) hx hb dX6_releases_89 hl (k := 2) rfl rfl (by decide) rfl (fun ls hl => ?_)
              refine lv_iinc (v := (x3 + 1)) (lv' := [(3, .int (x3 + 1)), (2, .int (x2 + 1)), (0, .ref (ad 0)), (1, .int x1)]) hx hb dX6_releases_92 hl (k := 3) rfl rfl (by decide) rfl (fun ls hl => ?_)
              refine lv_goto (tgt := 4) hx hb dX6_releases_95 (by decide) ?_
              exact ih _ _ _ _ hm _ _ _ hP hD hS (lv_sub hl [2, 3, 1, 0] rfl)
            · replace hm := br_n hm c_17
              refine lv_iload_n hx hb dX6_releases_72 rfl (lv_at hl 2 rfl) ?_
              cases hm
              exact hret _ _ _ _ dX6_releases_73 rfl hP hD hS
        · replace hm := br_n hm c_7
          refine lv_goto (tgt := 92) hx hb dX6_releases_33 (by decide) ?_
          refine lv_iinc (v := (x3 + 1)) (lv' := [(3, .int (x3 + 1)), (0, .ref (ad 0)), (1, .int x1), (2, .int x2)]) hx hb dX6_releases_92 hl (k := 3) rfl rfl (by decide) rfl (fun ls hl => ?_)
          refine lv_goto (tgt := 4) hx hb dX6_releases_95 (by decide) ?_
          exact ih _ _ _ _ hm _ _ _ hP hD hS (lv_sub hl [1, 2, 3, 0] rfl)
set_option maxRecDepth 100000 in
set_option maxHeartbeats 4000000 in
theorem kX6_releases {l : Launch} {D : va_G} {cI cB cL cK : ClassId} {ad : Nat → Nat} {thr : Int32} {tpd : Int32} {siz : Int32} {too : Int32} {frm : Int32} {srt : Int32} {num : Int32} {flt : Int32} {plc : Int32} {wrd : Int64} {snm : Int32} {lin : Int32} {stp : Int32} {sfo : Int32} {hst : Int32} {tp : Nat → Int32} {nw : Nat → Int32} {rd : Nat → Int32} {kp : Nat → Int32} {sn : Nat → Int32} {p1 : Int32} {res : Int32} {nw' : Nat → Int32} (hm : mX6_releases nw p1 = some (res, nw')) : Mu l D cI cB cL cK yX6_releases wsX6_releases rmX6_releases [.ref (ad 0), .int p1] (wM cI ad thr tpd siz too frm srt num flt plc wrd snm lin stp sfo hst tp nw rd kp sn) (wM cI ad thr tpd siz too frm srt num flt plc wrd snm lin stp sfo hst tp nw' rd kp sn) (some (.int res)) 0 0 := by
  refine Mu.ofi (cc := cX6_releases) (own := RX6) (by decide) rfl rfl (Nat.le_of_ble_eq_true rfl) (fun p e s m below meth c ls Q A C hA hP hD hS hl hret => ?_)
  obtain ⟨hx, hb, hr, hml, hown, hts, hlk, hK⟩ := id C
  have hcf : CallFix p m c cX6_releases 4 s _ wsX6_releases RX6 := ⟨hx, hb, hml, hown, hts⟩
  have hl : lv_has ls 4 [(0, .ref (ad 0)), (1, .int p1)] := hl
  unfold mX6_releases at hm
  refine lv_iconst (v := 0) hx hb dX6_releases_0 (by decide) ?_
  refine lv_istore_n (lv' := [(2, .int 0), (0, .ref (ad 0)), (1, .int p1)]) hx hb dX6_releases_1 rfl hl (by decide) rfl (fun ls hl => ?_)
  refine lv_iconst (v := 0) hx hb dX6_releases_2 (by decide) ?_
  refine lv_istore_n (lv' := [(3, .int 0), (2, .int 0), (0, .ref (ad 0)), (1, .int p1)]) hx hb dX6_releases_3 rfl hl (by decide) rfl (fun ls hl => ?_)
  exact tX6_releases_L4 C hA hret _ _ _ _ _ hm _ _ _ hP hD hS (lv_sub hl [2, 3, 1, 0] rfl)
/-! X6 invoices(IIII)I -/
abbrev rmX6_invoices : Room := { frames := 3, cells := 0, slots := 0, locals := 67 }
theorem hdX6_invoices : yX6_invoices.cls = RX6 ∧ yX6_invoices.cls ≠ "java/lang/invoke/MethodHandle" ∧ yX6_invoices.cls ≠ "java/lang/invoke/VarHandle" ∧ (parseMethodDescriptor yX6_invoices.desc).map (fun d => d.parameters.length) = some 4 := by decide +kernel
theorem inX6_invoices_X6 : ∀ w ∈ u_ws RX6 TX6 20, w ∈ wsX6_invoices := by decide +kernel
theorem cwX6_invoices_X6_places {s : State} {args : Array Value} (hts : ∀ w ∈ wsX6_invoices, w.before args s = true) : CallW rmX6_invoices s args RX6 RX6 164 yX6_places cX6_places 4 none wsX6_places rmX6_places 0 0 1 := cwV 1 hts gX6_invoices_X6_places rfl rfl rfl hdX6_places ⟨Nat.le_of_ble_eq_true rfl, Nat.le_of_ble_eq_true rfl⟩
theorem flX6_invoices_70 : Fl wsX6_invoices RX6 70 6 11 := ⟨_, _, _, rfl, by decide, inX6_invoices_X6, by decide +kernel⟩
set_option maxRecDepth 100000 in
set_option maxHeartbeats 4000000 in
theorem kX6_invoices {l : Launch} {D : va_G} {cI cB cL cK : ClassId} {ad : Nat → Nat} {thr : Int32} {tpd : Int32} {siz : Int32} {too : Int32} {frm : Int32} {srt : Int32} {num : Int32} {flt : Int32} {plc : Int32} {wrd : Int64} {snm : Int32} {lin : Int32} {stp : Int32} {sfo : Int32} {hst : Int32} {tp : Nat → Int32} {nw : Nat → Int32} {rd : Nat → Int32} {kp : Nat → Int32} {sn : Nat → Int32} {p1 : Int32} {p2 : Int32} {p3 : Int32} {p4 : Int32} {res : Int32} {nw' : Nat → Int32} (hm : mX6_invoices nw p1 p2 p3 p4 = some (res, nw')) : Mu l D cI cB cL cK yX6_invoices wsX6_invoices rmX6_invoices [.ref (ad 0), .int p1, .int p2, .int p3, .int p4] (wM cI ad thr tpd siz too frm srt num flt plc wrd snm lin stp sfo hst tp nw rd kp sn) (wM cI ad thr tpd siz too frm srt num flt plc wrd snm lin stp sfo hst tp nw' rd kp sn) (some (.int res)) 0 0 := by
  refine Mu.ofi (cc := cX6_invoices) (own := RX6) (by decide) rfl rfl (Nat.le_of_ble_eq_true rfl) (fun p e s m below meth c ls Q A C hA hP hD hS hl hret => ?_)
  obtain ⟨hx, hb, hr, hml, hown, hts, hlk, hK⟩ := id C
  have hcf : CallFix p m c cX6_invoices 6 s _ wsX6_invoices RX6 := ⟨hx, hb, hml, hown, hts⟩
  have hl : lv_has ls 6 [(0, .ref (ad 0)), (1, .int p1), (2, .int p2), (3, .int p3), (4, .int p4)] := hl
  unfold mX6_invoices at hm
  refine lv_sipush (v := 205) hx hb dX6_invoices_0 (by decide) ?_
  refine lv_bipush (v := 7) hx hb dX6_invoices_3 (by decide) ?_
  refine lv_aload_n hx hb dX6_invoices_5 rfl (lv_at hl 0 rfl) ?_
  refine gf (q0 := 0) hx hb hts hown hK flX6_invoices_70 hP rfl rfl dX6_invoices_6 ?_
  refine lv_iconst (v := 4) hx hb dX6_invoices_9 (by decide) ?_
  refine ald (q0 := 2) (k := 4) hx hb hK hP rfl (by decide) (by decide) dX6_invoices_10 ?_
  refine lv_imul hx hb dX6_invoices_11 ?_
  refine lv_iadd hx hb dX6_invoices_12 ?_
  refine lv_istore (lv' := [(5, .int (205 + (7 * (nw 4)))), (0, .ref (ad 0)), (1, .int p1), (2, .int p2), (3, .int p3), (4, .int p4)]) hx hb dX6_invoices_13 hl (by decide) rfl (fun ls hl => ?_)
  refine lv_aload_n hx hb dX6_invoices_15 rfl (lv_at hl 1 rfl) ?_
  refine gf (q0 := 0) hx hb hts hown hK flX6_invoices_70 hP rfl rfl dX6_invoices_16 ?_
  refine lv_iload hx hb dX6_invoices_19 (lv_at hl 0 rfl) ?_
  refine lv_iconst (v := 0) hx hb dX6_invoices_21 (by decide) ?_
  refine lv_iadd hx hb dX6_invoices_22 ?_
  refine lv_iload_n hx hb dX6_invoices_23 rfl (lv_at hl 2 rfl) ?_
  obtain ⟨h_1, hm⟩ := ck_s hm
  refine ast (q0 := 2) (k := (((205 + (7 * (nw 4))) + 0) : Int32).toNatClampNeg) (X' := (wM cI ad thr tpd siz too frm srt num flt plc wrd snm lin stp sfo hst tp (upd nw ((((205 + (7 * (nw 4))) + 0) : Int32).toNatClampNeg) p1) rd kp sn)) hx hb hK hP hD hS rfl h_1 rfl rfl dX6_invoices_24 (fun H locs hP hD hS => ?_)
  refine lv_aload_n hx hb dX6_invoices_25 rfl (lv_at hl 1 rfl) ?_
  refine gf (q0 := 0) hx hb hts hown hK flX6_invoices_70 hP rfl rfl dX6_invoices_26 ?_
  refine lv_iload hx hb dX6_invoices_29 (lv_at hl 0 rfl) ?_
  refine lv_iconst (v := 1) hx hb dX6_invoices_31 (by decide) ?_
  refine lv_iadd hx hb dX6_invoices_32 ?_
  refine lv_iload_n hx hb dX6_invoices_33 rfl (lv_at hl 3 rfl) ?_
  obtain ⟨h_2, hm⟩ := ck_s hm
  refine ast (q0 := 2) (k := (((205 + (7 * (nw 4))) + 1) : Int32).toNatClampNeg) (X' := (wM cI ad thr tpd siz too frm srt num flt plc wrd snm lin stp sfo hst tp (upd (upd nw ((((205 + (7 * (nw 4))) + 0) : Int32).toNatClampNeg) p1) ((((205 + (7 * (nw 4))) + 1) : Int32).toNatClampNeg) p2) rd kp sn)) hx hb hK hP hD hS rfl h_2 rfl rfl dX6_invoices_34 (fun H locs hP hD hS => ?_)
  refine lv_aload_n hx hb dX6_invoices_35 rfl (lv_at hl 1 rfl) ?_
  refine gf (q0 := 0) hx hb hts hown hK flX6_invoices_70 hP rfl rfl dX6_invoices_36 ?_
  refine lv_iload hx hb dX6_invoices_39 (lv_at hl 0 rfl) ?_
  refine lv_iconst (v := 2) hx hb dX6_invoices_41 (by decide) ?_
  refine lv_iadd hx hb dX6_invoices_42 ?_
  refine lv_iload_n hx hb dX6_invoices_43 rfl (lv_at hl 3 rfl) ?_
  obtain ⟨h_3, hm⟩ := ck_s hm
  refine ast (q0 := 2) (k := (((205 + (7 * (nw 4))) + 2) : Int32).toNatClampNeg) (X' := (wM cI ad thr tpd siz too frm srt num flt plc wrd snm lin stp sfo hst tp (upd (upd (upd nw ((((205 + (7 * (nw 4))) + 0) : Int32).toNatClampNeg) p1) ((((205 + (7 * (nw 4))) + 1) : Int32).toNatClampNeg) p2) ((((205 + (7 * (nw 4))) + 2) : Int32).toNatClampNeg) p2) rd kp sn)) hx hb hK hP hD hS rfl h_3 rfl rfl dX6_invoices_44 (fun H locs hP hD hS => ?_)
  refine lv_aload_n hx hb dX6_invoices_45 rfl (lv_at hl 1 rfl) ?_
  refine gf (q0 := 0) hx hb hts hown hK flX6_invoices_70 hP rfl rfl dX6_invoices_46 ?_
  refine lv_iload hx hb dX6_invoices_49 (lv_at hl 0 rfl) ?_
  refine lv_iconst (v := 3) hx hb dX6_invoices_51 (by decide) ?_
  refine lv_iadd hx hb dX6_invoices_52 ?_
  refine lv_iload_n hx hb dX6_invoices_53 rfl (lv_at hl 4 rfl) ?_
  obtain ⟨h_4, hm⟩ := ck_s hm
  refine ast (q0 := 2) (k := (((205 + (7 * (nw 4))) + 3) : Int32).toNatClampNeg) (X' := (wM cI ad thr tpd siz too frm srt num flt plc wrd snm lin stp sfo hst tp (upd (upd (upd (upd nw ((((205 + (7 * (nw 4))) + 0) : Int32).toNatClampNeg) p1) ((((205 + (7 * (nw 4))) + 1) : Int32).toNatClampNeg) p2) ((((205 + (7 * (nw 4))) + 2) : Int32).toNatClampNeg) p2) ((((205 + (7 * (nw 4))) + 3) : Int32).toNatClampNeg) p3) rd kp sn)) hx hb hK hP hD hS rfl h_4 rfl rfl dX6_invoices_54 (fun H locs hP hD hS => ?_)
  refine lv_aload_n hx hb dX6_invoices_55 rfl (lv_at hl 1 rfl) ?_
  refine gf (q0 := 0) hx hb hts hown hK flX6_invoices_70 hP rfl rfl dX6_invoices_56 ?_
  refine lv_iload hx hb dX6_invoices_59 (lv_at hl 0 rfl) ?_
  refine lv_iconst (v := 4) hx hb dX6_invoices_61 (by decide) ?_
  refine lv_iadd hx hb dX6_invoices_62 ?_
  refine lv_iconst (v := 0) hx hb dX6_invoices_63 (by decide) ?_
  obtain ⟨h_5, hm⟩ := ck_s hm
  refine ast (q0 := 2) (k := (((205 + (7 * (nw 4))) + 4) : Int32).toNatClampNeg) (X' := (wM cI ad thr tpd siz too frm srt num flt plc wrd snm lin stp sfo hst tp (upd (upd (upd (upd (upd nw ((((205 + (7 * (nw 4))) + 0) : Int32).toNatClampNeg) p1) ((((205 + (7 * (nw 4))) + 1) : Int32).toNatClampNeg) p2) ((((205 + (7 * (nw 4))) + 2) : Int32).toNatClampNeg) p2) ((((205 + (7 * (nw 4))) + 3) : Int32).toNatClampNeg) p3) ((((205 + (7 * (nw 4))) + 4) : Int32).toNatClampNeg) 0) rd kp sn)) hx hb hK hP hD hS rfl h_5 rfl rfl dX6_invoices_64 (fun H locs hP hD hS => ?_)
  refine lv_aload_n hx hb dX6_invoices_65 rfl (lv_at hl 1 rfl) ?_
  refine gf (q0 := 0) hx hb hts hown hK flX6_invoices_70 hP rfl rfl dX6_invoices_66 ?_
  refine lv_iload hx hb dX6_invoices_69 (lv_at hl 0 rfl) ?_
  refine lv_iconst (v := 5) hx hb dX6_invoices_71 (by decide) ?_
  refine lv_iadd hx hb dX6_invoices_72 ?_
  refine lv_iconst (v := 0) hx hb dX6_invoices_73 (by decide) ?_
  obtain ⟨h_6, hm⟩ := ck_s hm
  refine ast (q0 := 2) (k := (((205 + (7 * (nw 4))) + 5) : Int32).toNatClampNeg) (X' := (wM cI ad thr tpd siz too frm srt num flt plc wrd snm lin stp sfo hst tp (upd (upd (upd (upd (upd (upd nw ((((205 + (7 * (nw 4))) + 0) : Int32).toNatClampNeg) p1) ((((205 + (7 * (nw 4))) + 1) : Int32).toNatClampNeg) p2) ((((205 + (7 * (nw 4))) + 2) : Int32).toNatClampNeg) p2) ((((205 + (7 * (nw 4))) + 3) : Int32).toNatClampNeg) p3) ((((205 + (7 * (nw 4))) + 4) : Int32).toNatClampNeg) 0) ((((205 + (7 * (nw 4))) + 5) : Int32).toNatClampNeg) 0) rd kp sn)) hx hb hK hP hD hS rfl h_6 rfl rfl dX6_invoices_74 (fun H locs hP hD hS => ?_)
  refine lv_aload_n hx hb dX6_invoices_75 rfl (lv_at hl 1 rfl) ?_
  refine gf (q0 := 0) hx hb hts hown hK flX6_invoices_70 hP rfl rfl dX6_invoices_76 ?_
  refine lv_iload hx hb dX6_invoices_79 (lv_at hl 0 rfl) ?_
  refine lv_bipush (v := 6) hx hb dX6_invoices_81 (by decide) ?_
  refine lv_iadd hx hb dX6_invoices_83 ?_
  refine lv_iload hx hb dX6_invoices_84 (lv_at hl 5 rfl) ?_
  obtain ⟨h_7, hm⟩ := ck_s hm
  refine ast (q0 := 2) (k := (((205 + (7 * (nw 4))) + 6) : Int32).toNatClampNeg) (X' := (wM cI ad thr tpd siz too frm srt num flt plc wrd snm lin stp sfo hst tp (upd (upd (upd (upd (upd (upd (upd nw ((((205 + (7 * (nw 4))) + 0) : Int32).toNatClampNeg) p1) ((((205 + (7 * (nw 4))) + 1) : Int32).toNatClampNeg) p2) ((((205 + (7 * (nw 4))) + 2) : Int32).toNatClampNeg) p2) ((((205 + (7 * (nw 4))) + 3) : Int32).toNatClampNeg) p3) ((((205 + (7 * (nw 4))) + 4) : Int32).toNatClampNeg) 0) ((((205 + (7 * (nw 4))) + 5) : Int32).toNatClampNeg) 0) ((((205 + (7 * (nw 4))) + 6) : Int32).toNatClampNeg) p4) rd kp sn)) hx hb hK hP hD hS rfl h_7 rfl rfl dX6_invoices_86 (fun H locs hP hD hS => ?_)
  refine lv_aload_n hx hb dX6_invoices_87 rfl (lv_at hl 1 rfl) ?_
  refine gf (q0 := 0) hx hb hts hown hK flX6_invoices_70 hP rfl rfl dX6_invoices_88 ?_
  refine lv_iconst (v := 4) hx hb dX6_invoices_91 (by decide) ?_
  refine lv_dup2_11 hx hb dX6_invoices_92 rfl rfl ?_
  refine ald (q0 := 2) (k := 4) hx hb hK hP rfl (by decide) (by decide) dX6_invoices_93 ?_
  refine lv_iconst (v := 1) hx hb dX6_invoices_94 (by decide) ?_
  refine lv_iadd hx hb dX6_invoices_95 ?_
  refine ast (q0 := 2) (k := 4) (X' := (wM cI ad thr tpd siz too frm srt num flt plc wrd snm lin stp sfo hst tp (upd (upd (upd (upd (upd (upd (upd (upd nw ((((205 + (7 * (nw 4))) + 0) : Int32).toNatClampNeg) p1) ((((205 + (7 * (nw 4))) + 1) : Int32).toNatClampNeg) p2) ((((205 + (7 * (nw 4))) + 2) : Int32).toNatClampNeg) p2) ((((205 + (7 * (nw 4))) + 3) : Int32).toNatClampNeg) p3) ((((205 + (7 * (nw 4))) + 4) : Int32).toNatClampNeg) 0) ((((205 + (7 * (nw 4))) + 5) : Int32).toNatClampNeg) 0) ((((205 + (7 * (nw 4))) + 6) : Int32).toNatClampNeg) p4) 4 (((upd (upd (upd (upd (upd (upd (upd nw ((((205 + (7 * (nw 4))) + 0) : Int32).toNatClampNeg) p1) ((((205 + (7 * (nw 4))) + 1) : Int32).toNatClampNeg) p2) ((((205 + (7 * (nw 4))) + 2) : Int32).toNatClampNeg) p2) ((((205 + (7 * (nw 4))) + 3) : Int32).toNatClampNeg) p3) ((((205 + (7 * (nw 4))) + 4) : Int32).toNatClampNeg) 0) ((((205 + (7 * (nw 4))) + 5) : Int32).toNatClampNeg) 0) ((((205 + (7 * (nw 4))) + 6) : Int32).toNatClampNeg) p4) 4) + 1)) rd kp sn)) hx hb hK hP hD hS rfl (by decide) (by decide) rfl dX6_invoices_96 (fun H locs hP hD hS => ?_)
  refine lv_aload_n hx hb dX6_invoices_97 rfl (lv_at hl 1 rfl) ?_
  refine lv_iload_n hx hb dX6_invoices_98 rfl (lv_at hl 2 rfl) ?_
  obtain ⟨nw8, h_9, hm⟩ := b1_s hm
  refine mu_vv hcf (kX6_places h_9) (cwX6_invoices_X6_places hts) hK hP hD hS hA Jn.rf (ci := 6) (q0 := 0) rfl rfl rfl hl.1 rfl (Nat.le_of_ble_eq_true rfl) dX6_invoices_99 ⟨Nat.zero_le _, Nat.zero_le _⟩ (fun H locs hP hD hS => ?_)
  refine lv_aload_n hx hb dX6_invoices_102 rfl (lv_at hl 1 rfl) ?_
  refine gf (q0 := 0) hx hb hts hown hK flX6_invoices_70 hP rfl rfl dX6_invoices_103 ?_
  refine lv_iconst (v := 4) hx hb dX6_invoices_106 (by decide) ?_
  refine ald (q0 := 2) (k := 4) hx hb hK hP rfl (by decide) (by decide) dX6_invoices_107 ?_
  refine lv_iconst (v := 1) hx hb dX6_invoices_108 (by decide) ?_
  refine lv_isub hx hb dX6_invoices_109 ?_
  cases hm
  exact hret _ _ _ _ dX6_invoices_110 rfl hP hD hS
/-! X6 dayOf(II)I -/
abbrev rmX6_dayOf : Room := { frames := 1, cells := 0, slots := 0, locals := 22 }
theorem hdX6_dayOf : yX6_dayOf.cls = RX6 ∧ yX6_dayOf.cls ≠ "java/lang/invoke/MethodHandle" ∧ yX6_dayOf.cls ≠ "java/lang/invoke/VarHandle" ∧ (parseMethodDescriptor yX6_dayOf.desc).map (fun d => d.parameters.length) = some 2 := by decide +kernel
theorem cwX6_dayOf_X6_its {s : State} {args : Array Value} (hts : ∀ w ∈ wsX6_dayOf, w.before args s = true) : CallW rmX6_dayOf s args RX6 RX6 148 yX6_its cX6_its 3 (some .int) wsX6_its rmX6_its 0 0 2 := cwV 2 hts gX6_dayOf_X6_its rfl rfl rfl hdX6_its ⟨Nat.le_of_ble_eq_true rfl, Nat.le_of_ble_eq_true rfl⟩
set_option maxRecDepth 100000 in
set_option maxHeartbeats 4000000 in
theorem kX6_dayOf {l : Launch} {D : va_G} {cI cB cL cK : ClassId} {ad : Nat → Nat} {thr : Int32} {tpd : Int32} {siz : Int32} {too : Int32} {frm : Int32} {srt : Int32} {num : Int32} {flt : Int32} {plc : Int32} {wrd : Int64} {snm : Int32} {lin : Int32} {stp : Int32} {sfo : Int32} {hst : Int32} {tp : Nat → Int32} {nw : Nat → Int32} {rd : Nat → Int32} {kp : Nat → Int32} {sn : Nat → Int32} {p1 : Int32} {p2 : Int32} {res : Int32} (hm : mX6_dayOf nw p1 p2 = some res) : Rd l D cI cB cL cK yX6_dayOf wsX6_dayOf rmX6_dayOf [.ref (ad 0), .int p1, .int p2] (wM cI ad thr tpd siz too frm srt num flt plc wrd snm lin stp sfo hst tp nw rd kp sn) res := by
  refine Rd.of (cc := cX6_dayOf) (own := RX6) (by decide) rfl rfl (Nat.le_of_ble_eq_true rfl) (fun p e s m below meth c ls Q C hP hl hret => ?_)
  obtain ⟨hx, hb, hr, hml, hown, hts, hlk, hK⟩ := id C
  have hcf : CallFix p m c cX6_dayOf 3 s _ wsX6_dayOf RX6 := ⟨hx, hb, hml, hown, hts⟩
  have hl : lv_has ls 3 [(0, .ref (ad 0)), (1, .int p1), (2, .int p2)] := hl
  unfold mX6_dayOf at hm
  refine lv_aload_n hx hb dX6_dayOf_0 rfl (lv_at hl 0 rfl) ?_
  refine lv_iload_n hx hb dX6_dayOf_1 rfl (lv_at hl 1 rfl) ?_
  refine lv_bipush (v := 10) hx hb dX6_dayOf_2 (by decide) ?_
  obtain ⟨v1, h_2, hm⟩ := b1_s hm
  refine rd_v hcf (kX6_its h_2) (cwX6_dayOf_X6_its hts) hK hP Sb.rf (ci := 6) (q0 := 0) rfl rfl rfl hl.1 rfl (Nat.le_of_ble_eq_true rfl) dX6_dayOf_4 ⟨Nat.zero_le _, Nat.zero_le _⟩ ?_
  refine lv_aload_n hx hb dX6_dayOf_7 rfl (lv_at hl 0 rfl) ?_
  refine lv_iload_n hx hb dX6_dayOf_8 rfl (lv_at hl 1 rfl) ?_
  refine lv_bipush (v := 11) hx hb dX6_dayOf_9 (by decide) ?_
  obtain ⟨v3, h_4, hm⟩ := b1_s hm
  refine rd_v hcf (kX6_its h_4) (cwX6_dayOf_X6_its hts) hK hP Sb.rf (ci := 6) (q0 := 0) rfl rfl rfl hl.1 rfl (Nat.le_of_ble_eq_true rfl) dX6_dayOf_11 ⟨Nat.zero_le _, Nat.zero_le _⟩ ?_
  refine lv_iload_n hx hb dX6_dayOf_14 rfl (lv_at hl 2 rfl) ?_
  refine lv_iconst (v := 1) hx hb dX6_dayOf_15 (by decide) ?_
  refine lv_iadd hx hb dX6_dayOf_16 ?_
  refine lv_imul hx hb dX6_dayOf_17 ?_
  refine lv_iadd hx hb dX6_dayOf_18 ?_
  cases hm
  exact hret _ _ dX6_dayOf_19 rfl
/-! X6 endsPlan(I)V -/
abbrev rmX6_endsPlan : Room := { frames := 3, cells := 0, slots := 0, locals := 67 }
theorem hdX6_endsPlan : yX6_endsPlan.cls = RX6 ∧ yX6_endsPlan.cls ≠ "java/lang/invoke/MethodHandle" ∧ yX6_endsPlan.cls ≠ "java/lang/invoke/VarHandle" ∧ (parseMethodDescriptor yX6_endsPlan.desc).map (fun d => d.parameters.length) = some 1 := by decide +kernel
theorem cwX6_endsPlan_X6_dayOf {s : State} {args : Array Value} (hts : ∀ w ∈ wsX6_endsPlan, w.before args s = true) : CallW rmX6_endsPlan s args RX6 RX6 170 yX6_dayOf cX6_dayOf 3 (some .int) wsX6_dayOf rmX6_dayOf 0 0 2 := cwV 2 hts gX6_endsPlan_X6_dayOf rfl rfl rfl hdX6_dayOf ⟨Nat.le_of_ble_eq_true rfl, Nat.le_of_ble_eq_true rfl⟩
theorem cwX6_endsPlan_X6_debt {s : State} {args : Array Value} (hts : ∀ w ∈ wsX6_endsPlan, w.before args s = true) : CallW rmX6_endsPlan s args RX6 RX6 167 yX6_debt cX6_debt 4 (some .int) wsX6_debt rmX6_debt 0 0 1 := cwV 1 hts gX6_endsPlan_X6_debt rfl rfl rfl hdX6_debt ⟨Nat.le_of_ble_eq_true rfl, Nat.le_of_ble_eq_true rfl⟩
theorem cwX6_endsPlan_X6_its {s : State} {args : Array Value} (hts : ∀ w ∈ wsX6_endsPlan, w.before args s = true) : CallW rmX6_endsPlan s args RX6 RX6 148 yX6_its cX6_its 3 (some .int) wsX6_its rmX6_its 0 0 2 := cwV 2 hts gX6_endsPlan_X6_its rfl rfl rfl hdX6_its ⟨Nat.le_of_ble_eq_true rfl, Nat.le_of_ble_eq_true rfl⟩
theorem cwX6_endsPlan_X6_puts {s : State} {args : Array Value} (hts : ∀ w ∈ wsX6_endsPlan, w.before args s = true) : CallW rmX6_endsPlan s args RX6 RX6 157 yX6_puts cX6_puts 4 none wsX6_puts rmX6_puts 0 0 3 := cwV 3 hts gX6_endsPlan_X6_puts rfl rfl rfl hdX6_puts ⟨Nat.le_of_ble_eq_true rfl, Nat.le_of_ble_eq_true rfl⟩
theorem cwX6_endsPlan_X6_today {s : State} {args : Array Value} (hts : ∀ w ∈ wsX6_endsPlan, w.before args s = true) : CallW rmX6_endsPlan s args RX6 RX6 173 yX6_today cX6_today 1 (some .int) wsX6_today rmX6_today 0 0 0 := cwV 0 hts gX6_endsPlan_X6_today rfl rfl rfl hdX6_today ⟨Nat.le_of_ble_eq_true rfl, Nat.le_of_ble_eq_true rfl⟩
set_option maxRecDepth 100000 in
set_option maxHeartbeats 4000000 in
theorem tX6_endsPlan_b85 {ad : Nat → Nat} {thr : Int32} {tpd : Int32} {siz : Int32} {too : Int32} {frm : Int32} {srt : Int32} {num : Int32} {flt : Int32} {plc : Int32} {wrd : Int64} {snm : Int32} {lin : Int32} {stp : Int32} {sfo : Int32} {hst : Int32} {tp : Nat → Int32} {rd : Nat → Int32} {kp : Nat → Int32} {sn : Nat → Int32} {nw' : Nat → Int32} {rec28 : Int32 → Int32 → Int32 → Int32 → Int32 → (Nat → Int32) → Option ((Nat → Int32))} (C : Cx p s m args meth c cX6_endsPlan none 6 wsX6_endsPlan RX6 D cI cB cL cK) (hA : ∀ q : Nat, s.heap.size ≤ q → A q) (hret : ∀ (pc : Nat) (ls : Array Slot) (H : Heap) (locs : List Loc), decode cX6_endsPlan pc = .ok (.return_, 1) → va_P D vwCl (wM cI ad thr tpd siz too frm srt num flt plc wrd snm lin stp sfo hst tp nw' rd kp sn) H → va_D A (wM cI ad thr tpd siz too frm srt num flt plc wrd snm lin stp sfo hst tp nw' rd kp sn) → va_S A s.heap H locs → W p l e rmX6_endsPlan s m args below meth c H locs 0 0 Q (F0 m pc ls [])) (hrec28 : ∀ (x1 : Int32) (x2 : Int32) (x3 : Int32) (x4 : Int32) (x5 : Int32) (nw : Nat → Int32), rec28 x1 x2 x3 x4 x5 nw = some nw' → ∀ (H : Heap) (locs : List Loc) (ls : Array Slot), va_P D vwCl (wM cI ad thr tpd siz too frm srt num flt plc wrd snm lin stp sfo hst tp nw rd kp sn) H → va_D A (wM cI ad thr tpd siz too frm srt num flt plc wrd snm lin stp sfo hst tp nw rd kp sn) → va_S A s.heap H locs → lv_has ls 6 [(0, .ref (ad 0)), (1, .int x1), (2, .int x2), (3, .int x3), (4, .int x4), (5, .int x5)] → W p l e rmX6_endsPlan s m args below meth c H locs 0 0 Q (F0 m 28 ls [])) : ∀ (x1 : Int32) (x2 : Int32) (x3 : Int32) (x5 : Int32) (nw : Nat → Int32), mX6_endsPlan_b85 rec28 x1 x2 x3 x5 nw = some nw' → ∀ (H : Heap) (locs : List Loc) (ls : Array Slot), va_P D vwCl (wM cI ad thr tpd siz too frm srt num flt plc wrd snm lin stp sfo hst tp nw rd kp sn) H → va_D A (wM cI ad thr tpd siz too frm srt num flt plc wrd snm lin stp sfo hst tp nw rd kp sn) → va_S A s.heap H locs → lv_has ls 6 [(0, .ref (ad 0)), (1, .int x1), (2, .int x2), (3, .int x3), (5, .int x5)] → W p l e rmX6_endsPlan s m args below meth c H locs 0 0 Q (F0 m 85 ls []) := by
  obtain ⟨hx, hb, hr, hml, hown, hts, hlk, hK⟩ := id C
  have hcf : CallFix p m c cX6_endsPlan 6 s args wsX6_endsPlan RX6 := ⟨hx, hb, hml, hown, hts⟩
  intro x1 x2 x3 x5 nw hm H locs ls hP hD hS hl
  unfold mX6_endsPlan_b85 at hm
  refine lv_iconst (v := 1) hx hb dX6_endsPlan_85 (by decide) ?_
  refine lv_goto (tgt := 90) hx hb dX6_endsPlan_86 (by decide) ?_
  refine lv_istore (lv' := [(4, .int 1), (0, .ref (ad 0)), (1, .int x1), (2, .int x2), (3, .int x3), (5, .int x5)]) hx hb dX6_endsPlan_90 hl (by decide) rfl (fun ls hl => ?_)
  refine lv_iinc (v := (x5 + 1)) (lv' := [(5, .int (x5 + 1)), (4, .int 1), (0, .ref (ad 0)), (1, .int x1), (2, .int x2), (3, .int x3)]) hx hb dX6_endsPlan_92 hl (k := 5) rfl rfl (by decide) rfl (fun ls hl => ?_)
  refine lv_goto (tgt := 28) hx hb dX6_endsPlan_95 (by decide) ?_
  exact hrec28 _ _ _ _ _ _ hm _ _ _ hP hD hS (lv_sub hl [2, 3, 4, 5, 1, 0] rfl)
set_option maxRecDepth 100000 in
set_option maxHeartbeats 4000000 in
theorem tX6_endsPlan_L28 {ad : Nat → Nat} {thr : Int32} {tpd : Int32} {siz : Int32} {too : Int32} {frm : Int32} {srt : Int32} {num : Int32} {flt : Int32} {plc : Int32} {wrd : Int64} {snm : Int32} {lin : Int32} {stp : Int32} {sfo : Int32} {hst : Int32} {tp : Nat → Int32} {rd : Nat → Int32} {kp : Nat → Int32} {sn : Nat → Int32} {nw' : Nat → Int32} (C : Cx p s m args meth c cX6_endsPlan none 6 wsX6_endsPlan RX6 D cI cB cL cK) (hA : ∀ q : Nat, s.heap.size ≤ q → A q) (hret : ∀ (pc : Nat) (ls : Array Slot) (H : Heap) (locs : List Loc), decode cX6_endsPlan pc = .ok (.return_, 1) → va_P D vwCl (wM cI ad thr tpd siz too frm srt num flt plc wrd snm lin stp sfo hst tp nw' rd kp sn) H → va_D A (wM cI ad thr tpd siz too frm srt num flt plc wrd snm lin stp sfo hst tp nw' rd kp sn) → va_S A s.heap H locs → W p l e rmX6_endsPlan s m args below meth c H locs 0 0 Q (F0 m pc ls [])) : ∀ (n9 : Nat) (x1 : Int32) (x2 : Int32) (x3 : Int32) (x4 : Int32) (x5 : Int32) (nw : Nat → Int32), mX6_endsPlan_L28 n9 x1 x2 x3 x4 x5 nw = some nw' → ∀ (H : Heap) (locs : List Loc) (ls : Array Slot), va_P D vwCl (wM cI ad thr tpd siz too frm srt num flt plc wrd snm lin stp sfo hst tp nw rd kp sn) H → va_D A (wM cI ad thr tpd siz too frm srt num flt plc wrd snm lin stp sfo hst tp nw rd kp sn) → va_S A s.heap H locs → lv_has ls 6 [(0, .ref (ad 0)), (1, .int x1), (2, .int x2), (3, .int x3), (4, .int x4), (5, .int x5)] → W p l e rmX6_endsPlan s m args below meth c H locs 0 0 Q (F0 m 28 ls []) := by
  obtain ⟨hx, hb, hr, hml, hown, hts, hlk, hK⟩ := id C
  have hcf : CallFix p m c cX6_endsPlan 6 s args wsX6_endsPlan RX6 := ⟨hx, hb, hml, hown, hts⟩
  intro n9
  induction n9 with
  | zero => intro x1 x2 x3 x4 x5 nw hm; cases hm
  | succ k ih =>
    intro x1 x2 x3 x4 x5 nw hm H locs ls hP hD hS hl
    rw [mX6_endsPlan_L28.eq_2] at hm
    refine lv_iload hx hb dX6_endsPlan_28 (lv_at hl 5 rfl) ?_
    refine lv_iload_n hx hb dX6_endsPlan_30 rfl (lv_at hl 2 rfl) ?_
    refine lv_icmp_ge (tgt := 98) hx hb dX6_endsPlan_31 (by decide) (fun c_6 => ?_) (fun c_6 => ?_)
    · replace hm := br_p hm c_6
      refine lv_iload hx hb dX6_endsPlan_98 (lv_at hl 4 rfl) ?_
      refine lv_if_eq (tgt := 111) hx hb dX6_endsPlan_100 (by decide) (fun c_7 => ?_) (fun c_7 => ?_)
      · replace hm := br_p hm c_7
        cases hm
        exact hret _ _ _ _ dX6_endsPlan_111 hP hD hS
      · replace hm := br_n hm c_7
        refine lv_aload_n hx hb dX6_endsPlan_103 rfl (lv_at hl 0 rfl) ?_
        refine lv_iload_n hx hb dX6_endsPlan_104 rfl (lv_at hl 1 rfl) ?_
        refine lv_bipush (v := 9) hx hb dX6_endsPlan_105 (by decide) ?_
        refine lv_iconst (v := 0) hx hb dX6_endsPlan_107 (by decide) ?_
        obtain ⟨nw8, h_9, hm⟩ := b1_s hm
        refine mu_vv hcf (kX6_puts h_9) (cwX6_endsPlan_X6_puts hts) hK hP hD hS hA Jn.rf (ci := 6) (q0 := 0) rfl rfl rfl hl.1 rfl (Nat.le_of_ble_eq_true rfl) dX6_endsPlan_108 ⟨Nat.zero_le _, Nat.zero_le _⟩ (fun H locs hP hD hS => ?_)
        cases hm
        exact hret _ _ _ _ dX6_endsPlan_111 hP hD hS
    · replace hm := br_n hm c_6
      refine lv_iload_n hx hb dX6_endsPlan_34 rfl (lv_at hl 3 rfl) ?_
      refine lv_aload_n hx hb dX6_endsPlan_35 rfl (lv_at hl 0 rfl) ?_
      refine lv_iload_n hx hb dX6_endsPlan_36 rfl (lv_at hl 1 rfl) ?_
      refine lv_bipush (v := 13) hx hb dX6_endsPlan_37 (by decide) ?_
      refine lv_iload hx hb dX6_endsPlan_39 (lv_at hl 5 rfl) ?_
      refine lv_iadd hx hb dX6_endsPlan_41 ?_
      obtain ⟨v10, h_11, hm⟩ := b1_s hm
      refine rd_v hcf (kX6_its h_11) (cwX6_endsPlan_X6_its hts) hK hP Sb.rf (ci := 6) (q0 := 0) rfl rfl rfl hl.1 rfl (Nat.le_of_ble_eq_true rfl) dX6_endsPlan_42 ⟨Nat.zero_le _, Nat.zero_le _⟩ ?_
      refine lv_iadd hx hb dX6_endsPlan_45 ?_
      refine lv_istore_n (lv' := [(3, .int (x3 + v10)), (0, .ref (ad 0)), (1, .int x1), (2, .int x2), (4, .int x4), (5, .int x5)]) hx hb dX6_endsPlan_46 rfl hl (by decide) rfl (fun ls hl => ?_)
      refine lv_aload_n hx hb dX6_endsPlan_47 rfl (lv_at hl 1 rfl) ?_
      refine lv_iload_n hx hb dX6_endsPlan_48 rfl (lv_at hl 2 rfl) ?_
      refine lv_iload hx hb dX6_endsPlan_49 (lv_at hl 5 rfl) ?_
      obtain ⟨v12, h_13, hm⟩ := b1_s hm
      refine rd_v hcf (kX6_dayOf h_13) (cwX6_endsPlan_X6_dayOf hts) hK hP Sb.rf (ci := 6) (q0 := 0) rfl rfl rfl hl.1 rfl (Nat.le_of_ble_eq_true rfl) dX6_endsPlan_51 ⟨Nat.zero_le _, Nat.zero_le _⟩ ?_
      refine lv_aload_n hx hb dX6_endsPlan_54 rfl (lv_at hl 1 rfl) ?_
      obtain ⟨v14, h_15, hm⟩ := b1_s hm
      refine rd_v hcf (kX6_today h_15) (cwX6_endsPlan_X6_today hts) hK hP Sb.rf (ci := 6) (q0 := 0) rfl rfl rfl hl.1 rfl (Nat.le_of_ble_eq_true rfl) dX6_endsPlan_55 ⟨Nat.zero_le _, Nat.zero_le _⟩ ?_
      refine lv_icmp_ne (tgt := 92) hx hb dX6_endsPlan_58 (by decide) (fun c_16 => ?_) (fun c_16 => ?_)
      · replace hm := br_n hm c_16
        refine lv_iinc (v := (x5 + 1)) (lv' := [(5, .int (x5 + 1)), (3, .int (x3 + v10)), (0, .ref (ad 0)), (1, .int x1), (2, .int x2), (4, .int x4)]) hx hb dX6_endsPlan_92 hl (k := 5) rfl rfl (by decide) rfl (fun ls hl => ?_)
        refine lv_goto (tgt := 28) hx hb dX6_endsPlan_95 (by decide) ?_
        exact ih _ _ _ _ _ _ hm _ _ _ hP hD hS (lv_sub hl [2, 3, 4, 1, 5, 0] rfl)
      · replace hm := br_p hm c_16
        refine lv_iload hx hb dX6_endsPlan_61 (lv_at hl 4 rfl) ?_
        refine lv_if_ne (tgt := 85) hx hb dX6_endsPlan_63 (by decide) (fun c_17 => ?_) (fun c_17 => ?_)
        · replace hm := br_n hm c_17
          exact tX6_endsPlan_b85 C hA hret ih _ _ _ _ _ hm _ _ _ hP hD hS (lv_sub hl [1, 2, 3, 0, 5] rfl)
        · replace hm := br_p hm c_17
          refine lv_aload_n hx hb dX6_endsPlan_66 rfl (lv_at hl 1 rfl) ?_
          refine lv_iload_n hx hb dX6_endsPlan_67 rfl (lv_at hl 2 rfl) ?_
          refine lv_bipush (v := 12) hx hb dX6_endsPlan_68 (by decide) ?_
          obtain ⟨v18, h_19, hm⟩ := b1_s hm
          refine rd_v hcf (kX6_its h_19) (cwX6_endsPlan_X6_its hts) hK hP Sb.rf (ci := 6) (q0 := 0) rfl rfl rfl hl.1 rfl (Nat.le_of_ble_eq_true rfl) dX6_endsPlan_70 ⟨Nat.zero_le _, Nat.zero_le _⟩ ?_
          refine lv_iload_n hx hb dX6_endsPlan_73 rfl (lv_at hl 0 rfl) ?_
          refine lv_icmp_lt (tgt := 85) hx hb dX6_endsPlan_74 (by decide) (fun c_20 => ?_) (fun c_20 => ?_)
          · replace hm := br_p hm c_20
            exact tX6_endsPlan_b85 C hA hret ih _ _ _ _ _ hm _ _ _ hP hD hS (lv_sub hl [1, 2, 3, 0, 5] rfl)
          · replace hm := br_n hm c_20
            refine lv_iload hx hb dX6_endsPlan_77 (lv_at hl 5 rfl) ?_
            refine lv_iload_n hx hb dX6_endsPlan_79 rfl (lv_at hl 3 rfl) ?_
            refine lv_iconst (v := 1) hx hb dX6_endsPlan_80 (by decide) ?_
            refine lv_isub hx hb dX6_endsPlan_81 ?_
            refine lv_icmp_ne (tgt := 89) hx hb dX6_endsPlan_82 (by decide) (fun c_21 => ?_) (fun c_21 => ?_)
            · replace hm := br_n hm c_21
              refine lv_iconst (v := 0) hx hb dX6_endsPlan_89 (by decide) ?_
              refine lv_istore (lv' := [(4, .int 0), (3, .int (x3 + v10)), (0, .ref (ad 0)), (1, .int x1), (2, .int x2), (5, .int x5)]) hx hb dX6_endsPlan_90 hl (by decide) rfl (fun ls hl => ?_)
              refine lv_iinc (v := (x5 + 1)) (lv' := [(5, .int (x5 + 1)), (4, .int 0), (3, .int (x3 + v10)), (0, .ref (ad 0)), (1, .int x1), (2, .int x2)]) hx hb dX6_endsPlan_92 hl (k := 5) rfl rfl (by decide) rfl (fun ls hl => ?_)
              refine lv_goto (tgt := 28) hx hb dX6_endsPlan_95 (by decide) ?_
              exact ih _ _ _ _ _ _ hm _ _ _ hP hD hS (lv_sub hl [3, 4, 5, 2, 1, 0] rfl)
            · replace hm := br_p hm c_21
              exact tX6_endsPlan_b85 C hA hret ih _ _ _ _ _ hm _ _ _ hP hD hS (lv_sub hl [1, 2, 3, 0, 5] rfl)
set_option maxRecDepth 100000 in
set_option maxHeartbeats 4000000 in
theorem kX6_endsPlan {l : Launch} {D : va_G} {cI cB cL cK : ClassId} {ad : Nat → Nat} {thr : Int32} {tpd : Int32} {siz : Int32} {too : Int32} {frm : Int32} {srt : Int32} {num : Int32} {flt : Int32} {plc : Int32} {wrd : Int64} {snm : Int32} {lin : Int32} {stp : Int32} {sfo : Int32} {hst : Int32} {tp : Nat → Int32} {nw : Nat → Int32} {rd : Nat → Int32} {kp : Nat → Int32} {sn : Nat → Int32} {p1 : Int32} {nw' : Nat → Int32} (hm : mX6_endsPlan nw p1 = some nw') : Mu l D cI cB cL cK yX6_endsPlan wsX6_endsPlan rmX6_endsPlan [.ref (ad 0), .int p1] (wM cI ad thr tpd siz too frm srt num flt plc wrd snm lin stp sfo hst tp nw rd kp sn) (wM cI ad thr tpd siz too frm srt num flt plc wrd snm lin stp sfo hst tp nw' rd kp sn) none 0 0 := by
  refine Mu.ofv (cc := cX6_endsPlan) (own := RX6) (by decide) rfl rfl (Nat.le_of_ble_eq_true rfl) (fun p e s m below meth c ls Q A C _ hA hP hD hS hl hret => ?_)
  obtain ⟨hx, hb, hr, hml, hown, hts, hlk, hK⟩ := id C
  have hcf : CallFix p m c cX6_endsPlan 6 s _ wsX6_endsPlan RX6 := ⟨hx, hb, hml, hown, hts⟩
  have hl : lv_has ls 6 [(0, .ref (ad 0)), (1, .int p1)] := hl
  unfold mX6_endsPlan at hm
  refine lv_aload_n hx hb dX6_endsPlan_0 rfl (lv_at hl 0 rfl) ?_
  refine lv_iload_n hx hb dX6_endsPlan_1 rfl (lv_at hl 1 rfl) ?_
  refine lv_bipush (v := 9) hx hb dX6_endsPlan_2 (by decide) ?_
  obtain ⟨v1, h_2, hm⟩ := b1_s hm
  refine rd_v hcf (kX6_its h_2) (cwX6_endsPlan_X6_its hts) hK hP Sb.rf (ci := 6) (q0 := 0) rfl rfl rfl hl.1 rfl (Nat.le_of_ble_eq_true rfl) dX6_endsPlan_4 ⟨Nat.zero_le _, Nat.zero_le _⟩ ?_
  refine lv_istore_n (lv' := [(2, .int v1), (0, .ref (ad 0)), (1, .int p1)]) hx hb dX6_endsPlan_7 rfl hl (by decide) rfl (fun ls hl => ?_)
  refine lv_iconst (v := 0) hx hb dX6_endsPlan_8 (by decide) ?_
  refine lv_istore_n (lv' := [(3, .int 0), (2, .int v1), (0, .ref (ad 0)), (1, .int p1)]) hx hb dX6_endsPlan_9 rfl hl (by decide) rfl (fun ls hl => ?_)
  refine lv_aload_n hx hb dX6_endsPlan_10 rfl (lv_at hl 2 rfl) ?_
  refine lv_iload_n hx hb dX6_endsPlan_11 rfl (lv_at hl 3 rfl) ?_
  obtain ⟨v3, h_4, hm⟩ := b1_s hm
  refine rd_v hcf (kX6_debt h_4) (cwX6_endsPlan_X6_debt hts) hK hP Sb.rf (ci := 6) (q0 := 0) rfl rfl rfl hl.1 rfl (Nat.le_of_ble_eq_true rfl) dX6_endsPlan_12 ⟨Nat.zero_le _, Nat.zero_le _⟩ ?_
  refine lv_if_ne (tgt := 22) hx hb dX6_endsPlan_15 (by decide) (fun c_5 => ?_) (fun c_5 => ?_)
  · replace hm := br_n hm c_5
    refine lv_iconst (v := 0) hx hb dX6_endsPlan_22 (by decide) ?_
    refine lv_istore (lv' := [(4, .int 0), (3, .int 0), (2, .int v1), (0, .ref (ad 0)), (1, .int p1)]) hx hb dX6_endsPlan_23 hl (by decide) rfl (fun ls hl => ?_)
    refine lv_iconst (v := 0) hx hb dX6_endsPlan_25 (by decide) ?_
    refine lv_istore (lv' := [(5, .int 0), (4, .int 0), (3, .int 0), (2, .int v1), (0, .ref (ad 0)), (1, .int p1)]) hx hb dX6_endsPlan_26 hl (by decide) rfl (fun ls hl => ?_)
    exact tX6_endsPlan_L28 C hA hret _ _ _ _ _ _ _ hm _ _ _ hP hD hS (lv_sub hl [4, 5, 3, 2, 1, 0] rfl)
  · replace hm := br_p hm c_5
    refine lv_iconst (v := 1) hx hb dX6_endsPlan_18 (by decide) ?_
    refine lv_goto (tgt := 23) hx hb dX6_endsPlan_19 (by decide) ?_
    refine lv_istore (lv' := [(4, .int 1), (3, .int 0), (2, .int v1), (0, .ref (ad 0)), (1, .int p1)]) hx hb dX6_endsPlan_23 hl (by decide) rfl (fun ls hl => ?_)
    refine lv_iconst (v := 0) hx hb dX6_endsPlan_25 (by decide) ?_
    refine lv_istore (lv' := [(5, .int 0), (4, .int 1), (3, .int 0), (2, .int v1), (0, .ref (ad 0)), (1, .int p1)]) hx hb dX6_endsPlan_26 hl (by decide) rfl (fun ls hl => ?_)
    exact tX6_endsPlan_L28 C hA hret _ _ _ _ _ _ _ hm _ _ _ hP hD hS (lv_sub hl [4, 5, 3, 2, 1, 0] rfl)
/-! X6 endsPromise(I)V -/
abbrev rmX6_endsPromise : Room := { frames := 1, cells := 0, slots := 0, locals := 23 }
theorem hdX6_endsPromise : yX6_endsPromise.cls = RX6 ∧ yX6_endsPromise.cls ≠ "java/lang/invoke/MethodHandle" ∧ yX6_endsPromise.cls ≠ "java/lang/invoke/VarHandle" ∧ (parseMethodDescriptor yX6_endsPromise.desc).map (fun d => d.parameters.length) = some 1 := by decide +kernel
theorem cwX6_endsPromise_X6_its {s : State} {args : Array Value} (hts : ∀ w ∈ wsX6_endsPromise, w.before args s = true) : CallW rmX6_endsPromise s args RX6 RX6 148 yX6_its cX6_its 3 (some .int) wsX6_its rmX6_its 0 0 2 := cwV 2 hts gX6_endsPromise_X6_its rfl rfl rfl hdX6_its ⟨Nat.le_of_ble_eq_true rfl, Nat.le_of_ble_eq_true rfl⟩
theorem cwX6_endsPromise_X6_puts {s : State} {args : Array Value} (hts : ∀ w ∈ wsX6_endsPromise, w.before args s = true) : CallW rmX6_endsPromise s args RX6 RX6 157 yX6_puts cX6_puts 4 none wsX6_puts rmX6_puts 0 0 3 := cwV 3 hts gX6_endsPromise_X6_puts rfl rfl rfl hdX6_puts ⟨Nat.le_of_ble_eq_true rfl, Nat.le_of_ble_eq_true rfl⟩
theorem cwX6_endsPromise_X6_today {s : State} {args : Array Value} (hts : ∀ w ∈ wsX6_endsPromise, w.before args s = true) : CallW rmX6_endsPromise s args RX6 RX6 173 yX6_today cX6_today 1 (some .int) wsX6_today rmX6_today 0 0 0 := cwV 0 hts gX6_endsPromise_X6_today rfl rfl rfl hdX6_today ⟨Nat.le_of_ble_eq_true rfl, Nat.le_of_ble_eq_true rfl⟩
set_option maxRecDepth 100000 in
set_option maxHeartbeats 4000000 in
theorem tX6_endsPromise_b56 {ad : Nat → Nat} {thr : Int32} {tpd : Int32} {siz : Int32} {too : Int32} {frm : Int32} {srt : Int32} {num : Int32} {flt : Int32} {plc : Int32} {wrd : Int64} {snm : Int32} {lin : Int32} {stp : Int32} {sfo : Int32} {hst : Int32} {tp : Nat → Int32} {rd : Nat → Int32} {kp : Nat → Int32} {sn : Nat → Int32} {nw' : Nat → Int32} (C : Cx p s m args meth c cX6_endsPromise none 2 wsX6_endsPromise RX6 D cI cB cL cK) (hA : ∀ q : Nat, s.heap.size ≤ q → A q) (hret : ∀ (pc : Nat) (ls : Array Slot) (H : Heap) (locs : List Loc), decode cX6_endsPromise pc = .ok (.return_, 1) → va_P D vwCl (wM cI ad thr tpd siz too frm srt num flt plc wrd snm lin stp sfo hst tp nw' rd kp sn) H → va_D A (wM cI ad thr tpd siz too frm srt num flt plc wrd snm lin stp sfo hst tp nw' rd kp sn) → va_S A s.heap H locs → W p l e rmX6_endsPromise s m args below meth c H locs 0 0 Q (F0 m pc ls [])) : ∀ (x1 : Int32) (nw : Nat → Int32), mX6_endsPromise_b56 x1 nw = some nw' → ∀ (H : Heap) (locs : List Loc) (ls : Array Slot), va_P D vwCl (wM cI ad thr tpd siz too frm srt num flt plc wrd snm lin stp sfo hst tp nw rd kp sn) H → va_D A (wM cI ad thr tpd siz too frm srt num flt plc wrd snm lin stp sfo hst tp nw rd kp sn) → va_S A s.heap H locs → lv_has ls 2 [(0, .ref (ad 0)), (1, .int x1)] → W p l e rmX6_endsPromise s m args below meth c H locs 0 0 Q (F0 m 56 ls []) := by
  obtain ⟨hx, hb, hr, hml, hown, hts, hlk, hK⟩ := id C
  have hcf : CallFix p m c cX6_endsPromise 2 s args wsX6_endsPromise RX6 := ⟨hx, hb, hml, hown, hts⟩
  intro x1 nw hm H locs ls hP hD hS hl
  unfold mX6_endsPromise_b56 at hm
  refine lv_aload_n hx hb dX6_endsPromise_56 rfl (lv_at hl 0 rfl) ?_
  refine lv_iload_n hx hb dX6_endsPromise_57 rfl (lv_at hl 1 rfl) ?_
  refine lv_iconst (v := 5) hx hb dX6_endsPromise_58 (by decide) ?_
  refine lv_iconst (v := 0) hx hb dX6_endsPromise_59 (by decide) ?_
  obtain ⟨nw18, h_19, hm⟩ := b1_s hm
  refine mu_vv hcf (kX6_puts h_19) (cwX6_endsPromise_X6_puts hts) hK hP hD hS hA Jn.rf (ci := 6) (q0 := 0) rfl rfl rfl hl.1 rfl (Nat.le_of_ble_eq_true rfl) dX6_endsPromise_60 ⟨Nat.zero_le _, Nat.zero_le _⟩ (fun H locs hP hD hS => ?_)
  cases hm
  exact hret _ _ _ _ dX6_endsPromise_63 hP hD hS
set_option maxRecDepth 100000 in
set_option maxHeartbeats 4000000 in
theorem kX6_endsPromise {l : Launch} {D : va_G} {cI cB cL cK : ClassId} {ad : Nat → Nat} {thr : Int32} {tpd : Int32} {siz : Int32} {too : Int32} {frm : Int32} {srt : Int32} {num : Int32} {flt : Int32} {plc : Int32} {wrd : Int64} {snm : Int32} {lin : Int32} {stp : Int32} {sfo : Int32} {hst : Int32} {tp : Nat → Int32} {nw : Nat → Int32} {rd : Nat → Int32} {kp : Nat → Int32} {sn : Nat → Int32} {p1 : Int32} {nw' : Nat → Int32} (hm : mX6_endsPromise nw p1 = some nw') : Mu l D cI cB cL cK yX6_endsPromise wsX6_endsPromise rmX6_endsPromise [.ref (ad 0), .int p1] (wM cI ad thr tpd siz too frm srt num flt plc wrd snm lin stp sfo hst tp nw rd kp sn) (wM cI ad thr tpd siz too frm srt num flt plc wrd snm lin stp sfo hst tp nw' rd kp sn) none 0 0 := by
  refine Mu.ofv (cc := cX6_endsPromise) (own := RX6) (by decide) rfl rfl (Nat.le_of_ble_eq_true rfl) (fun p e s m below meth c ls Q A C _ hA hP hD hS hl hret => ?_)
  obtain ⟨hx, hb, hr, hml, hown, hts, hlk, hK⟩ := id C
  have hcf : CallFix p m c cX6_endsPromise 2 s _ wsX6_endsPromise RX6 := ⟨hx, hb, hml, hown, hts⟩
  have hl : lv_has ls 2 [(0, .ref (ad 0)), (1, .int p1)] := hl
  unfold mX6_endsPromise at hm
  refine lv_aload_n hx hb dX6_endsPromise_0 rfl (lv_at hl 0 rfl) ?_
  refine lv_iload_n hx hb dX6_endsPromise_1 rfl (lv_at hl 1 rfl) ?_
  refine lv_iconst (v := 5) hx hb dX6_endsPromise_2 (by decide) ?_
  obtain ⟨v1, h_2, hm⟩ := b1_s hm
  refine rd_v hcf (kX6_its h_2) (cwX6_endsPromise_X6_its hts) hK hP Sb.rf (ci := 6) (q0 := 0) rfl rfl rfl hl.1 rfl (Nat.le_of_ble_eq_true rfl) dX6_endsPromise_3 ⟨Nat.zero_le _, Nat.zero_le _⟩ ?_
  refine lv_if_eq (tgt := 23) hx hb dX6_endsPromise_6 (by decide) (fun c_3 => ?_) (fun c_3 => ?_)
  · replace hm := br_p hm c_3
    cases hm
    exact hret _ _ _ _ dX6_endsPromise_23 hP hD hS
  · replace hm := br_n hm c_3
    refine lv_aload_n hx hb dX6_endsPromise_9 rfl (lv_at hl 0 rfl) ?_
    refine lv_iload_n hx hb dX6_endsPromise_10 rfl (lv_at hl 1 rfl) ?_
    refine lv_bipush (v := 6) hx hb dX6_endsPromise_11 (by decide) ?_
    obtain ⟨v4, h_5, hm⟩ := b1_s hm
    refine rd_v hcf (kX6_its h_5) (cwX6_endsPromise_X6_its hts) hK hP Sb.rf (ci := 6) (q0 := 0) rfl rfl rfl hl.1 rfl (Nat.le_of_ble_eq_true rfl) dX6_endsPromise_13 ⟨Nat.zero_le _, Nat.zero_le _⟩ ?_
    refine lv_aload_n hx hb dX6_endsPromise_16 rfl (lv_at hl 0 rfl) ?_
    obtain ⟨v6, h_7, hm⟩ := b1_s hm
    refine rd_v hcf (kX6_today h_7) (cwX6_endsPromise_X6_today hts) hK hP Sb.rf (ci := 6) (q0 := 0) rfl rfl rfl hl.1 rfl (Nat.le_of_ble_eq_true rfl) dX6_endsPromise_17 ⟨Nat.zero_le _, Nat.zero_le _⟩ ?_
    refine lv_icmp_le (tgt := 24) hx hb dX6_endsPromise_20 (by decide) (fun c_8 => ?_) (fun c_8 => ?_)
    · replace hm := br_p hm c_8
      refine lv_aload_n hx hb dX6_endsPromise_24 rfl (lv_at hl 0 rfl) ?_
      refine lv_iload_n hx hb dX6_endsPromise_25 rfl (lv_at hl 1 rfl) ?_
      refine lv_bipush (v := 7) hx hb dX6_endsPromise_26 (by decide) ?_
      obtain ⟨v9, h_10, hm⟩ := b1_s hm
      refine rd_v hcf (kX6_its h_10) (cwX6_endsPromise_X6_its hts) hK hP Sb.rf (ci := 6) (q0 := 0) rfl rfl rfl hl.1 rfl (Nat.le_of_ble_eq_true rfl) dX6_endsPromise_28 ⟨Nat.zero_le _, Nat.zero_le _⟩ ?_
      refine lv_aload_n hx hb dX6_endsPromise_31 rfl (lv_at hl 0 rfl) ?_
      refine lv_iload_n hx hb dX6_endsPromise_32 rfl (lv_at hl 1 rfl) ?_
      refine lv_iconst (v := 5) hx hb dX6_endsPromise_33 (by decide) ?_
      obtain ⟨v11, h_12, hm⟩ := b1_s hm
      refine rd_v hcf (kX6_its h_12) (cwX6_endsPromise_X6_its hts) hK hP Sb.rf (ci := 6) (q0 := 0) rfl rfl rfl hl.1 rfl (Nat.le_of_ble_eq_true rfl) dX6_endsPromise_34 ⟨Nat.zero_le _, Nat.zero_le _⟩ ?_
      refine lv_icmp_ge (tgt := 56) hx hb dX6_endsPromise_37 (by decide) (fun c_13 => ?_) (fun c_13 => ?_)
      · replace hm := br_p hm c_13
        exact tX6_endsPromise_b56 C hA hret _ _ hm _ _ _ hP hD hS (lv_sub hl [0, 1] rfl)
      · replace hm := br_n hm c_13
        refine lv_aload_n hx hb dX6_endsPromise_40 rfl (lv_at hl 0 rfl) ?_
        refine lv_iload_n hx hb dX6_endsPromise_41 rfl (lv_at hl 1 rfl) ?_
        refine lv_bipush (v := 8) hx hb dX6_endsPromise_42 (by decide) ?_
        refine lv_aload_n hx hb dX6_endsPromise_44 rfl (lv_at hl 0 rfl) ?_
        refine lv_iload_n hx hb dX6_endsPromise_45 rfl (lv_at hl 1 rfl) ?_
        refine lv_bipush (v := 8) hx hb dX6_endsPromise_46 (by decide) ?_
        obtain ⟨v14, h_15, hm⟩ := b1_s hm
        refine rd_v hcf (kX6_its h_15) (cwX6_endsPromise_X6_its hts) hK hP Sb.rf (ci := 6) (q0 := 0) rfl rfl rfl hl.1 rfl (Nat.le_of_ble_eq_true rfl) dX6_endsPromise_48 ⟨Nat.zero_le _, Nat.zero_le _⟩ ?_
        refine lv_iconst (v := 1) hx hb dX6_endsPromise_51 (by decide) ?_
        refine lv_iadd hx hb dX6_endsPromise_52 ?_
        obtain ⟨nw16, h_17, hm⟩ := b1_s hm
        refine mu_vv hcf (kX6_puts h_17) (cwX6_endsPromise_X6_puts hts) hK hP hD hS hA Jn.rf (ci := 6) (q0 := 0) rfl rfl rfl hl.1 rfl (Nat.le_of_ble_eq_true rfl) dX6_endsPromise_53 ⟨Nat.zero_le _, Nat.zero_le _⟩ (fun H locs hP hD hS => ?_)
        exact tX6_endsPromise_b56 C hA hret _ _ hm _ _ _ hP hD hS (lv_sub hl [0, 1] rfl)
    · replace hm := br_n hm c_8
      cases hm
      exact hret _ _ _ _ dX6_endsPromise_23 hP hD hS
/-! X6 steps(I)V -/
abbrev rmX6_steps : Room := { frames := 4, cells := 0, slots := 0, locals := 92 }
theorem hdX6_steps : yX6_steps.cls = RX6 ∧ yX6_steps.cls ≠ "java/lang/invoke/MethodHandle" ∧ yX6_steps.cls ≠ "java/lang/invoke/VarHandle" ∧ (parseMethodDescriptor yX6_steps.desc).map (fun d => d.parameters.length) = some 1 := by decide +kernel
theorem inX6_steps_X6 : ∀ w ∈ u_ws RX6 TX6 20, w ∈ wsX6_steps := by decide +kernel
theorem cwX6_steps_X6_eldest {s : State} {args : Array Value} (hts : ∀ w ∈ wsX6_steps, w.before args s = true) : CallW rmX6_steps s args RX6 RX6 177 yX6_eldest cX6_eldest 4 (some .int) wsX6_eldest rmX6_eldest 0 0 1 := cwV 1 hts gX6_steps_X6_eldest rfl rfl rfl hdX6_eldest ⟨Nat.le_of_ble_eq_true rfl, Nat.le_of_ble_eq_true rfl⟩
theorem cwX6_steps_X6_invoices {s : State} {args : Array Value} (hts : ∀ w ∈ wsX6_steps, w.before args s = true) : CallW rmX6_steps s args RX6 RX6 186 yX6_invoices cX6_invoices 6 (some .int) wsX6_invoices rmX6_invoices 0 0 4 := cwV 4 hts gX6_steps_X6_invoices rfl rfl rfl hdX6_invoices ⟨Nat.le_of_ble_eq_true rfl, Nat.le_of_ble_eq_true rfl⟩
theorem cwX6_steps_X6_isAtCourt {s : State} {args : Array Value} (hts : ∀ w ∈ wsX6_steps, w.before args s = true) : CallW rmX6_steps s args RX6 RX6 180 yX6_isAtCourt cX6_isAtCourt 2 (some .boolean) wsX6_isAtCourt rmX6_isAtCourt 0 0 1 := cwV 1 hts gX6_steps_X6_isAtCourt rfl rfl rfl hdX6_isAtCourt ⟨Nat.le_of_ble_eq_true rfl, Nat.le_of_ble_eq_true rfl⟩
theorem cwX6_steps_X6_isStopped {s : State} {args : Array Value} (hts : ∀ w ∈ wsX6_steps, w.before args s = true) : CallW rmX6_steps s args RX6 RX6 183 yX6_isStopped cX6_isStopped 2 (some .boolean) wsX6_isStopped rmX6_isStopped 0 0 1 := cwV 1 hts gX6_steps_X6_isStopped rfl rfl rfl hdX6_isStopped ⟨Nat.le_of_ble_eq_true rfl, Nat.le_of_ble_eq_true rfl⟩
theorem cwX6_steps_X6_its {s : State} {args : Array Value} (hts : ∀ w ∈ wsX6_steps, w.before args s = true) : CallW rmX6_steps s args RX6 RX6 148 yX6_its cX6_its 3 (some .int) wsX6_its rmX6_its 0 0 2 := cwV 2 hts gX6_steps_X6_its rfl rfl rfl hdX6_its ⟨Nat.le_of_ble_eq_true rfl, Nat.le_of_ble_eq_true rfl⟩
theorem cwX6_steps_X6_puts {s : State} {args : Array Value} (hts : ∀ w ∈ wsX6_steps, w.before args s = true) : CallW rmX6_steps s args RX6 RX6 157 yX6_puts cX6_puts 4 none wsX6_puts rmX6_puts 0 0 3 := cwV 3 hts gX6_steps_X6_puts rfl rfl rfl hdX6_puts ⟨Nat.le_of_ble_eq_true rfl, Nat.le_of_ble_eq_true rfl⟩
theorem cwX6_steps_X6_today {s : State} {args : Array Value} (hts : ∀ w ∈ wsX6_steps, w.before args s = true) : CallW rmX6_steps s args RX6 RX6 173 yX6_today cX6_today 1 (some .int) wsX6_today rmX6_today 0 0 0 := cwV 0 hts gX6_steps_X6_today rfl rfl rfl hdX6_today ⟨Nat.le_of_ble_eq_true rfl, Nat.le_of_ble_eq_true rfl⟩
theorem flX6_steps_70 : Fl wsX6_steps RX6 70 6 11 := ⟨_, _, _, rfl, by decide, inX6_steps_X6, by decide +kernel⟩
theorem fpX6_steps_190 : Fp wsX6_steps RX6 190 6 17 false .int := ⟨_, _, _, tyX6, rfl, by decide, inX6_steps_X6, by decide +kernel, tyX6_ok, nmX6, rfl, rfl, by decide +kernel⟩
set_option maxRecDepth 100000 in
set_option maxHeartbeats 4000000 in
theorem tX6_steps_b101 {ad : Nat → Nat} {thr : Int32} {tpd : Int32} {siz : Int32} {too : Int32} {frm : Int32} {srt : Int32} {num : Int32} {flt : Int32} {plc : Int32} {wrd : Int64} {snm : Int32} {lin : Int32} {sfo : Int32} {hst : Int32} {tp : Nat → Int32} {rd : Nat → Int32} {kp : Nat → Int32} {sn : Nat → Int32} {stp' : Int32} {nw' : Nat → Int32} (C : Cx p s m args meth c cX6_steps none 5 wsX6_steps RX6 D cI cB cL cK) (hA : ∀ q : Nat, s.heap.size ≤ q → A q) (hret : ∀ (pc : Nat) (ls : Array Slot) (H : Heap) (locs : List Loc), decode cX6_steps pc = .ok (.return_, 1) → va_P D vwCl (wM cI ad thr tpd siz too frm srt num flt plc wrd snm lin stp' sfo hst tp nw' rd kp sn) H → va_D A (wM cI ad thr tpd siz too frm srt num flt plc wrd snm lin stp' sfo hst tp nw' rd kp sn) → va_S A s.heap H locs → W p l e rmX6_steps s m args below meth c H locs 0 0 Q (F0 m pc ls [])) : ∀ (x1 : Int32) (x3 : Int32) (x4 : Int32) (stp : Int32) (nw : Nat → Int32), mX6_steps_b101 x1 x3 x4 stp nw = some (stp', nw') → ∀ (H : Heap) (locs : List Loc) (ls : Array Slot), va_P D vwCl (wM cI ad thr tpd siz too frm srt num flt plc wrd snm lin stp sfo hst tp nw rd kp sn) H → va_D A (wM cI ad thr tpd siz too frm srt num flt plc wrd snm lin stp sfo hst tp nw rd kp sn) → va_S A s.heap H locs → lv_has ls 5 [(0, .ref (ad 0)), (1, .int x1), (3, .int x3), (4, .int x4)] → W p l e rmX6_steps s m args below meth c H locs 0 0 Q (F0 m 101 ls []) := by
  obtain ⟨hx, hb, hr, hml, hown, hts, hlk, hK⟩ := id C
  have hcf : CallFix p m c cX6_steps 5 s args wsX6_steps RX6 := ⟨hx, hb, hml, hown, hts⟩
  intro x1 x3 x4 stp nw hm H locs ls hP hD hS hl
  unfold mX6_steps_b101 at hm
  refine lv_aload_n hx hb dX6_steps_101 rfl (lv_at hl 0 rfl) ?_
  refine lv_iload_n hx hb dX6_steps_102 rfl (lv_at hl 1 rfl) ?_
  refine lv_iconst (v := 3) hx hb dX6_steps_103 (by decide) ?_
  refine lv_iload_n hx hb dX6_steps_104 rfl (lv_at hl 2 rfl) ?_
  refine lv_iconst (v := 1) hx hb dX6_steps_105 (by decide) ?_
  refine lv_iadd hx hb dX6_steps_106 ?_
  obtain ⟨nw24, h_25, hm⟩ := b1_s hm
  refine mu_vv hcf (kX6_puts h_25) (cwX6_steps_X6_puts hts) hK hP hD hS hA Jn.rf (ci := 6) (q0 := 0) rfl rfl rfl hl.1 rfl (Nat.le_of_ble_eq_true rfl) dX6_steps_107 ⟨Nat.zero_le _, Nat.zero_le _⟩ (fun H locs hP hD hS => ?_)
  refine lv_aload_n hx hb dX6_steps_110 rfl (lv_at hl 0 rfl) ?_
  refine lv_iload_n hx hb dX6_steps_111 rfl (lv_at hl 1 rfl) ?_
  refine lv_iconst (v := 4) hx hb dX6_steps_112 (by decide) ?_
  refine lv_aload_n hx hb dX6_steps_113 rfl (lv_at hl 0 rfl) ?_
  obtain ⟨v26, h_27, hm⟩ := b1_s hm
  refine rd_v hcf (kX6_today h_27) (cwX6_steps_X6_today hts) hK hP Sb.rf (ci := 6) (q0 := 0) rfl rfl rfl hl.1 rfl (Nat.le_of_ble_eq_true rfl) dX6_steps_114 ⟨Nat.zero_le _, Nat.zero_le _⟩ ?_
  obtain ⟨nw28, h_29, hm⟩ := b1_s hm
  refine mu_vv hcf (kX6_puts h_29) (cwX6_steps_X6_puts hts) hK hP hD hS hA Jn.rf (ci := 6) (q0 := 0) rfl rfl rfl hl.1 rfl (Nat.le_of_ble_eq_true rfl) dX6_steps_117 ⟨Nat.zero_le _, Nat.zero_le _⟩ (fun H locs hP hD hS => ?_)
  refine lv_aload_n hx hb dX6_steps_120 rfl (lv_at hl 0 rfl) ?_
  refine gf (q0 := 0) hx hb hts hown hK flX6_steps_70 hP rfl rfl dX6_steps_121 ?_
  refine lv_iload hx hb dX6_steps_124 (lv_at hl 3 rfl) ?_
  refine lv_iconst (v := 2) hx hb dX6_steps_126 (by decide) ?_
  refine lv_iadd hx hb dX6_steps_127 ?_
  obtain ⟨h_30, hm⟩ := ck_s hm
  refine ald (q0 := 2) (k := ((x4 + 2) : Int32).toNatClampNeg) hx hb hK hP rfl h_30 rfl dX6_steps_128 ?_
  refine lv_if_le (tgt := 163) hx hb dX6_steps_129 (by decide) (fun c_31 => ?_) (fun c_31 => ?_)
  · replace hm := br_p hm c_31
    refine lv_aload_n hx hb dX6_steps_163 rfl (lv_at hl 0 rfl) ?_
    refine lv_iload_n hx hb dX6_steps_164 rfl (lv_at hl 1 rfl) ?_
    refine pf (q0 := 0) (X' := (wM cI ad thr tpd siz too frm srt num flt plc wrd snm lin x1 sfo hst tp nw28 rd kp sn)) hx hb hts hown hK fpX6_steps_190 hP hD hS rfl rfl rfl (Nat.le_of_ble_eq_true rfl) rfl dX6_steps_165 (fun H locs hP hD hS => ?_)
    cases hm
    exact hret _ _ _ _ dX6_steps_168 hP hD hS
  · replace hm := br_n hm c_31
    refine lv_aload_n hx hb dX6_steps_132 rfl (lv_at hl 0 rfl) ?_
    refine gf (q0 := 0) hx hb hts hown hK flX6_steps_70 hP rfl rfl dX6_steps_133 ?_
    refine lv_iconst (v := 4) hx hb dX6_steps_136 (by decide) ?_
    refine ald (q0 := 2) (k := 4) hx hb hK hP rfl (by decide) (by decide) dX6_steps_137 ?_
    refine lv_bipush (v := 60) hx hb dX6_steps_138 (by decide) ?_
    refine lv_icmp_ge (tgt := 163) hx hb dX6_steps_140 (by decide) (fun c_32 => ?_) (fun c_32 => ?_)
    · replace hm := br_p hm c_32
      refine lv_aload_n hx hb dX6_steps_163 rfl (lv_at hl 0 rfl) ?_
      refine lv_iload_n hx hb dX6_steps_164 rfl (lv_at hl 1 rfl) ?_
      refine pf (q0 := 0) (X' := (wM cI ad thr tpd siz too frm srt num flt plc wrd snm lin x1 sfo hst tp nw28 rd kp sn)) hx hb hts hown hK fpX6_steps_190 hP hD hS rfl rfl rfl (Nat.le_of_ble_eq_true rfl) rfl dX6_steps_165 (fun H locs hP hD hS => ?_)
      cases hm
      exact hret _ _ _ _ dX6_steps_168 hP hD hS
    · replace hm := br_n hm c_32
      refine lv_aload_n hx hb dX6_steps_143 rfl (lv_at hl 0 rfl) ?_
      refine lv_iload_n hx hb dX6_steps_144 rfl (lv_at hl 1 rfl) ?_
      refine lv_aload_n hx hb dX6_steps_145 rfl (lv_at hl 0 rfl) ?_
      refine gf (q0 := 0) hx hb hts hown hK flX6_steps_70 hP rfl rfl dX6_steps_146 ?_
      refine lv_iload hx hb dX6_steps_149 (lv_at hl 3 rfl) ?_
      refine lv_iconst (v := 2) hx hb dX6_steps_151 (by decide) ?_
      refine lv_iadd hx hb dX6_steps_152 ?_
      obtain ⟨h_33, hm⟩ := ck_s hm
      refine ald (q0 := 2) (k := ((x4 + 2) : Int32).toNatClampNeg) hx hb hK hP rfl h_33 rfl dX6_steps_153 ?_
      refine lv_aload_n hx hb dX6_steps_154 rfl (lv_at hl 0 rfl) ?_
      obtain ⟨v34, h_35, hm⟩ := b1_s hm
      refine rd_v hcf (kX6_today h_35) (cwX6_steps_X6_today hts) hK hP Sb.rf (ci := 6) (q0 := 0) rfl rfl rfl hl.1 rfl (Nat.le_of_ble_eq_true rfl) dX6_steps_155 ⟨Nat.zero_le _, Nat.zero_le _⟩ ?_
      refine lv_iconst (v := 1) hx hb dX6_steps_158 (by decide) ?_
      obtain ⟨v36, nw37, h_38, hm⟩ := b2_s hm
      refine mu_vi hcf (kX6_invoices h_38) (cwX6_steps_X6_invoices hts) hK hP hD hS hA Jn.rf (ci := 6) (q0 := 0) rfl rfl rfl hl.1 rfl (Nat.le_of_ble_eq_true rfl) dX6_steps_159 ⟨Nat.zero_le _, Nat.zero_le _⟩ (fun H locs hP hD hS => ?_)
      refine lv_pop hx hb dX6_steps_162 rfl ?_
      refine lv_aload_n hx hb dX6_steps_163 rfl (lv_at hl 0 rfl) ?_
      refine lv_iload_n hx hb dX6_steps_164 rfl (lv_at hl 1 rfl) ?_
      refine pf (q0 := 0) (X' := (wM cI ad thr tpd siz too frm srt num flt plc wrd snm lin x1 sfo hst tp nw37 rd kp sn)) hx hb hts hown hK fpX6_steps_190 hP hD hS rfl rfl rfl (Nat.le_of_ble_eq_true rfl) rfl dX6_steps_165 (fun H locs hP hD hS => ?_)
      cases hm
      exact hret _ _ _ _ dX6_steps_168 hP hD hS
set_option maxRecDepth 100000 in
set_option maxHeartbeats 4000000 in
theorem kX6_steps {l : Launch} {D : va_G} {cI cB cL cK : ClassId} {ad : Nat → Nat} {thr : Int32} {tpd : Int32} {siz : Int32} {too : Int32} {frm : Int32} {srt : Int32} {num : Int32} {flt : Int32} {plc : Int32} {wrd : Int64} {snm : Int32} {lin : Int32} {stp : Int32} {sfo : Int32} {hst : Int32} {tp : Nat → Int32} {nw : Nat → Int32} {rd : Nat → Int32} {kp : Nat → Int32} {sn : Nat → Int32} {p1 : Int32} {stp' : Int32} {nw' : Nat → Int32} (hm : mX6_steps stp nw p1 = some (stp', nw')) : Mu l D cI cB cL cK yX6_steps wsX6_steps rmX6_steps [.ref (ad 0), .int p1] (wM cI ad thr tpd siz too frm srt num flt plc wrd snm lin stp sfo hst tp nw rd kp sn) (wM cI ad thr tpd siz too frm srt num flt plc wrd snm lin stp' sfo hst tp nw' rd kp sn) none 0 0 := by
  refine Mu.ofv (cc := cX6_steps) (own := RX6) (by decide) rfl rfl (Nat.le_of_ble_eq_true rfl) (fun p e s m below meth c ls Q A C _ hA hP hD hS hl hret => ?_)
  obtain ⟨hx, hb, hr, hml, hown, hts, hlk, hK⟩ := id C
  have hcf : CallFix p m c cX6_steps 5 s _ wsX6_steps RX6 := ⟨hx, hb, hml, hown, hts⟩
  have hl : lv_has ls 5 [(0, .ref (ad 0)), (1, .int p1)] := hl
  unfold mX6_steps at hm
  refine lv_aload_n hx hb dX6_steps_0 rfl (lv_at hl 0 rfl) ?_
  refine lv_iload_n hx hb dX6_steps_1 rfl (lv_at hl 1 rfl) ?_
  obtain ⟨v1, h_2, hm⟩ := b1_s hm
  refine rd_v hcf (kX6_eldest h_2) (cwX6_steps_X6_eldest hts) hK hP Sb.rf (ci := 6) (q0 := 0) rfl rfl rfl hl.1 rfl (Nat.le_of_ble_eq_true rfl) dX6_steps_2 ⟨Nat.zero_le _, Nat.zero_le _⟩ ?_
  refine lv_istore_n (lv' := [(2, .int v1), (0, .ref (ad 0)), (1, .int p1)]) hx hb dX6_steps_5 rfl hl (by decide) rfl (fun ls hl => ?_)
  refine lv_iload_n hx hb dX6_steps_6 rfl (lv_at hl 0 rfl) ?_
  refine lv_if_ne (tgt := 26) hx hb dX6_steps_7 (by decide) (fun c_3 => ?_) (fun c_3 => ?_)
  · replace hm := br_n hm c_3
    refine lv_aload_n hx hb dX6_steps_26 rfl (lv_at hl 1 rfl) ?_
    refine lv_iload_n hx hb dX6_steps_27 rfl (lv_at hl 2 rfl) ?_
    refine lv_iconst (v := 3) hx hb dX6_steps_28 (by decide) ?_
    obtain ⟨v4, h_5, hm⟩ := b1_s hm
    refine rd_v hcf (kX6_its h_5) (cwX6_steps_X6_its hts) hK hP Sb.rf (ci := 6) (q0 := 0) rfl rfl rfl hl.1 rfl (Nat.le_of_ble_eq_true rfl) dX6_steps_29 ⟨Nat.zero_le _, Nat.zero_le _⟩ ?_
    refine lv_istore_n (lv' := [(3, .int v4), (2, .int v1), (0, .ref (ad 0)), (1, .int p1)]) hx hb dX6_steps_32 rfl hl (by decide) rfl (fun ls hl => ?_)
    refine lv_aload_n hx hb dX6_steps_33 rfl (lv_at hl 2 rfl) ?_
    refine lv_iload_n hx hb dX6_steps_34 rfl (lv_at hl 3 rfl) ?_
    obtain ⟨v6, h_7, hm⟩ := b1_s hm
    refine rd_v hcf (kX6_isStopped h_7) (cwX6_steps_X6_isStopped hts) hK hP Sb.rf (ci := 6) (q0 := 0) rfl rfl rfl hl.1 rfl (Nat.le_of_ble_eq_true rfl) dX6_steps_35 ⟨Nat.zero_le _, Nat.zero_le _⟩ ?_
    refine lv_if_ne (tgt := 51) hx hb dX6_steps_38 (by decide) (fun c_8 => ?_) (fun c_8 => ?_)
    · replace hm := br_n hm c_8
      cases hm
      exact hret _ _ _ _ dX6_steps_51 hP hD hS
    · replace hm := br_p hm c_8
      refine lv_iload_n hx hb dX6_steps_41 rfl (lv_at hl 0 rfl) ?_
      refine lv_aload_n hx hb dX6_steps_42 rfl (lv_at hl 2 rfl) ?_
      refine gf (q0 := 0) hx hb hts hown hK flX6_steps_70 hP rfl rfl dX6_steps_43 ?_
      refine lv_iconst (v := 2) hx hb dX6_steps_46 (by decide) ?_
      refine ald (q0 := 2) (k := 2) hx hb hK hP rfl (by decide) (by decide) dX6_steps_47 ?_
      refine lv_icmp_lt (tgt := 52) hx hb dX6_steps_48 (by decide) (fun c_9 => ?_) (fun c_9 => ?_)
      · replace hm := br_p hm c_9
        refine lv_bipush (v := 7) hx hb dX6_steps_52 (by decide) ?_
        refine lv_iconst (v := 3) hx hb dX6_steps_54 (by decide) ?_
        refine lv_iload_n hx hb dX6_steps_55 rfl (lv_at hl 0 rfl) ?_
        refine lv_imul hx hb dX6_steps_56 ?_
        refine lv_iadd hx hb dX6_steps_57 ?_
        refine lv_istore (lv' := [(4, .int (7 + (3 * v4))), (3, .int v4), (2, .int v1), (0, .ref (ad 0)), (1, .int p1)]) hx hb dX6_steps_58 hl (by decide) rfl (fun ls hl => ?_)
        refine lv_iload_n hx hb dX6_steps_60 rfl (lv_at hl 2 rfl) ?_
        refine lv_aload_n hx hb dX6_steps_61 rfl (lv_at hl 3 rfl) ?_
        refine gf (q0 := 0) hx hb hts hown hK flX6_steps_70 hP rfl rfl dX6_steps_62 ?_
        refine lv_iload hx hb dX6_steps_65 (lv_at hl 0 rfl) ?_
        refine lv_iconst (v := 0) hx hb dX6_steps_67 (by decide) ?_
        refine lv_iadd hx hb dX6_steps_68 ?_
        obtain ⟨h_10, hm⟩ := ck_s hm
        refine ald (q0 := 2) (k := (((7 + (3 * v4)) + 0) : Int32).toNatClampNeg) hx hb hK hP rfl h_10 rfl dX6_steps_69 ?_
        refine lv_icmp_lt (tgt := 100) hx hb dX6_steps_70 (by decide) (fun c_11 => ?_) (fun c_11 => ?_)
        · replace hm := br_p hm c_11
          cases hm
          exact hret _ _ _ _ dX6_steps_100 hP hD hS
        · replace hm := br_n hm c_11
          refine lv_iload_n hx hb dX6_steps_73 rfl (lv_at hl 1 rfl) ?_
          refine lv_if_le (tgt := 101) hx hb dX6_steps_74 (by decide) (fun c_12 => ?_) (fun c_12 => ?_)
          · replace hm := br_p hm c_12
            exact tX6_steps_b101 C hA hret _ _ _ _ _ hm _ _ _ hP hD hS (lv_sub hl [3, 4, 1, 0] rfl)
          · replace hm := br_n hm c_12
            refine lv_aload_n hx hb dX6_steps_77 rfl (lv_at hl 3 rfl) ?_
            obtain ⟨v13, h_14, hm⟩ := b1_s hm
            refine rd_v hcf (kX6_today h_14) (cwX6_steps_X6_today hts) hK hP Sb.rf (ci := 6) (q0 := 0) rfl rfl rfl hl.1 rfl (Nat.le_of_ble_eq_true rfl) dX6_steps_78 ⟨Nat.zero_le _, Nat.zero_le _⟩ ?_
            refine lv_aload_n hx hb dX6_steps_81 rfl (lv_at hl 3 rfl) ?_
            refine lv_iload_n hx hb dX6_steps_82 rfl (lv_at hl 4 rfl) ?_
            refine lv_iconst (v := 4) hx hb dX6_steps_83 (by decide) ?_
            obtain ⟨v15, h_16, hm⟩ := b1_s hm
            refine rd_v hcf (kX6_its h_16) (cwX6_steps_X6_its hts) hK hP Sb.rf (ci := 6) (q0 := 0) rfl rfl rfl hl.1 rfl (Nat.le_of_ble_eq_true rfl) dX6_steps_84 ⟨Nat.zero_le _, Nat.zero_le _⟩ ?_
            refine lv_isub hx hb dX6_steps_87 ?_
            refine lv_aload_n hx hb dX6_steps_88 rfl (lv_at hl 3 rfl) ?_
            refine gf (q0 := 0) hx hb hts hown hK flX6_steps_70 hP rfl rfl dX6_steps_89 ?_
            refine lv_iload hx hb dX6_steps_92 (lv_at hl 0 rfl) ?_
            refine lv_iconst (v := 1) hx hb dX6_steps_94 (by decide) ?_
            refine lv_iadd hx hb dX6_steps_95 ?_
            obtain ⟨h_17, hm⟩ := ck_s hm
            refine ald (q0 := 2) (k := (((7 + (3 * v4)) + 1) : Int32).toNatClampNeg) hx hb hK hP rfl h_17 rfl dX6_steps_96 ?_
            refine lv_icmp_ge (tgt := 101) hx hb dX6_steps_97 (by decide) (fun c_18 => ?_) (fun c_18 => ?_)
            · replace hm := br_p hm c_18
              exact tX6_steps_b101 C hA hret _ _ _ _ _ hm _ _ _ hP hD hS (lv_sub hl [3, 4, 1, 0] rfl)
            · replace hm := br_n hm c_18
              cases hm
              exact hret _ _ _ _ dX6_steps_100 hP hD hS
      · replace hm := br_n hm c_9
        cases hm
        exact hret _ _ _ _ dX6_steps_51 hP hD hS
  · replace hm := br_p hm c_3
    refine lv_aload_n hx hb dX6_steps_10 rfl (lv_at hl 1 rfl) ?_
    refine lv_iload_n hx hb dX6_steps_11 rfl (lv_at hl 2 rfl) ?_
    obtain ⟨v19, h_20, hm⟩ := b1_s hm
    refine rd_v hcf (kX6_isAtCourt h_20) (cwX6_steps_X6_isAtCourt hts) hK hP Sb.rf (ci := 6) (q0 := 0) rfl rfl rfl hl.1 rfl (Nat.le_of_ble_eq_true rfl) dX6_steps_12 ⟨Nat.zero_le _, Nat.zero_le _⟩ ?_
    refine lv_if_ne (tgt := 25) hx hb dX6_steps_15 (by decide) (fun c_21 => ?_) (fun c_21 => ?_)
    · replace hm := br_n hm c_21
      cases hm
      exact hret _ _ _ _ dX6_steps_25 hP hD hS
    · replace hm := br_p hm c_21
      refine lv_aload_n hx hb dX6_steps_18 rfl (lv_at hl 1 rfl) ?_
      refine lv_iload_n hx hb dX6_steps_19 rfl (lv_at hl 2 rfl) ?_
      refine lv_iconst (v := 3) hx hb dX6_steps_20 (by decide) ?_
      refine lv_iconst (v := 0) hx hb dX6_steps_21 (by decide) ?_
      obtain ⟨nw22, h_23, hm⟩ := b1_s hm
      refine mu_vv hcf (kX6_puts h_23) (cwX6_steps_X6_puts hts) hK hP hD hS hA Jn.rf (ci := 6) (q0 := 0) rfl rfl rfl hl.1 rfl (Nat.le_of_ble_eq_true rfl) dX6_steps_22 ⟨Nat.zero_le _, Nat.zero_le _⟩ (fun H locs hP hD hS => ?_)
      cases hm
      exact hret _ _ _ _ dX6_steps_25 hP hD hS
/-! X6 ends()V -/
abbrev rmX6_ends : Room := { frames := 5, cells := 0, slots := 0, locals := 116 }
theorem hdX6_ends : yX6_ends.cls = RX6 ∧ yX6_ends.cls ≠ "java/lang/invoke/MethodHandle" ∧ yX6_ends.cls ≠ "java/lang/invoke/VarHandle" ∧ (parseMethodDescriptor yX6_ends.desc).map (fun d => d.parameters.length) = some 0 := by decide +kernel
theorem inX6_ends_X6 : ∀ w ∈ u_ws RX6 TX6 20, w ∈ wsX6_ends := by decide +kernel
theorem cwX6_ends_X6_billed {s : State} {args : Array Value} (hts : ∀ w ∈ wsX6_ends, w.before args s = true) : CallW rmX6_ends s args RX6 RX6 140 yX6_billed cX6_billed 3 (some .int) wsX6_billed rmX6_billed 0 0 2 := cwV 2 hts gX6_ends_X6_billed rfl rfl rfl hdX6_billed ⟨Nat.le_of_ble_eq_true rfl, Nat.le_of_ble_eq_true rfl⟩
theorem cwX6_ends_X6_counts {s : State} {args : Array Value} (hts : ∀ w ∈ wsX6_ends, w.before args s = true) : CallW rmX6_ends s args RX6 RX6 144 yX6_counts cX6_counts 3 (some .boolean) wsX6_counts rmX6_counts 0 0 2 := cwV 2 hts gX6_ends_X6_counts rfl rfl rfl hdX6_counts ⟨Nat.le_of_ble_eq_true rfl, Nat.le_of_ble_eq_true rfl⟩
theorem cwX6_ends_X6_endsPlan {s : State} {args : Array Value} (hts : ∀ w ∈ wsX6_ends, w.before args s = true) : CallW rmX6_ends s args RX6 RX6 196 yX6_endsPlan cX6_endsPlan 6 none wsX6_endsPlan rmX6_endsPlan 0 0 1 := cwV 1 hts gX6_ends_X6_endsPlan rfl rfl rfl hdX6_endsPlan ⟨Nat.le_of_ble_eq_true rfl, Nat.le_of_ble_eq_true rfl⟩
theorem cwX6_ends_X6_endsPromise {s : State} {args : Array Value} (hts : ∀ w ∈ wsX6_ends, w.before args s = true) : CallW rmX6_ends s args RX6 RX6 193 yX6_endsPromise cX6_endsPromise 2 none wsX6_endsPromise rmX6_endsPromise 0 0 1 := cwV 1 hts gX6_ends_X6_endsPromise rfl rfl rfl hdX6_endsPromise ⟨Nat.le_of_ble_eq_true rfl, Nat.le_of_ble_eq_true rfl⟩
theorem cwX6_ends_X6_isStopped {s : State} {args : Array Value} (hts : ∀ w ∈ wsX6_ends, w.before args s = true) : CallW rmX6_ends s args RX6 RX6 183 yX6_isStopped cX6_isStopped 2 (some .boolean) wsX6_isStopped rmX6_isStopped 0 0 1 := cwV 1 hts gX6_ends_X6_isStopped rfl rfl rfl hdX6_isStopped ⟨Nat.le_of_ble_eq_true rfl, Nat.le_of_ble_eq_true rfl⟩
theorem cwX6_ends_X6_its {s : State} {args : Array Value} (hts : ∀ w ∈ wsX6_ends, w.before args s = true) : CallW rmX6_ends s args RX6 RX6 148 yX6_its cX6_its 3 (some .int) wsX6_its rmX6_its 0 0 2 := cwV 2 hts gX6_ends_X6_its rfl rfl rfl hdX6_its ⟨Nat.le_of_ble_eq_true rfl, Nat.le_of_ble_eq_true rfl⟩
theorem cwX6_ends_X6_releases {s : State} {args : Array Value} (hts : ∀ w ∈ wsX6_ends, w.before args s = true) : CallW rmX6_ends s args RX6 RX6 209 yX6_releases cX6_releases 4 (some .int) wsX6_releases rmX6_releases 0 0 1 := cwV 1 hts gX6_ends_X6_releases rfl rfl rfl hdX6_releases ⟨Nat.le_of_ble_eq_true rfl, Nat.le_of_ble_eq_true rfl⟩
theorem cwX6_ends_X6_steps {s : State} {args : Array Value} (hts : ∀ w ∈ wsX6_ends, w.before args s = true) : CallW rmX6_ends s args RX6 RX6 203 yX6_steps cX6_steps 5 none wsX6_steps rmX6_steps 0 0 1 := cwV 1 hts gX6_ends_X6_steps rfl rfl rfl hdX6_steps ⟨Nat.le_of_ble_eq_true rfl, Nat.le_of_ble_eq_true rfl⟩
theorem cwX6_ends_X6_today {s : State} {args : Array Value} (hts : ∀ w ∈ wsX6_ends, w.before args s = true) : CallW rmX6_ends s args RX6 RX6 173 yX6_today cX6_today 1 (some .int) wsX6_today rmX6_today 0 0 0 := cwV 0 hts gX6_ends_X6_today rfl rfl rfl hdX6_today ⟨Nat.le_of_ble_eq_true rfl, Nat.le_of_ble_eq_true rfl⟩
theorem flX6_ends_190 : Fl wsX6_ends RX6 190 6 17 := ⟨_, _, _, rfl, by decide, inX6_ends_X6, by decide +kernel⟩
theorem flX6_ends_199 : Fl wsX6_ends RX6 199 6 19 := ⟨_, _, _, rfl, by decide, inX6_ends_X6, by decide +kernel⟩
theorem flX6_ends_206 : Fl wsX6_ends RX6 206 6 18 := ⟨_, _, _, rfl, by decide, inX6_ends_X6, by decide +kernel⟩
theorem flX6_ends_70 : Fl wsX6_ends RX6 70 6 11 := ⟨_, _, _, rfl, by decide, inX6_ends_X6, by decide +kernel⟩
theorem fpX6_ends_190 : Fp wsX6_ends RX6 190 6 17 false .int := ⟨_, _, _, tyX6, rfl, by decide, inX6_ends_X6, by decide +kernel, tyX6_ok, nmX6, rfl, rfl, by decide +kernel⟩
theorem fpX6_ends_199 : Fp wsX6_ends RX6 199 6 19 false .boolean := ⟨_, _, _, tyX6, rfl, by decide, inX6_ends_X6, by decide +kernel, tyX6_ok, nmX6, rfl, rfl, by decide +kernel⟩
set_option maxRecDepth 100000 in
set_option maxHeartbeats 4000000 in
theorem tX6_ends_L187 {ad : Nat → Nat} {thr : Int32} {tpd : Int32} {siz : Int32} {too : Int32} {frm : Int32} {srt : Int32} {num : Int32} {flt : Int32} {plc : Int32} {wrd : Int64} {snm : Int32} {lin : Int32} {sfo : Int32} {tp : Nat → Int32} {rd : Nat → Int32} {kp : Nat → Int32} {sn : Nat → Int32} {stp' : Int32} {hst' : Int32} {nw' : Nat → Int32} (C : Cx p s m args meth c cX6_ends none 2 wsX6_ends RX6 D cI cB cL cK) (hA : ∀ q : Nat, s.heap.size ≤ q → A q) (hret : ∀ (pc : Nat) (ls : Array Slot) (H : Heap) (locs : List Loc), decode cX6_ends pc = .ok (.return_, 1) → va_P D vwCl (wM cI ad thr tpd siz too frm srt num flt plc wrd snm lin stp' sfo hst' tp nw' rd kp sn) H → va_D A (wM cI ad thr tpd siz too frm srt num flt plc wrd snm lin stp' sfo hst' tp nw' rd kp sn) → va_S A s.heap H locs → W p l e rmX6_ends s m args below meth c H locs 0 0 Q (F0 m pc ls [])) : ∀ (n9 : Nat) (x1 : Int32) (stp : Int32) (hst : Int32) (nw : Nat → Int32), mX6_ends_L187 n9 sfo x1 stp hst nw = some (stp', hst', nw') → ∀ (H : Heap) (locs : List Loc) (ls : Array Slot), va_P D vwCl (wM cI ad thr tpd siz too frm srt num flt plc wrd snm lin stp sfo hst tp nw rd kp sn) H → va_D A (wM cI ad thr tpd siz too frm srt num flt plc wrd snm lin stp sfo hst tp nw rd kp sn) → va_S A s.heap H locs → lv_has ls 2 [(0, .ref (ad 0)), (1, .int x1)] → W p l e rmX6_ends s m args below meth c H locs 0 0 Q (F0 m 187 ls []) := by
  obtain ⟨hx, hb, hr, hml, hown, hts, hlk, hK⟩ := id C
  have hcf : CallFix p m c cX6_ends 2 s args wsX6_ends RX6 := ⟨hx, hb, hml, hown, hts⟩
  intro n9
  induction n9 with
  | zero => intro x1 stp hst nw hm; cases hm
  | succ k ih =>
    intro x1 stp hst nw hm H locs ls hP hD hS hl
    rw [mX6_ends_L187.eq_2] at hm
    refine lv_iload_n hx hb dX6_ends_187 rfl (lv_at hl 1 rfl) ?_
    refine lv_aload_n hx hb dX6_ends_188 rfl (lv_at hl 0 rfl) ?_
    refine gf (q0 := 0) hx hb hts hown hK flX6_ends_70 hP rfl rfl dX6_ends_189 ?_
    refine lv_iconst (v := 3) hx hb dX6_ends_192 (by decide) ?_
    refine ald (q0 := 2) (k := 3) hx hb hK hP rfl (by decide) (by decide) dX6_ends_193 ?_
    refine lv_icmp_ge (tgt := 209) hx hb dX6_ends_194 (by decide) (fun c_33 => ?_) (fun c_33 => ?_)
    · replace hm := br_p hm c_33
      cases hm
      exact hret _ _ _ _ dX6_ends_209 hP hD hS
    · replace hm := br_n hm c_33
      refine lv_aload_n hx hb dX6_ends_197 rfl (lv_at hl 0 rfl) ?_
      refine lv_iload_n hx hb dX6_ends_198 rfl (lv_at hl 1 rfl) ?_
      obtain ⟨v34, nw35, h_36, hm⟩ := b2_s hm
      refine mu_vi hcf (kX6_releases h_36) (cwX6_ends_X6_releases hts) hK hP hD hS hA Jn.rf (ci := 6) (q0 := 0) rfl rfl rfl hl.1 rfl (Nat.le_of_ble_eq_true rfl) dX6_ends_199 ⟨Nat.zero_le _, Nat.zero_le _⟩ (fun H locs hP hD hS => ?_)
      refine lv_pop hx hb dX6_ends_202 rfl ?_
      refine lv_iinc (v := (x1 + 1)) (lv' := [(1, .int (x1 + 1)), (0, .ref (ad 0))]) hx hb dX6_ends_203 hl (k := 1) rfl rfl (by decide) rfl (fun ls hl => ?_)
      refine lv_goto (tgt := 187) hx hb dX6_ends_206 (by decide) ?_
      exact ih _ _ _ _ hm _ _ _ hP hD hS (lv_sub hl [1, 0] rfl)
set_option maxRecDepth 100000 in
set_option maxHeartbeats 4000000 in
theorem tX6_ends_b171 {ad : Nat → Nat} {thr : Int32} {tpd : Int32} {siz : Int32} {too : Int32} {frm : Int32} {srt : Int32} {num : Int32} {flt : Int32} {plc : Int32} {wrd : Int64} {snm : Int32} {lin : Int32} {sfo : Int32} {tp : Nat → Int32} {rd : Nat → Int32} {kp : Nat → Int32} {sn : Nat → Int32} {stp' : Int32} {hst' : Int32} {nw' : Nat → Int32} {rec132 : Int32 → Int32 → Int32 → (Nat → Int32) → Option (Int32 × Int32 × (Nat → Int32))} (C : Cx p s m args meth c cX6_ends none 2 wsX6_ends RX6 D cI cB cL cK) (hA : ∀ q : Nat, s.heap.size ≤ q → A q) (hret : ∀ (pc : Nat) (ls : Array Slot) (H : Heap) (locs : List Loc), decode cX6_ends pc = .ok (.return_, 1) → va_P D vwCl (wM cI ad thr tpd siz too frm srt num flt plc wrd snm lin stp' sfo hst' tp nw' rd kp sn) H → va_D A (wM cI ad thr tpd siz too frm srt num flt plc wrd snm lin stp' sfo hst' tp nw' rd kp sn) → va_S A s.heap H locs → W p l e rmX6_ends s m args below meth c H locs 0 0 Q (F0 m pc ls [])) (hrec132 : ∀ (x1 : Int32) (stp : Int32) (hst : Int32) (nw : Nat → Int32), rec132 x1 stp hst nw = some (stp', hst', nw') → ∀ (H : Heap) (locs : List Loc) (ls : Array Slot), va_P D vwCl (wM cI ad thr tpd siz too frm srt num flt plc wrd snm lin stp sfo hst tp nw rd kp sn) H → va_D A (wM cI ad thr tpd siz too frm srt num flt plc wrd snm lin stp sfo hst tp nw rd kp sn) → va_S A s.heap H locs → lv_has ls 2 [(0, .ref (ad 0)), (1, .int x1)] → W p l e rmX6_ends s m args below meth c H locs 0 0 Q (F0 m 132 ls [])) : ∀ (x1 : Int32) (stp : Int32) (hst : Int32) (nw : Nat → Int32), mX6_ends_b171 rec132 sfo x1 stp hst nw = some (stp', hst', nw') → ∀ (H : Heap) (locs : List Loc) (ls : Array Slot), va_P D vwCl (wM cI ad thr tpd siz too frm srt num flt plc wrd snm lin stp sfo hst tp nw rd kp sn) H → va_D A (wM cI ad thr tpd siz too frm srt num flt plc wrd snm lin stp sfo hst tp nw rd kp sn) → va_S A s.heap H locs → lv_has ls 2 [(0, .ref (ad 0)), (1, .int x1)] → W p l e rmX6_ends s m args below meth c H locs 0 0 Q (F0 m 171 ls [.ref (ad 0)]) := by
  obtain ⟨hx, hb, hr, hml, hown, hts, hlk, hK⟩ := id C
  have hcf : CallFix p m c cX6_ends 2 s args wsX6_ends RX6 := ⟨hx, hb, hml, hown, hts⟩
  intro x1 stp hst nw hm H locs ls hP hD hS hl
  unfold mX6_ends_b171 at hm
  refine lv_iconst (v := 1) hx hb dX6_ends_171 (by decide) ?_
  refine lv_goto (tgt := 176) hx hb dX6_ends_172 (by decide) ?_
  refine pf (q0 := 0) (X' := (wM cI ad thr tpd siz too frm srt num flt plc wrd snm lin stp sfo 1 tp nw rd kp sn)) hx hb hts hown hK fpX6_ends_199 hP hD hS rfl rfl rfl (Nat.le_of_ble_eq_true rfl) rfl dX6_ends_176 (fun H locs hP hD hS => ?_)
  refine lv_iinc (v := (x1 + 1)) (lv' := [(1, .int (x1 + 1)), (0, .ref (ad 0))]) hx hb dX6_ends_179 hl (k := 1) rfl rfl (by decide) rfl (fun ls hl => ?_)
  refine lv_goto (tgt := 132) hx hb dX6_ends_182 (by decide) ?_
  exact hrec132 _ _ _ _ hm _ _ _ hP hD hS (lv_sub hl [1, 0] rfl)
set_option maxRecDepth 100000 in
set_option maxHeartbeats 4000000 in
theorem tX6_ends_L132 {ad : Nat → Nat} {thr : Int32} {tpd : Int32} {siz : Int32} {too : Int32} {frm : Int32} {srt : Int32} {num : Int32} {flt : Int32} {plc : Int32} {wrd : Int64} {snm : Int32} {lin : Int32} {sfo : Int32} {tp : Nat → Int32} {rd : Nat → Int32} {kp : Nat → Int32} {sn : Nat → Int32} {stp' : Int32} {hst' : Int32} {nw' : Nat → Int32} (C : Cx p s m args meth c cX6_ends none 2 wsX6_ends RX6 D cI cB cL cK) (hA : ∀ q : Nat, s.heap.size ≤ q → A q) (hret : ∀ (pc : Nat) (ls : Array Slot) (H : Heap) (locs : List Loc), decode cX6_ends pc = .ok (.return_, 1) → va_P D vwCl (wM cI ad thr tpd siz too frm srt num flt plc wrd snm lin stp' sfo hst' tp nw' rd kp sn) H → va_D A (wM cI ad thr tpd siz too frm srt num flt plc wrd snm lin stp' sfo hst' tp nw' rd kp sn) → va_S A s.heap H locs → W p l e rmX6_ends s m args below meth c H locs 0 0 Q (F0 m pc ls [])) : ∀ (n9 : Nat) (x1 : Int32) (stp : Int32) (hst : Int32) (nw : Nat → Int32), mX6_ends_L132 n9 sfo x1 stp hst nw = some (stp', hst', nw') → ∀ (H : Heap) (locs : List Loc) (ls : Array Slot), va_P D vwCl (wM cI ad thr tpd siz too frm srt num flt plc wrd snm lin stp sfo hst tp nw rd kp sn) H → va_D A (wM cI ad thr tpd siz too frm srt num flt plc wrd snm lin stp sfo hst tp nw rd kp sn) → va_S A s.heap H locs → lv_has ls 2 [(0, .ref (ad 0)), (1, .int x1)] → W p l e rmX6_ends s m args below meth c H locs 0 0 Q (F0 m 132 ls []) := by
  obtain ⟨hx, hb, hr, hml, hown, hts, hlk, hK⟩ := id C
  have hcf : CallFix p m c cX6_ends 2 s args wsX6_ends RX6 := ⟨hx, hb, hml, hown, hts⟩
  intro n9
  induction n9 with
  | zero => intro x1 stp hst nw hm; cases hm
  | succ k ih =>
    intro x1 stp hst nw hm H locs ls hP hD hS hl
    rw [mX6_ends_L132.eq_2] at hm
    refine lv_iload_n hx hb dX6_ends_132 rfl (lv_at hl 1 rfl) ?_
    refine lv_aload_n hx hb dX6_ends_133 rfl (lv_at hl 0 rfl) ?_
    refine gf (q0 := 0) hx hb hts hown hK flX6_ends_70 hP rfl rfl dX6_ends_134 ?_
    refine lv_iconst (v := 3) hx hb dX6_ends_137 (by decide) ?_
    refine ald (q0 := 2) (k := 3) hx hb hK hP rfl (by decide) (by decide) dX6_ends_138 ?_
    refine lv_icmp_ge (tgt := 185) hx hb dX6_ends_139 (by decide) (fun c_27 => ?_) (fun c_27 => ?_)
    · replace hm := br_p hm c_27
      refine lv_iconst (v := 0) hx hb dX6_ends_185 (by decide) ?_
      refine lv_istore_n (lv' := [(1, .int 0), (0, .ref (ad 0))]) hx hb dX6_ends_186 rfl hl (by decide) rfl (fun ls hl => ?_)
      exact tX6_ends_L187 C hA hret _ _ _ _ _ hm _ _ _ hP hD hS (lv_sub hl [1, 0] rfl)
    · replace hm := br_n hm c_27
      refine lv_aload_n hx hb dX6_ends_142 rfl (lv_at hl 0 rfl) ?_
      refine lv_iconst (v := (-1)) hx hb dX6_ends_143 (by decide) ?_
      refine pf (q0 := 0) (X' := (wM cI ad thr tpd siz too frm srt num flt plc wrd snm lin (-1) sfo hst tp nw rd kp sn)) hx hb hts hown hK fpX6_ends_190 hP hD hS rfl rfl rfl (Nat.le_of_ble_eq_true rfl) rfl dX6_ends_144 (fun H locs hP hD hS => ?_)
      refine lv_aload_n hx hb dX6_ends_147 rfl (lv_at hl 0 rfl) ?_
      refine lv_iload_n hx hb dX6_ends_148 rfl (lv_at hl 1 rfl) ?_
      obtain ⟨stp28, nw29, h_30, hm⟩ := b2_s hm
      refine mu_vv hcf (kX6_steps h_30) (cwX6_ends_X6_steps hts) hK hP hD hS hA Jn.rf (ci := 6) (q0 := 0) rfl rfl rfl hl.1 rfl (Nat.le_of_ble_eq_true rfl) dX6_ends_149 ⟨Nat.zero_le _, Nat.zero_le _⟩ (fun H locs hP hD hS => ?_)
      refine lv_aload_n hx hb dX6_ends_152 rfl (lv_at hl 0 rfl) ?_
      refine lv_aload_n hx hb dX6_ends_153 rfl (lv_at hl 0 rfl) ?_
      refine gf (q0 := 0) hx hb hts hown hK flX6_ends_199 hP rfl rfl dX6_ends_154 ?_
      refine lv_if_ne (tgt := 171) hx hb dX6_ends_157 (by decide) (fun c_31 => ?_) (fun c_31 => ?_)
      · replace hm := br_n hm c_31
        exact tX6_ends_b171 C hA hret ih _ _ _ _ hm _ _ _ hP hD hS (lv_sub hl [0, 1] rfl)
      · replace hm := br_p hm c_31
        refine lv_aload_n hx hb dX6_ends_160 rfl (lv_at hl 0 rfl) ?_
        refine gf (q0 := 0) hx hb hts hown hK flX6_ends_190 hP rfl rfl dX6_ends_161 ?_
        refine lv_aload_n hx hb dX6_ends_164 rfl (lv_at hl 0 rfl) ?_
        refine gf (q0 := 0) hx hb hts hown hK flX6_ends_206 hP rfl rfl dX6_ends_165 ?_
        refine lv_icmp_ne (tgt := 175) hx hb dX6_ends_168 (by decide) (fun c_32 => ?_) (fun c_32 => ?_)
        · replace hm := br_n hm c_32
          refine lv_iconst (v := 0) hx hb dX6_ends_175 (by decide) ?_
          refine pf (q0 := 0) (X' := (wM cI ad thr tpd siz too frm srt num flt plc wrd snm lin stp28 sfo 0 tp nw29 rd kp sn)) hx hb hts hown hK fpX6_ends_199 hP hD hS rfl rfl rfl (Nat.le_of_ble_eq_true rfl) rfl dX6_ends_176 (fun H locs hP hD hS => ?_)
          refine lv_iinc (v := (x1 + 1)) (lv' := [(1, .int (x1 + 1)), (0, .ref (ad 0))]) hx hb dX6_ends_179 hl (k := 1) rfl rfl (by decide) rfl (fun ls hl => ?_)
          refine lv_goto (tgt := 132) hx hb dX6_ends_182 (by decide) ?_
          exact ih _ _ _ _ hm _ _ _ hP hD hS (lv_sub hl [1, 0] rfl)
        · replace hm := br_p hm c_32
          exact tX6_ends_b171 C hA hret ih _ _ _ _ hm _ _ _ hP hD hS (lv_sub hl [0, 1] rfl)
set_option maxRecDepth 100000 in
set_option maxHeartbeats 4000000 in
theorem tX6_ends_L79 {ad : Nat → Nat} {thr : Int32} {tpd : Int32} {siz : Int32} {too : Int32} {frm : Int32} {srt : Int32} {num : Int32} {flt : Int32} {plc : Int32} {wrd : Int64} {snm : Int32} {lin : Int32} {sfo : Int32} {tp : Nat → Int32} {rd : Nat → Int32} {kp : Nat → Int32} {sn : Nat → Int32} {stp' : Int32} {hst' : Int32} {nw' : Nat → Int32} (C : Cx p s m args meth c cX6_ends none 2 wsX6_ends RX6 D cI cB cL cK) (hA : ∀ q : Nat, s.heap.size ≤ q → A q) (hret : ∀ (pc : Nat) (ls : Array Slot) (H : Heap) (locs : List Loc), decode cX6_ends pc = .ok (.return_, 1) → va_P D vwCl (wM cI ad thr tpd siz too frm srt num flt plc wrd snm lin stp' sfo hst' tp nw' rd kp sn) H → va_D A (wM cI ad thr tpd siz too frm srt num flt plc wrd snm lin stp' sfo hst' tp nw' rd kp sn) → va_S A s.heap H locs → W p l e rmX6_ends s m args below meth c H locs 0 0 Q (F0 m pc ls [])) : ∀ (n9 : Nat) (x1 : Int32) (stp : Int32) (hst : Int32) (nw : Nat → Int32), mX6_ends_L79 n9 sfo x1 stp hst nw = some (stp', hst', nw') → ∀ (H : Heap) (locs : List Loc) (ls : Array Slot), va_P D vwCl (wM cI ad thr tpd siz too frm srt num flt plc wrd snm lin stp sfo hst tp nw rd kp sn) H → va_D A (wM cI ad thr tpd siz too frm srt num flt plc wrd snm lin stp sfo hst tp nw rd kp sn) → va_S A s.heap H locs → lv_has ls 2 [(0, .ref (ad 0)), (1, .int x1)] → W p l e rmX6_ends s m args below meth c H locs 0 0 Q (F0 m 79 ls []) := by
  obtain ⟨hx, hb, hr, hml, hown, hts, hlk, hK⟩ := id C
  have hcf : CallFix p m c cX6_ends 2 s args wsX6_ends RX6 := ⟨hx, hb, hml, hown, hts⟩
  intro n9
  induction n9 with
  | zero => intro x1 stp hst nw hm; cases hm
  | succ k ih =>
    intro x1 stp hst nw hm H locs ls hP hD hS hl
    rw [mX6_ends_L79.eq_2] at hm
    refine lv_iload_n hx hb dX6_ends_79 rfl (lv_at hl 1 rfl) ?_
    refine lv_aload_n hx hb dX6_ends_80 rfl (lv_at hl 0 rfl) ?_
    refine gf (q0 := 0) hx hb hts hown hK flX6_ends_70 hP rfl rfl dX6_ends_81 ?_
    refine lv_iconst (v := 3) hx hb dX6_ends_84 (by decide) ?_
    refine ald (q0 := 2) (k := 3) hx hb hK hP rfl (by decide) (by decide) dX6_ends_85 ?_
    refine lv_icmp_ge (tgt := 115) hx hb dX6_ends_86 (by decide) (fun c_19 => ?_) (fun c_19 => ?_)
    · replace hm := br_p hm c_19
      refine lv_aload_n hx hb dX6_ends_115 rfl (lv_at hl 0 rfl) ?_
      refine gf (q0 := 0) hx hb hts hown hK flX6_ends_70 hP rfl rfl dX6_ends_116 ?_
      refine lv_iconst (v := 0) hx hb dX6_ends_119 (by decide) ?_
      refine lv_dup2_11 hx hb dX6_ends_120 rfl rfl ?_
      refine ald (q0 := 2) (k := 0) hx hb hK hP rfl (by decide) (by decide) dX6_ends_121 ?_
      refine lv_iconst (v := 1) hx hb dX6_ends_122 (by decide) ?_
      refine lv_iadd hx hb dX6_ends_123 ?_
      refine ast (q0 := 2) (k := 0) (X' := (wM cI ad thr tpd siz too frm srt num flt plc wrd snm lin stp sfo hst tp (upd nw 0 ((nw 0) + 1)) rd kp sn)) hx hb hK hP hD hS rfl (by decide) (by decide) rfl dX6_ends_124 (fun H locs hP hD hS => ?_)
      refine lv_aload_n hx hb dX6_ends_125 rfl (lv_at hl 0 rfl) ?_
      refine lv_iconst (v := 0) hx hb dX6_ends_126 (by decide) ?_
      refine pf (q0 := 0) (X' := (wM cI ad thr tpd siz too frm srt num flt plc wrd snm lin stp sfo 0 tp (upd nw 0 ((nw 0) + 1)) rd kp sn)) hx hb hts hown hK fpX6_ends_199 hP hD hS rfl rfl rfl (Nat.le_of_ble_eq_true rfl) rfl dX6_ends_127 (fun H locs hP hD hS => ?_)
      refine lv_iconst (v := 0) hx hb dX6_ends_130 (by decide) ?_
      refine lv_istore_n (lv' := [(1, .int 0), (0, .ref (ad 0))]) hx hb dX6_ends_131 rfl hl (by decide) rfl (fun ls hl => ?_)
      exact tX6_ends_L132 C hA hret _ _ _ _ _ hm _ _ _ hP hD hS (lv_sub hl [1, 0] rfl)
    · replace hm := br_n hm c_19
      refine lv_aload_n hx hb dX6_ends_89 rfl (lv_at hl 0 rfl) ?_
      refine lv_iload_n hx hb dX6_ends_90 rfl (lv_at hl 1 rfl) ?_
      obtain ⟨nw20, h_21, hm⟩ := b1_s hm
      refine mu_vv hcf (kX6_endsPromise h_21) (cwX6_ends_X6_endsPromise hts) hK hP hD hS hA Jn.rf (ci := 6) (q0 := 0) rfl rfl rfl hl.1 rfl (Nat.le_of_ble_eq_true rfl) dX6_ends_91 ⟨Nat.zero_le _, Nat.zero_le _⟩ (fun H locs hP hD hS => ?_)
      refine lv_aload_n hx hb dX6_ends_94 rfl (lv_at hl 0 rfl) ?_
      refine lv_iload_n hx hb dX6_ends_95 rfl (lv_at hl 1 rfl) ?_
      refine lv_bipush (v := 9) hx hb dX6_ends_96 (by decide) ?_
      obtain ⟨v22, h_23, hm⟩ := b1_s hm
      refine rd_v hcf (kX6_its h_23) (cwX6_ends_X6_its hts) hK hP Sb.rf (ci := 6) (q0 := 0) rfl rfl rfl hl.1 rfl (Nat.le_of_ble_eq_true rfl) dX6_ends_98 ⟨Nat.zero_le _, Nat.zero_le _⟩ ?_
      refine lv_if_le (tgt := 109) hx hb dX6_ends_101 (by decide) (fun c_24 => ?_) (fun c_24 => ?_)
      · replace hm := br_p hm c_24
        refine lv_iinc (v := (x1 + 1)) (lv' := [(1, .int (x1 + 1)), (0, .ref (ad 0))]) hx hb dX6_ends_109 hl (k := 1) rfl rfl (by decide) rfl (fun ls hl => ?_)
        refine lv_goto (tgt := 79) hx hb dX6_ends_112 (by decide) ?_
        exact ih _ _ _ _ hm _ _ _ hP hD hS (lv_sub hl [1, 0] rfl)
      · replace hm := br_n hm c_24
        refine lv_aload_n hx hb dX6_ends_104 rfl (lv_at hl 0 rfl) ?_
        refine lv_iload_n hx hb dX6_ends_105 rfl (lv_at hl 1 rfl) ?_
        obtain ⟨nw25, h_26, hm⟩ := b1_s hm
        refine mu_vv hcf (kX6_endsPlan h_26) (cwX6_ends_X6_endsPlan hts) hK hP hD hS hA Jn.rf (ci := 6) (q0 := 0) rfl rfl rfl hl.1 rfl (Nat.le_of_ble_eq_true rfl) dX6_ends_106 ⟨Nat.zero_le _, Nat.zero_le _⟩ (fun H locs hP hD hS => ?_)
        refine lv_iinc (v := (x1 + 1)) (lv' := [(1, .int (x1 + 1)), (0, .ref (ad 0))]) hx hb dX6_ends_109 hl (k := 1) rfl rfl (by decide) rfl (fun ls hl => ?_)
        refine lv_goto (tgt := 79) hx hb dX6_ends_112 (by decide) ?_
        exact ih _ _ _ _ hm _ _ _ hP hD hS (lv_sub hl [1, 0] rfl)
set_option maxRecDepth 100000 in
set_option maxHeartbeats 4000000 in
theorem tX6_ends_L2 {ad : Nat → Nat} {thr : Int32} {tpd : Int32} {siz : Int32} {too : Int32} {frm : Int32} {srt : Int32} {num : Int32} {flt : Int32} {plc : Int32} {wrd : Int64} {snm : Int32} {lin : Int32} {sfo : Int32} {tp : Nat → Int32} {rd : Nat → Int32} {kp : Nat → Int32} {sn : Nat → Int32} {stp' : Int32} {hst' : Int32} {nw' : Nat → Int32} (C : Cx p s m args meth c cX6_ends none 2 wsX6_ends RX6 D cI cB cL cK) (hA : ∀ q : Nat, s.heap.size ≤ q → A q) (hret : ∀ (pc : Nat) (ls : Array Slot) (H : Heap) (locs : List Loc), decode cX6_ends pc = .ok (.return_, 1) → va_P D vwCl (wM cI ad thr tpd siz too frm srt num flt plc wrd snm lin stp' sfo hst' tp nw' rd kp sn) H → va_D A (wM cI ad thr tpd siz too frm srt num flt plc wrd snm lin stp' sfo hst' tp nw' rd kp sn) → va_S A s.heap H locs → W p l e rmX6_ends s m args below meth c H locs 0 0 Q (F0 m pc ls [])) : ∀ (n9 : Nat) (x1 : Int32) (stp : Int32) (hst : Int32) (nw : Nat → Int32), mX6_ends_L2 n9 sfo x1 stp hst nw = some (stp', hst', nw') → ∀ (H : Heap) (locs : List Loc) (ls : Array Slot), va_P D vwCl (wM cI ad thr tpd siz too frm srt num flt plc wrd snm lin stp sfo hst tp nw rd kp sn) H → va_D A (wM cI ad thr tpd siz too frm srt num flt plc wrd snm lin stp sfo hst tp nw rd kp sn) → va_S A s.heap H locs → lv_has ls 2 [(0, .ref (ad 0)), (1, .int x1)] → W p l e rmX6_ends s m args below meth c H locs 0 0 Q (F0 m 2 ls []) := by
  obtain ⟨hx, hb, hr, hml, hown, hts, hlk, hK⟩ := id C
  have hcf : CallFix p m c cX6_ends 2 s args wsX6_ends RX6 := ⟨hx, hb, hml, hown, hts⟩
  intro n9
  induction n9 with
  | zero => intro x1 stp hst nw hm; cases hm
  | succ k ih =>
    intro x1 stp hst nw hm H locs ls hP hD hS hl
    rw [mX6_ends_L2.eq_2] at hm
    refine lv_iload_n hx hb dX6_ends_2 rfl (lv_at hl 1 rfl) ?_
    refine lv_aload_n hx hb dX6_ends_3 rfl (lv_at hl 0 rfl) ?_
    refine gf (q0 := 0) hx hb hts hown hK flX6_ends_70 hP rfl rfl dX6_ends_4 ?_
    refine lv_iconst (v := 4) hx hb dX6_ends_7 (by decide) ?_
    refine ald (q0 := 2) (k := 4) hx hb hK hP rfl (by decide) (by decide) dX6_ends_8 ?_
    refine lv_icmp_ge (tgt := 77) hx hb dX6_ends_9 (by decide) (fun c_1 => ?_) (fun c_1 => ?_)
    · replace hm := br_p hm c_1
      refine lv_iconst (v := 0) hx hb dX6_ends_77 (by decide) ?_
      refine lv_istore_n (lv' := [(1, .int 0), (0, .ref (ad 0))]) hx hb dX6_ends_78 rfl hl (by decide) rfl (fun ls hl => ?_)
      exact tX6_ends_L79 C hA hret _ _ _ _ _ hm _ _ _ hP hD hS (lv_sub hl [1, 0] rfl)
    · replace hm := br_n hm c_1
      refine lv_aload_n hx hb dX6_ends_12 rfl (lv_at hl 0 rfl) ?_
      refine lv_iload_n hx hb dX6_ends_13 rfl (lv_at hl 1 rfl) ?_
      refine lv_aload_n hx hb dX6_ends_14 rfl (lv_at hl 0 rfl) ?_
      refine lv_iload_n hx hb dX6_ends_15 rfl (lv_at hl 1 rfl) ?_
      refine lv_iconst (v := 0) hx hb dX6_ends_16 (by decide) ?_
      obtain ⟨v2, h_3, hm⟩ := b1_s hm
      refine rd_v hcf (kX6_billed h_3) (cwX6_ends_X6_billed hts) hK hP Sb.rf (ci := 6) (q0 := 0) rfl rfl rfl hl.1 rfl (Nat.le_of_ble_eq_true rfl) dX6_ends_17 ⟨Nat.zero_le _, Nat.zero_le _⟩ ?_
      obtain ⟨v4, h_5, hm⟩ := b1_s hm
      refine rd_v hcf (kX6_counts h_5) (cwX6_ends_X6_counts hts) hK hP Sb.rf (ci := 6) (q0 := 0) rfl rfl rfl hl.1 rfl (Nat.le_of_ble_eq_true rfl) dX6_ends_20 ⟨Nat.zero_le _, Nat.zero_le _⟩ ?_
      refine lv_if_eq (tgt := 71) hx hb dX6_ends_23 (by decide) (fun c_6 => ?_) (fun c_6 => ?_)
      · replace hm := br_p hm c_6
        refine lv_iinc (v := (x1 + 1)) (lv' := [(1, .int (x1 + 1)), (0, .ref (ad 0))]) hx hb dX6_ends_71 hl (k := 1) rfl rfl (by decide) rfl (fun ls hl => ?_)
        refine lv_goto (tgt := 2) hx hb dX6_ends_74 (by decide) ?_
        exact ih _ _ _ _ hm _ _ _ hP hD hS (lv_sub hl [1, 0] rfl)
      · replace hm := br_n hm c_6
        refine lv_aload_n hx hb dX6_ends_26 rfl (lv_at hl 0 rfl) ?_
        obtain ⟨v7, h_8, hm⟩ := b1_s hm
        refine rd_v hcf (kX6_today h_8) (cwX6_ends_X6_today hts) hK hP Sb.rf (ci := 6) (q0 := 0) rfl rfl rfl hl.1 rfl (Nat.le_of_ble_eq_true rfl) dX6_ends_27 ⟨Nat.zero_le _, Nat.zero_le _⟩ ?_
        refine lv_aload_n hx hb dX6_ends_30 rfl (lv_at hl 0 rfl) ?_
        refine lv_iload_n hx hb dX6_ends_31 rfl (lv_at hl 1 rfl) ?_
        refine lv_iconst (v := 3) hx hb dX6_ends_32 (by decide) ?_
        obtain ⟨v9, h_10, hm⟩ := b1_s hm
        refine rd_v hcf (kX6_billed h_10) (cwX6_ends_X6_billed hts) hK hP Sb.rf (ci := 6) (q0 := 0) rfl rfl rfl hl.1 rfl (Nat.le_of_ble_eq_true rfl) dX6_ends_33 ⟨Nat.zero_le _, Nat.zero_le _⟩ ?_
        refine lv_icmp_lt (tgt := 71) hx hb dX6_ends_36 (by decide) (fun c_11 => ?_) (fun c_11 => ?_)
        · replace hm := br_p hm c_11
          refine lv_iinc (v := (x1 + 1)) (lv' := [(1, .int (x1 + 1)), (0, .ref (ad 0))]) hx hb dX6_ends_71 hl (k := 1) rfl rfl (by decide) rfl (fun ls hl => ?_)
          refine lv_goto (tgt := 2) hx hb dX6_ends_74 (by decide) ?_
          exact ih _ _ _ _ hm _ _ _ hP hD hS (lv_sub hl [1, 0] rfl)
        · replace hm := br_n hm c_11
          refine lv_aload_n hx hb dX6_ends_39 rfl (lv_at hl 0 rfl) ?_
          refine lv_aload_n hx hb dX6_ends_40 rfl (lv_at hl 0 rfl) ?_
          refine lv_iload_n hx hb dX6_ends_41 rfl (lv_at hl 1 rfl) ?_
          refine lv_iconst (v := 0) hx hb dX6_ends_42 (by decide) ?_
          obtain ⟨v12, h_13, hm⟩ := b1_s hm
          refine rd_v hcf (kX6_billed h_13) (cwX6_ends_X6_billed hts) hK hP Sb.rf (ci := 6) (q0 := 0) rfl rfl rfl hl.1 rfl (Nat.le_of_ble_eq_true rfl) dX6_ends_43 ⟨Nat.zero_le _, Nat.zero_le _⟩ ?_
          obtain ⟨v14, h_15, hm⟩ := b1_s hm
          refine rd_v hcf (kX6_isStopped h_15) (cwX6_ends_X6_isStopped hts) hK hP Sb.rf (ci := 6) (q0 := 0) rfl rfl rfl hl.1 rfl (Nat.le_of_ble_eq_true rfl) dX6_ends_46 ⟨Nat.zero_le _, Nat.zero_le _⟩ ?_
          refine lv_if_ne (tgt := 71) hx hb dX6_ends_49 (by decide) (fun c_16 => ?_) (fun c_16 => ?_)
          · replace hm := br_n hm c_16
            refine lv_iinc (v := (x1 + 1)) (lv' := [(1, .int (x1 + 1)), (0, .ref (ad 0))]) hx hb dX6_ends_71 hl (k := 1) rfl rfl (by decide) rfl (fun ls hl => ?_)
            refine lv_goto (tgt := 2) hx hb dX6_ends_74 (by decide) ?_
            exact ih _ _ _ _ hm _ _ _ hP hD hS (lv_sub hl [1, 0] rfl)
          · replace hm := br_p hm c_16
            refine lv_aload_n hx hb dX6_ends_52 rfl (lv_at hl 0 rfl) ?_
            refine gf (q0 := 0) hx hb hts hown hK flX6_ends_70 hP rfl rfl dX6_ends_53 ?_
            refine lv_sipush (v := 205) hx hb dX6_ends_56 (by decide) ?_
            refine lv_bipush (v := 7) hx hb dX6_ends_59 (by decide) ?_
            refine lv_iload_n hx hb dX6_ends_61 rfl (lv_at hl 1 rfl) ?_
            refine lv_imul hx hb dX6_ends_62 ?_
            refine lv_iadd hx hb dX6_ends_63 ?_
            refine lv_iconst (v := 4) hx hb dX6_ends_64 (by decide) ?_
            refine lv_iadd hx hb dX6_ends_65 ?_
            refine lv_dup2_11 hx hb dX6_ends_66 rfl rfl ?_
            obtain ⟨h_17, hm⟩ := ck_s hm
            refine ald (q0 := 2) (k := (((205 + (7 * x1)) + 4) : Int32).toNatClampNeg) hx hb hK hP rfl h_17 rfl dX6_ends_67 ?_
            refine lv_iconst (v := 1) hx hb dX6_ends_68 (by decide) ?_
            refine lv_iadd hx hb dX6_ends_69 ?_
            obtain ⟨h_18, hm⟩ := ck_s hm
            refine ast (q0 := 2) (k := (((205 + (7 * x1)) + 4) : Int32).toNatClampNeg) (X' := (wM cI ad thr tpd siz too frm srt num flt plc wrd snm lin stp sfo hst tp (upd nw ((((205 + (7 * x1)) + 4) : Int32).toNatClampNeg) ((nw ((((205 + (7 * x1)) + 4) : Int32).toNatClampNeg)) + 1)) rd kp sn)) hx hb hK hP hD hS rfl h_18 rfl rfl dX6_ends_70 (fun H locs hP hD hS => ?_)
            refine lv_iinc (v := (x1 + 1)) (lv' := [(1, .int (x1 + 1)), (0, .ref (ad 0))]) hx hb dX6_ends_71 hl (k := 1) rfl rfl (by decide) rfl (fun ls hl => ?_)
            refine lv_goto (tgt := 2) hx hb dX6_ends_74 (by decide) ?_
            exact ih _ _ _ _ hm _ _ _ hP hD hS (lv_sub hl [1, 0] rfl)
set_option maxRecDepth 100000 in
set_option maxHeartbeats 4000000 in
theorem kX6_ends {l : Launch} {D : va_G} {cI cB cL cK : ClassId} {ad : Nat → Nat} {thr : Int32} {tpd : Int32} {siz : Int32} {too : Int32} {frm : Int32} {srt : Int32} {num : Int32} {flt : Int32} {plc : Int32} {wrd : Int64} {snm : Int32} {lin : Int32} {stp : Int32} {sfo : Int32} {hst : Int32} {tp : Nat → Int32} {nw : Nat → Int32} {rd : Nat → Int32} {kp : Nat → Int32} {sn : Nat → Int32}  {stp' : Int32} {hst' : Int32} {nw' : Nat → Int32} (hm : mX6_ends stp sfo hst nw = some (stp', hst', nw')) : Mu l D cI cB cL cK yX6_ends wsX6_ends rmX6_ends [.ref (ad 0)] (wM cI ad thr tpd siz too frm srt num flt plc wrd snm lin stp sfo hst tp nw rd kp sn) (wM cI ad thr tpd siz too frm srt num flt plc wrd snm lin stp' sfo hst' tp nw' rd kp sn) none 0 0 := by
  refine Mu.ofv (cc := cX6_ends) (own := RX6) (by decide) rfl rfl (Nat.le_of_ble_eq_true rfl) (fun p e s m below meth c ls Q A C _ hA hP hD hS hl hret => ?_)
  obtain ⟨hx, hb, hr, hml, hown, hts, hlk, hK⟩ := id C
  have hcf : CallFix p m c cX6_ends 2 s _ wsX6_ends RX6 := ⟨hx, hb, hml, hown, hts⟩
  have hl : lv_has ls 2 [(0, .ref (ad 0))] := hl
  unfold mX6_ends at hm
  refine lv_iconst (v := 0) hx hb dX6_ends_0 (by decide) ?_
  refine lv_istore_n (lv' := [(1, .int 0), (0, .ref (ad 0))]) hx hb dX6_ends_1 rfl hl (by decide) rfl (fun ls hl => ?_)
  exact tX6_ends_L2 C hA hret _ _ _ _ _ hm _ _ _ hP hD hS (lv_sub hl [1, 0] rfl)
end
