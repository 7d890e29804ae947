section
variable {p : Program} {l : Launch} {e : Env} {s : State} {m : MethodId} {args : Array Value} {below : List Frame} {meth : Method} {c : Code} {Q : State → Prop} {A : Nat → Prop} {D : va_G} {cI cB cL cK : ClassId}
/-! X1 size()I -/
abbrev rmX1_size : Room := { frames := 0, cells := 0, slots := 0, locals := 0 }
theorem hdX1_size : yX1_size.cls = RX1 ∧ yX1_size.cls ≠ "java/lang/invoke/MethodHandle" ∧ yX1_size.cls ≠ "java/lang/invoke/VarHandle" ∧ (parseMethodDescriptor yX1_size.desc).map (fun d => d.parameters.length) = some 0 := by decide +kernel
theorem inX1_size_X1 : ∀ w ∈ u_ws RX1 TX1 3, w ∈ wsX1_size := by decide +kernel
theorem flX1_size_18 : Fl wsX1_size RX1 18 1 1 := ⟨_, _, _, rfl, by decide, inX1_size_X1, by decide +kernel⟩
set_option maxRecDepth 100000 in
set_option maxHeartbeats 4000000 in
theorem kX1_size {l : Launch} {D : va_G} {cI cB cL cK : ClassId} {hh : Nat} {hq : Nat} {kad : Nat → Nat → Nat} {ct : Int32} {tpp : Int32}  {res : Int32} (hm : mX1_size ct = some res) : Rd l D cI cB cL cK yX1_size wsX1_size rmX1_size [.ref hh] (wHI cK hh hq kad ct tpp) res := by
  refine Rd.of (cc := cX1_size) (own := RX1) (by decide) rfl rfl (Nat.le_of_ble_eq_true rfl) (fun p e s m below meth c ls Q C hP hl hret => ?_)
  obtain ⟨hx, hb, hr, hml, hown, hts, hlk, hK⟩ := id C
  have hcf : CallFix p m c cX1_size 1 s _ wsX1_size RX1 := ⟨hx, hb, hml, hown, hts⟩
  have hl : lv_has ls 1 [(0, .ref hh)] := hl
  unfold mX1_size at hm
  refine lv_aload_n hx hb dX1_size_0 rfl (lv_at hl 0 rfl) ?_
  refine gf (q0 := 0) hx hb hts hown hK flX1_size_18 hP rfl rfl dX1_size_1 ?_
  cases hm
  exact hret _ _ dX1_size_4 rfl
/-! X1 forget()V -/
abbrev rmX1_forget : Room := { frames := 0, cells := 0, slots := 0, locals := 0 }
theorem hdX1_forget : yX1_forget.cls = RX1 ∧ yX1_forget.cls ≠ "java/lang/invoke/MethodHandle" ∧ yX1_forget.cls ≠ "java/lang/invoke/VarHandle" ∧ (parseMethodDescriptor yX1_forget.desc).map (fun d => d.parameters.length) = some 0 := by decide +kernel
theorem inX1_forget_X1 : ∀ w ∈ u_ws RX1 TX1 3, w ∈ wsX1_forget := by decide +kernel
theorem fpX1_forget_18 : Fp wsX1_forget RX1 18 1 1 false .int := ⟨_, _, _, tyX1, rfl, by decide, inX1_forget_X1, by decide +kernel, tyX1_ok, nmX1, rfl, rfl, by decide +kernel⟩
set_option maxRecDepth 100000 in
set_option maxHeartbeats 4000000 in
theorem kX1_forget {l : Launch} {D : va_G} {cI cB cL cK : ClassId} {hh : Nat} {hq : Nat} {kad : Nat → Nat → Nat} {ct : Int32} {tpp : Int32}  {ct' : Int32} (hm : mX1_forget ct = some ct') : Mu l D cI cB cL cK yX1_forget wsX1_forget rmX1_forget [.ref hh] (wHI cK hh hq kad ct tpp) (wHI cK hh hq kad ct' tpp) none 0 0 := by
  refine Mu.ofv (cc := cX1_forget) (own := RX1) (by decide) rfl rfl (Nat.le_of_ble_eq_true rfl) (fun p e s m below meth c ls Q A C _ hA hP hD hS hl hret => ?_)
  obtain ⟨hx, hb, hr, hml, hown, hts, hlk, hK⟩ := id C
  have hcf : CallFix p m c cX1_forget 1 s _ wsX1_forget RX1 := ⟨hx, hb, hml, hown, hts⟩
  have hl : lv_has ls 1 [(0, .ref hh)] := hl
  unfold mX1_forget at hm
  refine lv_aload_n hx hb dX1_forget_0 rfl (lv_at hl 0 rfl) ?_
  refine lv_iconst (v := 0) hx hb dX1_forget_1 (by decide) ?_
  refine pf (q0 := 0) (X' := (wHI cK hh hq kad 0 tpp)) hx hb hts hown hK fpX1_forget_18 hP hD hS rfl rfl rfl (Nat.le_of_ble_eq_true rfl) rfl dX1_forget_2 (fun H locs hP hD hS => ?_)
  cases hm
  exact hret _ _ _ _ dX1_forget_5 hP hD hS
/-! X1 keep(LDunningHouse$Book;)V -/
abbrev rmX1_keep : Room := { frames := 3, cells := 0, slots := 0, locals := 103 }
theorem hdX1_keep : yX1_keep.cls = RX1 ∧ yX1_keep.cls ≠ "java/lang/invoke/MethodHandle" ∧ yX1_keep.cls ≠ "java/lang/invoke/VarHandle" ∧ (parseMethodDescriptor yX1_keep.desc).map (fun d => d.parameters.length) = some 1 := by decide +kernel
theorem inX1_keep_X1 : ∀ w ∈ u_ws RX1 TX1 3, w ∈ wsX1_keep := by decide +kernel
theorem cwX1_keep_X0_copyFrom {s : State} {args : Array Value} (hts : ∀ w ∈ wsX1_keep, w.before args s = true) : CallW rmX1_keep s args RX1 RX0 25 yX0_copyFrom cX0_copyFrom 2 none wsX0_copyFrom rmX0_copyFrom 0 0 1 := cwV 1 hts gX1_keep_X0_copyFrom rfl rfl rfl hdX0_copyFrom ⟨Nat.le_of_ble_eq_true rfl, Nat.le_of_ble_eq_true rfl⟩
theorem flX1_keep_11 : Fl wsX1_keep RX1 11 1 0 := ⟨_, _, _, rfl, by decide, inX1_keep_X1, by decide +kernel⟩
theorem flX1_keep_18 : Fl wsX1_keep RX1 18 1 1 := ⟨_, _, _, rfl, by decide, inX1_keep_X1, by decide +kernel⟩
theorem flX1_keep_22 : Fl wsX1_keep RX1 22 1 2 := ⟨_, _, _, rfl, by decide, inX1_keep_X1, by decide +kernel⟩
theorem fpX1_keep_18 : Fp wsX1_keep RX1 18 1 1 false .int := ⟨_, _, _, tyX1, rfl, by decide, inX1_keep_X1, by decide +kernel, tyX1_ok, nmX1, rfl, rfl, by decide +kernel⟩
theorem fpX1_keep_22 : Fp wsX1_keep RX1 22 1 2 false .int := ⟨_, _, _, tyX1, rfl, by decide, inX1_keep_X1, by decide +kernel, tyX1_ok, nmX1, rfl, rfl, by decide +kernel⟩
theorem mfX1_keep_min_cd : Cond.code Lib.Math.min.name Lib.Math.min.code 2 (some .int) ∈ wsX1_keep := by decide +kernel
theorem mfX1_keep_min_in : Cond.initialized "java/lang/Math" ∈ wsX1_keep := by decide +kernel
theorem mfX1_keep_min_ml : Cond.methodLink RX1 29 Lib.Math.min.name ∈ wsX1_keep := by decide +kernel
theorem mfX1_keep_min_st : Cond.static Lib.Math.min.name ∈ wsX1_keep := by decide +kernel
set_option maxRecDepth 100000 in
set_option maxHeartbeats 4000000 in
theorem tX1_keep_b70 {hh : Nat} {hq : Nat} {ad : Nat → Nat} {kad : Nat → Nat → Nat} {ho : Int32} {td : Int32} {pd : Int32} {sr : Int32} {dr : Int32} {ir : Int32} {qr : Int32} {sf : Nat → Int32} {df : Nat → Int32} {jf : Nat → Int32} {qf : Nat → Int32} {ct' : Int32} {tpp' : Int32} {kv' : Nat → BV} (C : Cx p s m args meth c cX1_keep none 2 wsX1_keep RX1 D cI cB cL cK) (hA : ∀ q : Nat, s.heap.size ≤ q → A q) (hret : ∀ (pc : Nat) (ls : Array Slot) (H : Heap) (locs : List Loc), decode cX1_keep pc = .ok (.return_, 1) → va_P D vwCl (wHS cI cK hh hq ad kad ct' tpp' ho td pd sr dr ir qr sf df jf qf kv') H → va_D A (wHS cI cK hh hq ad kad ct' tpp' ho td pd sr dr ir qr sf df jf qf kv') → va_S A s.heap H locs → W p l e rmX1_keep s m args below meth c H locs 0 0 Q (F0 m pc ls [])) : ∀ (k0 : Int32) (ct : Int32) (tpp : Int32) (kv : Nat → BV), mX1_keep_b70 ho td pd sr dr ir qr sf df jf qf k0 ct tpp kv = some (ct', tpp', kv') → ∀ (H : Heap) (locs : List Loc) (ls : Array Slot), va_P D vwCl (wHS cI cK hh hq ad kad ct tpp ho td pd sr dr ir qr sf df jf qf kv) H → va_D A (wHS cI cK hh hq ad kad ct tpp ho td pd sr dr ir qr sf df jf qf kv) → va_S A s.heap H locs → lv_has ls 2 [(0, .ref hh)] → W p l e rmX1_keep s m args below meth c H locs 0 0 Q (F0 m 70 ls [.int k0, .ref hh]) := by
  obtain ⟨hx, hb, hr, hml, hown, hts, hlk, hK⟩ := id C
  have hcf : CallFix p m c cX1_keep 2 s args wsX1_keep RX1 := ⟨hx, hb, hml, hown, hts⟩
  intro k0 ct tpp kv hm H locs ls hP hD hS hl
  unfold mX1_keep_b70 at hm
  refine pf (q0 := 0) (X' := (wHS cI cK hh hq ad kad ct k0 ho td pd sr dr ir qr sf df jf qf kv)) hx hb hts hown hK fpX1_keep_22 hP hD hS rfl rfl rfl (Nat.le_of_ble_eq_true rfl) rfl dX1_keep_70 (fun H locs hP hD hS => ?_)
  refine lv_aload_n hx hb dX1_keep_73 rfl (lv_at hl 0 rfl) ?_
  refine lv_aload_n hx hb dX1_keep_74 rfl (lv_at hl 0 rfl) ?_
  refine gf (q0 := 0) hx hb hts hown hK flX1_keep_18 hP rfl rfl dX1_keep_75 ?_
  refine lv_iconst (v := 1) hx hb dX1_keep_78 (by decide) ?_
  refine lv_iadd hx hb dX1_keep_79 ?_
  refine lv_aload_n hx hb dX1_keep_80 rfl (lv_at hl 0 rfl) ?_
  refine gf (q0 := 0) hx hb hts hown hK flX1_keep_11 hP rfl rfl dX1_keep_81 ?_
  refine aln (q0 := 1) (t0 := 3) (i := 10) hx hb hK hP rfl rfl rfl dX1_keep_84 ?_
  refine va_mmin hx hb (hml.trans hl.1.symm) hown (hts _ mfX1_keep_min_ml) (hts _ mfX1_keep_min_st) (hts _ mfX1_keep_min_in) (hts _ mfX1_keep_min_cd) (Nat.le_of_ble_eq_true rfl) (Nat.le_of_ble_eq_true rfl) (Nat.zero_le _) (Nat.zero_le _) dX1_keep_85 ?_
  refine pf (q0 := 0) (X' := (wHS cI cK hh hq ad kad (mnI (ct + 1) 10) k0 ho td pd sr dr ir qr sf df jf qf kv)) hx hb hts hown hK fpX1_keep_18 hP hD hS rfl rfl rfl (Nat.le_of_ble_eq_true rfl) rfl dX1_keep_88 (fun H locs hP hD hS => ?_)
  cases hm
  exact hret _ _ _ _ dX1_keep_91 hP hD hS
set_option maxRecDepth 100000 in
set_option maxHeartbeats 4000000 in
theorem kX1_keep {l : Launch} {D : va_G} {cI cB cL cK : ClassId} {hh : Nat} {hq : Nat} {ad : Nat → Nat} {kad : Nat → Nat → Nat} {ct : Int32} {tpp : Int32} {ho : Int32} {td : Int32} {pd : Int32} {sr : Int32} {dr : Int32} {ir : Int32} {qr : Int32} {sf : Nat → Int32} {df : Nat → Int32} {jf : Nat → Int32} {qf : Nat → Int32} {kv : Nat → BV}  {ct' : Int32} {tpp' : Int32} {kv' : Nat → BV} (hm : mX1_keep ct tpp ho td pd sr dr ir qr sf df jf qf kv = some (ct', tpp', kv')) : Mu l D cI cB cL cK yX1_keep wsX1_keep rmX1_keep [.ref hh, .ref (ad 0)] (wHS cI cK hh hq ad kad ct tpp ho td pd sr dr ir qr sf df jf qf kv) (wHS cI cK hh hq ad kad ct' tpp' ho td pd sr dr ir qr sf df jf qf kv') none 0 0 := by
  refine Mu.ofv (cc := cX1_keep) (own := RX1) (by decide) rfl rfl (Nat.le_of_ble_eq_true rfl) (fun p e s m below meth c ls Q A C _ hA hP hD hS hl hret => ?_)
  obtain ⟨hx, hb, hr, hml, hown, hts, hlk, hK⟩ := id C
  have hcf : CallFix p m c cX1_keep 2 s _ wsX1_keep RX1 := ⟨hx, hb, hml, hown, hts⟩
  have hl : lv_has ls 2 [(0, .ref hh), (1, .ref (ad 0))] := hl
  unfold mX1_keep at hm
  refine lv_aload_n hx hb dX1_keep_0 rfl (lv_at hl 0 rfl) ?_
  refine gf (q0 := 0) hx hb hts hown hK flX1_keep_22 hP rfl rfl dX1_keep_1 ?_
  refine lv_if_lt (tgt := 31) hx hb dX1_keep_4 (by decide) (fun c_1 => ?_) (fun c_1 => ?_)
  · replace hm := br_p hm c_1
    cases hm
    exact hret _ _ _ _ dX1_keep_31 hP hD hS
  · replace hm := br_n hm c_1
    refine lv_aload_n hx hb dX1_keep_7 rfl (lv_at hl 0 rfl) ?_
    refine gf (q0 := 0) hx hb hts hown hK flX1_keep_22 hP rfl rfl dX1_keep_8 ?_
    refine lv_aload_n hx hb dX1_keep_11 rfl (lv_at hl 0 rfl) ?_
    refine gf (q0 := 0) hx hb hts hown hK flX1_keep_11 hP rfl rfl dX1_keep_12 ?_
    refine aln (q0 := 1) (t0 := 3) (i := 10) hx hb hK hP rfl rfl rfl dX1_keep_15 ?_
    refine lv_icmp_ge (tgt := 31) hx hb dX1_keep_16 (by decide) (fun c_2 => ?_) (fun c_2 => ?_)
    · replace hm := br_p hm c_2
      cases hm
      exact hret _ _ _ _ dX1_keep_31 hP hD hS
    · replace hm := br_n hm c_2
      refine lv_aload_n hx hb dX1_keep_19 rfl (lv_at hl 0 rfl) ?_
      refine gf (q0 := 0) hx hb hts hown hK flX1_keep_11 hP rfl rfl dX1_keep_20 ?_
      refine lv_aload_n hx hb dX1_keep_23 rfl (lv_at hl 0 rfl) ?_
      refine gf (q0 := 0) hx hb hts hown hK flX1_keep_22 hP rfl rfl dX1_keep_24 ?_
      obtain ⟨h_3, hm⟩ := ck_s hm
      refine qld (kad := kad) (q0 := 1) (k := (tpp : Int32).toNatClampNeg) hx hb hK hP rfl h_3 rfl dX1_keep_27 ?_
      refine lv_ifnonnull (tgt := 32) hx hb dX1_keep_28 (by decide) ?_
      refine lv_aload_n hx hb dX1_keep_32 rfl (lv_at hl 0 rfl) ?_
      refine gf (q0 := 0) hx hb hts hown hK flX1_keep_11 hP rfl rfl dX1_keep_33 ?_
      refine lv_aload_n hx hb dX1_keep_36 rfl (lv_at hl 0 rfl) ?_
      refine gf (q0 := 0) hx hb hts hown hK flX1_keep_22 hP rfl rfl dX1_keep_37 ?_
      obtain ⟨h_4, hm⟩ := ck_s hm
      refine qld (kad := kad) (q0 := 1) (k := (tpp : Int32).toNatClampNeg) hx hb hK hP rfl h_4 rfl dX1_keep_40 ?_
      refine lv_aload_n hx hb dX1_keep_41 rfl (lv_at hl 1 rfl) ?_
      obtain ⟨ho5, td6, pd7, sr8, dr9, ir10, qr11, sf12, df13, jf14, qf15, h_16, hm⟩ := b11_s hm
      refine mu_vvH hcf (kX0_copyFrom h_16) (cwX1_keep_X0_copyFrom hts) hK hP hD hS hA (jHS_keep (inr_lt h_4)) (hb_recv (inr_lt h_4) hK hP Sb.right) rfl hl.1 rfl (Nat.le_of_ble_eq_true rfl) dX1_keep_42 ⟨Nat.zero_le _, Nat.zero_le _⟩ (fun H locs hP hD hS => ?_)
      refine lv_aload_n hx hb dX1_keep_45 rfl (lv_at hl 0 rfl) ?_
      refine lv_aload_n hx hb dX1_keep_46 rfl (lv_at hl 0 rfl) ?_
      refine gf (q0 := 0) hx hb hts hown hK flX1_keep_22 hP rfl rfl dX1_keep_47 ?_
      refine lv_iconst (v := 1) hx hb dX1_keep_50 (by decide) ?_
      refine lv_iadd hx hb dX1_keep_51 ?_
      refine lv_aload_n hx hb dX1_keep_52 rfl (lv_at hl 0 rfl) ?_
      refine gf (q0 := 0) hx hb hts hown hK flX1_keep_11 hP rfl rfl dX1_keep_53 ?_
      refine aln (q0 := 1) (t0 := 3) (i := 10) hx hb hK hP rfl rfl rfl dX1_keep_56 ?_
      refine lv_icmp_ge (tgt := 69) hx hb dX1_keep_57 (by decide) (fun c_17 => ?_) (fun c_17 => ?_)
      · replace hm := br_p hm c_17
        refine lv_iconst (v := 0) hx hb dX1_keep_69 (by decide) ?_
        exact tX1_keep_b70 C hA hret _ _ _ _ hm _ _ _ hP hD hS (lv_sub hl [0] rfl)
      · replace hm := br_n hm c_17
        refine lv_aload_n hx hb dX1_keep_60 rfl (lv_at hl 0 rfl) ?_
        refine gf (q0 := 0) hx hb hts hown hK flX1_keep_22 hP rfl rfl dX1_keep_61 ?_
        refine lv_iconst (v := 1) hx hb dX1_keep_64 (by decide) ?_
        refine lv_iadd hx hb dX1_keep_65 ?_
        refine lv_goto (tgt := 70) hx hb dX1_keep_66 (by decide) ?_
        exact tX1_keep_b70 C hA hret _ _ _ _ hm _ _ _ hP hD hS (lv_sub hl [0] rfl)
/-! X1 restore(LDunningHouse$Book;)V -/
abbrev rmX1_restore : Room := { frames := 3, cells := 0, slots := 0, locals := 103 }
theorem hdX1_restore : yX1_restore.cls = RX1 ∧ yX1_restore.cls ≠ "java/lang/invoke/MethodHandle" ∧ yX1_restore.cls ≠ "java/lang/invoke/VarHandle" ∧ (parseMethodDescriptor yX1_restore.desc).map (fun d => d.parameters.length) = some 1 := by decide +kernel
theorem inX1_restore_X1 : ∀ w ∈ u_ws RX1 TX1 3, w ∈ wsX1_restore := by decide +kernel
theorem cwX1_restore_X0_copyFrom {s : State} {args : Array Value} (hts : ∀ w ∈ wsX1_restore, w.before args s = true) : CallW rmX1_restore s args RX1 RX0 25 yX0_copyFrom cX0_copyFrom 2 none wsX0_copyFrom rmX0_copyFrom 0 0 1 := cwV 1 hts gX1_restore_X0_copyFrom rfl rfl rfl hdX0_copyFrom ⟨Nat.le_of_ble_eq_true rfl, Nat.le_of_ble_eq_true rfl⟩
theorem flX1_restore_11 : Fl wsX1_restore RX1 11 1 0 := ⟨_, _, _, rfl, by decide, inX1_restore_X1, by decide +kernel⟩
theorem flX1_restore_18 : Fl wsX1_restore RX1 18 1 1 := ⟨_, _, _, rfl, by decide, inX1_restore_X1, by decide +kernel⟩
theorem flX1_restore_22 : Fl wsX1_restore RX1 22 1 2 := ⟨_, _, _, rfl, by decide, inX1_restore_X1, by decide +kernel⟩
theorem fpX1_restore_18 : Fp wsX1_restore RX1 18 1 1 false .int := ⟨_, _, _, tyX1, rfl, by decide, inX1_restore_X1, by decide +kernel, tyX1_ok, nmX1, rfl, rfl, by decide +kernel⟩
theorem fpX1_restore_22 : Fp wsX1_restore RX1 22 1 2 false .int := ⟨_, _, _, tyX1, rfl, by decide, inX1_restore_X1, by decide +kernel, tyX1_ok, nmX1, rfl, rfl, by decide +kernel⟩
set_option maxRecDepth 100000 in
set_option maxHeartbeats 4000000 in
theorem tX1_restore_b23 {hh : Nat} {hq : Nat} {ad : Nat → Nat} {kad : Nat → Nat → Nat} {kv : Nat → BV} {ct' : Int32} {tpp' : Int32} {ho' : Int32} {td' : Int32} {pd' : Int32} {sr' : Int32} {dr' : Int32} {ir' : Int32} {qr' : Int32} {sf' : Nat → Int32} {df' : Nat → Int32} {jf' : Nat → Int32} {qf' : Nat → Int32} (C : Cx p s m args meth c cX1_restore none 3 wsX1_restore RX1 D cI cB cL cK) (hA : ∀ q : Nat, s.heap.size ≤ q → A q) (hret : ∀ (pc : Nat) (ls : Array Slot) (H : Heap) (locs : List Loc), decode cX1_restore pc = .ok (.return_, 1) → va_P D vwCl (wHS cI cK hh hq ad kad ct' tpp' ho' td' pd' sr' dr' ir' qr' sf' df' jf' qf' kv) H → va_D A (wHS cI cK hh hq ad kad ct' tpp' ho' td' pd' sr' dr' ir' qr' sf' df' jf' qf' kv) → va_S A s.heap H locs → W p l e rmX1_restore s m args below meth c H locs 0 0 Q (F0 m pc ls [])) : ∀ (k0 : Int32) (ct : Int32) (tpp : Int32) (ho : Int32) (td : Int32) (pd : Int32) (sr : Int32) (dr : Int32) (ir : Int32) (qr : Int32) (sf : Nat → Int32) (df : Nat → Int32) (jf : Nat → Int32) (qf : Nat → Int32), mX1_restore_b23 kv k0 ct tpp ho td pd sr dr ir qr sf df jf qf = some (ct', tpp', ho', td', pd', sr', dr', ir', qr', sf', df', jf', qf') → ∀ (H : Heap) (locs : List Loc) (ls : Array Slot), va_P D vwCl (wHS cI cK hh hq ad kad ct tpp ho td pd sr dr ir qr sf df jf qf kv) H → va_D A (wHS cI cK hh hq ad kad ct tpp ho td pd sr dr ir qr sf df jf qf kv) → va_S A s.heap H locs → lv_has ls 3 [(0, .ref hh), (1, .ref (ad 0))] → W p l e rmX1_restore s m args below meth c H locs 0 0 Q (F0 m 23 ls [.int k0]) := by
  obtain ⟨hx, hb, hr, hml, hown, hts, hlk, hK⟩ := id C
  have hcf : CallFix p m c cX1_restore 3 s args wsX1_restore RX1 := ⟨hx, hb, hml, hown, hts⟩
  intro k0 ct tpp ho td pd sr dr ir qr sf df jf qf hm H locs ls hP hD hS hl
  unfold mX1_restore_b23 at hm
  refine lv_istore_n (lv' := [(2, .int k0), (0, .ref hh), (1, .ref (ad 0))]) hx hb dX1_restore_23 rfl hl (by decide) rfl (fun ls hl => ?_)
  refine lv_aload_n hx hb dX1_restore_24 rfl (lv_at hl 1 rfl) ?_
  refine gf (q0 := 0) hx hb hts hown hK flX1_restore_18 hP rfl rfl dX1_restore_25 ?_
  refine lv_if_eq (tgt := 53) hx hb dX1_restore_28 (by decide) (fun c_2 => ?_) (fun c_2 => ?_)
  · replace hm := br_p hm c_2
    cases hm
    exact hret _ _ _ _ dX1_restore_53 hP hD hS
  · replace hm := br_n hm c_2
    refine lv_iload_n hx hb dX1_restore_31 rfl (lv_at hl 0 rfl) ?_
    refine lv_if_lt (tgt := 53) hx hb dX1_restore_32 (by decide) (fun c_3 => ?_) (fun c_3 => ?_)
    · replace hm := br_p hm c_3
      cases hm
      exact hret _ _ _ _ dX1_restore_53 hP hD hS
    · replace hm := br_n hm c_3
      refine lv_iload_n hx hb dX1_restore_35 rfl (lv_at hl 0 rfl) ?_
      refine lv_aload_n hx hb dX1_restore_36 rfl (lv_at hl 1 rfl) ?_
      refine gf (q0 := 0) hx hb hts hown hK flX1_restore_11 hP rfl rfl dX1_restore_37 ?_
      refine aln (q0 := 1) (t0 := 3) (i := 10) hx hb hK hP rfl rfl rfl dX1_restore_40 ?_
      refine lv_icmp_ge (tgt := 53) hx hb dX1_restore_41 (by decide) (fun c_4 => ?_) (fun c_4 => ?_)
      · replace hm := br_p hm c_4
        cases hm
        exact hret _ _ _ _ dX1_restore_53 hP hD hS
      · replace hm := br_n hm c_4
        refine lv_aload_n hx hb dX1_restore_44 rfl (lv_at hl 1 rfl) ?_
        refine gf (q0 := 0) hx hb hts hown hK flX1_restore_11 hP rfl rfl dX1_restore_45 ?_
        refine lv_iload_n hx hb dX1_restore_48 rfl (lv_at hl 0 rfl) ?_
        obtain ⟨h_5, hm⟩ := ck_s hm
        refine qld (kad := kad) (q0 := 1) (k := (k0 : Int32).toNatClampNeg) hx hb hK hP rfl h_5 rfl dX1_restore_49 ?_
        refine lv_ifnonnull (tgt := 54) hx hb dX1_restore_50 (by decide) ?_
        refine lv_aload_n hx hb dX1_restore_54 rfl (lv_at hl 2 rfl) ?_
        refine lv_aload_n hx hb dX1_restore_55 rfl (lv_at hl 1 rfl) ?_
        refine gf (q0 := 0) hx hb hts hown hK flX1_restore_11 hP rfl rfl dX1_restore_56 ?_
        refine lv_iload_n hx hb dX1_restore_59 rfl (lv_at hl 0 rfl) ?_
        obtain ⟨h_6, hm⟩ := ck_s hm
        refine qld (kad := kad) (q0 := 1) (k := (k0 : Int32).toNatClampNeg) hx hb hK hP rfl h_6 rfl dX1_restore_60 ?_
        obtain ⟨ho7, td8, pd9, sr10, dr11, ir12, qr13, sf14, df15, jf16, qf17, h_18, hm⟩ := b11_s hm
        refine mu_vv hcf (kX0_copyFrom h_18) (cwX1_restore_X0_copyFrom hts) hK hP hD hS hA (jHS_rest (inr_lt h_6)) (ci := 0) (q0 := 2) rfl rfl rfl hl.1 rfl (Nat.le_of_ble_eq_true rfl) dX1_restore_61 ⟨Nat.zero_le _, Nat.zero_le _⟩ (fun H locs hP hD hS => ?_)
        refine lv_aload_n hx hb dX1_restore_64 rfl (lv_at hl 1 rfl) ?_
        refine lv_iload_n hx hb dX1_restore_65 rfl (lv_at hl 0 rfl) ?_
        refine pf (q0 := 0) (X' := (wHS cI cK hh hq ad kad ct k0 ho7 td8 pd9 sr10 dr11 ir12 qr13 sf14 df15 jf16 qf17 kv)) hx hb hts hown hK fpX1_restore_22 hP hD hS rfl rfl rfl (Nat.le_of_ble_eq_true rfl) rfl dX1_restore_66 (fun H locs hP hD hS => ?_)
        refine lv_aload_n hx hb dX1_restore_69 rfl (lv_at hl 1 rfl) ?_
        refine lv_dup hx hb dX1_restore_70 rfl ?_
        refine gf (q0 := 0) hx hb hts hown hK flX1_restore_18 hP rfl rfl dX1_restore_71 ?_
        refine lv_iconst (v := 1) hx hb dX1_restore_74 (by decide) ?_
        refine lv_isub hx hb dX1_restore_75 ?_
        refine pf (q0 := 0) (X' := (wHS cI cK hh hq ad kad (ct - 1) k0 ho7 td8 pd9 sr10 dr11 ir12 qr13 sf14 df15 jf16 qf17 kv)) hx hb hts hown hK fpX1_restore_18 hP hD hS rfl rfl rfl (Nat.le_of_ble_eq_true rfl) rfl dX1_restore_76 (fun H locs hP hD hS => ?_)
        cases hm
        exact hret _ _ _ _ dX1_restore_79 hP hD hS
set_option maxRecDepth 100000 in
set_option maxHeartbeats 4000000 in
theorem kX1_restore {l : Launch} {D : va_G} {cI cB cL cK : ClassId} {hh : Nat} {hq : Nat} {ad : Nat → Nat} {kad : Nat → Nat → Nat} {ct : Int32} {tpp : Int32} {ho : Int32} {td : Int32} {pd : Int32} {sr : Int32} {dr : Int32} {ir : Int32} {qr : Int32} {sf : Nat → Int32} {df : Nat → Int32} {jf : Nat → Int32} {qf : Nat → Int32} {kv : Nat → BV}  {ct' : Int32} {tpp' : Int32} {ho' : Int32} {td' : Int32} {pd' : Int32} {sr' : Int32} {dr' : Int32} {ir' : Int32} {qr' : Int32} {sf' : Nat → Int32} {df' : Nat → Int32} {jf' : Nat → Int32} {qf' : Nat → Int32} (hm : mX1_restore ct tpp ho td pd sr dr ir qr sf df jf qf kv = some (ct', tpp', ho', td', pd', sr', dr', ir', qr', sf', df', jf', qf')) : Mu l D cI cB cL cK yX1_restore wsX1_restore rmX1_restore [.ref hh, .ref (ad 0)] (wHS cI cK hh hq ad kad ct tpp ho td pd sr dr ir qr sf df jf qf kv) (wHS cI cK hh hq ad kad ct' tpp' ho' td' pd' sr' dr' ir' qr' sf' df' jf' qf' kv) none 0 0 := by
  refine Mu.ofv (cc := cX1_restore) (own := RX1) (by decide) rfl rfl (Nat.le_of_ble_eq_true rfl) (fun p e s m below meth c ls Q A C _ hA hP hD hS hl hret => ?_)
  obtain ⟨hx, hb, hr, hml, hown, hts, hlk, hK⟩ := id C
  have hcf : CallFix p m c cX1_restore 3 s _ wsX1_restore RX1 := ⟨hx, hb, hml, hown, hts⟩
  have hl : lv_has ls 3 [(0, .ref hh), (1, .ref (ad 0))] := hl
  unfold mX1_restore at hm
  refine lv_aload_n hx hb dX1_restore_0 rfl (lv_at hl 0 rfl) ?_
  refine gf (q0 := 0) hx hb hts hown hK flX1_restore_22 hP rfl rfl dX1_restore_1 ?_
  refine lv_if_le (tgt := 16) hx hb dX1_restore_4 (by decide) (fun c_1 => ?_) (fun c_1 => ?_)
  · replace hm := br_p hm c_1
    refine lv_aload_n hx hb dX1_restore_16 rfl (lv_at hl 0 rfl) ?_
    refine gf (q0 := 0) hx hb hts hown hK flX1_restore_11 hP rfl rfl dX1_restore_17 ?_
    refine aln (q0 := 1) (t0 := 3) (i := 10) hx hb hK hP rfl rfl rfl dX1_restore_20 ?_
    refine lv_iconst (v := 1) hx hb dX1_restore_21 (by decide) ?_
    refine lv_isub hx hb dX1_restore_22 ?_
    exact tX1_restore_b23 C hA hret _ _ _ _ _ _ _ _ _ _ _ _ _ _ hm _ _ _ hP hD hS (lv_sub hl [0, 1] rfl)
  · replace hm := br_n hm c_1
    refine lv_aload_n hx hb dX1_restore_7 rfl (lv_at hl 0 rfl) ?_
    refine gf (q0 := 0) hx hb hts hown hK flX1_restore_22 hP rfl rfl dX1_restore_8 ?_
    refine lv_iconst (v := 1) hx hb dX1_restore_11 (by decide) ?_
    refine lv_isub hx hb dX1_restore_12 ?_
    refine lv_goto (tgt := 23) hx hb dX1_restore_13 (by decide) ?_
    exact tX1_restore_b23 C hA hret _ _ _ _ _ _ _ _ _ _ _ _ _ _ hm _ _ _ hP hD hS (lv_sub hl [0, 1] rfl)
end
