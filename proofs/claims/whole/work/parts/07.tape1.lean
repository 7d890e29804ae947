section
variable {p : Program} {l : Launch} {e : Env} {s : State} {m : MethodId} {args : Array Value} {below : List Frame} {meth : Method} {c : Code} {Q : State → Prop} {A : Nat → Prop} {D : va_G} {cI cB cL cK : ClassId}
/-! X4 length()I -/
abbrev rmX4_length : Room := { frames := 0, cells := 0, slots := 0, locals := 0 }
theorem hdX4_length : yX4_length.cls = RX4 ∧ yX4_length.cls ≠ "java/lang/invoke/MethodHandle" ∧ yX4_length.cls ≠ "java/lang/invoke/VarHandle" ∧ (parseMethodDescriptor yX4_length.desc).map (fun d => d.parameters.length) = some 0 := by decide +kernel
theorem inX4_length_X4 : ∀ w ∈ u_ws RX4 TX4 2, w ∈ wsX4_length := by decide +kernel
theorem flX4_length_15 : Fl wsX4_length RX4 15 4 1 := ⟨_, _, _, rfl, by decide, inX4_length_X4, by decide +kernel⟩
set_option maxRecDepth 100000 in
set_option maxHeartbeats 4000000 in
theorem kX4_length {l : Launch} {D : va_G} {cI cB cL cK : ClassId} {a : Nat} {b : Nat} {us : Int32} {tf : Nat → Int32}  {res : Int32} (hm : mX4_length us = some res) : Rd l D cI cB cL cK yX4_length wsX4_length rmX4_length [.ref a] (wP cB a b us tf) res := by
  refine Rd.of (cc := cX4_length) (own := RX4) (by decide) rfl rfl (Nat.le_of_ble_eq_true rfl) (fun p e s m below meth c ls Q C hP hl hret => ?_)
  obtain ⟨hx, hb, hr, hml, hown, hts, hlk, hK⟩ := id C
  have hcf : CallFix p m c cX4_length 1 s _ wsX4_length RX4 := ⟨hx, hb, hml, hown, hts⟩
  have hl : lv_has ls 1 [(0, .ref a)] := hl
  unfold mX4_length at hm
  refine lv_aload_n hx hb dX4_length_0 rfl (lv_at hl 0 rfl) ?_
  refine gf (q0 := 0) hx hb hts hown hK flX4_length_15 hP rfl rfl dX4_length_1 ?_
  cases hm
  exact hret _ _ dX4_length_4 rfl
/-! X4 hasRoom()Z -/
abbrev rmX4_hasRoom : Room := { frames := 0, cells := 0, slots := 0, locals := 0 }
theorem hdX4_hasRoom : yX4_hasRoom.cls = RX4 ∧ yX4_hasRoom.cls ≠ "java/lang/invoke/MethodHandle" ∧ yX4_hasRoom.cls ≠ "java/lang/invoke/VarHandle" ∧ (parseMethodDescriptor yX4_hasRoom.desc).map (fun d => d.parameters.length) = some 0 := by decide +kernel
theorem inX4_hasRoom_X4 : ∀ w ∈ u_ws RX4 TX4 2, w ∈ wsX4_hasRoom := by decide +kernel
theorem flX4_hasRoom_11 : Fl wsX4_hasRoom RX4 11 4 0 := ⟨_, _, _, rfl, by decide, inX4_hasRoom_X4, by decide +kernel⟩
theorem flX4_hasRoom_15 : Fl wsX4_hasRoom RX4 15 4 1 := ⟨_, _, _, rfl, by decide, inX4_hasRoom_X4, by decide +kernel⟩
set_option maxRecDepth 100000 in
set_option maxHeartbeats 4000000 in
theorem kX4_hasRoom {l : Launch} {D : va_G} {cI cB cL cK : ClassId} {a : Nat} {b : Nat} {us : Int32} {tf : Nat → Int32}  {res : Int32} (hm : mX4_hasRoom us = some res) : Rd l D cI cB cL cK yX4_hasRoom wsX4_hasRoom rmX4_hasRoom [.ref a] (wP cB a b us tf) res := by
  refine Rd.of (cc := cX4_hasRoom) (own := RX4) (by decide) rfl rfl (Nat.le_of_ble_eq_true rfl) (fun p e s m below meth c ls Q C hP hl hret => ?_)
  obtain ⟨hx, hb, hr, hml, hown, hts, hlk, hK⟩ := id C
  have hcf : CallFix p m c cX4_hasRoom 1 s _ wsX4_hasRoom RX4 := ⟨hx, hb, hml, hown, hts⟩
  have hl : lv_has ls 1 [(0, .ref a)] := hl
  unfold mX4_hasRoom at hm
  refine lv_aload_n hx hb dX4_hasRoom_0 rfl (lv_at hl 0 rfl) ?_
  refine gf (q0 := 0) hx hb hts hown hK flX4_hasRoom_15 hP rfl rfl dX4_hasRoom_1 ?_
  refine lv_bipush (v := 20) hx hb dX4_hasRoom_4 (by decide) ?_
  refine lv_iadd hx hb dX4_hasRoom_6 ?_
  refine lv_aload_n hx hb dX4_hasRoom_7 rfl (lv_at hl 0 rfl) ?_
  refine gf (q0 := 0) hx hb hts hown hK flX4_hasRoom_11 hP rfl rfl dX4_hasRoom_8 ?_
  refine aln (q0 := 1) (t0 := 1) (i := 640) hx hb hK hP rfl rfl rfl dX4_hasRoom_11 ?_
  refine lv_icmp_gt (tgt := 19) hx hb dX4_hasRoom_12 (by decide) (fun c_1 => ?_) (fun c_1 => ?_)
  · replace hm := br_p hm c_1
    refine lv_iconst (v := 0) hx hb dX4_hasRoom_19 (by decide) ?_
    cases hm
    exact hret _ _ dX4_hasRoom_20 rfl
  · replace hm := br_n hm c_1
    refine lv_iconst (v := 1) hx hb dX4_hasRoom_15 (by decide) ?_
    refine lv_goto (tgt := 20) hx hb dX4_hasRoom_16 (by decide) ?_
    cases hm
    exact hret _ _ dX4_hasRoom_20 rfl
/-! X4 append(I)V -/
abbrev rmX4_append : Room := { frames := 0, cells := 0, slots := 0, locals := 0 }
theorem hdX4_append : yX4_append.cls = RX4 ∧ yX4_append.cls ≠ "java/lang/invoke/MethodHandle" ∧ yX4_append.cls ≠ "java/lang/invoke/VarHandle" ∧ (parseMethodDescriptor yX4_append.desc).map (fun d => d.parameters.length) = some 1 := by decide +kernel
theorem inX4_append_X4 : ∀ w ∈ u_ws RX4 TX4 2, w ∈ wsX4_append := by decide +kernel
theorem flX4_append_11 : Fl wsX4_append RX4 11 4 0 := ⟨_, _, _, rfl, by decide, inX4_append_X4, by decide +kernel⟩
theorem flX4_append_15 : Fl wsX4_append RX4 15 4 1 := ⟨_, _, _, rfl, by decide, inX4_append_X4, by decide +kernel⟩
theorem fpX4_append_15 : Fp wsX4_append RX4 15 4 1 false .int := ⟨_, _, _, tyX4, rfl, by decide, inX4_append_X4, by decide +kernel, tyX4_ok, nmX4, rfl, rfl, by decide +kernel⟩
set_option maxRecDepth 100000 in
set_option maxHeartbeats 4000000 in
theorem tX4_append_L3 {a : Nat} {b : Nat}  {us' : Int32} {tf' : Nat → Int32} (C : Cx p s m args meth c cX4_append none 3 wsX4_append RX4 D cI cB cL cK) (hA : ∀ q : Nat, s.heap.size ≤ q → A q) (hret : ∀ (pc : Nat) (ls : Array Slot) (H : Heap) (locs : List Loc), decode cX4_append pc = .ok (.return_, 1) → va_P D vwCl (wP cB a b us' tf') H → va_D A (wP cB a b us' tf') → va_S A s.heap H locs → W p l e rmX4_append s m args below meth c H locs 0 0 Q (F0 m pc ls [])) : ∀ (n9 : Nat) (x1 : Int32) (x2 : Int32) (us : Int32) (tf : Nat → Int32), mX4_append_L3 n9 x1 x2 us tf = some (us', tf') → ∀ (H : Heap) (locs : List Loc) (ls : Array Slot), va_P D vwCl (wP cB a b us tf) H → va_D A (wP cB a b us tf) → va_S A s.heap H locs → lv_has ls 3 [(0, .ref a), (1, .int x1), (2, .int x2)] → W p l e rmX4_append s m args below meth c H locs 0 0 Q (F0 m 3 ls []) := by
  obtain ⟨hx, hb, hr, hml, hown, hts, hlk, hK⟩ := id C
  have hcf : CallFix p m c cX4_append 3 s args wsX4_append RX4 := ⟨hx, hb, hml, hown, hts⟩
  intro n9
  induction n9 with
  | zero => intro x1 x2 us tf hm; cases hm
  | succ k ih =>
    intro x1 x2 us tf hm H locs ls hP hD hS hl
    rw [mX4_append_L3.eq_2] at hm
    refine lv_iload_n hx hb dX4_append_3 rfl (lv_at hl 2 rfl) ?_
    refine lv_if_lt (tgt := 55) hx hb dX4_append_4 (by decide) (fun c_1 => ?_) (fun c_1 => ?_)
    · replace hm := br_p hm c_1
      cases hm
      exact hret _ _ _ _ dX4_append_55 hP hD hS
    · replace hm := br_n hm c_1
      refine lv_aload_n hx hb dX4_append_7 rfl (lv_at hl 0 rfl) ?_
      refine gf (q0 := 0) hx hb hts hown hK flX4_append_15 hP rfl rfl dX4_append_8 ?_
      refine lv_if_lt (tgt := 49) hx hb dX4_append_11 (by decide) (fun c_2 => ?_) (fun c_2 => ?_)
      · replace hm := br_p hm c_2
        refine lv_iinc (v := (x2 + (-8))) (lv' := [(2, .int (x2 + (-8))), (0, .ref a), (1, .int x1)]) hx hb dX4_append_49 hl (k := 2) rfl rfl (by decide) rfl (fun ls hl => ?_)
        refine lv_goto (tgt := 3) hx hb dX4_append_52 (by decide) ?_
        exact ih _ _ _ _ hm _ _ _ hP hD hS (lv_sub hl [1, 2, 0] rfl)
      · replace hm := br_n hm c_2
        refine lv_aload_n hx hb dX4_append_14 rfl (lv_at hl 0 rfl) ?_
        refine gf (q0 := 0) hx hb hts hown hK flX4_append_15 hP rfl rfl dX4_append_15 ?_
        refine lv_aload_n hx hb dX4_append_18 rfl (lv_at hl 0 rfl) ?_
        refine gf (q0 := 0) hx hb hts hown hK flX4_append_11 hP rfl rfl dX4_append_19 ?_
        refine aln (q0 := 1) (t0 := 1) (i := 640) hx hb hK hP rfl rfl rfl dX4_append_22 ?_
        refine lv_icmp_ge (tgt := 49) hx hb dX4_append_23 (by decide) (fun c_3 => ?_) (fun c_3 => ?_)
        · replace hm := br_p hm c_3
          refine lv_iinc (v := (x2 + (-8))) (lv' := [(2, .int (x2 + (-8))), (0, .ref a), (1, .int x1)]) hx hb dX4_append_49 hl (k := 2) rfl rfl (by decide) rfl (fun ls hl => ?_)
          refine lv_goto (tgt := 3) hx hb dX4_append_52 (by decide) ?_
          exact ih _ _ _ _ hm _ _ _ hP hD hS (lv_sub hl [1, 2, 0] rfl)
        · replace hm := br_n hm c_3
          refine lv_aload_n hx hb dX4_append_26 rfl (lv_at hl 0 rfl) ?_
          refine gf (q0 := 0) hx hb hts hown hK flX4_append_11 hP rfl rfl dX4_append_27 ?_
          refine lv_aload_n hx hb dX4_append_30 rfl (lv_at hl 0 rfl) ?_
          refine gf (q0 := 0) hx hb hts hown hK flX4_append_15 hP rfl rfl dX4_append_31 ?_
          refine lv_iload_n hx hb dX4_append_34 rfl (lv_at hl 1 rfl) ?_
          refine lv_iload_n hx hb dX4_append_35 rfl (lv_at hl 2 rfl) ?_
          refine lv_ishr hx hb dX4_append_36 ?_
          refine lv_i2b (v := ((x1 >>> (x2 &&& 31)) : Int32).toInt8.toInt32) hx hb dX4_append_37 rfl ?_
          obtain ⟨h_4, hm⟩ := ck_s hm
          refine bst (q0 := 1) (k := (us : Int32).toNatClampNeg) (X' := (wP cB a b us (upd tf ((us : Int32).toNatClampNeg) (vp_nar .byte (((x1 >>> (x2 &&& 31)) : Int32).toInt8.toInt32))))) hx hb hK hP hD hS rfl h_4 rfl rfl dX4_append_38 (fun H locs hP hD hS => ?_)
          refine lv_aload_n hx hb dX4_append_39 rfl (lv_at hl 0 rfl) ?_
          refine lv_dup hx hb dX4_append_40 rfl ?_
          refine gf (q0 := 0) hx hb hts hown hK flX4_append_15 hP rfl rfl dX4_append_41 ?_
          refine lv_iconst (v := 1) hx hb dX4_append_44 (by decide) ?_
          refine lv_iadd hx hb dX4_append_45 ?_
          refine pf (q0 := 0) (X' := (wP cB a b (us + 1) (upd tf ((us : Int32).toNatClampNeg) (vp_nar .byte (((x1 >>> (x2 &&& 31)) : Int32).toInt8.toInt32))))) hx hb hts hown hK fpX4_append_15 hP hD hS rfl rfl rfl (Nat.le_of_ble_eq_true rfl) rfl dX4_append_46 (fun H locs hP hD hS => ?_)
          refine lv_iinc (v := (x2 + (-8))) (lv' := [(2, .int (x2 + (-8))), (0, .ref a), (1, .int x1)]) hx hb dX4_append_49 hl (k := 2) rfl rfl (by decide) rfl (fun ls hl => ?_)
          refine lv_goto (tgt := 3) hx hb dX4_append_52 (by decide) ?_
          exact ih _ _ _ _ hm _ _ _ hP hD hS (lv_sub hl [1, 2, 0] rfl)
set_option maxRecDepth 100000 in
set_option maxHeartbeats 4000000 in
theorem kX4_append {l : Launch} {D : va_G} {cI cB cL cK : ClassId} {a : Nat} {b : Nat} {us : Int32} {tf : Nat → Int32} {p1 : Int32} {us' : Int32} {tf' : Nat → Int32} (hm : mX4_append us tf p1 = some (us', tf')) : Mu l D cI cB cL cK yX4_append wsX4_append rmX4_append [.ref a, .int p1] (wP cB a b us tf) (wP cB a b us' tf') none 0 0 := by
  refine Mu.ofv (cc := cX4_append) (own := RX4) (by decide) rfl rfl (Nat.le_of_ble_eq_true rfl) (fun p e s m below meth c ls Q A C _ hA hP hD hS hl hret => ?_)
  obtain ⟨hx, hb, hr, hml, hown, hts, hlk, hK⟩ := id C
  have hcf : CallFix p m c cX4_append 3 s _ wsX4_append RX4 := ⟨hx, hb, hml, hown, hts⟩
  have hl : lv_has ls 3 [(0, .ref a), (1, .int p1)] := hl
  unfold mX4_append at hm
  refine lv_bipush (v := 24) hx hb dX4_append_0 (by decide) ?_
  refine lv_istore_n (lv' := [(2, .int 24), (0, .ref a), (1, .int p1)]) hx hb dX4_append_2 rfl hl (by decide) rfl (fun ls hl => ?_)
  exact tX4_append_L3 C hA hret _ _ _ _ _ hm _ _ _ hP hD hS (lv_sub hl [1, 2, 0] rfl)
/-! X4 cut(I)Z -/
abbrev rmX4_cut : Room := { frames := 0, cells := 0, slots := 0, locals := 0 }
theorem hdX4_cut : yX4_cut.cls = RX4 ∧ yX4_cut.cls ≠ "java/lang/invoke/MethodHandle" ∧ yX4_cut.cls ≠ "java/lang/invoke/VarHandle" ∧ (parseMethodDescriptor yX4_cut.desc).map (fun d => d.parameters.length) = some 1 := by decide +kernel
theorem inX4_cut_X4 : ∀ w ∈ u_ws RX4 TX4 2, w ∈ wsX4_cut := by decide +kernel
theorem flX4_cut_15 : Fl wsX4_cut RX4 15 4 1 := ⟨_, _, _, rfl, by decide, inX4_cut_X4, by decide +kernel⟩
theorem fpX4_cut_15 : Fp wsX4_cut RX4 15 4 1 false .int := ⟨_, _, _, tyX4, rfl, by decide, inX4_cut_X4, by decide +kernel, tyX4_ok, nmX4, rfl, rfl, by decide +kernel⟩
set_option maxRecDepth 100000 in
set_option maxHeartbeats 4000000 in
theorem kX4_cut {l : Launch} {D : va_G} {cI cB cL cK : ClassId} {a : Nat} {b : Nat} {us : Int32} {tf : Nat → Int32} {p1 : Int32} {res : Int32} {us' : Int32} (hm : mX4_cut us p1 = some (res, us')) : Mu l D cI cB cL cK yX4_cut wsX4_cut rmX4_cut [.ref a, .int p1] (wP cB a b us tf) (wP cB a b us' tf) (some (.int res)) 0 0 := by
  refine Mu.ofi (cc := cX4_cut) (own := RX4) (by decide) rfl rfl (Nat.le_of_ble_eq_true rfl) (fun p e s m below meth c ls Q A C hA hP hD hS hl hret => ?_)
  obtain ⟨hx, hb, hr, hml, hown, hts, hlk, hK⟩ := id C
  have hcf : CallFix p m c cX4_cut 2 s _ wsX4_cut RX4 := ⟨hx, hb, hml, hown, hts⟩
  have hl : lv_has ls 2 [(0, .ref a), (1, .int p1)] := hl
  unfold mX4_cut at hm
  refine lv_iload_n hx hb dX4_cut_0 rfl (lv_at hl 1 rfl) ?_
  refine lv_if_lt (tgt := 12) hx hb dX4_cut_1 (by decide) (fun c_1 => ?_) (fun c_1 => ?_)
  · replace hm := br_p hm c_1
    refine lv_iconst (v := 0) hx hb dX4_cut_12 (by decide) ?_
    cases hm
    exact hret _ _ _ _ dX4_cut_13 rfl hP hD hS
  · replace hm := br_n hm c_1
    refine lv_iload_n hx hb dX4_cut_4 rfl (lv_at hl 1 rfl) ?_
    refine lv_aload_n hx hb dX4_cut_5 rfl (lv_at hl 0 rfl) ?_
    refine gf (q0 := 0) hx hb hts hown hK flX4_cut_15 hP rfl rfl dX4_cut_6 ?_
    refine lv_icmp_le (tgt := 14) hx hb dX4_cut_9 (by decide) (fun c_2 => ?_) (fun c_2 => ?_)
    · replace hm := br_p hm c_2
      refine lv_aload_n hx hb dX4_cut_14 rfl (lv_at hl 0 rfl) ?_
      refine lv_iload_n hx hb dX4_cut_15 rfl (lv_at hl 1 rfl) ?_
      refine pf (q0 := 0) (X' := (wP cB a b p1 tf)) hx hb hts hown hK fpX4_cut_15 hP hD hS rfl rfl rfl (Nat.le_of_ble_eq_true rfl) rfl dX4_cut_16 (fun H locs hP hD hS => ?_)
      refine lv_iconst (v := 1) hx hb dX4_cut_19 (by decide) ?_
      cases hm
      exact hret _ _ _ _ dX4_cut_20 rfl hP hD hS
    · replace hm := br_n hm c_2
      refine lv_iconst (v := 0) hx hb dX4_cut_12 (by decide) ?_
      cases hm
      exact hret _ _ _ _ dX4_cut_13 rfl hP hD hS
/-! X4 at(I)I -/
abbrev rmX4_at : Room := { frames := 0, cells := 0, slots := 0, locals := 0 }
theorem hdX4_at : yX4_at.cls = RX4 ∧ yX4_at.cls ≠ "java/lang/invoke/MethodHandle" ∧ yX4_at.cls ≠ "java/lang/invoke/VarHandle" ∧ (parseMethodDescriptor yX4_at.desc).map (fun d => d.parameters.length) = some 1 := by decide +kernel
theorem inX4_at_X4 : ∀ w ∈ u_ws RX4 TX4 2, w ∈ wsX4_at := by decide +kernel
theorem flX4_at_11 : Fl wsX4_at RX4 11 4 0 := ⟨_, _, _, rfl, by decide, inX4_at_X4, by decide +kernel⟩
theorem flX4_at_15 : Fl wsX4_at RX4 15 4 1 := ⟨_, _, _, rfl, by decide, inX4_at_X4, by decide +kernel⟩
set_option maxRecDepth 100000 in
set_option maxHeartbeats 4000000 in
theorem kX4_at {l : Launch} {D : va_G} {cI cB cL cK : ClassId} {a : Nat} {b : Nat} {us : Int32} {tf : Nat → Int32} {p1 : Int32} {res : Int32} (hm : mX4_at us tf p1 = some res) : Rd l D cI cB cL cK yX4_at wsX4_at rmX4_at [.ref a, .int p1] (wP cB a b us tf) res := by
  refine Rd.of (cc := cX4_at) (own := RX4) (by decide) rfl rfl (Nat.le_of_ble_eq_true rfl) (fun p e s m below meth c ls Q C hP hl hret => ?_)
  obtain ⟨hx, hb, hr, hml, hown, hts, hlk, hK⟩ := id C
  have hcf : CallFix p m c cX4_at 2 s _ wsX4_at RX4 := ⟨hx, hb, hml, hown, hts⟩
  have hl : lv_has ls 2 [(0, .ref a), (1, .int p1)] := hl
  unfold mX4_at at hm
  refine lv_iload_n hx hb dX4_at_0 rfl (lv_at hl 1 rfl) ?_
  refine lv_if_lt (tgt := 34) hx hb dX4_at_1 (by decide) (fun c_1 => ?_) (fun c_1 => ?_)
  · replace hm := br_p hm c_1
    refine lv_iconst (v := (-1)) hx hb dX4_at_34 (by decide) ?_
    cases hm
    exact hret _ _ dX4_at_35 rfl
  · replace hm := br_n hm c_1
    refine lv_iload_n hx hb dX4_at_4 rfl (lv_at hl 1 rfl) ?_
    refine lv_aload_n hx hb dX4_at_5 rfl (lv_at hl 0 rfl) ?_
    refine gf (q0 := 0) hx hb hts hown hK flX4_at_15 hP rfl rfl dX4_at_6 ?_
    refine lv_icmp_ge (tgt := 34) hx hb dX4_at_9 (by decide) (fun c_2 => ?_) (fun c_2 => ?_)
    · replace hm := br_p hm c_2
      refine lv_iconst (v := (-1)) hx hb dX4_at_34 (by decide) ?_
      cases hm
      exact hret _ _ dX4_at_35 rfl
    · replace hm := br_n hm c_2
      refine lv_iload_n hx hb dX4_at_12 rfl (lv_at hl 1 rfl) ?_
      refine lv_aload_n hx hb dX4_at_13 rfl (lv_at hl 0 rfl) ?_
      refine gf (q0 := 0) hx hb hts hown hK flX4_at_11 hP rfl rfl dX4_at_14 ?_
      refine aln (q0 := 1) (t0 := 1) (i := 640) hx hb hK hP rfl rfl rfl dX4_at_17 ?_
      refine lv_icmp_ge (tgt := 34) hx hb dX4_at_18 (by decide) (fun c_3 => ?_) (fun c_3 => ?_)
      · replace hm := br_p hm c_3
        refine lv_iconst (v := (-1)) hx hb dX4_at_34 (by decide) ?_
        cases hm
        exact hret _ _ dX4_at_35 rfl
      · replace hm := br_n hm c_3
        refine lv_aload_n hx hb dX4_at_21 rfl (lv_at hl 0 rfl) ?_
        refine gf (q0 := 0) hx hb hts hown hK flX4_at_11 hP rfl rfl dX4_at_22 ?_
        refine lv_iload_n hx hb dX4_at_25 rfl (lv_at hl 1 rfl) ?_
        obtain ⟨h_4, hm⟩ := ck_s hm
        refine bld (q0 := 1) (k := (p1 : Int32).toNatClampNeg) hx hb hK hP rfl h_4 rfl dX4_at_26 ?_
        refine lv_sipush (v := 255) hx hb dX4_at_27 (by decide) ?_
        refine lv_iand hx hb dX4_at_30 ?_
        refine lv_goto (tgt := 35) hx hb dX4_at_31 (by decide) ?_
        cases hm
        exact hret _ _ dX4_at_35 rfl
end
