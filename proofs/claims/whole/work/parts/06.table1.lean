section
variable {p : Program} {l : Launch} {e : Env} {s : State} {m : MethodId} {args : Array Value} {below : List Frame} {meth : Method} {c : Code} {Q : State → Prop} {A : Nat → Prop} {D : va_G} {cI cB cL cK : ClassId}
/-! X3 size()I -/
abbrev rmX3_size : Room := { frames := 0, cells := 0, slots := 0, locals := 0 }
theorem hdX3_size : yX3_size.cls = RX3 ∧ yX3_size.cls ≠ "java/lang/invoke/MethodHandle" ∧ yX3_size.cls ≠ "java/lang/invoke/VarHandle" ∧ (parseMethodDescriptor yX3_size.desc).map (fun d => d.parameters.length) = some 0 := by decide +kernel
theorem inX3_size_X3 : ∀ w ∈ u_ws RX3 TX3 3, w ∈ wsX3_size := by decide +kernel
theorem flX3_size_25 : Fl wsX3_size RX3 25 3 2 := ⟨_, _, _, rfl, by decide, inX3_size_X3, by decide +kernel⟩
set_option maxRecDepth 100000 in
set_option maxHeartbeats 4000000 in
theorem kX3_size {l : Launch} {D : va_G} {cI cB cL cK : ClassId} {a : Nat} {b : Nat} {w : Int32} {n : Nat} {r : Int32} {f : Nat → Int32}  {res : Int32} (hm : mX3_size r = some res) : Rd l D cI cB cL cK yX3_size wsX3_size rmX3_size [.ref a] (wT cI a b w n r f) res := by
  refine Rd.of (cc := cX3_size) (own := RX3) (by decide) rfl rfl (Nat.le_of_ble_eq_true rfl) (fun p e s m below meth c ls Q C hP hl hret => ?_)
  obtain ⟨hx, hb, hr, hml, hown, hts, hlk, hK⟩ := id C
  have hcf : CallFix p m c cX3_size 1 s _ wsX3_size RX3 := ⟨hx, hb, hml, hown, hts⟩
  have hl : lv_has ls 1 [(0, .ref a)] := hl
  unfold mX3_size at hm
  refine lv_aload_n hx hb dX3_size_0 rfl (lv_at hl 0 rfl) ?_
  refine gf (q0 := 0) hx hb hts hown hK flX3_size_25 hP rfl rfl dX3_size_1 ?_
  cases hm
  exact hret _ _ dX3_size_4 rfl
/-! X3 has(I)Z -/
abbrev rmX3_has : Room := { frames := 0, cells := 0, slots := 0, locals := 0 }
theorem hdX3_has : yX3_has.cls = RX3 ∧ yX3_has.cls ≠ "java/lang/invoke/MethodHandle" ∧ yX3_has.cls ≠ "java/lang/invoke/VarHandle" ∧ (parseMethodDescriptor yX3_has.desc).map (fun d => d.parameters.length) = some 1 := by decide +kernel
theorem inX3_has_X3 : ∀ w ∈ u_ws RX3 TX3 3, w ∈ wsX3_has := by decide +kernel
theorem flX3_has_25 : Fl wsX3_has RX3 25 3 2 := ⟨_, _, _, rfl, by decide, inX3_has_X3, by decide +kernel⟩
set_option maxRecDepth 100000 in
set_option maxHeartbeats 4000000 in
theorem kX3_has {l : Launch} {D : va_G} {cI cB cL cK : ClassId} {a : Nat} {b : Nat} {w : Int32} {n : Nat} {r : Int32} {f : Nat → Int32} {p1 : Int32} {res : Int32} (hm : mX3_has r p1 = some res) : Rd l D cI cB cL cK yX3_has wsX3_has rmX3_has [.ref a, .int p1] (wT cI a b w n r f) res := by
  refine Rd.of (cc := cX3_has) (own := RX3) (by decide) rfl rfl (Nat.le_of_ble_eq_true rfl) (fun p e s m below meth c ls Q C hP hl hret => ?_)
  obtain ⟨hx, hb, hr, hml, hown, hts, hlk, hK⟩ := id C
  have hcf : CallFix p m c cX3_has 2 s _ wsX3_has RX3 := ⟨hx, hb, hml, hown, hts⟩
  have hl : lv_has ls 2 [(0, .ref a), (1, .int p1)] := hl
  unfold mX3_has at hm
  refine lv_iload_n hx hb dX3_has_0 rfl (lv_at hl 1 rfl) ?_
  refine lv_if_lt (tgt := 16) hx hb dX3_has_1 (by decide) (fun c_1 => ?_) (fun c_1 => ?_)
  · replace hm := br_p hm c_1
    refine lv_iconst (v := 0) hx hb dX3_has_16 (by decide) ?_
    cases hm
    exact hret _ _ dX3_has_17 rfl
  · replace hm := br_n hm c_1
    refine lv_iload_n hx hb dX3_has_4 rfl (lv_at hl 1 rfl) ?_
    refine lv_aload_n hx hb dX3_has_5 rfl (lv_at hl 0 rfl) ?_
    refine gf (q0 := 0) hx hb hts hown hK flX3_has_25 hP rfl rfl dX3_has_6 ?_
    refine lv_icmp_ge (tgt := 16) hx hb dX3_has_9 (by decide) (fun c_2 => ?_) (fun c_2 => ?_)
    · replace hm := br_p hm c_2
      refine lv_iconst (v := 0) hx hb dX3_has_16 (by decide) ?_
      cases hm
      exact hret _ _ dX3_has_17 rfl
    · replace hm := br_n hm c_2
      refine lv_iconst (v := 1) hx hb dX3_has_12 (by decide) ?_
      refine lv_goto (tgt := 17) hx hb dX3_has_13 (by decide) ?_
      cases hm
      exact hret _ _ dX3_has_17 rfl
/-! X3 isFull()Z -/
abbrev rmX3_isFull : Room := { frames := 0, cells := 0, slots := 0, locals := 0 }
theorem hdX3_isFull : yX3_isFull.cls = RX3 ∧ yX3_isFull.cls ≠ "java/lang/invoke/MethodHandle" ∧ yX3_isFull.cls ≠ "java/lang/invoke/VarHandle" ∧ (parseMethodDescriptor yX3_isFull.desc).map (fun d => d.parameters.length) = some 0 := by decide +kernel
theorem inX3_isFull_X3 : ∀ w ∈ u_ws RX3 TX3 3, w ∈ wsX3_isFull := by decide +kernel
theorem flX3_isFull_15 : Fl wsX3_isFull RX3 15 3 0 := ⟨_, _, _, rfl, by decide, inX3_isFull_X3, by decide +kernel⟩
theorem flX3_isFull_21 : Fl wsX3_isFull RX3 21 3 1 := ⟨_, _, _, rfl, by decide, inX3_isFull_X3, by decide +kernel⟩
theorem flX3_isFull_25 : Fl wsX3_isFull RX3 25 3 2 := ⟨_, _, _, rfl, by decide, inX3_isFull_X3, by decide +kernel⟩
set_option maxRecDepth 100000 in
set_option maxHeartbeats 4000000 in
theorem kX3_isFull {l : Launch} {D : va_G} {cI cB cL cK : ClassId} {a : Nat} {b : Nat} {w : Int32} {n : Nat} {r : Int32} {f : Nat → Int32}  {res : Int32} (hm : mX3_isFull w n r = some res) : Rd l D cI cB cL cK yX3_isFull wsX3_isFull rmX3_isFull [.ref a] (wT cI a b w n r f) res := by
  refine Rd.of (cc := cX3_isFull) (own := RX3) (by decide) rfl rfl (Nat.le_of_ble_eq_true rfl) (fun p e s m below meth c ls Q C hP hl hret => ?_)
  obtain ⟨hx, hb, hr, hml, hown, hts, hlk, hK⟩ := id C
  have hcf : CallFix p m c cX3_isFull 1 s _ wsX3_isFull RX3 := ⟨hx, hb, hml, hown, hts⟩
  have hl : lv_has ls 1 [(0, .ref a)] := hl
  unfold mX3_isFull at hm
  refine lv_aload_n hx hb dX3_isFull_0 rfl (lv_at hl 0 rfl) ?_
  refine gf (q0 := 0) hx hb hts hown hK flX3_isFull_25 hP rfl rfl dX3_isFull_1 ?_
  refine lv_iconst (v := 1) hx hb dX3_isFull_4 (by decide) ?_
  refine lv_iadd hx hb dX3_isFull_5 ?_
  refine lv_aload_n hx hb dX3_isFull_6 rfl (lv_at hl 0 rfl) ?_
  refine gf (q0 := 0) hx hb hts hown hK flX3_isFull_21 hP rfl rfl dX3_isFull_7 ?_
  refine lv_imul hx hb dX3_isFull_10 ?_
  refine lv_aload_n hx hb dX3_isFull_11 rfl (lv_at hl 0 rfl) ?_
  refine gf (q0 := 0) hx hb hts hown hK flX3_isFull_15 hP rfl rfl dX3_isFull_12 ?_
  refine aln (q0 := 1) (t0 := 0) (i := (Int32.ofNat n)) hx hb hK hP rfl rfl rfl dX3_isFull_15 ?_
  refine lv_icmp_le (tgt := 23) hx hb dX3_isFull_16 (by decide) (fun c_1 => ?_) (fun c_1 => ?_)
  · replace hm := br_p hm c_1
    refine lv_iconst (v := 0) hx hb dX3_isFull_23 (by decide) ?_
    cases hm
    exact hret _ _ dX3_isFull_24 rfl
  · replace hm := br_n hm c_1
    refine lv_iconst (v := 1) hx hb dX3_isFull_19 (by decide) ?_
    refine lv_goto (tgt := 24) hx hb dX3_isFull_20 (by decide) ?_
    cases hm
    exact hret _ _ dX3_isFull_24 rfl
/-! X3 get(II)I -/
abbrev rmX3_get : Room := { frames := 0, cells := 0, slots := 0, locals := 0 }
theorem hdX3_get : yX3_get.cls = RX3 ∧ yX3_get.cls ≠ "java/lang/invoke/MethodHandle" ∧ yX3_get.cls ≠ "java/lang/invoke/VarHandle" ∧ (parseMethodDescriptor yX3_get.desc).map (fun d => d.parameters.length) = some 2 := by decide +kernel
theorem inX3_get_X3 : ∀ w ∈ u_ws RX3 TX3 3, w ∈ wsX3_get := by decide +kernel
theorem flX3_get_15 : Fl wsX3_get RX3 15 3 0 := ⟨_, _, _, rfl, by decide, inX3_get_X3, by decide +kernel⟩
theorem flX3_get_21 : Fl wsX3_get RX3 21 3 1 := ⟨_, _, _, rfl, by decide, inX3_get_X3, by decide +kernel⟩
theorem flX3_get_25 : Fl wsX3_get RX3 25 3 2 := ⟨_, _, _, rfl, by decide, inX3_get_X3, by decide +kernel⟩
set_option maxRecDepth 100000 in
set_option maxHeartbeats 4000000 in
theorem kX3_get {l : Launch} {D : va_G} {cI cB cL cK : ClassId} {a : Nat} {b : Nat} {w : Int32} {n : Nat} {r : Int32} {f : Nat → Int32} {p1 : Int32} {p2 : Int32} {res : Int32} (hm : mX3_get w n r f p1 p2 = some res) : Rd l D cI cB cL cK yX3_get wsX3_get rmX3_get [.ref a, .int p1, .int p2] (wT cI a b w n r f) res := by
  refine Rd.of (cc := cX3_get) (own := RX3) (by decide) rfl rfl (Nat.le_of_ble_eq_true rfl) (fun p e s m below meth c ls Q C hP hl hret => ?_)
  obtain ⟨hx, hb, hr, hml, hown, hts, hlk, hK⟩ := id C
  have hcf : CallFix p m c cX3_get 4 s _ wsX3_get RX3 := ⟨hx, hb, hml, hown, hts⟩
  have hl : lv_has ls 4 [(0, .ref a), (1, .int p1), (2, .int p2)] := hl
  unfold mX3_get at hm
  refine lv_iload_n hx hb dX3_get_0 rfl (lv_at hl 1 rfl) ?_
  refine lv_if_lt (tgt := 24) hx hb dX3_get_1 (by decide) (fun c_1 => ?_) (fun c_1 => ?_)
  · replace hm := br_p hm c_1
    refine lv_iconst (v := (-1)) hx hb dX3_get_24 (by decide) ?_
    cases hm
    exact hret _ _ dX3_get_25 rfl
  · replace hm := br_n hm c_1
    refine lv_iload_n hx hb dX3_get_4 rfl (lv_at hl 1 rfl) ?_
    refine lv_aload_n hx hb dX3_get_5 rfl (lv_at hl 0 rfl) ?_
    refine gf (q0 := 0) hx hb hts hown hK flX3_get_25 hP rfl rfl dX3_get_6 ?_
    refine lv_icmp_ge (tgt := 24) hx hb dX3_get_9 (by decide) (fun c_2 => ?_) (fun c_2 => ?_)
    · replace hm := br_p hm c_2
      refine lv_iconst (v := (-1)) hx hb dX3_get_24 (by decide) ?_
      cases hm
      exact hret _ _ dX3_get_25 rfl
    · replace hm := br_n hm c_2
      refine lv_iload_n hx hb dX3_get_12 rfl (lv_at hl 2 rfl) ?_
      refine lv_if_lt (tgt := 24) hx hb dX3_get_13 (by decide) (fun c_3 => ?_) (fun c_3 => ?_)
      · replace hm := br_p hm c_3
        refine lv_iconst (v := (-1)) hx hb dX3_get_24 (by decide) ?_
        cases hm
        exact hret _ _ dX3_get_25 rfl
      · replace hm := br_n hm c_3
        refine lv_iload_n hx hb dX3_get_16 rfl (lv_at hl 2 rfl) ?_
        refine lv_aload_n hx hb dX3_get_17 rfl (lv_at hl 0 rfl) ?_
        refine gf (q0 := 0) hx hb hts hown hK flX3_get_21 hP rfl rfl dX3_get_18 ?_
        refine lv_icmp_lt (tgt := 26) hx hb dX3_get_21 (by decide) (fun c_4 => ?_) (fun c_4 => ?_)
        · replace hm := br_p hm c_4
          refine lv_iload_n hx hb dX3_get_26 rfl (lv_at hl 1 rfl) ?_
          refine lv_aload_n hx hb dX3_get_27 rfl (lv_at hl 0 rfl) ?_
          refine gf (q0 := 0) hx hb hts hown hK flX3_get_21 hP rfl rfl dX3_get_28 ?_
          refine lv_imul hx hb dX3_get_31 ?_
          refine lv_iload_n hx hb dX3_get_32 rfl (lv_at hl 2 rfl) ?_
          refine lv_iadd hx hb dX3_get_33 ?_
          refine lv_istore_n (lv' := [(3, .int ((p1 * w) + p2)), (0, .ref a), (1, .int p1), (2, .int p2)]) hx hb dX3_get_34 rfl hl (by decide) rfl (fun ls hl => ?_)
          refine lv_iload_n hx hb dX3_get_35 rfl (lv_at hl 0 rfl) ?_
          refine lv_if_lt (tgt := 57) hx hb dX3_get_36 (by decide) (fun c_5 => ?_) (fun c_5 => ?_)
          · replace hm := br_p hm c_5
            refine lv_iconst (v := (-1)) hx hb dX3_get_57 (by decide) ?_
            cases hm
            exact hret _ _ dX3_get_58 rfl
          · replace hm := br_n hm c_5
            refine lv_iload_n hx hb dX3_get_39 rfl (lv_at hl 0 rfl) ?_
            refine lv_aload_n hx hb dX3_get_40 rfl (lv_at hl 1 rfl) ?_
            refine gf (q0 := 0) hx hb hts hown hK flX3_get_15 hP rfl rfl dX3_get_41 ?_
            refine aln (q0 := 1) (t0 := 0) (i := (Int32.ofNat n)) hx hb hK hP rfl rfl rfl dX3_get_44 ?_
            refine lv_icmp_ge (tgt := 57) hx hb dX3_get_45 (by decide) (fun c_6 => ?_) (fun c_6 => ?_)
            · replace hm := br_p hm c_6
              refine lv_iconst (v := (-1)) hx hb dX3_get_57 (by decide) ?_
              cases hm
              exact hret _ _ dX3_get_58 rfl
            · replace hm := br_n hm c_6
              refine lv_aload_n hx hb dX3_get_48 rfl (lv_at hl 1 rfl) ?_
              refine gf (q0 := 0) hx hb hts hown hK flX3_get_15 hP rfl rfl dX3_get_49 ?_
              refine lv_iload_n hx hb dX3_get_52 rfl (lv_at hl 0 rfl) ?_
              obtain ⟨h_7, hm⟩ := ck_s hm
              refine ald (q0 := 1) (k := (((p1 * w) + p2) : Int32).toNatClampNeg) hx hb hK hP rfl h_7 rfl dX3_get_53 ?_
              refine lv_goto (tgt := 58) hx hb dX3_get_54 (by decide) ?_
              cases hm
              exact hret _ _ dX3_get_58 rfl
        · replace hm := br_n hm c_4
          refine lv_iconst (v := (-1)) hx hb dX3_get_24 (by decide) ?_
          cases hm
          exact hret _ _ dX3_get_25 rfl
/-! X3 set(III)V -/
abbrev rmX3_set : Room := { frames := 0, cells := 0, slots := 0, locals := 0 }
theorem hdX3_set : yX3_set.cls = RX3 ∧ yX3_set.cls ≠ "java/lang/invoke/MethodHandle" ∧ yX3_set.cls ≠ "java/lang/invoke/VarHandle" ∧ (parseMethodDescriptor yX3_set.desc).map (fun d => d.parameters.length) = some 3 := by decide +kernel
theorem inX3_set_X3 : ∀ w ∈ u_ws RX3 TX3 3, w ∈ wsX3_set := by decide +kernel
theorem flX3_set_15 : Fl wsX3_set RX3 15 3 0 := ⟨_, _, _, rfl, by decide, inX3_set_X3, by decide +kernel⟩
theorem flX3_set_21 : Fl wsX3_set RX3 21 3 1 := ⟨_, _, _, rfl, by decide, inX3_set_X3, by decide +kernel⟩
theorem flX3_set_25 : Fl wsX3_set RX3 25 3 2 := ⟨_, _, _, rfl, by decide, inX3_set_X3, by decide +kernel⟩
set_option maxRecDepth 100000 in
set_option maxHeartbeats 4000000 in
theorem kX3_set {l : Launch} {D : va_G} {cI cB cL cK : ClassId} {a : Nat} {b : Nat} {w : Int32} {n : Nat} {r : Int32} {f : Nat → Int32} {p1 : Int32} {p2 : Int32} {p3 : Int32} {f' : Nat → Int32} (hm : mX3_set w n r f p1 p2 p3 = some f') : Mu l D cI cB cL cK yX3_set wsX3_set rmX3_set [.ref a, .int p1, .int p2, .int p3] (wT cI a b w n r f) (wT cI a b w n r f') none 0 0 := by
  refine Mu.ofv (cc := cX3_set) (own := RX3) (by decide) rfl rfl (Nat.le_of_ble_eq_true rfl) (fun p e s m below meth c ls Q A C _ hA hP hD hS hl hret => ?_)
  obtain ⟨hx, hb, hr, hml, hown, hts, hlk, hK⟩ := id C
  have hcf : CallFix p m c cX3_set 5 s _ wsX3_set RX3 := ⟨hx, hb, hml, hown, hts⟩
  have hl : lv_has ls 5 [(0, .ref a), (1, .int p1), (2, .int p2), (3, .int p3)] := hl
  unfold mX3_set at hm
  refine lv_iload_n hx hb dX3_set_0 rfl (lv_at hl 1 rfl) ?_
  refine lv_if_lt (tgt := 24) hx hb dX3_set_1 (by decide) (fun c_1 => ?_) (fun c_1 => ?_)
  · replace hm := br_p hm c_1
    cases hm
    exact hret _ _ _ _ dX3_set_24 hP hD hS
  · replace hm := br_n hm c_1
    refine lv_iload_n hx hb dX3_set_4 rfl (lv_at hl 1 rfl) ?_
    refine lv_aload_n hx hb dX3_set_5 rfl (lv_at hl 0 rfl) ?_
    refine gf (q0 := 0) hx hb hts hown hK flX3_set_25 hP rfl rfl dX3_set_6 ?_
    refine lv_icmp_ge (tgt := 24) hx hb dX3_set_9 (by decide) (fun c_2 => ?_) (fun c_2 => ?_)
    · replace hm := br_p hm c_2
      cases hm
      exact hret _ _ _ _ dX3_set_24 hP hD hS
    · replace hm := br_n hm c_2
      refine lv_iload_n hx hb dX3_set_12 rfl (lv_at hl 2 rfl) ?_
      refine lv_if_lt (tgt := 24) hx hb dX3_set_13 (by decide) (fun c_3 => ?_) (fun c_3 => ?_)
      · replace hm := br_p hm c_3
        cases hm
        exact hret _ _ _ _ dX3_set_24 hP hD hS
      · replace hm := br_n hm c_3
        refine lv_iload_n hx hb dX3_set_16 rfl (lv_at hl 2 rfl) ?_
        refine lv_aload_n hx hb dX3_set_17 rfl (lv_at hl 0 rfl) ?_
        refine gf (q0 := 0) hx hb hts hown hK flX3_set_21 hP rfl rfl dX3_set_18 ?_
        refine lv_icmp_lt (tgt := 25) hx hb dX3_set_21 (by decide) (fun c_4 => ?_) (fun c_4 => ?_)
        · replace hm := br_p hm c_4
          refine lv_iload_n hx hb dX3_set_25 rfl (lv_at hl 1 rfl) ?_
          refine lv_aload_n hx hb dX3_set_26 rfl (lv_at hl 0 rfl) ?_
          refine gf (q0 := 0) hx hb hts hown hK flX3_set_21 hP rfl rfl dX3_set_27 ?_
          refine lv_imul hx hb dX3_set_30 ?_
          refine lv_iload_n hx hb dX3_set_31 rfl (lv_at hl 2 rfl) ?_
          refine lv_iadd hx hb dX3_set_32 ?_
          refine lv_istore (lv' := [(4, .int ((p1 * w) + p2)), (0, .ref a), (1, .int p1), (2, .int p2), (3, .int p3)]) hx hb dX3_set_33 hl (by decide) rfl (fun ls hl => ?_)
          refine lv_iload hx hb dX3_set_35 (lv_at hl 0 rfl) ?_
          refine lv_if_lt (tgt := 58) hx hb dX3_set_37 (by decide) (fun c_5 => ?_) (fun c_5 => ?_)
          · replace hm := br_p hm c_5
            cases hm
            exact hret _ _ _ _ dX3_set_58 hP hD hS
          · replace hm := br_n hm c_5
            refine lv_iload hx hb dX3_set_40 (lv_at hl 0 rfl) ?_
            refine lv_aload_n hx hb dX3_set_42 rfl (lv_at hl 1 rfl) ?_
            refine gf (q0 := 0) hx hb hts hown hK flX3_set_15 hP rfl rfl dX3_set_43 ?_
            refine aln (q0 := 1) (t0 := 0) (i := (Int32.ofNat n)) hx hb hK hP rfl rfl rfl dX3_set_46 ?_
            refine lv_icmp_ge (tgt := 58) hx hb dX3_set_47 (by decide) (fun c_6 => ?_) (fun c_6 => ?_)
            · replace hm := br_p hm c_6
              cases hm
              exact hret _ _ _ _ dX3_set_58 hP hD hS
            · replace hm := br_n hm c_6
              refine lv_aload_n hx hb dX3_set_50 rfl (lv_at hl 1 rfl) ?_
              refine gf (q0 := 0) hx hb hts hown hK flX3_set_15 hP rfl rfl dX3_set_51 ?_
              refine lv_iload hx hb dX3_set_54 (lv_at hl 0 rfl) ?_
              refine lv_iload_n hx hb dX3_set_56 rfl (lv_at hl 4 rfl) ?_
              obtain ⟨h_7, hm⟩ := ck_s hm
              refine ast (q0 := 1) (k := (((p1 * w) + p2) : Int32).toNatClampNeg) (X' := (wT cI a b w n r (upd f ((((p1 * w) + p2) : Int32).toNatClampNeg) p3))) hx hb hK hP hD hS rfl h_7 rfl rfl dX3_set_57 (fun H locs hP hD hS => ?_)
              cases hm
              exact hret _ _ _ _ dX3_set_58 hP hD hS
        · replace hm := br_n hm c_4
          cases hm
          exact hret _ _ _ _ dX3_set_24 hP hD hS
/-! X3 increase(III)V -/
abbrev rmX3_increase : Room := { frames := 1, cells := 0, slots := 0, locals := 24 }
theorem hdX3_increase : yX3_increase.cls = RX3 ∧ yX3_increase.cls ≠ "java/lang/invoke/MethodHandle" ∧ yX3_increase.cls ≠ "java/lang/invoke/VarHandle" ∧ (parseMethodDescriptor yX3_increase.desc).map (fun d => d.parameters.length) = some 3 := by decide +kernel
theorem cwX3_increase_X3_get {s : State} {args : Array Value} (hts : ∀ w ∈ wsX3_increase, w.before args s = true) : CallW rmX3_increase s args RX3 RX3 28 yX3_get cX3_get 4 (some .int) wsX3_get rmX3_get 0 0 2 := cwV 2 hts gX3_increase_X3_get rfl rfl rfl hdX3_get ⟨Nat.le_of_ble_eq_true rfl, Nat.le_of_ble_eq_true rfl⟩
theorem cwX3_increase_X3_set {s : State} {args : Array Value} (hts : ∀ w ∈ wsX3_increase, w.before args s = true) : CallW rmX3_increase s args RX3 RX3 31 yX3_set cX3_set 5 none wsX3_set rmX3_set 0 0 3 := cwV 3 hts gX3_increase_X3_set rfl rfl rfl hdX3_set ⟨Nat.le_of_ble_eq_true rfl, Nat.le_of_ble_eq_true rfl⟩
set_option maxRecDepth 100000 in
set_option maxHeartbeats 4000000 in
theorem kX3_increase {l : Launch} {D : va_G} {cI cB cL cK : ClassId} {a : Nat} {b : Nat} {w : Int32} {n : Nat} {r : Int32} {f : Nat → Int32} {p1 : Int32} {p2 : Int32} {p3 : Int32} {f' : Nat → Int32} (hm : mX3_increase w n r f p1 p2 p3 = some f') : Mu l D cI cB cL cK yX3_increase wsX3_increase rmX3_increase [.ref a, .int p1, .int p2, .int p3] (wT cI a b w n r f) (wT cI a b w n r f') none 0 0 := by
  refine Mu.ofv (cc := cX3_increase) (own := RX3) (by decide) rfl rfl (Nat.le_of_ble_eq_true rfl) (fun p e s m below meth c ls Q A C _ hA hP hD hS hl hret => ?_)
  obtain ⟨hx, hb, hr, hml, hown, hts, hlk, hK⟩ := id C
  have hcf : CallFix p m c cX3_increase 4 s _ wsX3_increase RX3 := ⟨hx, hb, hml, hown, hts⟩
  have hl : lv_has ls 4 [(0, .ref a), (1, .int p1), (2, .int p2), (3, .int p3)] := hl
  unfold mX3_increase at hm
  refine lv_aload_n hx hb dX3_increase_0 rfl (lv_at hl 0 rfl) ?_
  refine lv_iload_n hx hb dX3_increase_1 rfl (lv_at hl 1 rfl) ?_
  refine lv_iload_n hx hb dX3_increase_2 rfl (lv_at hl 2 rfl) ?_
  refine lv_aload_n hx hb dX3_increase_3 rfl (lv_at hl 0 rfl) ?_
  refine lv_iload_n hx hb dX3_increase_4 rfl (lv_at hl 1 rfl) ?_
  refine lv_iload_n hx hb dX3_increase_5 rfl (lv_at hl 2 rfl) ?_
  obtain ⟨v1, h_2, hm⟩ := b1_s hm
  refine rd_v hcf (kX3_get h_2) (cwX3_increase_X3_get hts) hK hP Sb.rf (ci := 3) (q0 := 0) rfl rfl rfl hl.1 rfl (Nat.le_of_ble_eq_true rfl) dX3_increase_6 ⟨Nat.zero_le _, Nat.zero_le _⟩ ?_
  refine lv_iload_n hx hb dX3_increase_9 rfl (lv_at hl 3 rfl) ?_
  refine lv_iadd hx hb dX3_increase_10 ?_
  obtain ⟨f3, h_4, hm⟩ := b1_s hm
  refine mu_vv hcf (kX3_set h_4) (cwX3_increase_X3_set hts) hK hP hD hS hA Jn.rf (ci := 3) (q0 := 0) rfl rfl rfl hl.1 rfl (Nat.le_of_ble_eq_true rfl) dX3_increase_11 ⟨Nat.zero_le _, Nat.zero_le _⟩ (fun H locs hP hD hS => ?_)
  cases hm
  exact hret _ _ _ _ dX3_increase_14 hP hD hS
/-! X3 add()I -/
abbrev rmX3_add : Room := { frames := 1, cells := 0, slots := 0, locals := 24 }
theorem hdX3_add : yX3_add.cls = RX3 ∧ yX3_add.cls ≠ "java/lang/invoke/MethodHandle" ∧ yX3_add.cls ≠ "java/lang/invoke/VarHandle" ∧ (parseMethodDescriptor yX3_add.desc).map (fun d => d.parameters.length) = some 0 := by decide +kernel
theorem inX3_add_X3 : ∀ w ∈ u_ws RX3 TX3 3, w ∈ wsX3_add := by decide +kernel
theorem cwX3_add_X3_isFull {s : State} {args : Array Value} (hts : ∀ w ∈ wsX3_add, w.before args s = true) : CallW rmX3_add s args RX3 RX3 35 yX3_isFull cX3_isFull 1 (some .boolean) wsX3_isFull rmX3_isFull 0 0 0 := cwV 0 hts gX3_add_X3_isFull rfl rfl rfl hdX3_isFull ⟨Nat.le_of_ble_eq_true rfl, Nat.le_of_ble_eq_true rfl⟩
theorem cwX3_add_X3_set {s : State} {args : Array Value} (hts : ∀ w ∈ wsX3_add, w.before args s = true) : CallW rmX3_add s args RX3 RX3 31 yX3_set cX3_set 5 none wsX3_set rmX3_set 0 0 3 := cwV 3 hts gX3_add_X3_set rfl rfl rfl hdX3_set ⟨Nat.le_of_ble_eq_true rfl, Nat.le_of_ble_eq_true rfl⟩
theorem flX3_add_21 : Fl wsX3_add RX3 21 3 1 := ⟨_, _, _, rfl, by decide, inX3_add_X3, by decide +kernel⟩
theorem flX3_add_25 : Fl wsX3_add RX3 25 3 2 := ⟨_, _, _, rfl, by decide, inX3_add_X3, by decide +kernel⟩
theorem fpX3_add_25 : Fp wsX3_add RX3 25 3 2 false .int := ⟨_, _, _, tyX3, rfl, by decide, inX3_add_X3, by decide +kernel, tyX3_ok, nmX3, rfl, rfl, by decide +kernel⟩
set_option maxRecDepth 100000 in
set_option maxHeartbeats 4000000 in
theorem tX3_add_L26 {a : Nat} {b : Nat} {w : Int32} {n : Nat} {res : Int32} {r' : Int32} {f' : Nat → Int32} (C : Cx p s m args meth c cX3_add (some .int) 3 wsX3_add RX3 D cI cB cL cK) (hA : ∀ q : Nat, s.heap.size ≤ q → A q) (hret : ∀ (pc : Nat) (ls : Array Slot) (H : Heap) (locs : List Loc), decode cX3_add pc = .ok (.ireturn, 1) → narrow .int (.int res) = .int res → va_P D vwCl (wT cI a b w n r' f') H → va_D A (wT cI a b w n r' f') → va_S A s.heap H locs → W p l e rmX3_add s m args below meth c H locs 0 0 Q (F0 m pc ls [.int res])) : ∀ (n9 : Nat) (x1 : Int32) (x2 : Int32) (r : Int32) (f : Nat → Int32), mX3_add_L26 n9 w n x1 x2 r f = some (res, r', f') → ∀ (H : Heap) (locs : List Loc) (ls : Array Slot), va_P D vwCl (wT cI a b w n r f) H → va_D A (wT cI a b w n r f) → va_S A s.heap H locs → lv_has ls 3 [(0, .ref a), (1, .int x1), (2, .int x2)] → W p l e rmX3_add s m args below meth c H locs 0 0 Q (F0 m 26 ls []) := by
  obtain ⟨hx, hb, hr, hml, hown, hts, hlk, hK⟩ := id C
  have hcf : CallFix p m c cX3_add 3 s args wsX3_add RX3 := ⟨hx, hb, hml, hown, hts⟩
  intro n9
  induction n9 with
  | zero => intro x1 x2 r f hm; cases hm
  | succ k ih =>
    intro x1 x2 r f hm H locs ls hP hD hS hl
    rw [mX3_add_L26.eq_2] at hm
    refine lv_iload_n hx hb dX3_add_26 rfl (lv_at hl 2 rfl) ?_
    refine lv_aload_n hx hb dX3_add_27 rfl (lv_at hl 0 rfl) ?_
    refine gf (q0 := 0) hx hb hts hown hK flX3_add_21 hP rfl rfl dX3_add_28 ?_
    refine lv_icmp_ge (tgt := 47) hx hb dX3_add_31 (by decide) (fun c_4 => ?_) (fun c_4 => ?_)
    · replace hm := br_p hm c_4
      refine lv_iload_n hx hb dX3_add_47 rfl (lv_at hl 1 rfl) ?_
      cases hm
      exact hret _ _ _ _ dX3_add_48 rfl hP hD hS
    · replace hm := br_n hm c_4
      refine lv_aload_n hx hb dX3_add_34 rfl (lv_at hl 0 rfl) ?_
      refine lv_iload_n hx hb dX3_add_35 rfl (lv_at hl 1 rfl) ?_
      refine lv_iload_n hx hb dX3_add_36 rfl (lv_at hl 2 rfl) ?_
      refine lv_iconst (v := 0) hx hb dX3_add_37 (by decide) ?_
      obtain ⟨f5, h_6, hm⟩ := b1_s hm
      refine mu_vv hcf (kX3_set h_6) (cwX3_add_X3_set hts) hK hP hD hS hA Jn.rf (ci := 3) (q0 := 0) rfl rfl rfl hl.1 rfl (Nat.le_of_ble_eq_true rfl) dX3_add_38 ⟨Nat.zero_le _, Nat.zero_le _⟩ (fun H locs hP hD hS => ?_)
      refine lv_iinc (v := (x2 + 1)) (lv' := [(2, .int (x2 + 1)), (0, .ref a), (1, .int x1)]) hx hb dX3_add_41 hl (k := 2) rfl rfl (by decide) rfl (fun ls hl => ?_)
      refine lv_goto (tgt := 26) hx hb dX3_add_44 (by decide) ?_
      exact ih _ _ _ _ hm _ _ _ hP hD hS (lv_sub hl [1, 2, 0] rfl)
set_option maxRecDepth 100000 in
set_option maxHeartbeats 4000000 in
theorem kX3_add {l : Launch} {D : va_G} {cI cB cL cK : ClassId} {a : Nat} {b : Nat} {w : Int32} {n : Nat} {r : Int32} {f : Nat → Int32}  {res : Int32} {r' : Int32} {f' : Nat → Int32} (hm : mX3_add w n r f = some (res, r', f')) : Mu l D cI cB cL cK yX3_add wsX3_add rmX3_add [.ref a] (wT cI a b w n r f) (wT cI a b w n r' f') (some (.int res)) 0 0 := by
  refine Mu.ofi (cc := cX3_add) (own := RX3) (by decide) rfl rfl (Nat.le_of_ble_eq_true rfl) (fun p e s m below meth c ls Q A C hA hP hD hS hl hret => ?_)
  obtain ⟨hx, hb, hr, hml, hown, hts, hlk, hK⟩ := id C
  have hcf : CallFix p m c cX3_add 3 s _ wsX3_add RX3 := ⟨hx, hb, hml, hown, hts⟩
  have hl : lv_has ls 3 [(0, .ref a)] := hl
  unfold mX3_add at hm
  refine lv_aload_n hx hb dX3_add_0 rfl (lv_at hl 0 rfl) ?_
  obtain ⟨v1, h_2, hm⟩ := b1_s hm
  refine rd_v hcf (kX3_isFull h_2) (cwX3_add_X3_isFull hts) hK hP Sb.rf (ci := 3) (q0 := 0) rfl rfl rfl hl.1 rfl (Nat.le_of_ble_eq_true rfl) dX3_add_1 ⟨Nat.zero_le _, Nat.zero_le _⟩ ?_
  refine lv_if_eq (tgt := 9) hx hb dX3_add_4 (by decide) (fun c_3 => ?_) (fun c_3 => ?_)
  · replace hm := br_p hm c_3
    refine lv_aload_n hx hb dX3_add_9 rfl (lv_at hl 0 rfl) ?_
    refine gf (q0 := 0) hx hb hts hown hK flX3_add_25 hP rfl rfl dX3_add_10 ?_
    refine lv_istore_n (lv' := [(1, .int r), (0, .ref a)]) hx hb dX3_add_13 rfl hl (by decide) rfl (fun ls hl => ?_)
    refine lv_aload_n hx hb dX3_add_14 rfl (lv_at hl 1 rfl) ?_
    refine lv_dup hx hb dX3_add_15 rfl ?_
    refine gf (q0 := 0) hx hb hts hown hK flX3_add_25 hP rfl rfl dX3_add_16 ?_
    refine lv_iconst (v := 1) hx hb dX3_add_19 (by decide) ?_
    refine lv_iadd hx hb dX3_add_20 ?_
    refine pf (q0 := 0) (X' := (wT cI a b w n (r + 1) f)) hx hb hts hown hK fpX3_add_25 hP hD hS rfl rfl rfl (Nat.le_of_ble_eq_true rfl) rfl dX3_add_21 (fun H locs hP hD hS => ?_)
    refine lv_iconst (v := 0) hx hb dX3_add_24 (by decide) ?_
    refine lv_istore_n (lv' := [(2, .int 0), (1, .int r), (0, .ref a)]) hx hb dX3_add_25 rfl hl (by decide) rfl (fun ls hl => ?_)
    exact tX3_add_L26 C hA hret _ _ _ _ _ hm _ _ _ hP hD hS (lv_sub hl [2, 1, 0] rfl)
  · replace hm := br_n hm c_3
    refine lv_iconst (v := (-1)) hx hb dX3_add_7 (by decide) ?_
    cases hm
    exact hret _ _ _ _ dX3_add_8 rfl hP hD hS
/-! X3 clear()V -/
abbrev rmX3_clear : Room := { frames := 0, cells := 0, slots := 0, locals := 0 }
theorem hdX3_clear : yX3_clear.cls = RX3 ∧ yX3_clear.cls ≠ "java/lang/invoke/MethodHandle" ∧ yX3_clear.cls ≠ "java/lang/invoke/VarHandle" ∧ (parseMethodDescriptor yX3_clear.desc).map (fun d => d.parameters.length) = some 0 := by decide +kernel
theorem inX3_clear_X3 : ∀ w ∈ u_ws RX3 TX3 3, w ∈ wsX3_clear := by decide +kernel
theorem fpX3_clear_25 : Fp wsX3_clear RX3 25 3 2 false .int := ⟨_, _, _, tyX3, rfl, by decide, inX3_clear_X3, by decide +kernel, tyX3_ok, nmX3, rfl, rfl, by decide +kernel⟩
set_option maxRecDepth 100000 in
set_option maxHeartbeats 4000000 in
theorem kX3_clear {l : Launch} {D : va_G} {cI cB cL cK : ClassId} {a : Nat} {b : Nat} {w : Int32} {n : Nat} {r : Int32} {f : Nat → Int32}  {r' : Int32} (hm : mX3_clear r = some r') : Mu l D cI cB cL cK yX3_clear wsX3_clear rmX3_clear [.ref a] (wT cI a b w n r f) (wT cI a b w n r' f) none 0 0 := by
  refine Mu.ofv (cc := cX3_clear) (own := RX3) (by decide) rfl rfl (Nat.le_of_ble_eq_true rfl) (fun p e s m below meth c ls Q A C _ hA hP hD hS hl hret => ?_)
  obtain ⟨hx, hb, hr, hml, hown, hts, hlk, hK⟩ := id C
  have hcf : CallFix p m c cX3_clear 1 s _ wsX3_clear RX3 := ⟨hx, hb, hml, hown, hts⟩
  have hl : lv_has ls 1 [(0, .ref a)] := hl
  unfold mX3_clear at hm
  refine lv_aload_n hx hb dX3_clear_0 rfl (lv_at hl 0 rfl) ?_
  refine lv_iconst (v := 0) hx hb dX3_clear_1 (by decide) ?_
  refine pf (q0 := 0) (X' := (wT cI a b w n 0 f)) hx hb hts hown hK fpX3_clear_25 hP hD hS rfl rfl rfl (Nat.le_of_ble_eq_true rfl) rfl dX3_clear_2 (fun H locs hP hD hS => ?_)
  cases hm
  exact hret _ _ _ _ dX3_clear_5 hP hD hS
/-! X3 copyFrom(LDunningHouse$Table;)V -/
abbrev rmX3_copyFrom : Room := { frames := 1, cells := 0, slots := 0, locals := 60 }
theorem hdX3_copyFrom : yX3_copyFrom.cls = RX3 ∧ yX3_copyFrom.cls ≠ "java/lang/invoke/MethodHandle" ∧ yX3_copyFrom.cls ≠ "java/lang/invoke/VarHandle" ∧ (parseMethodDescriptor yX3_copyFrom.desc).map (fun d => d.parameters.length) = some 1 := by decide +kernel
theorem inX3_copyFrom_X3 : ∀ w ∈ u_ws RX3 TX3 3, w ∈ wsX3_copyFrom := by decide +kernel
theorem acX3_copyFrom_in : Cond.initialized "java/lang/System" ∈ wsX3_copyFrom := by decide +kernel
theorem acX3_copyFrom_ml : Cond.methodLink RX3 42 arraycopyName ∈ wsX3_copyFrom := by decide +kernel
theorem acX3_copyFrom_nt : Cond.native arraycopyName ∈ wsX3_copyFrom := by decide +kernel
theorem acX3_copyFrom_st : Cond.static arraycopyName ∈ wsX3_copyFrom := by decide +kernel
theorem flX3_copyFrom_15 : Fl wsX3_copyFrom RX3 15 3 0 := ⟨_, _, _, rfl, by decide, inX3_copyFrom_X3, by decide +kernel⟩
theorem flX3_copyFrom_21 : Fl wsX3_copyFrom RX3 21 3 1 := ⟨_, _, _, rfl, by decide, inX3_copyFrom_X3, by decide +kernel⟩
theorem flX3_copyFrom_25 : Fl wsX3_copyFrom RX3 25 3 2 := ⟨_, _, _, rfl, by decide, inX3_copyFrom_X3, by decide +kernel⟩
theorem fpX3_copyFrom_25 : Fp wsX3_copyFrom RX3 25 3 2 false .int := ⟨_, _, _, tyX3, rfl, by decide, inX3_copyFrom_X3, by decide +kernel, tyX3_ok, nmX3, rfl, rfl, by decide +kernel⟩
theorem mfX3_copyFrom_max_cd : Cond.code Lib.Math.max.name Lib.Math.max.code 2 (some .int) ∈ wsX3_copyFrom := by decide +kernel
theorem mfX3_copyFrom_max_in : Cond.initialized "java/lang/Math" ∈ wsX3_copyFrom := by decide +kernel
theorem mfX3_copyFrom_max_ml : Cond.methodLink RX3 9 Lib.Math.max.name ∈ wsX3_copyFrom := by decide +kernel
theorem mfX3_copyFrom_max_st : Cond.static Lib.Math.max.name ∈ wsX3_copyFrom := by decide +kernel
theorem mfX3_copyFrom_min_cd : Cond.code Lib.Math.min.name Lib.Math.min.code 2 (some .int) ∈ wsX3_copyFrom := by decide +kernel
theorem mfX3_copyFrom_min_in : Cond.initialized "java/lang/Math" ∈ wsX3_copyFrom := by decide +kernel
theorem mfX3_copyFrom_min_ml : Cond.methodLink RX3 39 Lib.Math.min.name ∈ wsX3_copyFrom := by decide +kernel
theorem mfX3_copyFrom_min_st : Cond.static Lib.Math.min.name ∈ wsX3_copyFrom := by decide +kernel
set_option maxRecDepth 100000 in
set_option maxHeartbeats 4000000 in
theorem kX3_copyFrom {l : Launch} {D : va_G} {cI cB cL cK : ClassId} {a : Nat} {b : Nat} {a2 : Nat} {b2 : Nat} {w : Int32} {n : Nat} {r : Int32} {f : Nat → Int32} {w2 : Int32} {n2 : Nat} {r2 : Int32} {f2 : Nat → Int32}  {r' : Int32} {f' : Nat → Int32} (hm : mX3_copyFrom w n r f n2 r2 f2 = some (r', f')) : Mu l D cI cB cL cK yX3_copyFrom wsX3_copyFrom rmX3_copyFrom [.ref a, .ref a2] (wTT cI a b a2 b2 w n r f w2 n2 r2 f2) (wTT cI a b a2 b2 w n r' f' w2 n2 r2 f2) none 0 0 := by
  refine Mu.ofv (cc := cX3_copyFrom) (own := RX3) (by decide) rfl rfl (Nat.le_of_ble_eq_true rfl) (fun p e s m below meth c ls Q A C _ hA hP hD hS hl hret => ?_)
  obtain ⟨hx, hb, hr, hml, hown, hts, hlk, hK⟩ := id C
  have hcf : CallFix p m c cX3_copyFrom 3 s _ wsX3_copyFrom RX3 := ⟨hx, hb, hml, hown, hts⟩
  have hl : lv_has ls 3 [(0, .ref a), (1, .ref a2)] := hl
  unfold mX3_copyFrom at hm
  refine lv_aload_n hx hb dX3_copyFrom_0 rfl (lv_at hl 0 rfl) ?_
  refine lv_aload_n hx hb dX3_copyFrom_1 rfl (lv_at hl 1 rfl) ?_
  refine gf (q0 := 2) hx hb hts hown hK flX3_copyFrom_25 hP rfl rfl dX3_copyFrom_2 ?_
  refine pf (q0 := 0) (X' := (wTT cI a b a2 b2 w n r2 f w2 n2 r2 f2)) hx hb hts hown hK fpX3_copyFrom_25 hP hD hS rfl rfl rfl (Nat.le_of_ble_eq_true rfl) rfl dX3_copyFrom_5 (fun H locs hP hD hS => ?_)
  refine lv_aload_n hx hb dX3_copyFrom_8 rfl (lv_at hl 0 rfl) ?_
  refine gf (q0 := 0) hx hb hts hown hK flX3_copyFrom_25 hP rfl rfl dX3_copyFrom_9 ?_
  refine lv_aload_n hx hb dX3_copyFrom_12 rfl (lv_at hl 0 rfl) ?_
  refine gf (q0 := 0) hx hb hts hown hK flX3_copyFrom_21 hP rfl rfl dX3_copyFrom_13 ?_
  refine lv_imul hx hb dX3_copyFrom_16 ?_
  refine lv_aload_n hx hb dX3_copyFrom_17 rfl (lv_at hl 0 rfl) ?_
  refine gf (q0 := 0) hx hb hts hown hK flX3_copyFrom_15 hP rfl rfl dX3_copyFrom_18 ?_
  refine aln (q0 := 1) (t0 := 0) (i := (Int32.ofNat n)) hx hb hK hP rfl rfl rfl dX3_copyFrom_21 ?_
  refine lv_aload_n hx hb dX3_copyFrom_22 rfl (lv_at hl 1 rfl) ?_
  refine gf (q0 := 2) hx hb hts hown hK flX3_copyFrom_15 hP rfl rfl dX3_copyFrom_23 ?_
  refine aln (q0 := 3) (t0 := 0) (i := (Int32.ofNat n2)) hx hb hK hP rfl rfl rfl dX3_copyFrom_26 ?_
  refine va_mmin hx hb (hml.trans hl.1.symm) hown (hts _ mfX3_copyFrom_min_ml) (hts _ mfX3_copyFrom_min_st) (hts _ mfX3_copyFrom_min_in) (hts _ mfX3_copyFrom_min_cd) (Nat.le_of_ble_eq_true rfl) (Nat.le_of_ble_eq_true rfl) (Nat.zero_le _) (Nat.zero_le _) dX3_copyFrom_27 ?_
  refine va_mmin hx hb (hml.trans hl.1.symm) hown (hts _ mfX3_copyFrom_min_ml) (hts _ mfX3_copyFrom_min_st) (hts _ mfX3_copyFrom_min_in) (hts _ mfX3_copyFrom_min_cd) (Nat.le_of_ble_eq_true rfl) (Nat.le_of_ble_eq_true rfl) (Nat.zero_le _) (Nat.zero_le _) dX3_copyFrom_30 ?_
  refine lv_istore_n (lv' := [(2, .int (mnI (r2 * w) (mnI (Int32.ofNat n) (Int32.ofNat n2)))), (0, .ref a), (1, .ref a2)]) hx hb dX3_copyFrom_33 rfl hl (by decide) rfl (fun ls hl => ?_)
  refine lv_aload_n hx hb dX3_copyFrom_34 rfl (lv_at hl 2 rfl) ?_
  refine gf (q0 := 2) hx hb hts hown hK flX3_copyFrom_15 hP rfl rfl dX3_copyFrom_35 ?_
  refine lv_iconst (v := 0) hx hb dX3_copyFrom_38 (by decide) ?_
  refine lv_aload_n hx hb dX3_copyFrom_39 rfl (lv_at hl 1 rfl) ?_
  refine gf (q0 := 0) hx hb hts hown hK flX3_copyFrom_15 hP rfl rfl dX3_copyFrom_40 ?_
  refine lv_iconst (v := 0) hx hb dX3_copyFrom_43 (by decide) ?_
  refine lv_iconst (v := 0) hx hb dX3_copyFrom_44 (by decide) ?_
  refine lv_iload_n hx hb dX3_copyFrom_45 rfl (lv_at hl 0 rfl) ?_
  refine va_mmax hx hb (hml.trans hl.1.symm) hown (hts _ mfX3_copyFrom_max_ml) (hts _ mfX3_copyFrom_max_st) (hts _ mfX3_copyFrom_max_in) (hts _ mfX3_copyFrom_max_cd) (Nat.le_of_ble_eq_true rfl) (Nat.le_of_ble_eq_true rfl) (Nat.zero_le _) (Nat.zero_le _) dX3_copyFrom_46 ?_
  obtain ⟨h_1, hm⟩ := ck_s hm
  rw [Bool.and_eq_true, Bool.and_eq_true, decide_eq_true_eq, decide_eq_true_eq, decide_eq_true_eq] at h_1
  refine va_copyi hx hb (hml.trans hl.1.symm) hown (hts _ acX3_copyFrom_ml) (hts _ acX3_copyFrom_nt) (hts _ acX3_copyFrom_st) (hts _ acX3_copyFrom_in) hK hP hD hS 3 1 0 0 rfl rfl rfl rfl rfl (by decide) (by decide) (Int32.not_lt.mpr h_1.1) (by show 0 + _ ≤ _; rw [Nat.zero_add]; exact h_1.2.1) (by show 0 + _ ≤ _; rw [Nat.zero_add]; exact h_1.2.2) (fun _ _ => rfl) (Nat.le_of_ble_eq_true rfl) (Nat.le_of_ble_eq_true rfl) dX3_copyFrom_49 (fun H locs hP hD hS => ?_)
  have hP : va_P D vwCl (wTT cI a b a2 b2 w n r2 (va_cpy f2 f 0 0 ((mxI 0 (mnI (r2 * w) (mnI (Int32.ofNat n) (Int32.ofNat n2)))) : Int32).toNatClampNeg) w2 n2 r2 f2) H := hP
  have hD : va_D A (wTT cI a b a2 b2 w n r2 (va_cpy f2 f 0 0 ((mxI 0 (mnI (r2 * w) (mnI (Int32.ofNat n) (Int32.ofNat n2)))) : Int32).toNatClampNeg) w2 n2 r2 f2) := hD
  cases hm
  exact hret _ _ _ _ dX3_copyFrom_52 hP hD hS
end
