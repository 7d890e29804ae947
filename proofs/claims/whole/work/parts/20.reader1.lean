section
variable {p : Program} {l : Launch} {e : Env} {s : State} {m : MethodId} {args : Array Value} {below : List Frame} {meth : Method} {c : Code} {Q : State → Prop} {A : Nat → Prop} {D : va_G} {cI cB cL cK : ClassId}
/-! X2 faultKind()I -/
abbrev rmX2_faultKind : Room := { frames := 0, cells := 0, slots := 0, locals := 0 }
theorem hdX2_faultKind : yX2_faultKind.cls = RX2 ∧ yX2_faultKind.cls ≠ "java/lang/invoke/MethodHandle" ∧ yX2_faultKind.cls ≠ "java/lang/invoke/VarHandle" ∧ (parseMethodDescriptor yX2_faultKind.desc).map (fun d => d.parameters.length) = some 0 := by decide +kernel
theorem inX2_faultKind_X2 : ∀ w ∈ u_ws RX2 TX2 8, w ∈ wsX2_faultKind := by decide +kernel
theorem flX2_faultKind_23 : Fl wsX2_faultKind RX2 23 2 7 := ⟨_, _, _, rfl, by decide, inX2_faultKind_X2, by decide +kernel⟩
set_option maxRecDepth 100000 in
set_option maxHeartbeats 4000000 in
theorem kX2_faultKind {l : Launch} {D : va_G} {cI cB cL cK : ClassId} {ra : Nat} {a : Nat} {b : Nat} {ad : Nat → Nat} {kd : Int32} {bg : Int32} {pt : Int32} {vl : Int32} {lt : Int32} {ft : Int32} {us : Int32} {tf : Nat → Int32} {ho : Int32} {td : Int32} {pd : Int32} {sr : Int32} {dr : Int32} {ir : Int32} {qr : Int32} {sf : Nat → Int32} {df : Nat → Int32} {jf : Nat → Int32} {qf : Nat → Int32}  {res : Int32} (hm : mX2_faultKind ft = some res) : Rd l D cI cB cL cK yX2_faultKind wsX2_faultKind rmX2_faultKind [.ref ra] (wR cI cB ra a b ad kd bg pt vl lt ft us tf ho td pd sr dr ir qr sf df jf qf) res := by
  refine Rd.of (cc := cX2_faultKind) (own := RX2) (by decide) rfl rfl (Nat.le_of_ble_eq_true rfl) (fun p e s m below meth c ls Q C hP hl hret => ?_)
  obtain ⟨hx, hb, hr, hml, hown, hts, hlk, hK⟩ := id C
  have hcf : CallFix p m c cX2_faultKind 1 s _ wsX2_faultKind RX2 := ⟨hx, hb, hml, hown, hts⟩
  have hl : lv_has ls 1 [(0, .ref ra)] := hl
  unfold mX2_faultKind at hm
  refine lv_aload_n hx hb dX2_faultKind_0 rfl (lv_at hl 0 rfl) ?_
  refine gf (q0 := 0) hx hb hts hown hK flX2_faultKind_23 hP rfl rfl dX2_faultKind_1 ?_
  cases hm
  exact hret _ _ dX2_faultKind_4 rfl
/-! X2 isBlank(I)Z -/
abbrev rmX2_isBlank : Room := { frames := 0, cells := 0, slots := 0, locals := 0 }
theorem hdX2_isBlank : yX2_isBlank.cls = RX2 ∧ yX2_isBlank.cls ≠ "java/lang/invoke/MethodHandle" ∧ yX2_isBlank.cls ≠ "java/lang/invoke/VarHandle" ∧ (parseMethodDescriptor yX2_isBlank.desc).map (fun d => d.parameters.length) = some 1 := by decide +kernel
set_option maxRecDepth 100000 in
set_option maxHeartbeats 4000000 in
theorem kX2_isBlank {l : Launch} {D : va_G} {cI cB cL cK : ClassId}   {p1 : Int32} {res : Int32} (hm : mX2_isBlank p1 = some res) : Rd l D cI cB cL cK yX2_isBlank wsX2_isBlank rmX2_isBlank [.int p1] [] res := by
  refine Rd.of (cc := cX2_isBlank) (own := RX2) (by decide) rfl rfl (Nat.le_of_ble_eq_true rfl) (fun p e s m below meth c ls Q C hP hl hret => ?_)
  obtain ⟨hx, hb, hr, hml, hown, hts, hlk, hK⟩ := id C
  have hcf : CallFix p m c cX2_isBlank 1 s _ wsX2_isBlank RX2 := ⟨hx, hb, hml, hown, hts⟩
  have hl : lv_has ls 1 [(0, .int p1)] := hl
  unfold mX2_isBlank at hm
  refine lv_iload_n hx hb dX2_isBlank_0 rfl (lv_at hl 0 rfl) ?_
  refine lv_bipush (v := 32) hx hb dX2_isBlank_1 (by decide) ?_
  refine lv_icmp_eq (tgt := 12) hx hb dX2_isBlank_3 (by decide) (fun c_1 => ?_) (fun c_1 => ?_)
  · replace hm := br_p hm c_1
    refine lv_iconst (v := 1) hx hb dX2_isBlank_12 (by decide) ?_
    refine lv_goto (tgt := 17) hx hb dX2_isBlank_13 (by decide) ?_
    cases hm
    exact hret _ _ dX2_isBlank_17 rfl
  · replace hm := br_n hm c_1
    refine lv_iload_n hx hb dX2_isBlank_6 rfl (lv_at hl 0 rfl) ?_
    refine lv_bipush (v := 10) hx hb dX2_isBlank_7 (by decide) ?_
    refine lv_icmp_ne (tgt := 16) hx hb dX2_isBlank_9 (by decide) (fun c_2 => ?_) (fun c_2 => ?_)
    · replace hm := br_n hm c_2
      refine lv_iconst (v := 0) hx hb dX2_isBlank_16 (by decide) ?_
      cases hm
      exact hret _ _ dX2_isBlank_17 rfl
    · replace hm := br_p hm c_2
      refine lv_iconst (v := 1) hx hb dX2_isBlank_12 (by decide) ?_
      refine lv_goto (tgt := 17) hx hb dX2_isBlank_13 (by decide) ?_
      cases hm
      exact hret _ _ dX2_isBlank_17 rfl
/-! X2 isLetter(I)Z -/
abbrev rmX2_isLetter : Room := { frames := 0, cells := 0, slots := 0, locals := 0 }
theorem hdX2_isLetter : yX2_isLetter.cls = RX2 ∧ yX2_isLetter.cls ≠ "java/lang/invoke/MethodHandle" ∧ yX2_isLetter.cls ≠ "java/lang/invoke/VarHandle" ∧ (parseMethodDescriptor yX2_isLetter.desc).map (fun d => d.parameters.length) = some 1 := by decide +kernel
set_option maxRecDepth 100000 in
set_option maxHeartbeats 4000000 in
theorem kX2_isLetter {l : Launch} {D : va_G} {cI cB cL cK : ClassId}   {p1 : Int32} {res : Int32} (hm : mX2_isLetter p1 = some res) : Rd l D cI cB cL cK yX2_isLetter wsX2_isLetter rmX2_isLetter [.int p1] [] res := by
  refine Rd.of (cc := cX2_isLetter) (own := RX2) (by decide) rfl rfl (Nat.le_of_ble_eq_true rfl) (fun p e s m below meth c ls Q C hP hl hret => ?_)
  obtain ⟨hx, hb, hr, hml, hown, hts, hlk, hK⟩ := id C
  have hcf : CallFix p m c cX2_isLetter 1 s _ wsX2_isLetter RX2 := ⟨hx, hb, hml, hown, hts⟩
  have hl : lv_has ls 1 [(0, .int p1)] := hl
  unfold mX2_isLetter at hm
  refine lv_iload_n hx hb dX2_isLetter_0 rfl (lv_at hl 0 rfl) ?_
  refine lv_bipush (v := 97) hx hb dX2_isLetter_1 (by decide) ?_
  refine lv_icmp_lt (tgt := 16) hx hb dX2_isLetter_3 (by decide) (fun c_1 => ?_) (fun c_1 => ?_)
  · replace hm := br_p hm c_1
    refine lv_iconst (v := 0) hx hb dX2_isLetter_16 (by decide) ?_
    cases hm
    exact hret _ _ dX2_isLetter_17 rfl
  · replace hm := br_n hm c_1
    refine lv_iload_n hx hb dX2_isLetter_6 rfl (lv_at hl 0 rfl) ?_
    refine lv_bipush (v := 122) hx hb dX2_isLetter_7 (by decide) ?_
    refine lv_icmp_gt (tgt := 16) hx hb dX2_isLetter_9 (by decide) (fun c_2 => ?_) (fun c_2 => ?_)
    · replace hm := br_p hm c_2
      refine lv_iconst (v := 0) hx hb dX2_isLetter_16 (by decide) ?_
      cases hm
      exact hret _ _ dX2_isLetter_17 rfl
    · replace hm := br_n hm c_2
      refine lv_iconst (v := 1) hx hb dX2_isLetter_12 (by decide) ?_
      refine lv_goto (tgt := 17) hx hb dX2_isLetter_13 (by decide) ?_
      cases hm
      exact hret _ _ dX2_isLetter_17 rfl
/-! X2 isDigit(I)Z -/
abbrev rmX2_isDigit : Room := { frames := 0, cells := 0, slots := 0, locals := 0 }
theorem hdX2_isDigit : yX2_isDigit.cls = RX2 ∧ yX2_isDigit.cls ≠ "java/lang/invoke/MethodHandle" ∧ yX2_isDigit.cls ≠ "java/lang/invoke/VarHandle" ∧ (parseMethodDescriptor yX2_isDigit.desc).map (fun d => d.parameters.length) = some 1 := by decide +kernel
set_option maxRecDepth 100000 in
set_option maxHeartbeats 4000000 in
theorem kX2_isDigit {l : Launch} {D : va_G} {cI cB cL cK : ClassId}   {p1 : Int32} {res : Int32} (hm : mX2_isDigit p1 = some res) : Rd l D cI cB cL cK yX2_isDigit wsX2_isDigit rmX2_isDigit [.int p1] [] res := by
  refine Rd.of (cc := cX2_isDigit) (own := RX2) (by decide) rfl rfl (Nat.le_of_ble_eq_true rfl) (fun p e s m below meth c ls Q C hP hl hret => ?_)
  obtain ⟨hx, hb, hr, hml, hown, hts, hlk, hK⟩ := id C
  have hcf : CallFix p m c cX2_isDigit 1 s _ wsX2_isDigit RX2 := ⟨hx, hb, hml, hown, hts⟩
  have hl : lv_has ls 1 [(0, .int p1)] := hl
  unfold mX2_isDigit at hm
  refine lv_iload_n hx hb dX2_isDigit_0 rfl (lv_at hl 0 rfl) ?_
  refine lv_bipush (v := 48) hx hb dX2_isDigit_1 (by decide) ?_
  refine lv_icmp_lt (tgt := 16) hx hb dX2_isDigit_3 (by decide) (fun c_1 => ?_) (fun c_1 => ?_)
  · replace hm := br_p hm c_1
    refine lv_iconst (v := 0) hx hb dX2_isDigit_16 (by decide) ?_
    cases hm
    exact hret _ _ dX2_isDigit_17 rfl
  · replace hm := br_n hm c_1
    refine lv_iload_n hx hb dX2_isDigit_6 rfl (lv_at hl 0 rfl) ?_
    refine lv_bipush (v := 57) hx hb dX2_isDigit_7 (by decide) ?_
    refine lv_icmp_gt (tgt := 16) hx hb dX2_isDigit_9 (by decide) (fun c_2 => ?_) (fun c_2 => ?_)
    · replace hm := br_p hm c_2
      refine lv_iconst (v := 0) hx hb dX2_isDigit_16 (by decide) ?_
      cases hm
      exact hret _ _ dX2_isDigit_17 rfl
    · replace hm := br_n hm c_2
      refine lv_iconst (v := 1) hx hb dX2_isDigit_12 (by decide) ?_
      refine lv_goto (tgt := 17) hx hb dX2_isDigit_13 (by decide) ?_
      cases hm
      exact hret _ _ dX2_isDigit_17 rfl
/-! X2 scanRun(I)V -/
abbrev rmX2_scanRun : Room := { frames := 1, cells := 0, slots := 0, locals := 21 }
theorem hdX2_scanRun : yX2_scanRun.cls = RX2 ∧ yX2_scanRun.cls ≠ "java/lang/invoke/MethodHandle" ∧ yX2_scanRun.cls ≠ "java/lang/invoke/VarHandle" ∧ (parseMethodDescriptor yX2_scanRun.desc).map (fun d => d.parameters.length) = some 1 := by decide +kernel
theorem inX2_scanRun_X2 : ∀ w ∈ u_ws RX2 TX2 8, w ∈ wsX2_scanRun := by decide +kernel
theorem cwX2_scanRun_X2_isDigit {s : State} {args : Array Value} (hts : ∀ w ∈ wsX2_scanRun, w.before args s = true) : CallB rmX2_scanRun s args RX2 137 yX2_isDigit cX2_isDigit 1 (some .boolean) wsX2_isDigit rmX2_isDigit 0 0 1 ∧ (Cond.static yX2_isDigit).before args s = true := va_cwS 1 hts gX2_scanRun_X2_isDigit rfl rfl rfl hdX2_isDigit.2 ⟨Nat.le_of_ble_eq_true rfl, Nat.le_of_ble_eq_true rfl⟩
theorem cwX2_scanRun_X2_isLetter {s : State} {args : Array Value} (hts : ∀ w ∈ wsX2_scanRun, w.before args s = true) : CallB rmX2_scanRun s args RX2 134 yX2_isLetter cX2_isLetter 1 (some .boolean) wsX2_isLetter rmX2_isLetter 0 0 1 ∧ (Cond.static yX2_isLetter).before args s = true := va_cwS 1 hts gX2_scanRun_X2_isLetter rfl rfl rfl hdX2_isLetter.2 ⟨Nat.le_of_ble_eq_true rfl, Nat.le_of_ble_eq_true rfl⟩
theorem cwX2_scanRun_X4_at {s : State} {args : Array Value} (hts : ∀ w ∈ wsX2_scanRun, w.before args s = true) : CallW rmX2_scanRun s args RX2 RX4 123 yX4_at cX4_at 2 (some .int) wsX4_at rmX4_at 0 0 1 := cwV 1 hts gX2_scanRun_X4_at rfl rfl rfl hdX4_at ⟨Nat.le_of_ble_eq_true rfl, Nat.le_of_ble_eq_true rfl⟩
theorem flX2_scanRun_112 : Fl wsX2_scanRun RX2 112 2 5 := ⟨_, _, _, rfl, by decide, inX2_scanRun_X2, by decide +kernel⟩
theorem flX2_scanRun_120 : Fl wsX2_scanRun RX2 120 2 4 := ⟨_, _, _, rfl, by decide, inX2_scanRun_X2, by decide +kernel⟩
theorem flX2_scanRun_9 : Fl wsX2_scanRun RX2 9 2 0 := ⟨_, _, _, rfl, by decide, inX2_scanRun_X2, by decide +kernel⟩
theorem fpX2_scanRun_112 : Fp wsX2_scanRun RX2 112 2 5 false .int := ⟨_, _, _, tyX2, rfl, by decide, inX2_scanRun_X2, by decide +kernel, tyX2_ok, nmX2, rfl, rfl, by decide +kernel⟩
theorem fpX2_scanRun_120 : Fp wsX2_scanRun RX2 120 2 4 false .int := ⟨_, _, _, tyX2, rfl, by decide, inX2_scanRun_X2, by decide +kernel, tyX2_ok, nmX2, rfl, rfl, by decide +kernel⟩
theorem fpX2_scanRun_29 : Fp wsX2_scanRun RX2 29 2 2 false .int := ⟨_, _, _, tyX2, rfl, by decide, inX2_scanRun_X2, by decide +kernel, tyX2_ok, nmX2, rfl, rfl, by decide +kernel⟩
set_option maxRecDepth 100000 in
set_option maxHeartbeats 4000000 in
theorem tX2_scanRun_b132 {ra : Nat} {a : Nat} {b : Nat} {ad : Nat → Nat} {bg : Int32} {lt : Int32} {ft : Int32} {us : Int32} {tf : Nat → Int32} {ho : Int32} {td : Int32} {pd : Int32} {sr : Int32} {dr : Int32} {ir : Int32} {qr : Int32} {sf : Nat → Int32} {df : Nat → Int32} {jf : Nat → Int32} {qf : Nat → Int32} {kd' : Int32} {pt' : Int32} {vl' : Int32} (C : Cx p s m args meth c cX2_scanRun none 4 wsX2_scanRun RX2 D cI cB cL cK) (hA : ∀ q : Nat, s.heap.size ≤ q → A q) (hret : ∀ (pc : Nat) (ls : Array Slot) (H : Heap) (locs : List Loc), decode cX2_scanRun pc = .ok (.return_, 1) → va_P D vwCl (wR cI cB ra a b ad kd' bg pt' vl' lt ft us tf ho td pd sr dr ir qr sf df jf qf) H → va_D A (wR cI cB ra a b ad kd' bg pt' vl' lt ft us tf ho td pd sr dr ir qr sf df jf qf) → va_S A s.heap H locs → W p l e rmX2_scanRun s m args below meth c H locs 0 0 Q (F0 m pc ls [])) : ∀ (x2 : Int32) (x3 : Int32) (kd : Int32) (pt : Int32) (vl : Int32), mX2_scanRun_b132 us tf x2 x3 kd pt vl = some (kd', pt', vl') → ∀ (H : Heap) (locs : List Loc) (ls : Array Slot), va_P D vwCl (wR cI cB ra a b ad kd bg pt vl lt ft us tf ho td pd sr dr ir qr sf df jf qf) H → va_D A (wR cI cB ra a b ad kd bg pt vl lt ft us tf ho td pd sr dr ir qr sf df jf qf) → va_S A s.heap H locs → lv_has ls 4 [(0, .ref ra), (2, .int x2), (3, .int x3)] → W p l e rmX2_scanRun s m args below meth c H locs 0 0 Q (F0 m 132 ls []) := by
  obtain ⟨hx, hb, hr, hml, hown, hts, hlk, hK⟩ := id C
  have hcf : CallFix p m c cX2_scanRun 4 s args wsX2_scanRun RX2 := ⟨hx, hb, hml, hown, hts⟩
  intro x2 x3 kd pt vl hm H locs ls hP hD hS hl
  unfold mX2_scanRun_b132 at hm
  refine lv_iload_n hx hb dX2_scanRun_132 rfl (lv_at hl 1 rfl) ?_
  refine lv_if_ne (tgt := 153) hx hb dX2_scanRun_133 (by decide) (fun c_21 => ?_) (fun c_21 => ?_)
  · replace hm := br_n hm c_21
    refine lv_aload_n hx hb dX2_scanRun_153 rfl (lv_at hl 0 rfl) ?_
    refine lv_iconst (v := 0) hx hb dX2_scanRun_154 (by decide) ?_
    refine pf (q0 := 0) (X' := (wR cI cB ra a b ad 0 bg pt vl lt ft us tf ho td pd sr dr ir qr sf df jf qf)) hx hb hts hown hK fpX2_scanRun_29 hP hD hS rfl rfl rfl (Nat.le_of_ble_eq_true rfl) rfl dX2_scanRun_155 (fun H locs hP hD hS => ?_)
    cases hm
    exact hret _ _ _ _ dX2_scanRun_158 hP hD hS
  · replace hm := br_p hm c_21
    refine lv_iload_n hx hb dX2_scanRun_136 rfl (lv_at hl 2 rfl) ?_
    refine lv_if_le (tgt := 153) hx hb dX2_scanRun_137 (by decide) (fun c_22 => ?_) (fun c_22 => ?_)
    · replace hm := br_p hm c_22
      refine lv_aload_n hx hb dX2_scanRun_153 rfl (lv_at hl 0 rfl) ?_
      refine lv_iconst (v := 0) hx hb dX2_scanRun_154 (by decide) ?_
      refine pf (q0 := 0) (X' := (wR cI cB ra a b ad 0 bg pt vl lt ft us tf ho td pd sr dr ir qr sf df jf qf)) hx hb hts hown hK fpX2_scanRun_29 hP hD hS rfl rfl rfl (Nat.le_of_ble_eq_true rfl) rfl dX2_scanRun_155 (fun H locs hP hD hS => ?_)
      cases hm
      exact hret _ _ _ _ dX2_scanRun_158 hP hD hS
    · replace hm := br_n hm c_22
      refine lv_iload_n hx hb dX2_scanRun_140 rfl (lv_at hl 2 rfl) ?_
      refine lv_iconst (v := 4) hx hb dX2_scanRun_141 (by decide) ?_
      refine lv_icmp_gt (tgt := 153) hx hb dX2_scanRun_142 (by decide) (fun c_23 => ?_) (fun c_23 => ?_)
      · replace hm := br_p hm c_23
        refine lv_aload_n hx hb dX2_scanRun_153 rfl (lv_at hl 0 rfl) ?_
        refine lv_iconst (v := 0) hx hb dX2_scanRun_154 (by decide) ?_
        refine pf (q0 := 0) (X' := (wR cI cB ra a b ad 0 bg pt vl lt ft us tf ho td pd sr dr ir qr sf df jf qf)) hx hb hts hown hK fpX2_scanRun_29 hP hD hS rfl rfl rfl (Nat.le_of_ble_eq_true rfl) rfl dX2_scanRun_155 (fun H locs hP hD hS => ?_)
        cases hm
        exact hret _ _ _ _ dX2_scanRun_158 hP hD hS
      · replace hm := br_n hm c_23
        refine lv_aload_n hx hb dX2_scanRun_145 rfl (lv_at hl 0 rfl) ?_
        refine lv_iconst (v := 2) hx hb dX2_scanRun_146 (by decide) ?_
        refine pf (q0 := 0) (X' := (wR cI cB ra a b ad 2 bg pt vl lt ft us tf ho td pd sr dr ir qr sf df jf qf)) hx hb hts hown hK fpX2_scanRun_29 hP hD hS rfl rfl rfl (Nat.le_of_ble_eq_true rfl) rfl dX2_scanRun_147 (fun H locs hP hD hS => ?_)
        refine lv_goto (tgt := 158) hx hb dX2_scanRun_150 (by decide) ?_
        cases hm
        exact hret _ _ _ _ dX2_scanRun_158 hP hD hS
set_option maxRecDepth 100000 in
set_option maxHeartbeats 4000000 in
theorem tX2_scanRun_b116 {ra : Nat} {a : Nat} {b : Nat} {ad : Nat → Nat} {bg : Int32} {lt : Int32} {ft : Int32} {us : Int32} {tf : Nat → Int32} {ho : Int32} {td : Int32} {pd : Int32} {sr : Int32} {dr : Int32} {ir : Int32} {qr : Int32} {sf : Nat → Int32} {df : Nat → Int32} {jf : Nat → Int32} {qf : Nat → Int32} {kd' : Int32} {pt' : Int32} {vl' : Int32} (C : Cx p s m args meth c cX2_scanRun none 4 wsX2_scanRun RX2 D cI cB cL cK) (hA : ∀ q : Nat, s.heap.size ≤ q → A q) (hret : ∀ (pc : Nat) (ls : Array Slot) (H : Heap) (locs : List Loc), decode cX2_scanRun pc = .ok (.return_, 1) → va_P D vwCl (wR cI cB ra a b ad kd' bg pt' vl' lt ft us tf ho td pd sr dr ir qr sf df jf qf) H → va_D A (wR cI cB ra a b ad kd' bg pt' vl' lt ft us tf ho td pd sr dr ir qr sf df jf qf) → va_S A s.heap H locs → W p l e rmX2_scanRun s m args below meth c H locs 0 0 Q (F0 m pc ls [])) : ∀ (x2 : Int32) (x3 : Int32) (kd : Int32) (pt : Int32) (vl : Int32), mX2_scanRun_b116 us tf x2 x3 kd pt vl = some (kd', pt', vl') → ∀ (H : Heap) (locs : List Loc) (ls : Array Slot), va_P D vwCl (wR cI cB ra a b ad kd bg pt vl lt ft us tf ho td pd sr dr ir qr sf df jf qf) H → va_D A (wR cI cB ra a b ad kd bg pt vl lt ft us tf ho td pd sr dr ir qr sf df jf qf) → va_S A s.heap H locs → lv_has ls 4 [(0, .ref ra), (2, .int x2), (3, .int x3)] → W p l e rmX2_scanRun s m args below meth c H locs 0 0 Q (F0 m 116 ls []) := by
  obtain ⟨hx, hb, hr, hml, hown, hts, hlk, hK⟩ := id C
  have hcf : CallFix p m c cX2_scanRun 4 s args wsX2_scanRun RX2 := ⟨hx, hb, hml, hown, hts⟩
  intro x2 x3 kd pt vl hm H locs ls hP hD hS hl
  unfold mX2_scanRun_b116 at hm
  refine lv_iload_n hx hb dX2_scanRun_116 rfl (lv_at hl 1 rfl) ?_
  refine lv_if_le (tgt := 132) hx hb dX2_scanRun_117 (by decide) (fun c_12 => ?_) (fun c_12 => ?_)
  · replace hm := br_p hm c_12
    exact tX2_scanRun_b132 C hA hret _ _ _ _ _ hm _ _ _ hP hD hS (lv_sub hl [0, 1, 2] rfl)
  · replace hm := br_n hm c_12
    refine lv_iload_n hx hb dX2_scanRun_120 rfl (lv_at hl 2 rfl) ?_
    refine lv_if_ne (tgt := 132) hx hb dX2_scanRun_121 (by decide) (fun c_13 => ?_) (fun c_13 => ?_)
    · replace hm := br_n hm c_13
      exact tX2_scanRun_b132 C hA hret _ _ _ _ _ hm _ _ _ hP hD hS (lv_sub hl [0, 1, 2] rfl)
    · replace hm := br_p hm c_13
      refine lv_aload_n hx hb dX2_scanRun_124 rfl (lv_at hl 0 rfl) ?_
      refine lv_iconst (v := 1) hx hb dX2_scanRun_125 (by decide) ?_
      refine pf (q0 := 0) (X' := (wR cI cB ra a b ad 1 bg pt vl lt ft us tf ho td pd sr dr ir qr sf df jf qf)) hx hb hts hown hK fpX2_scanRun_29 hP hD hS rfl rfl rfl (Nat.le_of_ble_eq_true rfl) rfl dX2_scanRun_126 (fun H locs hP hD hS => ?_)
      refine lv_goto (tgt := 158) hx hb dX2_scanRun_129 (by decide) ?_
      cases hm
      exact hret _ _ _ _ dX2_scanRun_158 hP hD hS
set_option maxRecDepth 100000 in
set_option maxHeartbeats 4000000 in
theorem tX2_scanRun_b103 {ra : Nat} {a : Nat} {b : Nat} {ad : Nat → Nat} {bg : Int32} {lt : Int32} {ft : Int32} {us : Int32} {tf : Nat → Int32} {ho : Int32} {td : Int32} {pd : Int32} {sr : Int32} {dr : Int32} {ir : Int32} {qr : Int32} {sf : Nat → Int32} {df : Nat → Int32} {jf : Nat → Int32} {qf : Nat → Int32} {kd' : Int32} {pt' : Int32} {vl' : Int32} {rec9 : Int32 → Int32 → Int32 → Int32 → Int32 → Int32 → Option (Int32 × Int32 × Int32)} (C : Cx p s m args meth c cX2_scanRun none 4 wsX2_scanRun RX2 D cI cB cL cK) (hA : ∀ q : Nat, s.heap.size ≤ q → A q) (hret : ∀ (pc : Nat) (ls : Array Slot) (H : Heap) (locs : List Loc), decode cX2_scanRun pc = .ok (.return_, 1) → va_P D vwCl (wR cI cB ra a b ad kd' bg pt' vl' lt ft us tf ho td pd sr dr ir qr sf df jf qf) H → va_D A (wR cI cB ra a b ad kd' bg pt' vl' lt ft us tf ho td pd sr dr ir qr sf df jf qf) → va_S A s.heap H locs → W p l e rmX2_scanRun s m args below meth c H locs 0 0 Q (F0 m pc ls [])) (hrec9 : ∀ (x1 : Int32) (x2 : Int32) (x3 : Int32) (kd : Int32) (pt : Int32) (vl : Int32), rec9 x1 x2 x3 kd pt vl = some (kd', pt', vl') → ∀ (H : Heap) (locs : List Loc) (ls : Array Slot), va_P D vwCl (wR cI cB ra a b ad kd bg pt vl lt ft us tf ho td pd sr dr ir qr sf df jf qf) H → va_D A (wR cI cB ra a b ad kd bg pt vl lt ft us tf ho td pd sr dr ir qr sf df jf qf) → va_S A s.heap H locs → lv_has ls 4 [(0, .ref ra), (1, .int x1), (2, .int x2), (3, .int x3)] → W p l e rmX2_scanRun s m args below meth c H locs 0 0 Q (F0 m 9 ls [])) : ∀ (x1 : Int32) (x2 : Int32) (x3 : Int32) (kd : Int32) (pt : Int32) (vl : Int32), mX2_scanRun_b103 rec9 us tf x1 x2 x3 kd pt vl = some (kd', pt', vl') → ∀ (H : Heap) (locs : List Loc) (ls : Array Slot), va_P D vwCl (wR cI cB ra a b ad kd bg pt vl lt ft us tf ho td pd sr dr ir qr sf df jf qf) H → va_D A (wR cI cB ra a b ad kd bg pt vl lt ft us tf ho td pd sr dr ir qr sf df jf qf) → va_S A s.heap H locs → lv_has ls 4 [(0, .ref ra), (1, .int x1), (2, .int x2), (3, .int x3)] → W p l e rmX2_scanRun s m args below meth c H locs 0 0 Q (F0 m 103 ls []) := by
  obtain ⟨hx, hb, hr, hml, hown, hts, hlk, hK⟩ := id C
  have hcf : CallFix p m c cX2_scanRun 4 s args wsX2_scanRun RX2 := ⟨hx, hb, hml, hown, hts⟩
  intro x1 x2 x3 kd pt vl hm H locs ls hP hD hS hl
  unfold mX2_scanRun_b103 at hm
  refine lv_aload_n hx hb dX2_scanRun_103 rfl (lv_at hl 0 rfl) ?_
  refine lv_dup hx hb dX2_scanRun_104 rfl ?_
  refine gf (q0 := 0) hx hb hts hown hK flX2_scanRun_120 hP rfl rfl dX2_scanRun_105 ?_
  refine lv_iconst (v := 1) hx hb dX2_scanRun_108 (by decide) ?_
  refine lv_iadd hx hb dX2_scanRun_109 ?_
  refine pf (q0 := 0) (X' := (wR cI cB ra a b ad kd bg (pt + 1) vl lt ft us tf ho td pd sr dr ir qr sf df jf qf)) hx hb hts hown hK fpX2_scanRun_120 hP hD hS rfl rfl rfl (Nat.le_of_ble_eq_true rfl) rfl dX2_scanRun_110 (fun H locs hP hD hS => ?_)
  refine lv_goto (tgt := 9) hx hb dX2_scanRun_113 (by decide) ?_
  exact hrec9 _ _ _ _ _ _ hm _ _ _ hP hD hS (lv_sub hl [0, 1, 2, 3] rfl)
set_option maxRecDepth 100000 in
set_option maxHeartbeats 4000000 in
theorem tX2_scanRun_b51 {ra : Nat} {a : Nat} {b : Nat} {ad : Nat → Nat} {bg : Int32} {lt : Int32} {ft : Int32} {us : Int32} {tf : Nat → Int32} {ho : Int32} {td : Int32} {pd : Int32} {sr : Int32} {dr : Int32} {ir : Int32} {qr : Int32} {sf : Nat → Int32} {df : Nat → Int32} {jf : Nat → Int32} {qf : Nat → Int32} {kd' : Int32} {pt' : Int32} {vl' : Int32} {rec9 : Int32 → Int32 → Int32 → Int32 → Int32 → Int32 → Option (Int32 × Int32 × Int32)} (C : Cx p s m args meth c cX2_scanRun none 4 wsX2_scanRun RX2 D cI cB cL cK) (hA : ∀ q : Nat, s.heap.size ≤ q → A q) (hret : ∀ (pc : Nat) (ls : Array Slot) (H : Heap) (locs : List Loc), decode cX2_scanRun pc = .ok (.return_, 1) → va_P D vwCl (wR cI cB ra a b ad kd' bg pt' vl' lt ft us tf ho td pd sr dr ir qr sf df jf qf) H → va_D A (wR cI cB ra a b ad kd' bg pt' vl' lt ft us tf ho td pd sr dr ir qr sf df jf qf) → va_S A s.heap H locs → W p l e rmX2_scanRun s m args below meth c H locs 0 0 Q (F0 m pc ls [])) (hrec9 : ∀ (x1 : Int32) (x2 : Int32) (x3 : Int32) (kd : Int32) (pt : Int32) (vl : Int32), rec9 x1 x2 x3 kd pt vl = some (kd', pt', vl') → ∀ (H : Heap) (locs : List Loc) (ls : Array Slot), va_P D vwCl (wR cI cB ra a b ad kd bg pt vl lt ft us tf ho td pd sr dr ir qr sf df jf qf) H → va_D A (wR cI cB ra a b ad kd bg pt vl lt ft us tf ho td pd sr dr ir qr sf df jf qf) → va_S A s.heap H locs → lv_has ls 4 [(0, .ref ra), (1, .int x1), (2, .int x2), (3, .int x3)] → W p l e rmX2_scanRun s m args below meth c H locs 0 0 Q (F0 m 9 ls [])) : ∀ (x1 : Int32) (x2 : Int32) (x3 : Int32) (kd : Int32) (pt : Int32) (vl : Int32), mX2_scanRun_b51 rec9 us tf x1 x2 x3 kd pt vl = some (kd', pt', vl') → ∀ (H : Heap) (locs : List Loc) (ls : Array Slot), va_P D vwCl (wR cI cB ra a b ad kd bg pt vl lt ft us tf ho td pd sr dr ir qr sf df jf qf) H → va_D A (wR cI cB ra a b ad kd bg pt vl lt ft us tf ho td pd sr dr ir qr sf df jf qf) → va_S A s.heap H locs → lv_has ls 4 [(0, .ref ra), (1, .int x1), (2, .int x2), (3, .int x3)] → W p l e rmX2_scanRun s m args below meth c H locs 0 0 Q (F0 m 51 ls []) := by
  obtain ⟨hx, hb, hr, hml, hown, hts, hlk, hK⟩ := id C
  have hcf : CallFix p m c cX2_scanRun 4 s args wsX2_scanRun RX2 := ⟨hx, hb, hml, hown, hts⟩
  intro x1 x2 x3 kd pt vl hm H locs ls hP hD hS hl
  unfold mX2_scanRun_b51 at hm
  refine lv_aload_n hx hb dX2_scanRun_51 rfl (lv_at hl 0 rfl) ?_
  refine gf (q0 := 0) hx hb hts hown hK flX2_scanRun_9 hP rfl rfl dX2_scanRun_52 ?_
  refine lv_aload_n hx hb dX2_scanRun_55 rfl (lv_at hl 0 rfl) ?_
  refine gf (q0 := 0) hx hb hts hown hK flX2_scanRun_120 hP rfl rfl dX2_scanRun_56 ?_
  obtain ⟨v14, h_15, hm⟩ := b1_s hm
  refine rd_v hcf (kX4_at h_15) (cwX2_scanRun_X4_at hts) hK hP sR_p (ci := 4) (q0 := 1) rfl rfl rfl hl.1 rfl (Nat.le_of_ble_eq_true rfl) dX2_scanRun_59 ⟨Nat.zero_le _, Nat.zero_le _⟩ ?_
  obtain ⟨v16, h_17, hm⟩ := b1_s hm
  refine rd_s hcf (kX2_isLetter h_17) (cwX2_scanRun_X2_isLetter hts) hK hP Sb.nil rfl hl.1 rfl (Nat.le_of_ble_eq_true rfl) dX2_scanRun_62 ⟨Nat.zero_le _, Nat.zero_le _⟩ ?_
  refine lv_if_eq (tgt := 74) hx hb dX2_scanRun_65 (by decide) (fun c_18 => ?_) (fun c_18 => ?_)
  · replace hm := br_p hm c_18
    refine lv_iinc (v := (x3 + 1)) (lv' := [(3, .int (x3 + 1)), (0, .ref ra), (1, .int x1), (2, .int x2)]) hx hb dX2_scanRun_74 hl (k := 3) rfl rfl (by decide) rfl (fun ls hl => ?_)
    refine lv_aload_n hx hb dX2_scanRun_77 rfl (lv_at hl 1 rfl) ?_
    refine lv_aload_n hx hb dX2_scanRun_78 rfl (lv_at hl 1 rfl) ?_
    refine gf (q0 := 0) hx hb hts hown hK flX2_scanRun_112 hP rfl rfl dX2_scanRun_79 ?_
    refine lv_bipush (v := 10) hx hb dX2_scanRun_82 (by decide) ?_
    refine lv_imul hx hb dX2_scanRun_84 ?_
    refine lv_aload_n hx hb dX2_scanRun_85 rfl (lv_at hl 1 rfl) ?_
    refine gf (q0 := 0) hx hb hts hown hK flX2_scanRun_9 hP rfl rfl dX2_scanRun_86 ?_
    refine lv_aload_n hx hb dX2_scanRun_89 rfl (lv_at hl 1 rfl) ?_
    refine gf (q0 := 0) hx hb hts hown hK flX2_scanRun_120 hP rfl rfl dX2_scanRun_90 ?_
    obtain ⟨v19, h_20, hm⟩ := b1_s hm
    refine rd_v hcf (kX4_at h_20) (cwX2_scanRun_X4_at hts) hK hP sR_p (ci := 4) (q0 := 1) rfl rfl rfl hl.1 rfl (Nat.le_of_ble_eq_true rfl) dX2_scanRun_93 ⟨Nat.zero_le _, Nat.zero_le _⟩ ?_
    refine lv_iadd hx hb dX2_scanRun_96 ?_
    refine lv_bipush (v := 48) hx hb dX2_scanRun_97 (by decide) ?_
    refine lv_isub hx hb dX2_scanRun_99 ?_
    refine pf (q0 := 0) (X' := (wR cI cB ra a b ad kd bg pt (((vl * 10) + v19) - 48) lt ft us tf ho td pd sr dr ir qr sf df jf qf)) hx hb hts hown hK fpX2_scanRun_112 hP hD hS rfl rfl rfl (Nat.le_of_ble_eq_true rfl) rfl dX2_scanRun_100 (fun H locs hP hD hS => ?_)
    exact tX2_scanRun_b103 C hA hret hrec9 _ _ _ _ _ _ hm _ _ _ hP hD hS (lv_sub hl [1, 2, 3, 0] rfl)
  · replace hm := br_n hm c_18
    refine lv_iinc (v := (x2 + 1)) (lv' := [(2, .int (x2 + 1)), (0, .ref ra), (1, .int x1), (3, .int x3)]) hx hb dX2_scanRun_68 hl (k := 2) rfl rfl (by decide) rfl (fun ls hl => ?_)
    refine lv_goto (tgt := 103) hx hb dX2_scanRun_71 (by decide) ?_
    exact tX2_scanRun_b103 C hA hret hrec9 _ _ _ _ _ _ hm _ _ _ hP hD hS (lv_sub hl [1, 2, 0, 3] rfl)
set_option maxRecDepth 100000 in
set_option maxHeartbeats 4000000 in
theorem tX2_scanRun_L9 {ra : Nat} {a : Nat} {b : Nat} {ad : Nat → Nat} {bg : Int32} {lt : Int32} {ft : Int32} {us : Int32} {tf : Nat → Int32} {ho : Int32} {td : Int32} {pd : Int32} {sr : Int32} {dr : Int32} {ir : Int32} {qr : Int32} {sf : Nat → Int32} {df : Nat → Int32} {jf : Nat → Int32} {qf : Nat → Int32} {kd' : Int32} {pt' : Int32} {vl' : Int32} (C : Cx p s m args meth c cX2_scanRun none 4 wsX2_scanRun RX2 D cI cB cL cK) (hA : ∀ q : Nat, s.heap.size ≤ q → A q) (hret : ∀ (pc : Nat) (ls : Array Slot) (H : Heap) (locs : List Loc), decode cX2_scanRun pc = .ok (.return_, 1) → va_P D vwCl (wR cI cB ra a b ad kd' bg pt' vl' lt ft us tf ho td pd sr dr ir qr sf df jf qf) H → va_D A (wR cI cB ra a b ad kd' bg pt' vl' lt ft us tf ho td pd sr dr ir qr sf df jf qf) → va_S A s.heap H locs → W p l e rmX2_scanRun s m args below meth c H locs 0 0 Q (F0 m pc ls [])) : ∀ (n9 : Nat) (x1 : Int32) (x2 : Int32) (x3 : Int32) (kd : Int32) (pt : Int32) (vl : Int32), mX2_scanRun_L9 n9 us tf x1 x2 x3 kd pt vl = some (kd', pt', vl') → ∀ (H : Heap) (locs : List Loc) (ls : Array Slot), va_P D vwCl (wR cI cB ra a b ad kd bg pt vl lt ft us tf ho td pd sr dr ir qr sf df jf qf) H → va_D A (wR cI cB ra a b ad kd bg pt vl lt ft us tf ho td pd sr dr ir qr sf df jf qf) → va_S A s.heap H locs → lv_has ls 4 [(0, .ref ra), (1, .int x1), (2, .int x2), (3, .int x3)] → W p l e rmX2_scanRun s m args below meth c H locs 0 0 Q (F0 m 9 ls []) := by
  obtain ⟨hx, hb, hr, hml, hown, hts, hlk, hK⟩ := id C
  have hcf : CallFix p m c cX2_scanRun 4 s args wsX2_scanRun RX2 := ⟨hx, hb, hml, hown, hts⟩
  intro n9
  induction n9 with
  | zero => intro x1 x2 x3 kd pt vl hm; cases hm
  | succ k ih =>
    intro x1 x2 x3 kd pt vl hm H locs ls hP hD hS hl
    rw [mX2_scanRun_L9.eq_2] at hm
    refine lv_aload_n hx hb dX2_scanRun_9 rfl (lv_at hl 0 rfl) ?_
    refine gf (q0 := 0) hx hb hts hown hK flX2_scanRun_120 hP rfl rfl dX2_scanRun_10 ?_
    refine lv_iload_n hx hb dX2_scanRun_13 rfl (lv_at hl 1 rfl) ?_
    refine lv_icmp_ge (tgt := 116) hx hb dX2_scanRun_14 (by decide) (fun c_1 => ?_) (fun c_1 => ?_)
    · replace hm := br_p hm c_1
      exact tX2_scanRun_b116 C hA hret _ _ _ _ _ hm _ _ _ hP hD hS (lv_sub hl [0, 2, 3] rfl)
    · replace hm := br_n hm c_1
      refine lv_aload_n hx hb dX2_scanRun_17 rfl (lv_at hl 0 rfl) ?_
      refine gf (q0 := 0) hx hb hts hown hK flX2_scanRun_9 hP rfl rfl dX2_scanRun_18 ?_
      refine lv_aload_n hx hb dX2_scanRun_21 rfl (lv_at hl 0 rfl) ?_
      refine gf (q0 := 0) hx hb hts hown hK flX2_scanRun_120 hP rfl rfl dX2_scanRun_22 ?_
      obtain ⟨v2, h_3, hm⟩ := b1_s hm
      refine rd_v hcf (kX4_at h_3) (cwX2_scanRun_X4_at hts) hK hP sR_p (ci := 4) (q0 := 1) rfl rfl rfl hl.1 rfl (Nat.le_of_ble_eq_true rfl) dX2_scanRun_25 ⟨Nat.zero_le _, Nat.zero_le _⟩ ?_
      obtain ⟨v4, h_5, hm⟩ := b1_s hm
      refine rd_s hcf (kX2_isLetter h_5) (cwX2_scanRun_X2_isLetter hts) hK hP Sb.nil rfl hl.1 rfl (Nat.le_of_ble_eq_true rfl) dX2_scanRun_28 ⟨Nat.zero_le _, Nat.zero_le _⟩ ?_
      refine lv_if_ne (tgt := 51) hx hb dX2_scanRun_31 (by decide) (fun c_6 => ?_) (fun c_6 => ?_)
      · replace hm := br_n hm c_6
        exact tX2_scanRun_b51 C hA hret ih _ _ _ _ _ _ hm _ _ _ hP hD hS (lv_sub hl [0, 1, 2, 3] rfl)
      · replace hm := br_p hm c_6
        refine lv_aload_n hx hb dX2_scanRun_34 rfl (lv_at hl 0 rfl) ?_
        refine gf (q0 := 0) hx hb hts hown hK flX2_scanRun_9 hP rfl rfl dX2_scanRun_35 ?_
        refine lv_aload_n hx hb dX2_scanRun_38 rfl (lv_at hl 0 rfl) ?_
        refine gf (q0 := 0) hx hb hts hown hK flX2_scanRun_120 hP rfl rfl dX2_scanRun_39 ?_
        obtain ⟨v7, h_8, hm⟩ := b1_s hm
        refine rd_v hcf (kX4_at h_8) (cwX2_scanRun_X4_at hts) hK hP sR_p (ci := 4) (q0 := 1) rfl rfl rfl hl.1 rfl (Nat.le_of_ble_eq_true rfl) dX2_scanRun_42 ⟨Nat.zero_le _, Nat.zero_le _⟩ ?_
        obtain ⟨v9, h_10, hm⟩ := b1_s hm
        refine rd_s hcf (kX2_isDigit h_10) (cwX2_scanRun_X2_isDigit hts) hK hP Sb.nil rfl hl.1 rfl (Nat.le_of_ble_eq_true rfl) dX2_scanRun_45 ⟨Nat.zero_le _, Nat.zero_le _⟩ ?_
        refine lv_if_eq (tgt := 116) hx hb dX2_scanRun_48 (by decide) (fun c_11 => ?_) (fun c_11 => ?_)
        · replace hm := br_p hm c_11
          exact tX2_scanRun_b116 C hA hret _ _ _ _ _ hm _ _ _ hP hD hS (lv_sub hl [0, 2, 3] rfl)
        · replace hm := br_n hm c_11
          exact tX2_scanRun_b51 C hA hret ih _ _ _ _ _ _ hm _ _ _ hP hD hS (lv_sub hl [0, 1, 2, 3] rfl)
set_option maxRecDepth 100000 in
set_option maxHeartbeats 4000000 in
theorem kX2_scanRun {l : Launch} {D : va_G} {cI cB cL cK : ClassId} {ra : Nat} {a : Nat} {b : Nat} {ad : Nat → Nat} {kd : Int32} {bg : Int32} {pt : Int32} {vl : Int32} {lt : Int32} {ft : Int32} {us : Int32} {tf : Nat → Int32} {ho : Int32} {td : Int32} {pd : Int32} {sr : Int32} {dr : Int32} {ir : Int32} {qr : Int32} {sf : Nat → Int32} {df : Nat → Int32} {jf : Nat → Int32} {qf : Nat → Int32} {p1 : Int32} {kd' : Int32} {pt' : Int32} {vl' : Int32} (hm : mX2_scanRun kd pt vl us tf p1 = some (kd', pt', vl')) : Mu l D cI cB cL cK yX2_scanRun wsX2_scanRun rmX2_scanRun [.ref ra, .int p1] (wR cI cB ra a b ad kd bg pt vl lt ft us tf ho td pd sr dr ir qr sf df jf qf) (wR cI cB ra a b ad kd' bg pt' vl' lt ft us tf ho td pd sr dr ir qr sf df jf qf) none 0 0 := by
  refine Mu.ofv (cc := cX2_scanRun) (own := RX2) (by decide) rfl rfl (Nat.le_of_ble_eq_true rfl) (fun p e s m below meth c ls Q A C _ hA hP hD hS hl hret => ?_)
  obtain ⟨hx, hb, hr, hml, hown, hts, hlk, hK⟩ := id C
  have hcf : CallFix p m c cX2_scanRun 4 s _ wsX2_scanRun RX2 := ⟨hx, hb, hml, hown, hts⟩
  have hl : lv_has ls 4 [(0, .ref ra), (1, .int p1)] := hl
  unfold mX2_scanRun at hm
  refine lv_iconst (v := 0) hx hb dX2_scanRun_0 (by decide) ?_
  refine lv_istore_n (lv' := [(2, .int 0), (0, .ref ra), (1, .int p1)]) hx hb dX2_scanRun_1 rfl hl (by decide) rfl (fun ls hl => ?_)
  refine lv_iconst (v := 0) hx hb dX2_scanRun_2 (by decide) ?_
  refine lv_istore_n (lv' := [(3, .int 0), (2, .int 0), (0, .ref ra), (1, .int p1)]) hx hb dX2_scanRun_3 rfl hl (by decide) rfl (fun ls hl => ?_)
  refine lv_aload_n hx hb dX2_scanRun_4 rfl (lv_at hl 2 rfl) ?_
  refine lv_iconst (v := 0) hx hb dX2_scanRun_5 (by decide) ?_
  refine pf (q0 := 0) (X' := (wR cI cB ra a b ad kd bg pt 0 lt ft us tf ho td pd sr dr ir qr sf df jf qf)) hx hb hts hown hK fpX2_scanRun_112 hP hD hS rfl rfl rfl (Nat.le_of_ble_eq_true rfl) rfl dX2_scanRun_6 (fun H locs hP hD hS => ?_)
  exact tX2_scanRun_L9 C hA hret _ _ _ _ _ _ _ hm _ _ _ hP hD hS (lv_sub hl [2, 3, 1, 0] rfl)
/-! X2 advance()V -/
abbrev rmX2_advance : Room := { frames := 2, cells := 0, slots := 0, locals := 44 }
theorem hdX2_advance : yX2_advance.cls = RX2 ∧ yX2_advance.cls ≠ "java/lang/invoke/MethodHandle" ∧ yX2_advance.cls ≠ "java/lang/invoke/VarHandle" ∧ (parseMethodDescriptor yX2_advance.desc).map (fun d => d.parameters.length) = some 0 := by decide +kernel
theorem inX2_advance_X2 : ∀ w ∈ u_ws RX2 TX2 8, w ∈ wsX2_advance := by decide +kernel
theorem cwX2_advance_X2_isBlank {s : State} {args : Array Value} (hts : ∀ w ∈ wsX2_advance, w.before args s = true) : CallB rmX2_advance s args RX2 127 yX2_isBlank cX2_isBlank 1 (some .boolean) wsX2_isBlank rmX2_isBlank 0 0 1 ∧ (Cond.static yX2_isBlank).before args s = true := va_cwS 1 hts gX2_advance_X2_isBlank rfl rfl rfl hdX2_isBlank.2 ⟨Nat.le_of_ble_eq_true rfl, Nat.le_of_ble_eq_true rfl⟩
theorem cwX2_advance_X2_scanRun {s : State} {args : Array Value} (hts : ∀ w ∈ wsX2_advance, w.before args s = true) : CallW rmX2_advance s args RX2 RX2 130 yX2_scanRun cX2_scanRun 4 none wsX2_scanRun rmX2_scanRun 0 0 1 := cwV 1 hts gX2_advance_X2_scanRun rfl rfl rfl hdX2_scanRun ⟨Nat.le_of_ble_eq_true rfl, Nat.le_of_ble_eq_true rfl⟩
theorem cwX2_advance_X4_at {s : State} {args : Array Value} (hts : ∀ w ∈ wsX2_advance, w.before args s = true) : CallW rmX2_advance s args RX2 RX4 123 yX4_at cX4_at 2 (some .int) wsX4_at rmX4_at 0 0 1 := cwV 1 hts gX2_advance_X4_at rfl rfl rfl hdX4_at ⟨Nat.le_of_ble_eq_true rfl, Nat.le_of_ble_eq_true rfl⟩
theorem cwX2_advance_X4_length {s : State} {args : Array Value} (hts : ∀ w ∈ wsX2_advance, w.before args s = true) : CallW rmX2_advance s args RX2 RX4 115 yX4_length cX4_length 1 (some .int) wsX4_length rmX4_length 0 0 0 := cwV 0 hts gX2_advance_X4_length rfl rfl rfl hdX4_length ⟨Nat.le_of_ble_eq_true rfl, Nat.le_of_ble_eq_true rfl⟩
theorem flX2_advance_120 : Fl wsX2_advance RX2 120 2 4 := ⟨_, _, _, rfl, by decide, inX2_advance_X2, by decide +kernel⟩
theorem flX2_advance_47 : Fl wsX2_advance RX2 47 2 3 := ⟨_, _, _, rfl, by decide, inX2_advance_X2, by decide +kernel⟩
theorem flX2_advance_9 : Fl wsX2_advance RX2 9 2 0 := ⟨_, _, _, rfl, by decide, inX2_advance_X2, by decide +kernel⟩
theorem fpX2_advance_120 : Fp wsX2_advance RX2 120 2 4 false .int := ⟨_, _, _, tyX2, rfl, by decide, inX2_advance_X2, by decide +kernel, tyX2_ok, nmX2, rfl, rfl, by decide +kernel⟩
theorem fpX2_advance_29 : Fp wsX2_advance RX2 29 2 2 false .int := ⟨_, _, _, tyX2, rfl, by decide, inX2_advance_X2, by decide +kernel, tyX2_ok, nmX2, rfl, rfl, by decide +kernel⟩
theorem fpX2_advance_47 : Fp wsX2_advance RX2 47 2 3 false .int := ⟨_, _, _, tyX2, rfl, by decide, inX2_advance_X2, by decide +kernel, tyX2_ok, nmX2, rfl, rfl, by decide +kernel⟩
set_option maxRecDepth 100000 in
set_option maxHeartbeats 4000000 in
theorem tX2_advance_b94 {ra : Nat} {a : Nat} {b : Nat} {ad : Nat → Nat} {lt : Int32} {ft : Int32} {us : Int32} {tf : Nat → Int32} {ho : Int32} {td : Int32} {pd : Int32} {sr : Int32} {dr : Int32} {ir : Int32} {qr : Int32} {sf : Nat → Int32} {df : Nat → Int32} {jf : Nat → Int32} {qf : Nat → Int32} {kd' : Int32} {bg' : Int32} {pt' : Int32} {vl' : Int32} (C : Cx p s m args meth c cX2_advance none 2 wsX2_advance RX2 D cI cB cL cK) (hA : ∀ q : Nat, s.heap.size ≤ q → A q) (hret : ∀ (pc : Nat) (ls : Array Slot) (H : Heap) (locs : List Loc), decode cX2_advance pc = .ok (.return_, 1) → va_P D vwCl (wR cI cB ra a b ad kd' bg' pt' vl' lt ft us tf ho td pd sr dr ir qr sf df jf qf) H → va_D A (wR cI cB ra a b ad kd' bg' pt' vl' lt ft us tf ho td pd sr dr ir qr sf df jf qf) → va_S A s.heap H locs → W p l e rmX2_advance s m args below meth c H locs 0 0 Q (F0 m pc ls [])) : ∀ (x1 : Int32) (kd : Int32) (bg : Int32) (pt : Int32) (vl : Int32), mX2_advance_b94 us tf x1 kd bg pt vl = some (kd', bg', pt', vl') → ∀ (H : Heap) (locs : List Loc) (ls : Array Slot), va_P D vwCl (wR cI cB ra a b ad kd bg pt vl lt ft us tf ho td pd sr dr ir qr sf df jf qf) H → va_D A (wR cI cB ra a b ad kd bg pt vl lt ft us tf ho td pd sr dr ir qr sf df jf qf) → va_S A s.heap H locs → lv_has ls 2 [(0, .ref ra), (1, .int x1)] → W p l e rmX2_advance s m args below meth c H locs 0 0 Q (F0 m 94 ls []) := by
  obtain ⟨hx, hb, hr, hml, hown, hts, hlk, hK⟩ := id C
  have hcf : CallFix p m c cX2_advance 2 s args wsX2_advance RX2 := ⟨hx, hb, hml, hown, hts⟩
  intro x1 kd bg pt vl hm H locs ls hP hD hS hl
  unfold mX2_advance_b94 at hm
  refine lv_aload_n hx hb dX2_advance_94 rfl (lv_at hl 0 rfl) ?_
  refine gf (q0 := 0) hx hb hts hown hK flX2_advance_47 hP rfl rfl dX2_advance_95 ?_
  refine lv_iload_n hx hb dX2_advance_98 rfl (lv_at hl 1 rfl) ?_
  refine lv_icmp_lt (tgt := 110) hx hb dX2_advance_99 (by decide) (fun c_11 => ?_) (fun c_11 => ?_)
  · replace hm := br_p hm c_11
    refine lv_aload_n hx hb dX2_advance_110 rfl (lv_at hl 0 rfl) ?_
    refine gf (q0 := 0) hx hb hts hown hK flX2_advance_9 hP rfl rfl dX2_advance_111 ?_
    refine lv_aload_n hx hb dX2_advance_114 rfl (lv_at hl 0 rfl) ?_
    refine gf (q0 := 0) hx hb hts hown hK flX2_advance_47 hP rfl rfl dX2_advance_115 ?_
    obtain ⟨v12, h_13, hm⟩ := b1_s hm
    refine rd_v hcf (kX4_at h_13) (cwX2_advance_X4_at hts) hK hP sR_p (ci := 4) (q0 := 1) rfl rfl rfl hl.1 rfl (Nat.le_of_ble_eq_true rfl) dX2_advance_118 ⟨Nat.zero_le _, Nat.zero_le _⟩ ?_
    refine lv_bipush (v := 59) hx hb dX2_advance_121 (by decide) ?_
    refine lv_icmp_ne (tgt := 144) hx hb dX2_advance_123 (by decide) (fun c_14 => ?_) (fun c_14 => ?_)
    · replace hm := br_n hm c_14
      refine lv_aload_n hx hb dX2_advance_144 rfl (lv_at hl 0 rfl) ?_
      refine lv_iload_n hx hb dX2_advance_145 rfl (lv_at hl 1 rfl) ?_
      obtain ⟨kd15, pt16, vl17, h_18, hm⟩ := b3_s hm
      refine mu_vv hcf (kX2_scanRun h_18) (cwX2_advance_X2_scanRun hts) hK hP hD hS hA Jn.rf (ci := 2) (q0 := 0) rfl rfl rfl hl.1 rfl (Nat.le_of_ble_eq_true rfl) dX2_advance_146 ⟨Nat.zero_le _, Nat.zero_le _⟩ (fun H locs hP hD hS => ?_)
      cases hm
      exact hret _ _ _ _ dX2_advance_149 hP hD hS
    · replace hm := br_p hm c_14
      refine lv_aload_n hx hb dX2_advance_126 rfl (lv_at hl 0 rfl) ?_
      refine lv_dup hx hb dX2_advance_127 rfl ?_
      refine gf (q0 := 0) hx hb hts hown hK flX2_advance_120 hP rfl rfl dX2_advance_128 ?_
      refine lv_iconst (v := 1) hx hb dX2_advance_131 (by decide) ?_
      refine lv_iadd hx hb dX2_advance_132 ?_
      refine pf (q0 := 0) (X' := (wR cI cB ra a b ad kd bg (pt + 1) vl lt ft us tf ho td pd sr dr ir qr sf df jf qf)) hx hb hts hown hK fpX2_advance_120 hP hD hS rfl rfl rfl (Nat.le_of_ble_eq_true rfl) rfl dX2_advance_133 (fun H locs hP hD hS => ?_)
      refine lv_aload_n hx hb dX2_advance_136 rfl (lv_at hl 0 rfl) ?_
      refine lv_iconst (v := 3) hx hb dX2_advance_137 (by decide) ?_
      refine pf (q0 := 0) (X' := (wR cI cB ra a b ad 3 bg (pt + 1) vl lt ft us tf ho td pd sr dr ir qr sf df jf qf)) hx hb hts hown hK fpX2_advance_29 hP hD hS rfl rfl rfl (Nat.le_of_ble_eq_true rfl) rfl dX2_advance_138 (fun H locs hP hD hS => ?_)
      refine lv_goto (tgt := 149) hx hb dX2_advance_141 (by decide) ?_
      cases hm
      exact hret _ _ _ _ dX2_advance_149 hP hD hS
  · replace hm := br_n hm c_11
    refine lv_aload_n hx hb dX2_advance_102 rfl (lv_at hl 0 rfl) ?_
    refine lv_iconst (v := 4) hx hb dX2_advance_103 (by decide) ?_
    refine pf (q0 := 0) (X' := (wR cI cB ra a b ad 4 bg pt vl lt ft us tf ho td pd sr dr ir qr sf df jf qf)) hx hb hts hown hK fpX2_advance_29 hP hD hS rfl rfl rfl (Nat.le_of_ble_eq_true rfl) rfl dX2_advance_104 (fun H locs hP hD hS => ?_)
    refine lv_goto (tgt := 149) hx hb dX2_advance_107 (by decide) ?_
    cases hm
    exact hret _ _ _ _ dX2_advance_149 hP hD hS
set_option maxRecDepth 100000 in
set_option maxHeartbeats 4000000 in
theorem tX2_advance_b54 {ra : Nat} {a : Nat} {b : Nat} {ad : Nat → Nat} {lt : Int32} {ft : Int32} {us : Int32} {tf : Nat → Int32} {ho : Int32} {td : Int32} {pd : Int32} {sr : Int32} {dr : Int32} {ir : Int32} {qr : Int32} {sf : Nat → Int32} {df : Nat → Int32} {jf : Nat → Int32} {qf : Nat → Int32} {kd' : Int32} {bg' : Int32} {pt' : Int32} {vl' : Int32} (C : Cx p s m args meth c cX2_advance none 2 wsX2_advance RX2 D cI cB cL cK) (hA : ∀ q : Nat, s.heap.size ≤ q → A q) (hret : ∀ (pc : Nat) (ls : Array Slot) (H : Heap) (locs : List Loc), decode cX2_advance pc = .ok (.return_, 1) → va_P D vwCl (wR cI cB ra a b ad kd' bg' pt' vl' lt ft us tf ho td pd sr dr ir qr sf df jf qf) H → va_D A (wR cI cB ra a b ad kd' bg' pt' vl' lt ft us tf ho td pd sr dr ir qr sf df jf qf) → va_S A s.heap H locs → W p l e rmX2_advance s m args below meth c H locs 0 0 Q (F0 m pc ls [])) : ∀ (x1 : Int32) (kd : Int32) (bg : Int32) (pt : Int32) (vl : Int32), mX2_advance_b54 us tf x1 kd bg pt vl = some (kd', bg', pt', vl') → ∀ (H : Heap) (locs : List Loc) (ls : Array Slot), va_P D vwCl (wR cI cB ra a b ad kd bg pt vl lt ft us tf ho td pd sr dr ir qr sf df jf qf) H → va_D A (wR cI cB ra a b ad kd bg pt vl lt ft us tf ho td pd sr dr ir qr sf df jf qf) → va_S A s.heap H locs → lv_has ls 2 [(0, .ref ra), (1, .int x1)] → W p l e rmX2_advance s m args below meth c H locs 0 0 Q (F0 m 54 ls []) := by
  obtain ⟨hx, hb, hr, hml, hown, hts, hlk, hK⟩ := id C
  have hcf : CallFix p m c cX2_advance 2 s args wsX2_advance RX2 := ⟨hx, hb, hml, hown, hts⟩
  intro x1 kd bg pt vl hm H locs ls hP hD hS hl
  unfold mX2_advance_b54 at hm
  refine lv_aload_n hx hb dX2_advance_54 rfl (lv_at hl 0 rfl) ?_
  refine lv_aload_n hx hb dX2_advance_55 rfl (lv_at hl 0 rfl) ?_
  refine gf (q0 := 0) hx hb hts hown hK flX2_advance_47 hP rfl rfl dX2_advance_56 ?_
  refine pf (q0 := 0) (X' := (wR cI cB ra a b ad kd bg bg vl lt ft us tf ho td pd sr dr ir qr sf df jf qf)) hx hb hts hown hK fpX2_advance_120 hP hD hS rfl rfl rfl (Nat.le_of_ble_eq_true rfl) rfl dX2_advance_59 (fun H locs hP hD hS => ?_)
  refine lv_iload_n hx hb dX2_advance_62 rfl (lv_at hl 1 rfl) ?_
  refine lv_sipush (v := 600) hx hb dX2_advance_63 (by decide) ?_
  refine lv_icmp_le (tgt := 94) hx hb dX2_advance_66 (by decide) (fun c_9 => ?_) (fun c_9 => ?_)
  · replace hm := br_p hm c_9
    exact tX2_advance_b94 C hA hret _ _ _ _ _ hm _ _ _ hP hD hS (lv_sub hl [0, 1] rfl)
  · replace hm := br_n hm c_9
    refine lv_aload_n hx hb dX2_advance_69 rfl (lv_at hl 0 rfl) ?_
    refine gf (q0 := 0) hx hb hts hown hK flX2_advance_47 hP rfl rfl dX2_advance_70 ?_
    refine lv_sipush (v := 600) hx hb dX2_advance_73 (by decide) ?_
    refine lv_icmp_lt (tgt := 94) hx hb dX2_advance_76 (by decide) (fun c_10 => ?_) (fun c_10 => ?_)
    · replace hm := br_p hm c_10
      exact tX2_advance_b94 C hA hret _ _ _ _ _ hm _ _ _ hP hD hS (lv_sub hl [0, 1] rfl)
    · replace hm := br_n hm c_10
      refine lv_aload_n hx hb dX2_advance_79 rfl (lv_at hl 0 rfl) ?_
      refine lv_sipush (v := 600) hx hb dX2_advance_80 (by decide) ?_
      refine pf (q0 := 0) (X' := (wR cI cB ra a b ad kd 600 bg vl lt ft us tf ho td pd sr dr ir qr sf df jf qf)) hx hb hts hown hK fpX2_advance_47 hP hD hS rfl rfl rfl (Nat.le_of_ble_eq_true rfl) rfl dX2_advance_83 (fun H locs hP hD hS => ?_)
      refine lv_aload_n hx hb dX2_advance_86 rfl (lv_at hl 0 rfl) ?_
      refine lv_iconst (v := 0) hx hb dX2_advance_87 (by decide) ?_
      refine pf (q0 := 0) (X' := (wR cI cB ra a b ad 0 600 bg vl lt ft us tf ho td pd sr dr ir qr sf df jf qf)) hx hb hts hown hK fpX2_advance_29 hP hD hS rfl rfl rfl (Nat.le_of_ble_eq_true rfl) rfl dX2_advance_88 (fun H locs hP hD hS => ?_)
      refine lv_goto (tgt := 149) hx hb dX2_advance_91 (by decide) ?_
      cases hm
      exact hret _ _ _ _ dX2_advance_149 hP hD hS
set_option maxRecDepth 100000 in
set_option maxHeartbeats 4000000 in
theorem tX2_advance_L16 {ra : Nat} {a : Nat} {b : Nat} {ad : Nat → Nat} {lt : Int32} {ft : Int32} {us : Int32} {tf : Nat → Int32} {ho : Int32} {td : Int32} {pd : Int32} {sr : Int32} {dr : Int32} {ir : Int32} {qr : Int32} {sf : Nat → Int32} {df : Nat → Int32} {jf : Nat → Int32} {qf : Nat → Int32} {kd' : Int32} {bg' : Int32} {pt' : Int32} {vl' : Int32} (C : Cx p s m args meth c cX2_advance none 2 wsX2_advance RX2 D cI cB cL cK) (hA : ∀ q : Nat, s.heap.size ≤ q → A q) (hret : ∀ (pc : Nat) (ls : Array Slot) (H : Heap) (locs : List Loc), decode cX2_advance pc = .ok (.return_, 1) → va_P D vwCl (wR cI cB ra a b ad kd' bg' pt' vl' lt ft us tf ho td pd sr dr ir qr sf df jf qf) H → va_D A (wR cI cB ra a b ad kd' bg' pt' vl' lt ft us tf ho td pd sr dr ir qr sf df jf qf) → va_S A s.heap H locs → W p l e rmX2_advance s m args below meth c H locs 0 0 Q (F0 m pc ls [])) : ∀ (n9 : Nat) (x1 : Int32) (kd : Int32) (bg : Int32) (pt : Int32) (vl : Int32), mX2_advance_L16 n9 us tf x1 kd bg pt vl = some (kd', bg', pt', vl') → ∀ (H : Heap) (locs : List Loc) (ls : Array Slot), va_P D vwCl (wR cI cB ra a b ad kd bg pt vl lt ft us tf ho td pd sr dr ir qr sf df jf qf) H → va_D A (wR cI cB ra a b ad kd bg pt vl lt ft us tf ho td pd sr dr ir qr sf df jf qf) → va_S A s.heap H locs → lv_has ls 2 [(0, .ref ra), (1, .int x1)] → W p l e rmX2_advance s m args below meth c H locs 0 0 Q (F0 m 16 ls []) := by
  obtain ⟨hx, hb, hr, hml, hown, hts, hlk, hK⟩ := id C
  have hcf : CallFix p m c cX2_advance 2 s args wsX2_advance RX2 := ⟨hx, hb, hml, hown, hts⟩
  intro n9
  induction n9 with
  | zero => intro x1 kd bg pt vl hm; cases hm
  | succ k ih =>
    intro x1 kd bg pt vl hm H locs ls hP hD hS hl
    rw [mX2_advance_L16.eq_2] at hm
    refine lv_aload_n hx hb dX2_advance_16 rfl (lv_at hl 0 rfl) ?_
    refine gf (q0 := 0) hx hb hts hown hK flX2_advance_47 hP rfl rfl dX2_advance_17 ?_
    refine lv_iload_n hx hb dX2_advance_20 rfl (lv_at hl 1 rfl) ?_
    refine lv_icmp_ge (tgt := 54) hx hb dX2_advance_21 (by decide) (fun c_3 => ?_) (fun c_3 => ?_)
    · replace hm := br_p hm c_3
      exact tX2_advance_b54 C hA hret _ _ _ _ _ hm _ _ _ hP hD hS (lv_sub hl [0, 1] rfl)
    · replace hm := br_n hm c_3
      refine lv_aload_n hx hb dX2_advance_24 rfl (lv_at hl 0 rfl) ?_
      refine gf (q0 := 0) hx hb hts hown hK flX2_advance_9 hP rfl rfl dX2_advance_25 ?_
      refine lv_aload_n hx hb dX2_advance_28 rfl (lv_at hl 0 rfl) ?_
      refine gf (q0 := 0) hx hb hts hown hK flX2_advance_47 hP rfl rfl dX2_advance_29 ?_
      obtain ⟨v4, h_5, hm⟩ := b1_s hm
      refine rd_v hcf (kX4_at h_5) (cwX2_advance_X4_at hts) hK hP sR_p (ci := 4) (q0 := 1) rfl rfl rfl hl.1 rfl (Nat.le_of_ble_eq_true rfl) dX2_advance_32 ⟨Nat.zero_le _, Nat.zero_le _⟩ ?_
      obtain ⟨v6, h_7, hm⟩ := b1_s hm
      refine rd_s hcf (kX2_isBlank h_7) (cwX2_advance_X2_isBlank hts) hK hP Sb.nil rfl hl.1 rfl (Nat.le_of_ble_eq_true rfl) dX2_advance_35 ⟨Nat.zero_le _, Nat.zero_le _⟩ ?_
      refine lv_if_eq (tgt := 54) hx hb dX2_advance_38 (by decide) (fun c_8 => ?_) (fun c_8 => ?_)
      · replace hm := br_p hm c_8
        exact tX2_advance_b54 C hA hret _ _ _ _ _ hm _ _ _ hP hD hS (lv_sub hl [0, 1] rfl)
      · replace hm := br_n hm c_8
        refine lv_aload_n hx hb dX2_advance_41 rfl (lv_at hl 0 rfl) ?_
        refine lv_dup hx hb dX2_advance_42 rfl ?_
        refine gf (q0 := 0) hx hb hts hown hK flX2_advance_47 hP rfl rfl dX2_advance_43 ?_
        refine lv_iconst (v := 1) hx hb dX2_advance_46 (by decide) ?_
        refine lv_iadd hx hb dX2_advance_47 ?_
        refine pf (q0 := 0) (X' := (wR cI cB ra a b ad kd (bg + 1) pt vl lt ft us tf ho td pd sr dr ir qr sf df jf qf)) hx hb hts hown hK fpX2_advance_47 hP hD hS rfl rfl rfl (Nat.le_of_ble_eq_true rfl) rfl dX2_advance_48 (fun H locs hP hD hS => ?_)
        refine lv_goto (tgt := 16) hx hb dX2_advance_51 (by decide) ?_
        exact ih _ _ _ _ _ hm _ _ _ hP hD hS (lv_sub hl [0, 1] rfl)
set_option maxRecDepth 100000 in
set_option maxHeartbeats 4000000 in
theorem kX2_advance {l : Launch} {D : va_G} {cI cB cL cK : ClassId} {ra : Nat} {a : Nat} {b : Nat} {ad : Nat → Nat} {kd : Int32} {bg : Int32} {pt : Int32} {vl : Int32} {lt : Int32} {ft : Int32} {us : Int32} {tf : Nat → Int32} {ho : Int32} {td : Int32} {pd : Int32} {sr : Int32} {dr : Int32} {ir : Int32} {qr : Int32} {sf : Nat → Int32} {df : Nat → Int32} {jf : Nat → Int32} {qf : Nat → Int32}  {kd' : Int32} {bg' : Int32} {pt' : Int32} {vl' : Int32} (hm : mX2_advance kd bg pt vl us tf = some (kd', bg', pt', vl')) : Mu l D cI cB cL cK yX2_advance wsX2_advance rmX2_advance [.ref ra] (wR cI cB ra a b ad kd bg pt vl lt ft us tf ho td pd sr dr ir qr sf df jf qf) (wR cI cB ra a b ad kd' bg' pt' vl' lt ft us tf ho td pd sr dr ir qr sf df jf qf) none 0 0 := by
  refine Mu.ofv (cc := cX2_advance) (own := RX2) (by decide) rfl rfl (Nat.le_of_ble_eq_true rfl) (fun p e s m below meth c ls Q A C _ hA hP hD hS hl hret => ?_)
  obtain ⟨hx, hb, hr, hml, hown, hts, hlk, hK⟩ := id C
  have hcf : CallFix p m c cX2_advance 2 s _ wsX2_advance RX2 := ⟨hx, hb, hml, hown, hts⟩
  have hl : lv_has ls 2 [(0, .ref ra)] := hl
  unfold mX2_advance at hm
  refine lv_aload_n hx hb dX2_advance_0 rfl (lv_at hl 0 rfl) ?_
  refine gf (q0 := 0) hx hb hts hown hK flX2_advance_9 hP rfl rfl dX2_advance_1 ?_
  obtain ⟨v1, h_2, hm⟩ := b1_s hm
  refine rd_v hcf (kX4_length h_2) (cwX2_advance_X4_length hts) hK hP sR_p (ci := 4) (q0 := 1) rfl rfl rfl hl.1 rfl (Nat.le_of_ble_eq_true rfl) dX2_advance_4 ⟨Nat.zero_le _, Nat.zero_le _⟩ ?_
  refine lv_istore_n (lv' := [(1, .int v1), (0, .ref ra)]) hx hb dX2_advance_7 rfl hl (by decide) rfl (fun ls hl => ?_)
  refine lv_aload_n hx hb dX2_advance_8 rfl (lv_at hl 1 rfl) ?_
  refine lv_aload_n hx hb dX2_advance_9 rfl (lv_at hl 1 rfl) ?_
  refine gf (q0 := 0) hx hb hts hown hK flX2_advance_120 hP rfl rfl dX2_advance_10 ?_
  refine pf (q0 := 0) (X' := (wR cI cB ra a b ad kd pt pt vl lt ft us tf ho td pd sr dr ir qr sf df jf qf)) hx hb hts hown hK fpX2_advance_47 hP hD hS rfl rfl rfl (Nat.le_of_ble_eq_true rfl) rfl dX2_advance_13 (fun H locs hP hD hS => ?_)
  exact tX2_advance_L16 C hA hret _ _ _ _ _ _ hm _ _ _ hP hD hS (lv_sub hl [1, 0] rfl)
/-! X2 isWord(Ljava/lang/String;)Z -/
abbrev rmX2_isWord : Room := { frames := 4, cells := 0, slots := 0, locals := 85 }
theorem hdX2_isWord : yX2_isWord.cls = RX2 ∧ yX2_isWord.cls ≠ "java/lang/invoke/MethodHandle" ∧ yX2_isWord.cls ≠ "java/lang/invoke/VarHandle" ∧ (parseMethodDescriptor yX2_isWord.desc).map (fun d => d.parameters.length) = some 1 := by decide +kernel
theorem inX2_isWord_X2 : ∀ w ∈ u_ws RX2 TX2 8, w ∈ wsX2_isWord := by decide +kernel
theorem cwX2_isWord_J0_charAt {s : State} {args : Array Value} (hts : ∀ w ∈ wsX2_isWord, w.before args s = true) : CallW rmX2_isWord s args RX2 RJ0 143 yJ0_charAt_5068e cJ0_charAt_5068e 2 (some .char) wsJ0_charAt_5068e rmJchr 0 0 1 := cwV 1 hts gX2_isWord_J0_charAt_5068e rfl rfl rfl (by decide +kernel) ⟨Nat.le_of_ble_eq_true rfl, Nat.le_of_ble_eq_true rfl⟩
theorem cwX2_isWord_J0_length {s : State} {args : Array Value} (hts : ∀ w ∈ wsX2_isWord, w.before args s = true) : CallW rmX2_isWord s args RX2 RJ0 140 yJ0_length_8abf5 cJ0_length_8abf5 1 (some .int) wsJ0_length_8abf5 rmJlen 0 0 0 := cwV 0 hts gX2_isWord_J0_length_8abf5 rfl rfl rfl (by decide +kernel) ⟨Nat.le_of_ble_eq_true rfl, Nat.le_of_ble_eq_true rfl⟩
theorem cwX2_isWord_X4_at {s : State} {args : Array Value} (hts : ∀ w ∈ wsX2_isWord, w.before args s = true) : CallW rmX2_isWord s args RX2 RX4 123 yX4_at cX4_at 2 (some .int) wsX4_at rmX4_at 0 0 1 := cwV 1 hts gX2_isWord_X4_at rfl rfl rfl hdX4_at ⟨Nat.le_of_ble_eq_true rfl, Nat.le_of_ble_eq_true rfl⟩
theorem flX2_isWord_120 : Fl wsX2_isWord RX2 120 2 4 := ⟨_, _, _, rfl, by decide, inX2_isWord_X2, by decide +kernel⟩
theorem flX2_isWord_47 : Fl wsX2_isWord RX2 47 2 3 := ⟨_, _, _, rfl, by decide, inX2_isWord_X2, by decide +kernel⟩
theorem flX2_isWord_9 : Fl wsX2_isWord RX2 9 2 0 := ⟨_, _, _, rfl, by decide, inX2_isWord_X2, by decide +kernel⟩
set_option maxRecDepth 100000 in
set_option maxHeartbeats 4000000 in
theorem tX2_isWord_L20 {ra : Nat} {a : Nat} {b : Nat} {ad : Nat → Nat} {sq sv : Nat → Nat} {j : Nat} {kd : Int32} {bg : Int32} {pt : Int32} {vl : Int32} {lt : Int32} {ft : Int32} {us : Int32} {tf : Nat → Int32} {ho : Int32} {td : Int32} {pd : Int32} {sr : Int32} {dr : Int32} {ir : Int32} {qr : Int32} {sf : Nat → Int32} {df : Nat → Int32} {jf : Nat → Int32} {qf : Nat → Int32} {res : Int32} (C : Cx p s m args meth c cX2_isWord (some .boolean) 3 wsX2_isWord RX2 D cI cB cL cK) (hZ : ZR sq sv NoA s s.heap) (hj : j < 4) (hP : va_P D vwCl (wR cI cB ra a b ad kd bg pt vl lt ft us tf ho td pd sr dr ir qr sf df jf qf) s.heap) (hret : ∀ (pc : Nat) (ls : Array Slot), decode cX2_isWord pc = .ok (.ireturn, 1) → narrow .boolean (.int res) = .int res → W p l e rmX2_isWord s m args below meth c s.heap [] 0 0 Q (F0 m pc ls [.int res])) : ∀ (n9 : Nat) (x2 : Int32), mX2_isWord_L20 n9 (wLen j) (wByt j) bg pt us tf x2 = some res → ∀ (ls : Array Slot), lv_has ls 3 [(0, .ref ra), (1, .ref (sq j)), (2, .int x2)] → W p l e rmX2_isWord s m args below meth c s.heap [] 0 0 Q (F0 m 20 ls []) := by
  obtain ⟨hx, hb, hr, hml, hown, hts, hlk, hK⟩ := id C
  have hcf : CallFix p m c cX2_isWord 3 s args wsX2_isWord RX2 := ⟨hx, hb, hml, hown, hts⟩
  have hS : va_S NoA s.heap s.heap [] := va_S.rf
  intro n9
  induction n9 with
  | zero => intro x2 hm; cases hm
  | succ k ih =>
    intro x2 hm ls hl
    rw [mX2_isWord_L20.eq_2] at hm
    refine lv_iload_n hx hb dX2_isWord_20 rfl (lv_at hl 2 rfl) ?_
    refine lv_aload_n hx hb dX2_isWord_21 rfl (lv_at hl 1 rfl) ?_
    refine strLen hcf hZ hS hj (cwX2_isWord_J0_length hts) hl.1 (Nat.le_of_ble_eq_true rfl) dX2_isWord_22 ⟨Nat.zero_le _, Nat.zero_le _⟩ ?_
    refine lv_icmp_ge (tgt := 57) hx hb dX2_isWord_25 (by decide) (fun c_2 => ?_) (fun c_2 => ?_)
    · replace hm := br_p hm c_2
      refine lv_iconst (v := 1) hx hb dX2_isWord_57 (by decide) ?_
      cases hm
      exact hret _ _ dX2_isWord_58 rfl
    · replace hm := br_n hm c_2
      refine lv_aload_n hx hb dX2_isWord_28 rfl (lv_at hl 0 rfl) ?_
      refine gf (q0 := 0) hx hb hts hown hK flX2_isWord_9 hP rfl rfl dX2_isWord_29 ?_
      refine lv_aload_n hx hb dX2_isWord_32 rfl (lv_at hl 0 rfl) ?_
      refine gf (q0 := 0) hx hb hts hown hK flX2_isWord_47 hP rfl rfl dX2_isWord_33 ?_
      refine lv_iload_n hx hb dX2_isWord_36 rfl (lv_at hl 2 rfl) ?_
      refine lv_iadd hx hb dX2_isWord_37 ?_
      obtain ⟨v3, h_4, hm⟩ := b1_s hm
      refine rd_v hcf (kX4_at h_4) (cwX2_isWord_X4_at hts) hK hP sR_p (ci := 4) (q0 := 1) rfl rfl rfl hl.1 rfl (Nat.le_of_ble_eq_true rfl) dX2_isWord_38 ⟨Nat.zero_le _, Nat.zero_le _⟩ ?_
      refine lv_aload_n hx hb dX2_isWord_41 rfl (lv_at hl 1 rfl) ?_
      refine lv_iload_n hx hb dX2_isWord_42 rfl (lv_at hl 2 rfl) ?_
      obtain ⟨h_5, hm⟩ := ck_s hm
      refine strChr hcf hZ hS hj h_5 (cwX2_isWord_J0_charAt hts) hl.1 (Nat.le_of_ble_eq_true rfl) dX2_isWord_43 ⟨Nat.zero_le _, Nat.zero_le _⟩ ?_
      refine lv_icmp_eq (tgt := 51) hx hb dX2_isWord_46 (by decide) (fun c_6 => ?_) (fun c_6 => ?_)
      · replace hm := br_p hm c_6
        refine lv_iinc (v := (x2 + 1)) (lv' := [(2, .int (x2 + 1)), (0, .ref ra), (1, .ref (sq j))]) hx hb dX2_isWord_51 hl (k := 2) rfl rfl (by decide) rfl (fun ls hl => ?_)
        refine lv_goto (tgt := 20) hx hb dX2_isWord_54 (by decide) ?_
        exact ih _ hm _ (lv_sub hl [1, 2, 0] rfl)
      · replace hm := br_n hm c_6
        refine lv_iconst (v := 0) hx hb dX2_isWord_49 (by decide) ?_
        cases hm
        exact hret _ _ dX2_isWord_50 rfl
set_option maxRecDepth 100000 in
set_option maxHeartbeats 4000000 in
theorem kX2_isWord {l : Launch} {D : va_G} {cI cB cL cK : ClassId} {ra : Nat} {a : Nat} {b : Nat} {ad : Nat → Nat} {sq sv : Nat → Nat} {j : Nat} {kd : Int32} {bg : Int32} {pt : Int32} {vl : Int32} {lt : Int32} {ft : Int32} {us : Int32} {tf : Nat → Int32} {ho : Int32} {td : Int32} {pd : Int32} {sr : Int32} {dr : Int32} {ir : Int32} {qr : Int32} {sf : Nat → Int32} {df : Nat → Int32} {jf : Nat → Int32} {qf : Nat → Int32}  {res : Int32} (hj : j < 4) (hm : mX2_isWord (wLen j) (wByt j) bg pt us tf = some res) : RdZ l D cI cB cL cK sq sv yX2_isWord wsX2_isWord rmX2_isWord [.ref ra, .ref (sq j)] (wR cI cB ra a b ad kd bg pt vl lt ft us tf ho td pd sr dr ir qr sf df jf qf) res := by
  refine RdZ.of (cc := cX2_isWord) (own := RX2) (by decide) rfl rfl (Nat.le_of_ble_eq_true rfl) (fun p e s m below meth c ls Q C hZ hP hl hret => ?_)
  obtain ⟨hx, hb, hr, hml, hown, hts, hlk, hK⟩ := id C
  have hcf : CallFix p m c cX2_isWord 3 s _ wsX2_isWord RX2 := ⟨hx, hb, hml, hown, hts⟩
  have hl : lv_has ls 3 [(0, .ref ra), (1, .ref (sq j))] := hl
  have hS : va_S NoA s.heap s.heap [] := va_S.rf
  unfold mX2_isWord at hm
  refine lv_aload_n hx hb dX2_isWord_0 rfl (lv_at hl 0 rfl) ?_
  refine gf (q0 := 0) hx hb hts hown hK flX2_isWord_120 hP rfl rfl dX2_isWord_1 ?_
  refine lv_aload_n hx hb dX2_isWord_4 rfl (lv_at hl 0 rfl) ?_
  refine gf (q0 := 0) hx hb hts hown hK flX2_isWord_47 hP rfl rfl dX2_isWord_5 ?_
  refine lv_isub hx hb dX2_isWord_8 ?_
  refine lv_aload_n hx hb dX2_isWord_9 rfl (lv_at hl 1 rfl) ?_
  refine strLen hcf hZ hS hj (cwX2_isWord_J0_length hts) hl.1 (Nat.le_of_ble_eq_true rfl) dX2_isWord_10 ⟨Nat.zero_le _, Nat.zero_le _⟩ ?_
  refine lv_icmp_eq (tgt := 18) hx hb dX2_isWord_13 (by decide) (fun c_1 => ?_) (fun c_1 => ?_)
  · replace hm := br_p hm c_1
    refine lv_iconst (v := 0) hx hb dX2_isWord_18 (by decide) ?_
    refine lv_istore_n (lv' := [(2, .int 0), (0, .ref ra), (1, .ref (sq j))]) hx hb dX2_isWord_19 rfl hl (by decide) rfl (fun ls hl => ?_)
    exact tX2_isWord_L20 C hZ hj hP hret _ _ hm _ (lv_sub hl [1, 2, 0] rfl)
  · replace hm := br_n hm c_1
    refine lv_iconst (v := 0) hx hb dX2_isWord_16 (by decide) ?_
    cases hm
    exact hret _ _ dX2_isWord_17 rfl
/-! X2 sortOfWord()I -/
abbrev rmX2_sortOfWord : Room := { frames := 5, cells := 0, slots := 0, locals := 107 }
theorem hdX2_sortOfWord : yX2_sortOfWord.cls = RX2 ∧ yX2_sortOfWord.cls ≠ "java/lang/invoke/MethodHandle" ∧ yX2_sortOfWord.cls ≠ "java/lang/invoke/VarHandle" ∧ (parseMethodDescriptor yX2_sortOfWord.desc).map (fun d => d.parameters.length) = some 0 := by decide +kernel
theorem cwX2_sortOfWord_X2_isWord {s : State} {args : Array Value} (hts : ∀ w ∈ wsX2_sortOfWord, w.before args s = true) : CallW rmX2_sortOfWord s args RX2 RX2 63 yX2_isWord cX2_isWord 3 (some .boolean) wsX2_isWord rmX2_isWord 0 0 1 := cwV 1 hts gX2_sortOfWord_X2_isWord rfl rfl rfl hdX2_isWord ⟨Nat.le_of_ble_eq_true rfl, Nat.le_of_ble_eq_true rfl⟩
set_option maxRecDepth 100000 in
set_option maxHeartbeats 4000000 in
theorem kX2_sortOfWord {l : Launch} {D : va_G} {cI cB cL cK : ClassId} {ra : Nat} {a : Nat} {b : Nat} {ad : Nat → Nat} {sq sv : Nat → Nat} {kd : Int32} {bg : Int32} {pt : Int32} {vl : Int32} {lt : Int32} {ft : Int32} {us : Int32} {tf : Nat → Int32} {ho : Int32} {td : Int32} {pd : Int32} {sr : Int32} {dr : Int32} {ir : Int32} {qr : Int32} {sf : Nat → Int32} {df : Nat → Int32} {jf : Nat → Int32} {qf : Nat → Int32}  {res : Int32} (hm : mX2_sortOfWord bg pt us tf = some res) : RdZ l D cI cB cL cK sq sv yX2_sortOfWord wsX2_sortOfWord rmX2_sortOfWord [.ref ra] (wR cI cB ra a b ad kd bg pt vl lt ft us tf ho td pd sr dr ir qr sf df jf qf) res := by
  refine RdZ.of (cc := cX2_sortOfWord) (own := RX2) (by decide) rfl rfl (Nat.le_of_ble_eq_true rfl) (fun p e s m below meth c ls Q C hZ hP hl hret => ?_)
  obtain ⟨hx, hb, hr, hml, hown, hts, hlk, hK⟩ := id C
  have hcf : CallFix p m c cX2_sortOfWord 1 s _ wsX2_sortOfWord RX2 := ⟨hx, hb, hml, hown, hts⟩
  have hl : lv_has ls 1 [(0, .ref ra)] := hl
  have hS : va_S NoA s.heap s.heap [] := va_S.rf
  unfold mX2_sortOfWord at hm
  refine lv_aload_n hx hb dX2_sortOfWord_0 rfl (lv_at hl 0 rfl) ?_
  refine va_ldcS hx hb hown hZ.2.2.1 dX2_sortOfWord_1 ?_
  obtain ⟨v1, h_2, hm⟩ := b1_s hm
  refine rdz_v hcf (kX2_isWord (by decide) h_2) (cwX2_sortOfWord_X2_isWord hts) hK hZ hS hP Sb.rf (ci := 2) (q0 := 0) rfl rfl rfl hl.1 rfl (Nat.le_of_ble_eq_true rfl) dX2_sortOfWord_3 ⟨Nat.zero_le _, Nat.zero_le _⟩ ?_
  refine lv_if_eq (tgt := 11) hx hb dX2_sortOfWord_6 (by decide) (fun c_3 => ?_) (fun c_3 => ?_)
  · replace hm := br_p hm c_3
    refine lv_aload_n hx hb dX2_sortOfWord_11 rfl (lv_at hl 0 rfl) ?_
    refine va_ldcS hx hb hown hZ.2.2.2.1 dX2_sortOfWord_12 ?_
    obtain ⟨v4, h_5, hm⟩ := b1_s hm
    refine rdz_v hcf (kX2_isWord (by decide) h_5) (cwX2_sortOfWord_X2_isWord hts) hK hZ hS hP Sb.rf (ci := 2) (q0 := 0) rfl rfl rfl hl.1 rfl (Nat.le_of_ble_eq_true rfl) dX2_sortOfWord_14 ⟨Nat.zero_le _, Nat.zero_le _⟩ ?_
    refine lv_if_eq (tgt := 22) hx hb dX2_sortOfWord_17 (by decide) (fun c_6 => ?_) (fun c_6 => ?_)
    · replace hm := br_p hm c_6
      refine lv_aload_n hx hb dX2_sortOfWord_22 rfl (lv_at hl 0 rfl) ?_
      refine va_ldcS hx hb hown hZ.2.2.2.2.1 dX2_sortOfWord_23 ?_
      obtain ⟨v7, h_8, hm⟩ := b1_s hm
      refine rdz_v hcf (kX2_isWord (by decide) h_8) (cwX2_sortOfWord_X2_isWord hts) hK hZ hS hP Sb.rf (ci := 2) (q0 := 0) rfl rfl rfl hl.1 rfl (Nat.le_of_ble_eq_true rfl) dX2_sortOfWord_25 ⟨Nat.zero_le _, Nat.zero_le _⟩ ?_
      refine lv_if_eq (tgt := 33) hx hb dX2_sortOfWord_28 (by decide) (fun c_9 => ?_) (fun c_9 => ?_)
      · replace hm := br_p hm c_9
        refine lv_aload_n hx hb dX2_sortOfWord_33 rfl (lv_at hl 0 rfl) ?_
        refine va_ldcS hx hb hown hZ.2.2.2.2.2 dX2_sortOfWord_34 ?_
        obtain ⟨v10, h_11, hm⟩ := b1_s hm
        refine rdz_v hcf (kX2_isWord (by decide) h_11) (cwX2_sortOfWord_X2_isWord hts) hK hZ hS hP Sb.rf (ci := 2) (q0 := 0) rfl rfl rfl hl.1 rfl (Nat.le_of_ble_eq_true rfl) dX2_sortOfWord_36 ⟨Nat.zero_le _, Nat.zero_le _⟩ ?_
        refine lv_if_eq (tgt := 46) hx hb dX2_sortOfWord_39 (by decide) (fun c_12 => ?_) (fun c_12 => ?_)
        · replace hm := br_p hm c_12
          refine lv_iconst (v := (-1)) hx hb dX2_sortOfWord_46 (by decide) ?_
          cases hm
          exact hret _ _ dX2_sortOfWord_47 rfl
        · replace hm := br_n hm c_12
          refine lv_iconst (v := 3) hx hb dX2_sortOfWord_42 (by decide) ?_
          refine lv_goto (tgt := 47) hx hb dX2_sortOfWord_43 (by decide) ?_
          cases hm
          exact hret _ _ dX2_sortOfWord_47 rfl
      · replace hm := br_n hm c_9
        refine lv_iconst (v := 2) hx hb dX2_sortOfWord_31 (by decide) ?_
        cases hm
        exact hret _ _ dX2_sortOfWord_32 rfl
    · replace hm := br_n hm c_6
      refine lv_iconst (v := 1) hx hb dX2_sortOfWord_20 (by decide) ?_
      cases hm
      exact hret _ _ dX2_sortOfWord_21 rfl
  · replace hm := br_n hm c_3
    refine lv_iconst (v := 0) hx hb dX2_sortOfWord_9 (by decide) ?_
    cases hm
    exact hret _ _ dX2_sortOfWord_10 rfl
/-! X2 mayComeNow(I)Z -/
abbrev rmX2_mayComeNow : Room := { frames := 0, cells := 0, slots := 0, locals := 0 }
theorem hdX2_mayComeNow : yX2_mayComeNow.cls = RX2 ∧ yX2_mayComeNow.cls ≠ "java/lang/invoke/MethodHandle" ∧ yX2_mayComeNow.cls ≠ "java/lang/invoke/VarHandle" ∧ (parseMethodDescriptor yX2_mayComeNow.desc).map (fun d => d.parameters.length) = some 1 := by decide +kernel
theorem inX2_mayComeNow_X2 : ∀ w ∈ u_ws RX2 TX2 8, w ∈ wsX2_mayComeNow := by decide +kernel
theorem flX2_mayComeNow_19 : Fl wsX2_mayComeNow RX2 19 2 6 := ⟨_, _, _, rfl, by decide, inX2_mayComeNow_X2, by decide +kernel⟩
set_option maxRecDepth 100000 in
set_option maxHeartbeats 4000000 in
theorem kX2_mayComeNow {l : Launch} {D : va_G} {cI cB cL cK : ClassId} {ra : Nat} {a : Nat} {b : Nat} {ad : Nat → Nat} {kd : Int32} {bg : Int32} {pt : Int32} {vl : Int32} {lt : Int32} {ft : Int32} {us : Int32} {tf : Nat → Int32} {ho : Int32} {td : Int32} {pd : Int32} {sr : Int32} {dr : Int32} {ir : Int32} {qr : Int32} {sf : Nat → Int32} {df : Nat → Int32} {jf : Nat → Int32} {qf : Nat → Int32} {p1 : Int32} {res : Int32} (hm : mX2_mayComeNow lt p1 = some res) : Rd l D cI cB cL cK yX2_mayComeNow wsX2_mayComeNow rmX2_mayComeNow [.ref ra, .int p1] (wR cI cB ra a b ad kd bg pt vl lt ft us tf ho td pd sr dr ir qr sf df jf qf) res := by
  refine Rd.of (cc := cX2_mayComeNow) (own := RX2) (by decide) rfl rfl (Nat.le_of_ble_eq_true rfl) (fun p e s m below meth c ls Q C hP hl hret => ?_)
  obtain ⟨hx, hb, hr, hml, hown, hts, hlk, hK⟩ := id C
  have hcf : CallFix p m c cX2_mayComeNow 2 s _ wsX2_mayComeNow RX2 := ⟨hx, hb, hml, hown, hts⟩
  have hl : lv_has ls 2 [(0, .ref ra), (1, .int p1)] := hl
  unfold mX2_mayComeNow at hm
  refine lv_aload_n hx hb dX2_mayComeNow_0 rfl (lv_at hl 0 rfl) ?_
  refine gf (q0 := 0) hx hb hts hown hK flX2_mayComeNow_19 hP rfl rfl dX2_mayComeNow_1 ?_
  by_cases c_1 : lt = 0
  · replace hm := br_p hm c_1
    refine lv_lookup (off := 28) (tgt := 32) hx hb dX2_mayComeNow_4 (by decide) (by rw [c_1]; decide) (by decide) ?_
    refine lv_iload_n hx hb dX2_mayComeNow_32 rfl (lv_at hl 1 rfl) ?_
    refine lv_if_eq (tgt := 41) hx hb dX2_mayComeNow_33 (by decide) (fun c_2 => ?_) (fun c_2 => ?_)
    · replace hm := br_p hm c_2
      refine lv_iconst (v := 1) hx hb dX2_mayComeNow_41 (by decide) ?_
      refine lv_goto (tgt := 46) hx hb dX2_mayComeNow_42 (by decide) ?_
      cases hm
      exact hret _ _ dX2_mayComeNow_46 rfl
    · replace hm := br_n hm c_2
      refine lv_iload_n hx hb dX2_mayComeNow_36 rfl (lv_at hl 1 rfl) ?_
      refine lv_iconst (v := 1) hx hb dX2_mayComeNow_37 (by decide) ?_
      refine lv_icmp_ne (tgt := 45) hx hb dX2_mayComeNow_38 (by decide) (fun c_3 => ?_) (fun c_3 => ?_)
      · replace hm := br_n hm c_3
        refine lv_iconst (v := 0) hx hb dX2_mayComeNow_45 (by decide) ?_
        cases hm
        exact hret _ _ dX2_mayComeNow_46 rfl
      · replace hm := br_p hm c_3
        refine lv_iconst (v := 1) hx hb dX2_mayComeNow_41 (by decide) ?_
        refine lv_goto (tgt := 46) hx hb dX2_mayComeNow_42 (by decide) ?_
        cases hm
        exact hret _ _ dX2_mayComeNow_46 rfl
  · replace hm := br_n hm c_1
    by_cases c_4 : lt = 3
    · replace hm := br_p hm c_4
      refine lv_lookup (off := 43) (tgt := 47) hx hb dX2_mayComeNow_4 (by decide) (by rw [c_4]; decide) (by decide) ?_
      refine lv_iload_n hx hb dX2_mayComeNow_47 rfl (lv_at hl 1 rfl) ?_
      refine lv_iconst (v := 3) hx hb dX2_mayComeNow_48 (by decide) ?_
      refine lv_icmp_ne (tgt := 56) hx hb dX2_mayComeNow_49 (by decide) (fun c_5 => ?_) (fun c_5 => ?_)
      · replace hm := br_n hm c_5
        refine lv_iconst (v := 0) hx hb dX2_mayComeNow_56 (by decide) ?_
        cases hm
        exact hret _ _ dX2_mayComeNow_57 rfl
      · replace hm := br_p hm c_5
        refine lv_iconst (v := 1) hx hb dX2_mayComeNow_52 (by decide) ?_
        refine lv_goto (tgt := 57) hx hb dX2_mayComeNow_53 (by decide) ?_
        cases hm
        exact hret _ _ dX2_mayComeNow_57 rfl
    · replace hm := br_n hm c_4
      refine lv_lookup (off := 54) (tgt := 58) hx hb dX2_mayComeNow_4 (by decide) (by have q0 := ne_ti (z := 0) (by decide) c_1; have q1 := ne_ti (z := 3) (by decide) c_4; simp [Op.lookupswitch.offset, q0, q1]; try omega) (by decide) ?_
      refine lv_iload_n hx hb dX2_mayComeNow_58 rfl (lv_at hl 1 rfl) ?_
      refine lv_iconst (v := 2) hx hb dX2_mayComeNow_59 (by decide) ?_
      refine lv_icmp_eq (tgt := 68) hx hb dX2_mayComeNow_60 (by decide) (fun c_6 => ?_) (fun c_6 => ?_)
      · replace hm := br_p hm c_6
        refine lv_iconst (v := 1) hx hb dX2_mayComeNow_68 (by decide) ?_
        refine lv_goto (tgt := 73) hx hb dX2_mayComeNow_69 (by decide) ?_
        cases hm
        exact hret _ _ dX2_mayComeNow_73 rfl
      · replace hm := br_n hm c_6
        refine lv_iload_n hx hb dX2_mayComeNow_63 rfl (lv_at hl 1 rfl) ?_
        refine lv_iconst (v := 3) hx hb dX2_mayComeNow_64 (by decide) ?_
        refine lv_icmp_ne (tgt := 72) hx hb dX2_mayComeNow_65 (by decide) (fun c_7 => ?_) (fun c_7 => ?_)
        · replace hm := br_n hm c_7
          refine lv_iconst (v := 0) hx hb dX2_mayComeNow_72 (by decide) ?_
          cases hm
          exact hret _ _ dX2_mayComeNow_73 rfl
        · replace hm := br_p hm c_7
          refine lv_iconst (v := 1) hx hb dX2_mayComeNow_68 (by decide) ?_
          refine lv_goto (tgt := 73) hx hb dX2_mayComeNow_69 (by decide) ?_
          cases hm
          exact hret _ _ dX2_mayComeNow_73 rfl
/-! X2 hasAllOf(I)Z -/
abbrev rmX2_hasAllOf : Room := { frames := 1, cells := 0, slots := 0, locals := 20 }
theorem hdX2_hasAllOf : yX2_hasAllOf.cls = RX2 ∧ yX2_hasAllOf.cls ≠ "java/lang/invoke/MethodHandle" ∧ yX2_hasAllOf.cls ≠ "java/lang/invoke/VarHandle" ∧ (parseMethodDescriptor yX2_hasAllOf.desc).map (fun d => d.parameters.length) = some 1 := by decide +kernel
theorem inX2_hasAllOf_X0 : ∀ w ∈ u_ws RX0 TX0 7, w ∈ wsX2_hasAllOf := by decide +kernel
theorem inX2_hasAllOf_X2 : ∀ w ∈ u_ws RX2 TX2 8, w ∈ wsX2_hasAllOf := by decide +kernel
theorem cwX2_hasAllOf_X3_size {s : State} {args : Array Value} (hts : ∀ w ∈ wsX2_hasAllOf, w.before args s = true) : CallW rmX2_hasAllOf s args RX2 RX3 79 yX3_size cX3_size 1 (some .int) wsX3_size rmX3_size 0 0 0 := cwV 0 hts gX2_hasAllOf_X3_size rfl rfl rfl hdX3_size ⟨Nat.le_of_ble_eq_true rfl, Nat.le_of_ble_eq_true rfl⟩
theorem flX2_hasAllOf_15 : Fl wsX2_hasAllOf RX2 15 2 1 := ⟨_, _, _, rfl, by decide, inX2_hasAllOf_X2, by decide +kernel⟩
theorem flX2_hasAllOf_73 : Fl wsX2_hasAllOf RX2 73 0 0 := ⟨_, _, _, rfl, by decide, inX2_hasAllOf_X0, by decide +kernel⟩
theorem flX2_hasAllOf_84 : Fl wsX2_hasAllOf RX2 84 0 1 := ⟨_, _, _, rfl, by decide, inX2_hasAllOf_X0, by decide +kernel⟩
theorem flX2_hasAllOf_87 : Fl wsX2_hasAllOf RX2 87 0 2 := ⟨_, _, _, rfl, by decide, inX2_hasAllOf_X0, by decide +kernel⟩
set_option maxRecDepth 100000 in
set_option maxHeartbeats 4000000 in
theorem kX2_hasAllOf {l : Launch} {D : va_G} {cI cB cL cK : ClassId} {ra : Nat} {a : Nat} {b : Nat} {ad : Nat → Nat} {kd : Int32} {bg : Int32} {pt : Int32} {vl : Int32} {lt : Int32} {ft : Int32} {us : Int32} {tf : Nat → Int32} {ho : Int32} {td : Int32} {pd : Int32} {sr : Int32} {dr : Int32} {ir : Int32} {qr : Int32} {sf : Nat → Int32} {df : Nat → Int32} {jf : Nat → Int32} {qf : Nat → Int32} {p1 : Int32} {res : Int32} (hm : mX2_hasAllOf sr dr ir p1 = some res) : Rd l D cI cB cL cK yX2_hasAllOf wsX2_hasAllOf rmX2_hasAllOf [.ref ra, .int p1] (wR cI cB ra a b ad kd bg pt vl lt ft us tf ho td pd sr dr ir qr sf df jf qf) res := by
  refine Rd.of (cc := cX2_hasAllOf) (own := RX2) (by decide) rfl rfl (Nat.le_of_ble_eq_true rfl) (fun p e s m below meth c ls Q C hP hl hret => ?_)
  obtain ⟨hx, hb, hr, hml, hown, hts, hlk, hK⟩ := id C
  have hcf : CallFix p m c cX2_hasAllOf 2 s _ wsX2_hasAllOf RX2 := ⟨hx, hb, hml, hown, hts⟩
  have hl : lv_has ls 2 [(0, .ref ra), (1, .int p1)] := hl
  unfold mX2_hasAllOf at hm
  refine lv_iload_n hx hb dX2_hasAllOf_0 rfl (lv_at hl 1 rfl) ?_
  by_cases c_1 : p1 = 0
  · replace hm := br_p hm c_1
    refine lv_tableIn (tgt := 32) hx hb dX2_hasAllOf_1 (by rw [c_1]; decide) (by rw [c_1]; decide) (by rw [c_1]; rfl) (by decide) ?_
    refine lv_aload_n hx hb dX2_hasAllOf_32 rfl (lv_at hl 0 rfl) ?_
    refine gf (q0 := 0) hx hb hts hown hK flX2_hasAllOf_15 hP rfl rfl dX2_hasAllOf_33 ?_
    refine gf (q0 := 3) hx hb hts hown hK flX2_hasAllOf_73 hP rfl rfl dX2_hasAllOf_36 ?_
    obtain ⟨v2, h_3, hm⟩ := b1_s hm
    refine rd_v hcf (kX3_size h_3) (cwX2_hasAllOf_X3_size hts) hK hP sR_s (ci := 3) (q0 := 4) rfl rfl rfl hl.1 rfl (Nat.le_of_ble_eq_true rfl) dX2_hasAllOf_39 ⟨Nat.zero_le _, Nat.zero_le _⟩ ?_
    refine lv_bipush (v := 6) hx hb dX2_hasAllOf_42 (by decide) ?_
    refine lv_icmp_lt (tgt := 51) hx hb dX2_hasAllOf_44 (by decide) (fun c_4 => ?_) (fun c_4 => ?_)
    · replace hm := br_p hm c_4
      refine lv_iconst (v := 0) hx hb dX2_hasAllOf_51 (by decide) ?_
      cases hm
      exact hret _ _ dX2_hasAllOf_52 rfl
    · replace hm := br_n hm c_4
      refine lv_iconst (v := 1) hx hb dX2_hasAllOf_47 (by decide) ?_
      refine lv_goto (tgt := 52) hx hb dX2_hasAllOf_48 (by decide) ?_
      cases hm
      exact hret _ _ dX2_hasAllOf_52 rfl
  · replace hm := br_n hm c_1
    by_cases c_5 : p1 = 1
    · replace hm := br_p hm c_5
      refine lv_tableIn (tgt := 95) hx hb dX2_hasAllOf_1 (by rw [c_5]; decide) (by rw [c_5]; decide) (by rw [c_5]; rfl) (by decide) ?_
      refine lv_iconst (v := 0) hx hb dX2_hasAllOf_95 (by decide) ?_
      cases hm
      exact hret _ _ dX2_hasAllOf_96 rfl
    · replace hm := br_n hm c_5
      by_cases c_6 : p1 = 2
      · replace hm := br_p hm c_6
        refine lv_tableIn (tgt := 53) hx hb dX2_hasAllOf_1 (by rw [c_6]; decide) (by rw [c_6]; decide) (by rw [c_6]; rfl) (by decide) ?_
        refine lv_aload_n hx hb dX2_hasAllOf_53 rfl (lv_at hl 0 rfl) ?_
        refine gf (q0 := 0) hx hb hts hown hK flX2_hasAllOf_15 hP rfl rfl dX2_hasAllOf_54 ?_
        refine gf (q0 := 3) hx hb hts hown hK flX2_hasAllOf_84 hP rfl rfl dX2_hasAllOf_57 ?_
        obtain ⟨v7, h_8, hm⟩ := b1_s hm
        refine rd_v hcf (kX3_size h_8) (cwX2_hasAllOf_X3_size hts) hK hP sR_d (ci := 3) (q0 := 6) rfl rfl rfl hl.1 rfl (Nat.le_of_ble_eq_true rfl) dX2_hasAllOf_60 ⟨Nat.zero_le _, Nat.zero_le _⟩ ?_
        refine lv_bipush (v := 6) hx hb dX2_hasAllOf_63 (by decide) ?_
        refine lv_icmp_lt (tgt := 72) hx hb dX2_hasAllOf_65 (by decide) (fun c_9 => ?_) (fun c_9 => ?_)
        · replace hm := br_p hm c_9
          refine lv_iconst (v := 0) hx hb dX2_hasAllOf_72 (by decide) ?_
          cases hm
          exact hret _ _ dX2_hasAllOf_73 rfl
        · replace hm := br_n hm c_9
          refine lv_iconst (v := 1) hx hb dX2_hasAllOf_68 (by decide) ?_
          refine lv_goto (tgt := 73) hx hb dX2_hasAllOf_69 (by decide) ?_
          cases hm
          exact hret _ _ dX2_hasAllOf_73 rfl
      · replace hm := br_n hm c_6
        by_cases c_10 : p1 = 3
        · replace hm := br_p hm c_10
          refine lv_tableIn (tgt := 74) hx hb dX2_hasAllOf_1 (by rw [c_10]; decide) (by rw [c_10]; decide) (by rw [c_10]; rfl) (by decide) ?_
          refine lv_aload_n hx hb dX2_hasAllOf_74 rfl (lv_at hl 0 rfl) ?_
          refine gf (q0 := 0) hx hb hts hown hK flX2_hasAllOf_15 hP rfl rfl dX2_hasAllOf_75 ?_
          refine gf (q0 := 3) hx hb hts hown hK flX2_hasAllOf_87 hP rfl rfl dX2_hasAllOf_78 ?_
          obtain ⟨v11, h_12, hm⟩ := b1_s hm
          refine rd_v hcf (kX3_size h_12) (cwX2_hasAllOf_X3_size hts) hK hP sR_j (ci := 3) (q0 := 8) rfl rfl rfl hl.1 rfl (Nat.le_of_ble_eq_true rfl) dX2_hasAllOf_81 ⟨Nat.zero_le _, Nat.zero_le _⟩ ?_
          refine lv_bipush (v := 12) hx hb dX2_hasAllOf_84 (by decide) ?_
          refine lv_icmp_lt (tgt := 93) hx hb dX2_hasAllOf_86 (by decide) (fun c_13 => ?_) (fun c_13 => ?_)
          · replace hm := br_p hm c_13
            refine lv_iconst (v := 0) hx hb dX2_hasAllOf_93 (by decide) ?_
            cases hm
            exact hret _ _ dX2_hasAllOf_94 rfl
          · replace hm := br_n hm c_13
            refine lv_iconst (v := 1) hx hb dX2_hasAllOf_89 (by decide) ?_
            refine lv_goto (tgt := 94) hx hb dX2_hasAllOf_90 (by decide) ?_
            cases hm
            exact hret _ _ dX2_hasAllOf_94 rfl
        · replace hm := br_n hm c_10
          refine lv_tableOut (tgt := 95) hx hb dX2_hasAllOf_1 (by have q0 := ne_ti (z := 0) (by decide) c_1; have q1 := ne_ti (z := 1) (by decide) c_5; have q2 := ne_ti (z := 2) (by decide) c_6; have q3 := ne_ti (z := 3) (by decide) c_10; omega) (by decide) ?_
          refine lv_iconst (v := 0) hx hb dX2_hasAllOf_95 (by decide) ?_
          cases hm
          exact hret _ _ dX2_hasAllOf_96 rfl
/-! X2 takeSort()V -/
abbrev rmX2_takeSort : Room := { frames := 6, cells := 0, slots := 0, locals := 127 }
theorem hdX2_takeSort : yX2_takeSort.cls = RX2 ∧ yX2_takeSort.cls ≠ "java/lang/invoke/MethodHandle" ∧ yX2_takeSort.cls ≠ "java/lang/invoke/VarHandle" ∧ (parseMethodDescriptor yX2_takeSort.desc).map (fun d => d.parameters.length) = some 0 := by decide +kernel
theorem inX2_takeSort_X2 : ∀ w ∈ u_ws RX2 TX2 8, w ∈ wsX2_takeSort := by decide +kernel
theorem cwX2_takeSort_X2_hasAllOf {s : State} {args : Array Value} (hts : ∀ w ∈ wsX2_takeSort, w.before args s = true) : CallW rmX2_takeSort s args RX2 RX2 58 yX2_hasAllOf cX2_hasAllOf 2 (some .boolean) wsX2_hasAllOf rmX2_hasAllOf 0 0 1 := cwV 1 hts gX2_takeSort_X2_hasAllOf rfl rfl rfl hdX2_hasAllOf ⟨Nat.le_of_ble_eq_true rfl, Nat.le_of_ble_eq_true rfl⟩
theorem cwX2_takeSort_X2_mayComeNow {s : State} {args : Array Value} (hts : ∀ w ∈ wsX2_takeSort, w.before args s = true) : CallW rmX2_takeSort s args RX2 RX2 54 yX2_mayComeNow cX2_mayComeNow 2 (some .boolean) wsX2_mayComeNow rmX2_mayComeNow 0 0 1 := cwV 1 hts gX2_takeSort_X2_mayComeNow rfl rfl rfl hdX2_mayComeNow ⟨Nat.le_of_ble_eq_true rfl, Nat.le_of_ble_eq_true rfl⟩
theorem cwX2_takeSort_X2_sortOfWord {s : State} {args : Array Value} (hts : ∀ w ∈ wsX2_takeSort, w.before args s = true) : CallW rmX2_takeSort s args RX2 RX2 50 yX2_sortOfWord cX2_sortOfWord 1 (some .int) wsX2_sortOfWord rmX2_sortOfWord 0 0 0 := cwV 0 hts gX2_takeSort_X2_sortOfWord rfl rfl rfl hdX2_sortOfWord ⟨Nat.le_of_ble_eq_true rfl, Nat.le_of_ble_eq_true rfl⟩
theorem flX2_takeSort_29 : Fl wsX2_takeSort RX2 29 2 2 := ⟨_, _, _, rfl, by decide, inX2_takeSort_X2, by decide +kernel⟩
theorem fpX2_takeSort_19 : Fp wsX2_takeSort RX2 19 2 6 false .int := ⟨_, _, _, tyX2, rfl, by decide, inX2_takeSort_X2, by decide +kernel, tyX2_ok, nmX2, rfl, rfl, by decide +kernel⟩
theorem fpX2_takeSort_23 : Fp wsX2_takeSort RX2 23 2 7 false .int := ⟨_, _, _, tyX2, rfl, by decide, inX2_takeSort_X2, by decide +kernel, tyX2_ok, nmX2, rfl, rfl, by decide +kernel⟩
set_option maxRecDepth 100000 in
set_option maxHeartbeats 4000000 in
theorem tX2_takeSort_b16 {ra : Nat} {a : Nat} {b : Nat} {ad : Nat → Nat} {sq sv : Nat → Nat} {kd : Int32} {bg : Int32} {pt : Int32} {vl : Int32} {us : Int32} {tf : Nat → Int32} {ho : Int32} {td : Int32} {pd : Int32} {sr : Int32} {dr : Int32} {ir : Int32} {qr : Int32} {sf : Nat → Int32} {df : Nat → Int32} {jf : Nat → Int32} {qf : Nat → Int32} {lt' : Int32} {ft' : Int32} (C : Cx p s m args meth c cX2_takeSort none 2 wsX2_takeSort RX2 D cI cB cL cK) (hZ : ZR sq sv A s s.heap) (hA : ∀ q : Nat, s.heap.size ≤ q → A q) (hret : ∀ (pc : Nat) (ls : Array Slot) (H : Heap) (locs : List Loc), decode cX2_takeSort pc = .ok (.return_, 1) → va_P D vwCl (wR cI cB ra a b ad kd bg pt vl lt' ft' us tf ho td pd sr dr ir qr sf df jf qf) H → va_D A (wR cI cB ra a b ad kd bg pt vl lt' ft' us tf ho td pd sr dr ir qr sf df jf qf) → va_S A s.heap H locs → W p l e rmX2_takeSort s m args below meth c H locs 0 0 Q (F0 m pc ls [])) : ∀ (k0 : Int32) (lt : Int32) (ft : Int32), mX2_takeSort_b16 kd bg pt us tf sr dr ir k0 lt ft = some (lt', ft') → ∀ (H : Heap) (locs : List Loc) (ls : Array Slot), va_P D vwCl (wR cI cB ra a b ad kd bg pt vl lt ft us tf ho td pd sr dr ir qr sf df jf qf) H → va_D A (wR cI cB ra a b ad kd bg pt vl lt ft us tf ho td pd sr dr ir qr sf df jf qf) → va_S A s.heap H locs → lv_has ls 2 [(0, .ref ra)] → W p l e rmX2_takeSort s m args below meth c H locs 0 0 Q (F0 m 16 ls [.int k0]) := by
  obtain ⟨hx, hb, hr, hml, hown, hts, hlk, hK⟩ := id C
  have hcf : CallFix p m c cX2_takeSort 2 s args wsX2_takeSort RX2 := ⟨hx, hb, hml, hown, hts⟩
  intro k0 lt ft hm H locs ls hP hD hS hl
  unfold mX2_takeSort_b16 at hm
  refine lv_istore_n (lv' := [(1, .int k0), (0, .ref ra)]) hx hb dX2_takeSort_16 rfl hl (by decide) rfl (fun ls hl => ?_)
  refine lv_aload_n hx hb dX2_takeSort_17 rfl (lv_at hl 1 rfl) ?_
  refine lv_iload_n hx hb dX2_takeSort_18 rfl (lv_at hl 0 rfl) ?_
  obtain ⟨v4, h_5, hm⟩ := b1_s hm
  refine rd_v hcf (kX2_mayComeNow h_5) (cwX2_takeSort_X2_mayComeNow hts) hK hP Sb.rf (ci := 2) (q0 := 0) rfl rfl rfl hl.1 rfl (Nat.le_of_ble_eq_true rfl) dX2_takeSort_19 ⟨Nat.zero_le _, Nat.zero_le _⟩ ?_
  refine lv_if_ne (tgt := 33) hx hb dX2_takeSort_22 (by decide) (fun c_6 => ?_) (fun c_6 => ?_)
  · replace hm := br_n hm c_6
    refine lv_aload_n hx hb dX2_takeSort_33 rfl (lv_at hl 1 rfl) ?_
    refine lv_iload_n hx hb dX2_takeSort_34 rfl (lv_at hl 0 rfl) ?_
    obtain ⟨v7, h_8, hm⟩ := b1_s hm
    refine rd_v hcf (kX2_hasAllOf h_8) (cwX2_takeSort_X2_hasAllOf hts) hK hP Sb.rf (ci := 2) (q0 := 0) rfl rfl rfl hl.1 rfl (Nat.le_of_ble_eq_true rfl) dX2_takeSort_35 ⟨Nat.zero_le _, Nat.zero_le _⟩ ?_
    refine lv_if_eq (tgt := 49) hx hb dX2_takeSort_38 (by decide) (fun c_9 => ?_) (fun c_9 => ?_)
    · replace hm := br_p hm c_9
      refine lv_aload_n hx hb dX2_takeSort_49 rfl (lv_at hl 1 rfl) ?_
      refine lv_iload_n hx hb dX2_takeSort_50 rfl (lv_at hl 0 rfl) ?_
      refine pf (q0 := 0) (X' := (wR cI cB ra a b ad kd bg pt vl k0 ft us tf ho td pd sr dr ir qr sf df jf qf)) hx hb hts hown hK fpX2_takeSort_19 hP hD hS rfl rfl rfl (Nat.le_of_ble_eq_true rfl) rfl dX2_takeSort_51 (fun H locs hP hD hS => ?_)
      cases hm
      exact hret _ _ _ _ dX2_takeSort_54 hP hD hS
    · replace hm := br_n hm c_9
      refine lv_aload_n hx hb dX2_takeSort_41 rfl (lv_at hl 1 rfl) ?_
      refine lv_iconst (v := 3) hx hb dX2_takeSort_42 (by decide) ?_
      refine pf (q0 := 0) (X' := (wR cI cB ra a b ad kd bg pt vl lt 3 us tf ho td pd sr dr ir qr sf df jf qf)) hx hb hts hown hK fpX2_takeSort_23 hP hD hS rfl rfl rfl (Nat.le_of_ble_eq_true rfl) rfl dX2_takeSort_43 (fun H locs hP hD hS => ?_)
      refine lv_goto (tgt := 54) hx hb dX2_takeSort_46 (by decide) ?_
      cases hm
      exact hret _ _ _ _ dX2_takeSort_54 hP hD hS
  · replace hm := br_p hm c_6
    refine lv_aload_n hx hb dX2_takeSort_25 rfl (lv_at hl 1 rfl) ?_
    refine lv_iconst (v := 1) hx hb dX2_takeSort_26 (by decide) ?_
    refine pf (q0 := 0) (X' := (wR cI cB ra a b ad kd bg pt vl lt 1 us tf ho td pd sr dr ir qr sf df jf qf)) hx hb hts hown hK fpX2_takeSort_23 hP hD hS rfl rfl rfl (Nat.le_of_ble_eq_true rfl) rfl dX2_takeSort_27 (fun H locs hP hD hS => ?_)
    refine lv_goto (tgt := 54) hx hb dX2_takeSort_30 (by decide) ?_
    cases hm
    exact hret _ _ _ _ dX2_takeSort_54 hP hD hS
set_option maxRecDepth 100000 in
set_option maxHeartbeats 4000000 in
theorem kX2_takeSort {l : Launch} {D : va_G} {cI cB cL cK : ClassId} {ra : Nat} {a : Nat} {b : Nat} {ad : Nat → Nat} {sq sv : Nat → Nat} {kd : Int32} {bg : Int32} {pt : Int32} {vl : Int32} {lt : Int32} {ft : Int32} {us : Int32} {tf : Nat → Int32} {ho : Int32} {td : Int32} {pd : Int32} {sr : Int32} {dr : Int32} {ir : Int32} {qr : Int32} {sf : Nat → Int32} {df : Nat → Int32} {jf : Nat → Int32} {qf : Nat → Int32}  {lt' : Int32} {ft' : Int32} (hm : mX2_takeSort kd bg pt lt ft us tf sr dr ir = some (lt', ft')) : MuZ l D cI cB cL cK sq sv yX2_takeSort wsX2_takeSort rmX2_takeSort [.ref ra] (wR cI cB ra a b ad kd bg pt vl lt ft us tf ho td pd sr dr ir qr sf df jf qf) (wR cI cB ra a b ad kd bg pt vl lt' ft' us tf ho td pd sr dr ir qr sf df jf qf) none 0 0 := by
  refine MuZ.ofv (cc := cX2_takeSort) (own := RX2) (by decide) rfl rfl (Nat.le_of_ble_eq_true rfl) (fun p e s m below meth c ls Q A C hZ hA hP hD hS hl hret => ?_)
  obtain ⟨hx, hb, hr, hml, hown, hts, hlk, hK⟩ := id C
  have hcf : CallFix p m c cX2_takeSort 2 s _ wsX2_takeSort RX2 := ⟨hx, hb, hml, hown, hts⟩
  have hl : lv_has ls 2 [(0, .ref ra)] := hl
  unfold mX2_takeSort at hm
  refine lv_aload_n hx hb dX2_takeSort_0 rfl (lv_at hl 0 rfl) ?_
  refine gf (q0 := 0) hx hb hts hown hK flX2_takeSort_29 hP rfl rfl dX2_takeSort_1 ?_
  refine lv_iconst (v := 1) hx hb dX2_takeSort_4 (by decide) ?_
  refine lv_icmp_ne (tgt := 15) hx hb dX2_takeSort_5 (by decide) (fun c_1 => ?_) (fun c_1 => ?_)
  · replace hm := br_n hm c_1
    refine lv_iconst (v := (-1)) hx hb dX2_takeSort_15 (by decide) ?_
    exact tX2_takeSort_b16 C hZ hA hret _ _ _ hm _ _ _ hP hD hS (lv_sub hl [0] rfl)
  · replace hm := br_p hm c_1
    refine lv_aload_n hx hb dX2_takeSort_8 rfl (lv_at hl 0 rfl) ?_
    obtain ⟨v2, h_3, hm⟩ := b1_s hm
    refine rdz_v hcf (kX2_sortOfWord h_3) (cwX2_takeSort_X2_sortOfWord hts) hK hZ hS hP Sb.rf (ci := 2) (q0 := 0) rfl rfl rfl hl.1 rfl (Nat.le_of_ble_eq_true rfl) dX2_takeSort_9 ⟨Nat.zero_le _, Nat.zero_le _⟩ ?_
    refine lv_goto (tgt := 16) hx hb dX2_takeSort_12 (by decide) ?_
    exact tX2_takeSort_b16 C hZ hA hret _ _ _ hm _ _ _ hP hD hS (lv_sub hl [0] rfl)
/-! X2 takeNumber(II)I -/
abbrev rmX2_takeNumber : Room := { frames := 3, cells := 0, slots := 0, locals := 65 }
theorem hdX2_takeNumber : yX2_takeNumber.cls = RX2 ∧ yX2_takeNumber.cls ≠ "java/lang/invoke/MethodHandle" ∧ yX2_takeNumber.cls ≠ "java/lang/invoke/VarHandle" ∧ (parseMethodDescriptor yX2_takeNumber.desc).map (fun d => d.parameters.length) = some 2 := by decide +kernel
theorem inX2_takeNumber_X2 : ∀ w ∈ u_ws RX2 TX2 8, w ∈ wsX2_takeNumber := by decide +kernel
theorem cwX2_takeNumber_X2_advance {s : State} {args : Array Value} (hts : ∀ w ∈ wsX2_takeNumber, w.before args s = true) : CallW rmX2_takeNumber s args RX2 RX2 26 yX2_advance cX2_advance 2 none wsX2_advance rmX2_advance 0 0 0 := cwV 0 hts gX2_takeNumber_X2_advance rfl rfl rfl hdX2_advance ⟨Nat.le_of_ble_eq_true rfl, Nat.le_of_ble_eq_true rfl⟩
theorem flX2_takeNumber_112 : Fl wsX2_takeNumber RX2 112 2 5 := ⟨_, _, _, rfl, by decide, inX2_takeNumber_X2, by decide +kernel⟩
theorem flX2_takeNumber_23 : Fl wsX2_takeNumber RX2 23 2 7 := ⟨_, _, _, rfl, by decide, inX2_takeNumber_X2, by decide +kernel⟩
theorem flX2_takeNumber_29 : Fl wsX2_takeNumber RX2 29 2 2 := ⟨_, _, _, rfl, by decide, inX2_takeNumber_X2, by decide +kernel⟩
theorem fpX2_takeNumber_23 : Fp wsX2_takeNumber RX2 23 2 7 false .int := ⟨_, _, _, tyX2, rfl, by decide, inX2_takeNumber_X2, by decide +kernel, tyX2_ok, nmX2, rfl, rfl, by decide +kernel⟩
set_option maxRecDepth 100000 in
set_option maxHeartbeats 4000000 in
theorem tX2_takeNumber_b45 {ra : Nat} {a : Nat} {b : Nat} {ad : Nat → Nat} {lt : Int32} {us : Int32} {tf : Nat → Int32} {ho : Int32} {td : Int32} {pd : Int32} {sr : Int32} {dr : Int32} {ir : Int32} {qr : Int32} {sf : Nat → Int32} {df : Nat → Int32} {jf : Nat → Int32} {qf : Nat → Int32} {res : Int32} {kd' : Int32} {bg' : Int32} {pt' : Int32} {vl' : Int32} {ft' : Int32} (C : Cx p s m args meth c cX2_takeNumber (some .int) 3 wsX2_takeNumber RX2 D cI cB cL cK) (hA : ∀ q : Nat, s.heap.size ≤ q → A q) (hret : ∀ (pc : Nat) (ls : Array Slot) (H : Heap) (locs : List Loc), decode cX2_takeNumber pc = .ok (.ireturn, 1) → narrow .int (.int res) = .int res → va_P D vwCl (wR cI cB ra a b ad kd' bg' pt' vl' lt ft' us tf ho td pd sr dr ir qr sf df jf qf) H → va_D A (wR cI cB ra a b ad kd' bg' pt' vl' lt ft' us tf ho td pd sr dr ir qr sf df jf qf) → va_S A s.heap H locs → W p l e rmX2_takeNumber s m args below meth c H locs 0 0 Q (F0 m pc ls [.int res])) : ∀ (kd : Int32) (bg : Int32) (pt : Int32) (vl : Int32) (ft : Int32), mX2_takeNumber_b45 us tf kd bg pt vl ft = some (res, kd', bg', pt', vl', ft') → ∀ (H : Heap) (locs : List Loc) (ls : Array Slot), va_P D vwCl (wR cI cB ra a b ad kd bg pt vl lt ft us tf ho td pd sr dr ir qr sf df jf qf) H → va_D A (wR cI cB ra a b ad kd bg pt vl lt ft us tf ho td pd sr dr ir qr sf df jf qf) → va_S A s.heap H locs → lv_has ls 3 [(0, .ref ra)] → W p l e rmX2_takeNumber s m args below meth c H locs 0 0 Q (F0 m 45 ls []) := by
  obtain ⟨hx, hb, hr, hml, hown, hts, hlk, hK⟩ := id C
  have hcf : CallFix p m c cX2_takeNumber 3 s args wsX2_takeNumber RX2 := ⟨hx, hb, hml, hown, hts⟩
  intro kd bg pt vl ft hm H locs ls hP hD hS hl
  unfold mX2_takeNumber_b45 at hm
  refine lv_aload_n hx hb dX2_takeNumber_45 rfl (lv_at hl 0 rfl) ?_
  refine lv_iconst (v := 2) hx hb dX2_takeNumber_46 (by decide) ?_
  refine pf (q0 := 0) (X' := (wR cI cB ra a b ad kd bg pt vl lt 2 us tf ho td pd sr dr ir qr sf df jf qf)) hx hb hts hown hK fpX2_takeNumber_23 hP hD hS rfl rfl rfl (Nat.le_of_ble_eq_true rfl) rfl dX2_takeNumber_47 (fun H locs hP hD hS => ?_)
  refine lv_aload_n hx hb dX2_takeNumber_50 rfl (lv_at hl 0 rfl) ?_
  refine gf (q0 := 0) hx hb hts hown hK flX2_takeNumber_112 hP rfl rfl dX2_takeNumber_51 ?_
  cases hm
  exact hret _ _ _ _ dX2_takeNumber_54 rfl hP hD hS
set_option maxRecDepth 100000 in
set_option maxHeartbeats 4000000 in
theorem kX2_takeNumber {l : Launch} {D : va_G} {cI cB cL cK : ClassId} {ra : Nat} {a : Nat} {b : Nat} {ad : Nat → Nat} {kd : Int32} {bg : Int32} {pt : Int32} {vl : Int32} {lt : Int32} {ft : Int32} {us : Int32} {tf : Nat → Int32} {ho : Int32} {td : Int32} {pd : Int32} {sr : Int32} {dr : Int32} {ir : Int32} {qr : Int32} {sf : Nat → Int32} {df : Nat → Int32} {jf : Nat → Int32} {qf : Nat → Int32} {p1 : Int32} {p2 : Int32} {res : Int32} {kd' : Int32} {bg' : Int32} {pt' : Int32} {vl' : Int32} {ft' : Int32} (hm : mX2_takeNumber kd bg pt vl ft us tf p1 p2 = some (res, kd', bg', pt', vl', ft')) : Mu l D cI cB cL cK yX2_takeNumber wsX2_takeNumber rmX2_takeNumber [.ref ra, .int p1, .int p2] (wR cI cB ra a b ad kd bg pt vl lt ft us tf ho td pd sr dr ir qr sf df jf qf) (wR cI cB ra a b ad kd' bg' pt' vl' lt ft' us tf ho td pd sr dr ir qr sf df jf qf) (some (.int res)) 0 0 := by
  refine Mu.ofi (cc := cX2_takeNumber) (own := RX2) (by decide) rfl rfl (Nat.le_of_ble_eq_true rfl) (fun p e s m below meth c ls Q A C hA hP hD hS hl hret => ?_)
  obtain ⟨hx, hb, hr, hml, hown, hts, hlk, hK⟩ := id C
  have hcf : CallFix p m c cX2_takeNumber 3 s _ wsX2_takeNumber RX2 := ⟨hx, hb, hml, hown, hts⟩
  have hl : lv_has ls 3 [(0, .ref ra), (1, .int p1), (2, .int p2)] := hl
  unfold mX2_takeNumber at hm
  refine lv_aload_n hx hb dX2_takeNumber_0 rfl (lv_at hl 0 rfl) ?_
  refine gf (q0 := 0) hx hb hts hown hK flX2_takeNumber_23 hP rfl rfl dX2_takeNumber_1 ?_
  refine lv_if_eq (tgt := 9) hx hb dX2_takeNumber_4 (by decide) (fun c_1 => ?_) (fun c_1 => ?_)
  · replace hm := br_p hm c_1
    refine lv_aload_n hx hb dX2_takeNumber_9 rfl (lv_at hl 0 rfl) ?_
    obtain ⟨kd2, bg3, pt4, vl5, h_6, hm⟩ := b4_s hm
    refine mu_vv hcf (kX2_advance h_6) (cwX2_takeNumber_X2_advance hts) hK hP hD hS hA Jn.rf (ci := 2) (q0 := 0) rfl rfl rfl hl.1 rfl (Nat.le_of_ble_eq_true rfl) dX2_takeNumber_10 ⟨Nat.zero_le _, Nat.zero_le _⟩ (fun H locs hP hD hS => ?_)
    refine lv_aload_n hx hb dX2_takeNumber_13 rfl (lv_at hl 0 rfl) ?_
    refine gf (q0 := 0) hx hb hts hown hK flX2_takeNumber_29 hP rfl rfl dX2_takeNumber_14 ?_
    refine lv_iconst (v := 2) hx hb dX2_takeNumber_17 (by decide) ?_
    refine lv_icmp_eq (tgt := 29) hx hb dX2_takeNumber_18 (by decide) (fun c_7 => ?_) (fun c_7 => ?_)
    · replace hm := br_p hm c_7
      refine lv_aload_n hx hb dX2_takeNumber_29 rfl (lv_at hl 0 rfl) ?_
      refine gf (q0 := 0) hx hb hts hown hK flX2_takeNumber_112 hP rfl rfl dX2_takeNumber_30 ?_
      refine lv_iload_n hx hb dX2_takeNumber_33 rfl (lv_at hl 1 rfl) ?_
      refine lv_icmp_lt (tgt := 45) hx hb dX2_takeNumber_34 (by decide) (fun c_8 => ?_) (fun c_8 => ?_)
      · replace hm := br_p hm c_8
        exact tX2_takeNumber_b45 C hA hret _ _ _ _ _ hm _ _ _ hP hD hS (lv_sub hl [0] rfl)
      · replace hm := br_n hm c_8
        refine lv_aload_n hx hb dX2_takeNumber_37 rfl (lv_at hl 0 rfl) ?_
        refine gf (q0 := 0) hx hb hts hown hK flX2_takeNumber_112 hP rfl rfl dX2_takeNumber_38 ?_
        refine lv_iload_n hx hb dX2_takeNumber_41 rfl (lv_at hl 2 rfl) ?_
        refine lv_icmp_le (tgt := 50) hx hb dX2_takeNumber_42 (by decide) (fun c_9 => ?_) (fun c_9 => ?_)
        · replace hm := br_p hm c_9
          refine lv_aload_n hx hb dX2_takeNumber_50 rfl (lv_at hl 0 rfl) ?_
          refine gf (q0 := 0) hx hb hts hown hK flX2_takeNumber_112 hP rfl rfl dX2_takeNumber_51 ?_
          cases hm
          exact hret _ _ _ _ dX2_takeNumber_54 rfl hP hD hS
        · replace hm := br_n hm c_9
          exact tX2_takeNumber_b45 C hA hret _ _ _ _ _ hm _ _ _ hP hD hS (lv_sub hl [0] rfl)
    · replace hm := br_n hm c_7
      refine lv_aload_n hx hb dX2_takeNumber_21 rfl (lv_at hl 0 rfl) ?_
      refine lv_iconst (v := 1) hx hb dX2_takeNumber_22 (by decide) ?_
      refine pf (q0 := 0) (X' := (wR cI cB ra a b ad kd2 bg3 pt4 vl5 lt 1 us tf ho td pd sr dr ir qr sf df jf qf)) hx hb hts hown hK fpX2_takeNumber_23 hP hD hS rfl rfl rfl (Nat.le_of_ble_eq_true rfl) rfl dX2_takeNumber_23 (fun H locs hP hD hS => ?_)
      refine lv_goto (tgt := 50) hx hb dX2_takeNumber_26 (by decide) ?_
      refine lv_aload_n hx hb dX2_takeNumber_50 rfl (lv_at hl 0 rfl) ?_
      refine gf (q0 := 0) hx hb hts hown hK flX2_takeNumber_112 hP rfl rfl dX2_takeNumber_51 ?_
      cases hm
      exact hret _ _ _ _ dX2_takeNumber_54 rfl hP hD hS
  · replace hm := br_n hm c_1
    refine lv_iconst (v := 0) hx hb dX2_takeNumber_7 (by decide) ?_
    cases hm
    exact hret _ _ _ _ dX2_takeNumber_8 rfl hP hD hS
/-! X2 takeSemicolon()Z -/
abbrev rmX2_takeSemicolon : Room := { frames := 3, cells := 0, slots := 0, locals := 65 }
theorem hdX2_takeSemicolon : yX2_takeSemicolon.cls = RX2 ∧ yX2_takeSemicolon.cls ≠ "java/lang/invoke/MethodHandle" ∧ yX2_takeSemicolon.cls ≠ "java/lang/invoke/VarHandle" ∧ (parseMethodDescriptor yX2_takeSemicolon.desc).map (fun d => d.parameters.length) = some 0 := by decide +kernel
theorem inX2_takeSemicolon_X2 : ∀ w ∈ u_ws RX2 TX2 8, w ∈ wsX2_takeSemicolon := by decide +kernel
theorem cwX2_takeSemicolon_X2_advance {s : State} {args : Array Value} (hts : ∀ w ∈ wsX2_takeSemicolon, w.before args s = true) : CallW rmX2_takeSemicolon s args RX2 RX2 26 yX2_advance cX2_advance 2 none wsX2_advance rmX2_advance 0 0 0 := cwV 0 hts gX2_takeSemicolon_X2_advance rfl rfl rfl hdX2_advance ⟨Nat.le_of_ble_eq_true rfl, Nat.le_of_ble_eq_true rfl⟩
theorem flX2_takeSemicolon_23 : Fl wsX2_takeSemicolon RX2 23 2 7 := ⟨_, _, _, rfl, by decide, inX2_takeSemicolon_X2, by decide +kernel⟩
theorem flX2_takeSemicolon_29 : Fl wsX2_takeSemicolon RX2 29 2 2 := ⟨_, _, _, rfl, by decide, inX2_takeSemicolon_X2, by decide +kernel⟩
theorem fpX2_takeSemicolon_23 : Fp wsX2_takeSemicolon RX2 23 2 7 false .int := ⟨_, _, _, tyX2, rfl, by decide, inX2_takeSemicolon_X2, by decide +kernel, tyX2_ok, nmX2, rfl, rfl, by decide +kernel⟩
set_option maxRecDepth 100000 in
set_option maxHeartbeats 4000000 in
theorem tX2_takeSemicolon_b26 {ra : Nat} {a : Nat} {b : Nat} {ad : Nat → Nat} {lt : Int32} {us : Int32} {tf : Nat → Int32} {ho : Int32} {td : Int32} {pd : Int32} {sr : Int32} {dr : Int32} {ir : Int32} {qr : Int32} {sf : Nat → Int32} {df : Nat → Int32} {jf : Nat → Int32} {qf : Nat → Int32} {res : Int32} {kd' : Int32} {bg' : Int32} {pt' : Int32} {vl' : Int32} {ft' : Int32} (C : Cx p s m args meth c cX2_takeSemicolon (some .boolean) 1 wsX2_takeSemicolon RX2 D cI cB cL cK) (hA : ∀ q : Nat, s.heap.size ≤ q → A q) (hret : ∀ (pc : Nat) (ls : Array Slot) (H : Heap) (locs : List Loc), decode cX2_takeSemicolon pc = .ok (.ireturn, 1) → narrow .boolean (.int res) = .int res → va_P D vwCl (wR cI cB ra a b ad kd' bg' pt' vl' lt ft' us tf ho td pd sr dr ir qr sf df jf qf) H → va_D A (wR cI cB ra a b ad kd' bg' pt' vl' lt ft' us tf ho td pd sr dr ir qr sf df jf qf) → va_S A s.heap H locs → W p l e rmX2_takeSemicolon s m args below meth c H locs 0 0 Q (F0 m pc ls [.int res])) : ∀ (kd : Int32) (bg : Int32) (pt : Int32) (vl : Int32) (ft : Int32), mX2_takeSemicolon_b26 us tf kd bg pt vl ft = some (res, kd', bg', pt', vl', ft') → ∀ (H : Heap) (locs : List Loc) (ls : Array Slot), va_P D vwCl (wR cI cB ra a b ad kd bg pt vl lt ft us tf ho td pd sr dr ir qr sf df jf qf) H → va_D A (wR cI cB ra a b ad kd bg pt vl lt ft us tf ho td pd sr dr ir qr sf df jf qf) → va_S A s.heap H locs → lv_has ls 1 [(0, .ref ra)] → W p l e rmX2_takeSemicolon s m args below meth c H locs 0 0 Q (F0 m 26 ls []) := by
  obtain ⟨hx, hb, hr, hml, hown, hts, hlk, hK⟩ := id C
  have hcf : CallFix p m c cX2_takeSemicolon 1 s args wsX2_takeSemicolon RX2 := ⟨hx, hb, hml, hown, hts⟩
  intro kd bg pt vl ft hm H locs ls hP hD hS hl
  unfold mX2_takeSemicolon_b26 at hm
  refine lv_aload_n hx hb dX2_takeSemicolon_26 rfl (lv_at hl 0 rfl) ?_
  refine gf (q0 := 0) hx hb hts hown hK flX2_takeSemicolon_23 hP rfl rfl dX2_takeSemicolon_27 ?_
  refine lv_if_ne (tgt := 37) hx hb dX2_takeSemicolon_30 (by decide) (fun c_8 => ?_) (fun c_8 => ?_)
  · replace hm := br_n hm c_8
    refine lv_iconst (v := 0) hx hb dX2_takeSemicolon_37 (by decide) ?_
    cases hm
    exact hret _ _ _ _ dX2_takeSemicolon_38 rfl hP hD hS
  · replace hm := br_p hm c_8
    refine lv_iconst (v := 1) hx hb dX2_takeSemicolon_33 (by decide) ?_
    refine lv_goto (tgt := 38) hx hb dX2_takeSemicolon_34 (by decide) ?_
    cases hm
    exact hret _ _ _ _ dX2_takeSemicolon_38 rfl hP hD hS
set_option maxRecDepth 100000 in
set_option maxHeartbeats 4000000 in
theorem kX2_takeSemicolon {l : Launch} {D : va_G} {cI cB cL cK : ClassId} {ra : Nat} {a : Nat} {b : Nat} {ad : Nat → Nat} {kd : Int32} {bg : Int32} {pt : Int32} {vl : Int32} {lt : Int32} {ft : Int32} {us : Int32} {tf : Nat → Int32} {ho : Int32} {td : Int32} {pd : Int32} {sr : Int32} {dr : Int32} {ir : Int32} {qr : Int32} {sf : Nat → Int32} {df : Nat → Int32} {jf : Nat → Int32} {qf : Nat → Int32}  {res : Int32} {kd' : Int32} {bg' : Int32} {pt' : Int32} {vl' : Int32} {ft' : Int32} (hm : mX2_takeSemicolon kd bg pt vl ft us tf = some (res, kd', bg', pt', vl', ft')) : Mu l D cI cB cL cK yX2_takeSemicolon wsX2_takeSemicolon rmX2_takeSemicolon [.ref ra] (wR cI cB ra a b ad kd bg pt vl lt ft us tf ho td pd sr dr ir qr sf df jf qf) (wR cI cB ra a b ad kd' bg' pt' vl' lt ft' us tf ho td pd sr dr ir qr sf df jf qf) (some (.int res)) 0 0 := by
  refine Mu.ofi (cc := cX2_takeSemicolon) (own := RX2) (by decide) rfl rfl (Nat.le_of_ble_eq_true rfl) (fun p e s m below meth c ls Q A C hA hP hD hS hl hret => ?_)
  obtain ⟨hx, hb, hr, hml, hown, hts, hlk, hK⟩ := id C
  have hcf : CallFix p m c cX2_takeSemicolon 1 s _ wsX2_takeSemicolon RX2 := ⟨hx, hb, hml, hown, hts⟩
  have hl : lv_has ls 1 [(0, .ref ra)] := hl
  unfold mX2_takeSemicolon at hm
  refine lv_aload_n hx hb dX2_takeSemicolon_0 rfl (lv_at hl 0 rfl) ?_
  refine gf (q0 := 0) hx hb hts hown hK flX2_takeSemicolon_23 hP rfl rfl dX2_takeSemicolon_1 ?_
  refine lv_if_eq (tgt := 9) hx hb dX2_takeSemicolon_4 (by decide) (fun c_1 => ?_) (fun c_1 => ?_)
  · replace hm := br_p hm c_1
    refine lv_aload_n hx hb dX2_takeSemicolon_9 rfl (lv_at hl 0 rfl) ?_
    obtain ⟨kd2, bg3, pt4, vl5, h_6, hm⟩ := b4_s hm
    refine mu_vv hcf (kX2_advance h_6) (cwX2_takeSemicolon_X2_advance hts) hK hP hD hS hA Jn.rf (ci := 2) (q0 := 0) rfl rfl rfl hl.1 rfl (Nat.le_of_ble_eq_true rfl) dX2_takeSemicolon_10 ⟨Nat.zero_le _, Nat.zero_le _⟩ (fun H locs hP hD hS => ?_)
    refine lv_aload_n hx hb dX2_takeSemicolon_13 rfl (lv_at hl 0 rfl) ?_
    refine gf (q0 := 0) hx hb hts hown hK flX2_takeSemicolon_29 hP rfl rfl dX2_takeSemicolon_14 ?_
    refine lv_iconst (v := 3) hx hb dX2_takeSemicolon_17 (by decide) ?_
    refine lv_icmp_eq (tgt := 26) hx hb dX2_takeSemicolon_18 (by decide) (fun c_7 => ?_) (fun c_7 => ?_)
    · replace hm := br_p hm c_7
      exact tX2_takeSemicolon_b26 C hA hret _ _ _ _ _ hm _ _ _ hP hD hS (lv_sub hl [0] rfl)
    · replace hm := br_n hm c_7
      refine lv_aload_n hx hb dX2_takeSemicolon_21 rfl (lv_at hl 0 rfl) ?_
      refine lv_iconst (v := 1) hx hb dX2_takeSemicolon_22 (by decide) ?_
      refine pf (q0 := 0) (X' := (wR cI cB ra a b ad kd2 bg3 pt4 vl5 lt 1 us tf ho td pd sr dr ir qr sf df jf qf)) hx hb hts hown hK fpX2_takeSemicolon_23 hP hD hS rfl rfl rfl (Nat.le_of_ble_eq_true rfl) rfl dX2_takeSemicolon_23 (fun H locs hP hD hS => ?_)
      exact tX2_takeSemicolon_b26 C hA hret _ _ _ _ _ hm _ _ _ hP hD hS (lv_sub hl [0] rfl)
  · replace hm := br_n hm c_1
    refine lv_iconst (v := 0) hx hb dX2_takeSemicolon_7 (by decide) ?_
    cases hm
    exact hret _ _ _ _ dX2_takeSemicolon_8 rfl hP hD hS
/-! X2 readStep()V -/
abbrev rmX2_readStep : Room := { frames := 4, cells := 0, slots := 0, locals := 87 }
theorem hdX2_readStep : yX2_readStep.cls = RX2 ∧ yX2_readStep.cls ≠ "java/lang/invoke/MethodHandle" ∧ yX2_readStep.cls ≠ "java/lang/invoke/VarHandle" ∧ (parseMethodDescriptor yX2_readStep.desc).map (fun d => d.parameters.length) = some 0 := by decide +kernel
theorem inX2_readStep_X2 : ∀ w ∈ u_ws RX2 TX2 8, w ∈ wsX2_readStep := by decide +kernel
theorem cwX2_readStep_X0_addStep {s : State} {args : Array Value} (hts : ∀ w ∈ wsX2_readStep, w.before args s = true) : CallW rmX2_readStep s args RX2 RX0 98 yX0_addStep cX0_addStep 5 none wsX0_addStep rmX0_addStep 0 0 3 := cwV 3 hts gX2_readStep_X0_addStep rfl rfl rfl hdX0_addStep ⟨Nat.le_of_ble_eq_true rfl, Nat.le_of_ble_eq_true rfl⟩
theorem cwX2_readStep_X2_takeNumber {s : State} {args : Array Value} (hts : ∀ w ∈ wsX2_readStep, w.before args s = true) : CallW rmX2_readStep s args RX2 RX2 90 yX2_takeNumber cX2_takeNumber 3 (some .int) wsX2_takeNumber rmX2_takeNumber 0 0 2 := cwV 2 hts gX2_readStep_X2_takeNumber rfl rfl rfl hdX2_takeNumber ⟨Nat.le_of_ble_eq_true rfl, Nat.le_of_ble_eq_true rfl⟩
theorem cwX2_readStep_X2_takeSemicolon {s : State} {args : Array Value} (hts : ∀ w ∈ wsX2_readStep, w.before args s = true) : CallW rmX2_readStep s args RX2 RX2 94 yX2_takeSemicolon cX2_takeSemicolon 1 (some .boolean) wsX2_takeSemicolon rmX2_takeSemicolon 0 0 0 := cwV 0 hts gX2_readStep_X2_takeSemicolon rfl rfl rfl hdX2_takeSemicolon ⟨Nat.le_of_ble_eq_true rfl, Nat.le_of_ble_eq_true rfl⟩
theorem flX2_readStep_15 : Fl wsX2_readStep RX2 15 2 1 := ⟨_, _, _, rfl, by decide, inX2_readStep_X2, by decide +kernel⟩
set_option maxRecDepth 100000 in
set_option maxHeartbeats 4000000 in
theorem kX2_readStep {l : Launch} {D : va_G} {cI cB cL cK : ClassId} {ra : Nat} {a : Nat} {b : Nat} {ad : Nat → Nat} {kd : Int32} {bg : Int32} {pt : Int32} {vl : Int32} {lt : Int32} {ft : Int32} {us : Int32} {tf : Nat → Int32} {ho : Int32} {td : Int32} {pd : Int32} {sr : Int32} {dr : Int32} {ir : Int32} {qr : Int32} {sf : Nat → Int32} {df : Nat → Int32} {jf : Nat → Int32} {qf : Nat → Int32}  {kd' : Int32} {bg' : Int32} {pt' : Int32} {vl' : Int32} {ft' : Int32} {sr' : Int32} {sf' : Nat → Int32} (hm : mX2_readStep kd bg pt vl ft us tf sr sf = some (kd', bg', pt', vl', ft', sr', sf')) : Mu l D cI cB cL cK yX2_readStep wsX2_readStep rmX2_readStep [.ref ra] (wR cI cB ra a b ad kd bg pt vl lt ft us tf ho td pd sr dr ir qr sf df jf qf) (wR cI cB ra a b ad kd' bg' pt' vl' lt ft' us tf ho td pd sr' dr ir qr sf' df jf qf) none 0 0 := by
  refine Mu.ofv (cc := cX2_readStep) (own := RX2) (by decide) rfl rfl (Nat.le_of_ble_eq_true rfl) (fun p e s m below meth c ls Q A C _ hA hP hD hS hl hret => ?_)
  obtain ⟨hx, hb, hr, hml, hown, hts, hlk, hK⟩ := id C
  have hcf : CallFix p m c cX2_readStep 4 s _ wsX2_readStep RX2 := ⟨hx, hb, hml, hown, hts⟩
  have hl : lv_has ls 4 [(0, .ref ra)] := hl
  unfold mX2_readStep at hm
  refine lv_aload_n hx hb dX2_readStep_0 rfl (lv_at hl 0 rfl) ?_
  refine lv_iconst (v := 1) hx hb dX2_readStep_1 (by decide) ?_
  refine lv_bipush (v := 99) hx hb dX2_readStep_2 (by decide) ?_
  obtain ⟨v1, kd2, bg3, pt4, vl5, ft6, h_7, hm⟩ := b6_s hm
  refine mu_vi hcf (kX2_takeNumber h_7) (cwX2_readStep_X2_takeNumber hts) hK hP hD hS hA Jn.rf (ci := 2) (q0 := 0) rfl rfl rfl hl.1 rfl (Nat.le_of_ble_eq_true rfl) dX2_readStep_4 ⟨Nat.zero_le _, Nat.zero_le _⟩ (fun H locs hP hD hS => ?_)
  refine lv_istore_n (lv' := [(1, .int v1), (0, .ref ra)]) hx hb dX2_readStep_7 rfl hl (by decide) rfl (fun ls hl => ?_)
  refine lv_aload_n hx hb dX2_readStep_8 rfl (lv_at hl 1 rfl) ?_
  refine lv_iconst (v := 0) hx hb dX2_readStep_9 (by decide) ?_
  refine lv_bipush (v := 99) hx hb dX2_readStep_10 (by decide) ?_
  obtain ⟨v8, kd9, bg10, pt11, vl12, ft13, h_14, hm⟩ := b6_s hm
  refine mu_vi hcf (kX2_takeNumber h_14) (cwX2_readStep_X2_takeNumber hts) hK hP hD hS hA Jn.rf (ci := 2) (q0 := 0) rfl rfl rfl hl.1 rfl (Nat.le_of_ble_eq_true rfl) dX2_readStep_12 ⟨Nat.zero_le _, Nat.zero_le _⟩ (fun H locs hP hD hS => ?_)
  refine lv_istore_n (lv' := [(2, .int v8), (1, .int v1), (0, .ref ra)]) hx hb dX2_readStep_15 rfl hl (by decide) rfl (fun ls hl => ?_)
  refine lv_aload_n hx hb dX2_readStep_16 rfl (lv_at hl 2 rfl) ?_
  refine lv_iconst (v := 0) hx hb dX2_readStep_17 (by decide) ?_
  refine lv_sipush (v := 999) hx hb dX2_readStep_18 (by decide) ?_
  obtain ⟨v15, kd16, bg17, pt18, vl19, ft20, h_21, hm⟩ := b6_s hm
  refine mu_vi hcf (kX2_takeNumber h_21) (cwX2_readStep_X2_takeNumber hts) hK hP hD hS hA Jn.rf (ci := 2) (q0 := 0) rfl rfl rfl hl.1 rfl (Nat.le_of_ble_eq_true rfl) dX2_readStep_21 ⟨Nat.zero_le _, Nat.zero_le _⟩ (fun H locs hP hD hS => ?_)
  refine lv_istore_n (lv' := [(3, .int v15), (2, .int v8), (1, .int v1), (0, .ref ra)]) hx hb dX2_readStep_24 rfl hl (by decide) rfl (fun ls hl => ?_)
  refine lv_aload_n hx hb dX2_readStep_25 rfl (lv_at hl 3 rfl) ?_
  obtain ⟨v22, kd23, bg24, pt25, vl26, ft27, h_28, hm⟩ := b6_s hm
  refine mu_vi hcf (kX2_takeSemicolon h_28) (cwX2_readStep_X2_takeSemicolon hts) hK hP hD hS hA Jn.rf (ci := 2) (q0 := 0) rfl rfl rfl hl.1 rfl (Nat.le_of_ble_eq_true rfl) dX2_readStep_26 ⟨Nat.zero_le _, Nat.zero_le _⟩ (fun H locs hP hD hS => ?_)
  refine lv_if_eq (tgt := 42) hx hb dX2_readStep_29 (by decide) (fun c_29 => ?_) (fun c_29 => ?_)
  · replace hm := br_p hm c_29
    cases hm
    exact hret _ _ _ _ dX2_readStep_42 hP hD hS
  · replace hm := br_n hm c_29
    refine lv_aload_n hx hb dX2_readStep_32 rfl (lv_at hl 3 rfl) ?_
    refine gf (q0 := 0) hx hb hts hown hK flX2_readStep_15 hP rfl rfl dX2_readStep_33 ?_
    refine lv_iload_n hx hb dX2_readStep_36 rfl (lv_at hl 2 rfl) ?_
    refine lv_iload_n hx hb dX2_readStep_37 rfl (lv_at hl 1 rfl) ?_
    refine lv_iload_n hx hb dX2_readStep_38 rfl (lv_at hl 0 rfl) ?_
    obtain ⟨sr30, sf31, h_32, hm⟩ := b2_s hm
    refine mu_vv hcf (kX0_addStep h_32) (cwX2_readStep_X0_addStep hts) hK hP hD hS hA jR_b (ci := 0) (q0 := 3) rfl rfl rfl hl.1 rfl (Nat.le_of_ble_eq_true rfl) dX2_readStep_39 ⟨Nat.zero_le _, Nat.zero_le _⟩ (fun H locs hP hD hS => ?_)
    cases hm
    exact hret _ _ _ _ dX2_readStep_42 hP hD hS
/-! X2 readHold()V -/
abbrev rmX2_readHold : Room := { frames := 4, cells := 0, slots := 0, locals := 87 }
theorem hdX2_readHold : yX2_readHold.cls = RX2 ∧ yX2_readHold.cls ≠ "java/lang/invoke/MethodHandle" ∧ yX2_readHold.cls ≠ "java/lang/invoke/VarHandle" ∧ (parseMethodDescriptor yX2_readHold.desc).map (fun d => d.parameters.length) = some 0 := by decide +kernel
theorem inX2_readHold_X0 : ∀ w ∈ u_ws RX0 TX0 7, w ∈ wsX2_readHold := by decide +kernel
theorem inX2_readHold_X2 : ∀ w ∈ u_ws RX2 TX2 8, w ∈ wsX2_readHold := by decide +kernel
theorem cwX2_readHold_X2_takeNumber {s : State} {args : Array Value} (hts : ∀ w ∈ wsX2_readHold, w.before args s = true) : CallW rmX2_readHold s args RX2 RX2 90 yX2_takeNumber cX2_takeNumber 3 (some .int) wsX2_takeNumber rmX2_takeNumber 0 0 2 := cwV 2 hts gX2_readHold_X2_takeNumber rfl rfl rfl hdX2_takeNumber ⟨Nat.le_of_ble_eq_true rfl, Nat.le_of_ble_eq_true rfl⟩
theorem cwX2_readHold_X2_takeSemicolon {s : State} {args : Array Value} (hts : ∀ w ∈ wsX2_readHold, w.before args s = true) : CallW rmX2_readHold s args RX2 RX2 94 yX2_takeSemicolon cX2_takeSemicolon 1 (some .boolean) wsX2_takeSemicolon rmX2_takeSemicolon 0 0 0 := cwV 0 hts gX2_readHold_X2_takeSemicolon rfl rfl rfl hdX2_takeSemicolon ⟨Nat.le_of_ble_eq_true rfl, Nat.le_of_ble_eq_true rfl⟩
theorem flX2_readHold_15 : Fl wsX2_readHold RX2 15 2 1 := ⟨_, _, _, rfl, by decide, inX2_readHold_X2, by decide +kernel⟩
theorem fpX2_readHold_102 : FpX wsX2_readHold RX2 102 0 4 .int := ⟨_, _, _, tyX0, rfl, by decide, inX2_readHold_X0, by decide +kernel, tyX0_ok, nmX0, rfl, by decide +kernel⟩
set_option maxRecDepth 100000 in
set_option maxHeartbeats 4000000 in
theorem kX2_readHold {l : Launch} {D : va_G} {cI cB cL cK : ClassId} {ra : Nat} {a : Nat} {b : Nat} {ad : Nat → Nat} {kd : Int32} {bg : Int32} {pt : Int32} {vl : Int32} {lt : Int32} {ft : Int32} {us : Int32} {tf : Nat → Int32} {ho : Int32} {td : Int32} {pd : Int32} {sr : Int32} {dr : Int32} {ir : Int32} {qr : Int32} {sf : Nat → Int32} {df : Nat → Int32} {jf : Nat → Int32} {qf : Nat → Int32}  {kd' : Int32} {bg' : Int32} {pt' : Int32} {vl' : Int32} {ft' : Int32} {ho' : Int32} (hm : mX2_readHold kd bg pt vl ft us tf ho = some (kd', bg', pt', vl', ft', ho')) : Mu l D cI cB cL cK yX2_readHold wsX2_readHold rmX2_readHold [.ref ra] (wR cI cB ra a b ad kd bg pt vl lt ft us tf ho td pd sr dr ir qr sf df jf qf) (wR cI cB ra a b ad kd' bg' pt' vl' lt ft' us tf ho' td pd sr dr ir qr sf df jf qf) none 0 0 := by
  refine Mu.ofv (cc := cX2_readHold) (own := RX2) (by decide) rfl rfl (Nat.le_of_ble_eq_true rfl) (fun p e s m below meth c ls Q A C _ hA hP hD hS hl hret => ?_)
  obtain ⟨hx, hb, hr, hml, hown, hts, hlk, hK⟩ := id C
  have hcf : CallFix p m c cX2_readHold 2 s _ wsX2_readHold RX2 := ⟨hx, hb, hml, hown, hts⟩
  have hl : lv_has ls 2 [(0, .ref ra)] := hl
  unfold mX2_readHold at hm
  refine lv_aload_n hx hb dX2_readHold_0 rfl (lv_at hl 0 rfl) ?_
  refine lv_iconst (v := 1) hx hb dX2_readHold_1 (by decide) ?_
  refine lv_bipush (v := 9) hx hb dX2_readHold_2 (by decide) ?_
  obtain ⟨v1, kd2, bg3, pt4, vl5, ft6, h_7, hm⟩ := b6_s hm
  refine mu_vi hcf (kX2_takeNumber h_7) (cwX2_readHold_X2_takeNumber hts) hK hP hD hS hA Jn.rf (ci := 2) (q0 := 0) rfl rfl rfl hl.1 rfl (Nat.le_of_ble_eq_true rfl) dX2_readHold_4 ⟨Nat.zero_le _, Nat.zero_le _⟩ (fun H locs hP hD hS => ?_)
  refine lv_istore_n (lv' := [(1, .int v1), (0, .ref ra)]) hx hb dX2_readHold_7 rfl hl (by decide) rfl (fun ls hl => ?_)
  refine lv_aload_n hx hb dX2_readHold_8 rfl (lv_at hl 1 rfl) ?_
  obtain ⟨v8, kd9, bg10, pt11, vl12, ft13, h_14, hm⟩ := b6_s hm
  refine mu_vi hcf (kX2_takeSemicolon h_14) (cwX2_readHold_X2_takeSemicolon hts) hK hP hD hS hA Jn.rf (ci := 2) (q0 := 0) rfl rfl rfl hl.1 rfl (Nat.le_of_ble_eq_true rfl) dX2_readHold_9 ⟨Nat.zero_le _, Nat.zero_le _⟩ (fun H locs hP hD hS => ?_)
  refine lv_if_eq (tgt := 23) hx hb dX2_readHold_12 (by decide) (fun c_15 => ?_) (fun c_15 => ?_)
  · replace hm := br_p hm c_15
    cases hm
    exact hret _ _ _ _ dX2_readHold_23 hP hD hS
  · replace hm := br_n hm c_15
    refine lv_aload_n hx hb dX2_readHold_15 rfl (lv_at hl 1 rfl) ?_
    refine gf (q0 := 0) hx hb hts hown hK flX2_readHold_15 hP rfl rfl dX2_readHold_16 ?_
    refine lv_iload_n hx hb dX2_readHold_19 rfl (lv_at hl 0 rfl) ?_
    refine pfX (q0 := 3) (X' := (wR cI cB ra a b ad kd9 bg10 pt11 vl12 lt ft13 us tf v1 td pd sr dr ir qr sf df jf qf)) hx hb hts hown hK fpX2_readHold_102 hP hD hS rfl rfl rfl (Nat.le_of_ble_eq_true rfl) rfl dX2_readHold_20 (fun H locs hP hD hS => ?_)
    cases hm
    exact hret _ _ _ _ dX2_readHold_23 hP hD hS
/-! X2 readDebtor()V -/
abbrev rmX2_readDebtor : Room := { frames := 4, cells := 0, slots := 0, locals := 87 }
theorem hdX2_readDebtor : yX2_readDebtor.cls = RX2 ∧ yX2_readDebtor.cls ≠ "java/lang/invoke/MethodHandle" ∧ yX2_readDebtor.cls ≠ "java/lang/invoke/VarHandle" ∧ (parseMethodDescriptor yX2_readDebtor.desc).map (fun d => d.parameters.length) = some 0 := by decide +kernel
theorem inX2_readDebtor_X2 : ∀ w ∈ u_ws RX2 TX2 8, w ∈ wsX2_readDebtor := by decide +kernel
theorem cwX2_readDebtor_X0_addDebtor {s : State} {args : Array Value} (hts : ∀ w ∈ wsX2_readDebtor, w.before args s = true) : CallW rmX2_readDebtor s args RX2 RX0 104 yX0_addDebtor cX0_addDebtor 4 none wsX0_addDebtor rmX0_addDebtor 0 0 2 := cwV 2 hts gX2_readDebtor_X0_addDebtor rfl rfl rfl hdX0_addDebtor ⟨Nat.le_of_ble_eq_true rfl, Nat.le_of_ble_eq_true rfl⟩
theorem cwX2_readDebtor_X2_takeNumber {s : State} {args : Array Value} (hts : ∀ w ∈ wsX2_readDebtor, w.before args s = true) : CallW rmX2_readDebtor s args RX2 RX2 90 yX2_takeNumber cX2_takeNumber 3 (some .int) wsX2_takeNumber rmX2_takeNumber 0 0 2 := cwV 2 hts gX2_readDebtor_X2_takeNumber rfl rfl rfl hdX2_takeNumber ⟨Nat.le_of_ble_eq_true rfl, Nat.le_of_ble_eq_true rfl⟩
theorem cwX2_readDebtor_X2_takeSemicolon {s : State} {args : Array Value} (hts : ∀ w ∈ wsX2_readDebtor, w.before args s = true) : CallW rmX2_readDebtor s args RX2 RX2 94 yX2_takeSemicolon cX2_takeSemicolon 1 (some .boolean) wsX2_takeSemicolon rmX2_takeSemicolon 0 0 0 := cwV 0 hts gX2_readDebtor_X2_takeSemicolon rfl rfl rfl hdX2_takeSemicolon ⟨Nat.le_of_ble_eq_true rfl, Nat.le_of_ble_eq_true rfl⟩
theorem flX2_readDebtor_15 : Fl wsX2_readDebtor RX2 15 2 1 := ⟨_, _, _, rfl, by decide, inX2_readDebtor_X2, by decide +kernel⟩
set_option maxRecDepth 100000 in
set_option maxHeartbeats 4000000 in
theorem kX2_readDebtor {l : Launch} {D : va_G} {cI cB cL cK : ClassId} {ra : Nat} {a : Nat} {b : Nat} {ad : Nat → Nat} {kd : Int32} {bg : Int32} {pt : Int32} {vl : Int32} {lt : Int32} {ft : Int32} {us : Int32} {tf : Nat → Int32} {ho : Int32} {td : Int32} {pd : Int32} {sr : Int32} {dr : Int32} {ir : Int32} {qr : Int32} {sf : Nat → Int32} {df : Nat → Int32} {jf : Nat → Int32} {qf : Nat → Int32}  {kd' : Int32} {bg' : Int32} {pt' : Int32} {vl' : Int32} {ft' : Int32} {dr' : Int32} {df' : Nat → Int32} (hm : mX2_readDebtor kd bg pt vl ft us tf dr df = some (kd', bg', pt', vl', ft', dr', df')) : Mu l D cI cB cL cK yX2_readDebtor wsX2_readDebtor rmX2_readDebtor [.ref ra] (wR cI cB ra a b ad kd bg pt vl lt ft us tf ho td pd sr dr ir qr sf df jf qf) (wR cI cB ra a b ad kd' bg' pt' vl' lt ft' us tf ho td pd sr dr' ir qr sf df' jf qf) none 0 0 := by
  refine Mu.ofv (cc := cX2_readDebtor) (own := RX2) (by decide) rfl rfl (Nat.le_of_ble_eq_true rfl) (fun p e s m below meth c ls Q A C _ hA hP hD hS hl hret => ?_)
  obtain ⟨hx, hb, hr, hml, hown, hts, hlk, hK⟩ := id C
  have hcf : CallFix p m c cX2_readDebtor 3 s _ wsX2_readDebtor RX2 := ⟨hx, hb, hml, hown, hts⟩
  have hl : lv_has ls 3 [(0, .ref ra)] := hl
  unfold mX2_readDebtor at hm
  refine lv_aload_n hx hb dX2_readDebtor_0 rfl (lv_at hl 0 rfl) ?_
  refine lv_iconst (v := 0) hx hb dX2_readDebtor_1 (by decide) ?_
  refine lv_sipush (v := 9999) hx hb dX2_readDebtor_2 (by decide) ?_
  obtain ⟨v1, kd2, bg3, pt4, vl5, ft6, h_7, hm⟩ := b6_s hm
  refine mu_vi hcf (kX2_takeNumber h_7) (cwX2_readDebtor_X2_takeNumber hts) hK hP hD hS hA Jn.rf (ci := 2) (q0 := 0) rfl rfl rfl hl.1 rfl (Nat.le_of_ble_eq_true rfl) dX2_readDebtor_5 ⟨Nat.zero_le _, Nat.zero_le _⟩ (fun H locs hP hD hS => ?_)
  refine lv_istore_n (lv' := [(1, .int v1), (0, .ref ra)]) hx hb dX2_readDebtor_8 rfl hl (by decide) rfl (fun ls hl => ?_)
  refine lv_aload_n hx hb dX2_readDebtor_9 rfl (lv_at hl 1 rfl) ?_
  refine lv_iconst (v := 0) hx hb dX2_readDebtor_10 (by decide) ?_
  refine lv_bipush (v := 99) hx hb dX2_readDebtor_11 (by decide) ?_
  obtain ⟨v8, kd9, bg10, pt11, vl12, ft13, h_14, hm⟩ := b6_s hm
  refine mu_vi hcf (kX2_takeNumber h_14) (cwX2_readDebtor_X2_takeNumber hts) hK hP hD hS hA Jn.rf (ci := 2) (q0 := 0) rfl rfl rfl hl.1 rfl (Nat.le_of_ble_eq_true rfl) dX2_readDebtor_13 ⟨Nat.zero_le _, Nat.zero_le _⟩ (fun H locs hP hD hS => ?_)
  refine lv_istore_n (lv' := [(2, .int v8), (1, .int v1), (0, .ref ra)]) hx hb dX2_readDebtor_16 rfl hl (by decide) rfl (fun ls hl => ?_)
  refine lv_aload_n hx hb dX2_readDebtor_17 rfl (lv_at hl 2 rfl) ?_
  obtain ⟨v15, kd16, bg17, pt18, vl19, ft20, h_21, hm⟩ := b6_s hm
  refine mu_vi hcf (kX2_takeSemicolon h_21) (cwX2_readDebtor_X2_takeSemicolon hts) hK hP hD hS hA Jn.rf (ci := 2) (q0 := 0) rfl rfl rfl hl.1 rfl (Nat.le_of_ble_eq_true rfl) dX2_readDebtor_18 ⟨Nat.zero_le _, Nat.zero_le _⟩ (fun H locs hP hD hS => ?_)
  refine lv_if_eq (tgt := 33) hx hb dX2_readDebtor_21 (by decide) (fun c_22 => ?_) (fun c_22 => ?_)
  · replace hm := br_p hm c_22
    cases hm
    exact hret _ _ _ _ dX2_readDebtor_33 hP hD hS
  · replace hm := br_n hm c_22
    refine lv_aload_n hx hb dX2_readDebtor_24 rfl (lv_at hl 2 rfl) ?_
    refine gf (q0 := 0) hx hb hts hown hK flX2_readDebtor_15 hP rfl rfl dX2_readDebtor_25 ?_
    refine lv_iload_n hx hb dX2_readDebtor_28 rfl (lv_at hl 1 rfl) ?_
    refine lv_iload_n hx hb dX2_readDebtor_29 rfl (lv_at hl 0 rfl) ?_
    obtain ⟨dr23, df24, h_25, hm⟩ := b2_s hm
    refine mu_vv hcf (kX0_addDebtor h_25) (cwX2_readDebtor_X0_addDebtor hts) hK hP hD hS hA jR_b (ci := 0) (q0 := 3) rfl rfl rfl hl.1 rfl (Nat.le_of_ble_eq_true rfl) dX2_readDebtor_30 ⟨Nat.zero_le _, Nat.zero_le _⟩ (fun H locs hP hD hS => ?_)
    cases hm
    exact hret _ _ _ _ dX2_readDebtor_33 hP hD hS
/-! X2 readInvoice()V -/
abbrev rmX2_readInvoice : Room := { frames := 4, cells := 0, slots := 0, locals := 87 }
theorem hdX2_readInvoice : yX2_readInvoice.cls = RX2 ∧ yX2_readInvoice.cls ≠ "java/lang/invoke/MethodHandle" ∧ yX2_readInvoice.cls ≠ "java/lang/invoke/VarHandle" ∧ (parseMethodDescriptor yX2_readInvoice.desc).map (fun d => d.parameters.length) = some 0 := by decide +kernel
theorem inX2_readInvoice_X0 : ∀ w ∈ u_ws RX0 TX0 7, w ∈ wsX2_readInvoice := by decide +kernel
theorem inX2_readInvoice_X2 : ∀ w ∈ u_ws RX2 TX2 8, w ∈ wsX2_readInvoice := by decide +kernel
theorem cwX2_readInvoice_X0_addInvoice {s : State} {args : Array Value} (hts : ∀ w ∈ wsX2_readInvoice, w.before args s = true) : CallW rmX2_readInvoice s args RX2 RX0 108 yX0_addInvoice cX0_addInvoice 6 (some .int) wsX0_addInvoice rmX0_addInvoice 0 0 4 := cwV 4 hts gX2_readInvoice_X0_addInvoice rfl rfl rfl hdX0_addInvoice ⟨Nat.le_of_ble_eq_true rfl, Nat.le_of_ble_eq_true rfl⟩
theorem cwX2_readInvoice_X2_takeNumber {s : State} {args : Array Value} (hts : ∀ w ∈ wsX2_readInvoice, w.before args s = true) : CallW rmX2_readInvoice s args RX2 RX2 90 yX2_takeNumber cX2_takeNumber 3 (some .int) wsX2_takeNumber rmX2_takeNumber 0 0 2 := cwV 2 hts gX2_readInvoice_X2_takeNumber rfl rfl rfl hdX2_takeNumber ⟨Nat.le_of_ble_eq_true rfl, Nat.le_of_ble_eq_true rfl⟩
theorem cwX2_readInvoice_X2_takeSemicolon {s : State} {args : Array Value} (hts : ∀ w ∈ wsX2_readInvoice, w.before args s = true) : CallW rmX2_readInvoice s args RX2 RX2 94 yX2_takeSemicolon cX2_takeSemicolon 1 (some .boolean) wsX2_takeSemicolon rmX2_takeSemicolon 0 0 0 := cwV 0 hts gX2_readInvoice_X2_takeSemicolon rfl rfl rfl hdX2_takeSemicolon ⟨Nat.le_of_ble_eq_true rfl, Nat.le_of_ble_eq_true rfl⟩
theorem cwX2_readInvoice_X3_size {s : State} {args : Array Value} (hts : ∀ w ∈ wsX2_readInvoice, w.before args s = true) : CallW rmX2_readInvoice s args RX2 RX3 79 yX3_size cX3_size 1 (some .int) wsX3_size rmX3_size 0 0 0 := cwV 0 hts gX2_readInvoice_X3_size rfl rfl rfl hdX3_size ⟨Nat.le_of_ble_eq_true rfl, Nat.le_of_ble_eq_true rfl⟩
theorem flX2_readInvoice_15 : Fl wsX2_readInvoice RX2 15 2 1 := ⟨_, _, _, rfl, by decide, inX2_readInvoice_X2, by decide +kernel⟩
theorem flX2_readInvoice_84 : Fl wsX2_readInvoice RX2 84 0 1 := ⟨_, _, _, rfl, by decide, inX2_readInvoice_X0, by decide +kernel⟩
set_option maxRecDepth 100000 in
set_option maxHeartbeats 4000000 in
theorem kX2_readInvoice {l : Launch} {D : va_G} {cI cB cL cK : ClassId} {ra : Nat} {a : Nat} {b : Nat} {ad : Nat → Nat} {kd : Int32} {bg : Int32} {pt : Int32} {vl : Int32} {lt : Int32} {ft : Int32} {us : Int32} {tf : Nat → Int32} {ho : Int32} {td : Int32} {pd : Int32} {sr : Int32} {dr : Int32} {ir : Int32} {qr : Int32} {sf : Nat → Int32} {df : Nat → Int32} {jf : Nat → Int32} {qf : Nat → Int32}  {kd' : Int32} {bg' : Int32} {pt' : Int32} {vl' : Int32} {ft' : Int32} {ir' : Int32} {jf' : Nat → Int32} (hm : mX2_readInvoice kd bg pt vl ft us tf dr ir jf = some (kd', bg', pt', vl', ft', ir', jf')) : Mu l D cI cB cL cK yX2_readInvoice wsX2_readInvoice rmX2_readInvoice [.ref ra] (wR cI cB ra a b ad kd bg pt vl lt ft us tf ho td pd sr dr ir qr sf df jf qf) (wR cI cB ra a b ad kd' bg' pt' vl' lt ft' us tf ho td pd sr dr ir' qr sf df jf' qf) none 0 0 := by
  refine Mu.ofv (cc := cX2_readInvoice) (own := RX2) (by decide) rfl rfl (Nat.le_of_ble_eq_true rfl) (fun p e s m below meth c ls Q A C _ hA hP hD hS hl hret => ?_)
  obtain ⟨hx, hb, hr, hml, hown, hts, hlk, hK⟩ := id C
  have hcf : CallFix p m c cX2_readInvoice 4 s _ wsX2_readInvoice RX2 := ⟨hx, hb, hml, hown, hts⟩
  have hl : lv_has ls 4 [(0, .ref ra)] := hl
  unfold mX2_readInvoice at hm
  refine lv_aload_n hx hb dX2_readInvoice_0 rfl (lv_at hl 0 rfl) ?_
  refine lv_iconst (v := 0) hx hb dX2_readInvoice_1 (by decide) ?_
  refine lv_aload_n hx hb dX2_readInvoice_2 rfl (lv_at hl 0 rfl) ?_
  refine gf (q0 := 0) hx hb hts hown hK flX2_readInvoice_15 hP rfl rfl dX2_readInvoice_3 ?_
  refine gf (q0 := 3) hx hb hts hown hK flX2_readInvoice_84 hP rfl rfl dX2_readInvoice_6 ?_
  obtain ⟨v1, h_2, hm⟩ := b1_s hm
  refine rd_v hcf (kX3_size h_2) (cwX2_readInvoice_X3_size hts) hK hP sR_d (ci := 3) (q0 := 6) rfl rfl rfl hl.1 rfl (Nat.le_of_ble_eq_true rfl) dX2_readInvoice_9 ⟨Nat.zero_le _, Nat.zero_le _⟩ ?_
  refine lv_iconst (v := 1) hx hb dX2_readInvoice_12 (by decide) ?_
  refine lv_isub hx hb dX2_readInvoice_13 ?_
  obtain ⟨v3, kd4, bg5, pt6, vl7, ft8, h_9, hm⟩ := b6_s hm
  refine mu_vi hcf (kX2_takeNumber h_9) (cwX2_readInvoice_X2_takeNumber hts) hK hP hD hS hA Jn.rf (ci := 2) (q0 := 0) rfl rfl rfl hl.1 rfl (Nat.le_of_ble_eq_true rfl) dX2_readInvoice_14 ⟨Nat.zero_le _, Nat.zero_le _⟩ (fun H locs hP hD hS => ?_)
  refine lv_istore_n (lv' := [(1, .int v3), (0, .ref ra)]) hx hb dX2_readInvoice_17 rfl hl (by decide) rfl (fun ls hl => ?_)
  refine lv_aload_n hx hb dX2_readInvoice_18 rfl (lv_at hl 1 rfl) ?_
  refine lv_iconst (v := 1) hx hb dX2_readInvoice_19 (by decide) ?_
  refine lv_sipush (v := 9999) hx hb dX2_readInvoice_20 (by decide) ?_
  obtain ⟨v10, kd11, bg12, pt13, vl14, ft15, h_16, hm⟩ := b6_s hm
  refine mu_vi hcf (kX2_takeNumber h_16) (cwX2_readInvoice_X2_takeNumber hts) hK hP hD hS hA Jn.rf (ci := 2) (q0 := 0) rfl rfl rfl hl.1 rfl (Nat.le_of_ble_eq_true rfl) dX2_readInvoice_23 ⟨Nat.zero_le _, Nat.zero_le _⟩ (fun H locs hP hD hS => ?_)
  refine lv_istore_n (lv' := [(2, .int v10), (1, .int v3), (0, .ref ra)]) hx hb dX2_readInvoice_26 rfl hl (by decide) rfl (fun ls hl => ?_)
  refine lv_aload_n hx hb dX2_readInvoice_27 rfl (lv_at hl 2 rfl) ?_
  refine lv_iconst (v := 0) hx hb dX2_readInvoice_28 (by decide) ?_
  refine lv_bipush (v := 99) hx hb dX2_readInvoice_29 (by decide) ?_
  obtain ⟨v17, kd18, bg19, pt20, vl21, ft22, h_23, hm⟩ := b6_s hm
  refine mu_vi hcf (kX2_takeNumber h_23) (cwX2_readInvoice_X2_takeNumber hts) hK hP hD hS hA Jn.rf (ci := 2) (q0 := 0) rfl rfl rfl hl.1 rfl (Nat.le_of_ble_eq_true rfl) dX2_readInvoice_31 ⟨Nat.zero_le _, Nat.zero_le _⟩ (fun H locs hP hD hS => ?_)
  refine lv_istore_n (lv' := [(3, .int v17), (2, .int v10), (1, .int v3), (0, .ref ra)]) hx hb dX2_readInvoice_34 rfl hl (by decide) rfl (fun ls hl => ?_)
  refine lv_aload_n hx hb dX2_readInvoice_35 rfl (lv_at hl 3 rfl) ?_
  obtain ⟨v24, kd25, bg26, pt27, vl28, ft29, h_30, hm⟩ := b6_s hm
  refine mu_vi hcf (kX2_takeSemicolon h_30) (cwX2_readInvoice_X2_takeSemicolon hts) hK hP hD hS hA Jn.rf (ci := 2) (q0 := 0) rfl rfl rfl hl.1 rfl (Nat.le_of_ble_eq_true rfl) dX2_readInvoice_36 ⟨Nat.zero_le _, Nat.zero_le _⟩ (fun H locs hP hD hS => ?_)
  refine lv_if_eq (tgt := 54) hx hb dX2_readInvoice_39 (by decide) (fun c_31 => ?_) (fun c_31 => ?_)
  · replace hm := br_p hm c_31
    cases hm
    exact hret _ _ _ _ dX2_readInvoice_54 hP hD hS
  · replace hm := br_n hm c_31
    refine lv_aload_n hx hb dX2_readInvoice_42 rfl (lv_at hl 3 rfl) ?_
    refine gf (q0 := 0) hx hb hts hown hK flX2_readInvoice_15 hP rfl rfl dX2_readInvoice_43 ?_
    refine lv_iload_n hx hb dX2_readInvoice_46 rfl (lv_at hl 2 rfl) ?_
    refine lv_iload_n hx hb dX2_readInvoice_47 rfl (lv_at hl 1 rfl) ?_
    refine lv_iload_n hx hb dX2_readInvoice_48 rfl (lv_at hl 0 rfl) ?_
    refine lv_iconst (v := 0) hx hb dX2_readInvoice_49 (by decide) ?_
    obtain ⟨v32, ir33, jf34, h_35, hm⟩ := b3_s hm
    refine mu_vi hcf (kX0_addInvoice h_35) (cwX2_readInvoice_X0_addInvoice hts) hK hP hD hS hA jR_b (ci := 0) (q0 := 3) rfl rfl rfl hl.1 rfl (Nat.le_of_ble_eq_true rfl) dX2_readInvoice_50 ⟨Nat.zero_le _, Nat.zero_le _⟩ (fun H locs hP hD hS => ?_)
    refine lv_pop hx hb dX2_readInvoice_53 rfl ?_
    cases hm
    exact hret _ _ _ _ dX2_readInvoice_54 hP hD hS
end
