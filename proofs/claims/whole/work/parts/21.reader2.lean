section
variable {p : Program} {l : Launch} {e : Env} {s : State} {m : MethodId} {args : Array Value} {below : List Frame} {meth : Method} {c : Code} {Q : State → Prop} {A : Nat → Prop} {D : va_G} {cI cB cL cK : ClassId}
/-! X2 read()I -/
abbrev rmX2_read : Room := { frames := 7, cells := 0, slots := 0, locals := 148 }
theorem hdX2_read : yX2_read.cls = RX2 ∧ yX2_read.cls ≠ "java/lang/invoke/MethodHandle" ∧ yX2_read.cls ≠ "java/lang/invoke/VarHandle" ∧ (parseMethodDescriptor yX2_read.desc).map (fun d => d.parameters.length) = some 0 := by decide +kernel
theorem inX2_read_X2 : ∀ w ∈ u_ws RX2 TX2 8, w ∈ wsX2_read := by decide +kernel
theorem cwX2_read_X2_advance {s : State} {args : Array Value} (hts : ∀ w ∈ wsX2_read, w.before args s = true) : CallW rmX2_read s args RX2 RX2 26 yX2_advance cX2_advance 2 none wsX2_advance rmX2_advance 0 0 0 := cwV 0 hts gX2_read_X2_advance rfl rfl rfl hdX2_advance ⟨Nat.le_of_ble_eq_true rfl, Nat.le_of_ble_eq_true rfl⟩
theorem cwX2_read_X2_readDebtor {s : State} {args : Array Value} (hts : ∀ w ∈ wsX2_read, w.before args s = true) : CallW rmX2_read s args RX2 RX2 41 yX2_readDebtor cX2_readDebtor 3 none wsX2_readDebtor rmX2_readDebtor 0 0 0 := cwV 0 hts gX2_read_X2_readDebtor rfl rfl rfl hdX2_readDebtor ⟨Nat.le_of_ble_eq_true rfl, Nat.le_of_ble_eq_true rfl⟩
theorem cwX2_read_X2_readHold {s : State} {args : Array Value} (hts : ∀ w ∈ wsX2_read, w.before args s = true) : CallW rmX2_read s args RX2 RX2 38 yX2_readHold cX2_readHold 2 none wsX2_readHold rmX2_readHold 0 0 0 := cwV 0 hts gX2_read_X2_readHold rfl rfl rfl hdX2_readHold ⟨Nat.le_of_ble_eq_true rfl, Nat.le_of_ble_eq_true rfl⟩
theorem cwX2_read_X2_readInvoice {s : State} {args : Array Value} (hts : ∀ w ∈ wsX2_read, w.before args s = true) : CallW rmX2_read s args RX2 RX2 44 yX2_readInvoice cX2_readInvoice 4 none wsX2_readInvoice rmX2_readInvoice 0 0 0 := cwV 0 hts gX2_read_X2_readInvoice rfl rfl rfl hdX2_readInvoice ⟨Nat.le_of_ble_eq_true rfl, Nat.le_of_ble_eq_true rfl⟩
theorem cwX2_read_X2_readStep {s : State} {args : Array Value} (hts : ∀ w ∈ wsX2_read, w.before args s = true) : CallW rmX2_read s args RX2 RX2 35 yX2_readStep cX2_readStep 4 none wsX2_readStep rmX2_readStep 0 0 0 := cwV 0 hts gX2_read_X2_readStep rfl rfl rfl hdX2_readStep ⟨Nat.le_of_ble_eq_true rfl, Nat.le_of_ble_eq_true rfl⟩
theorem cwX2_read_X2_takeSort {s : State} {args : Array Value} (hts : ∀ w ∈ wsX2_read, w.before args s = true) : CallW rmX2_read s args RX2 RX2 32 yX2_takeSort cX2_takeSort 2 none wsX2_takeSort rmX2_takeSort 0 0 0 := cwV 0 hts gX2_read_X2_takeSort rfl rfl rfl hdX2_takeSort ⟨Nat.le_of_ble_eq_true rfl, Nat.le_of_ble_eq_true rfl⟩
theorem flX2_read_19 : Fl wsX2_read RX2 19 2 6 := ⟨_, _, _, rfl, by decide, inX2_read_X2, by decide +kernel⟩
theorem flX2_read_23 : Fl wsX2_read RX2 23 2 7 := ⟨_, _, _, rfl, by decide, inX2_read_X2, by decide +kernel⟩
theorem flX2_read_29 : Fl wsX2_read RX2 29 2 2 := ⟨_, _, _, rfl, by decide, inX2_read_X2, by decide +kernel⟩
theorem flX2_read_47 : Fl wsX2_read RX2 47 2 3 := ⟨_, _, _, rfl, by decide, inX2_read_X2, by decide +kernel⟩
theorem fpX2_read_23 : Fp wsX2_read RX2 23 2 7 false .int := ⟨_, _, _, tyX2, rfl, by decide, inX2_read_X2, by decide +kernel, tyX2_ok, nmX2, rfl, rfl, by decide +kernel⟩
set_option maxRecDepth 100000 in
set_option maxHeartbeats 4000000 in
theorem tX2_read_b108 {ra : Nat} {a : Nat} {b : Nat} {ad : Nat → Nat} {sq sv : Nat → Nat} {us : Int32} {tf : Nat → Int32} {td : Int32} {pd : Int32} {qr : Int32} {qf : Nat → Int32} {res : Int32} {kd' : Int32} {bg' : Int32} {pt' : Int32} {vl' : Int32} {lt' : Int32} {ft' : Int32} {ho' : Int32} {sr' : Int32} {dr' : Int32} {ir' : Int32} {sf' : Nat → Int32} {df' : Nat → Int32} {jf' : Nat → Int32} {rec2 : Int32 → Int32 → Int32 → Int32 → Int32 → Int32 → Int32 → Int32 → Int32 → Int32 → Int32 → (Nat → Int32) → (Nat → Int32) → (Nat → Int32) → Option (Int32 × Int32 × Int32 × Int32 × Int32 × Int32 × Int32 × Int32 × Int32 × Int32 × Int32 × (Nat → Int32) × (Nat → Int32) × (Nat → Int32))} (C : Cx p s m args meth c cX2_read (some .int) 2 wsX2_read RX2 D cI cB cL cK) (hZ : ZR sq sv A s s.heap) (hA : ∀ q : Nat, s.heap.size ≤ q → A q) (hret : ∀ (pc : Nat) (ls : Array Slot) (H : Heap) (locs : List Loc), decode cX2_read pc = .ok (.ireturn, 1) → narrow .int (.int res) = .int res → va_P D vwCl (wR cI cB ra a b ad kd' bg' pt' vl' lt' ft' us tf ho' td pd sr' dr' ir' qr sf' df' jf' qf) H → va_D A (wR cI cB ra a b ad kd' bg' pt' vl' lt' ft' us tf ho' td pd sr' dr' ir' qr sf' df' jf' qf) → va_S A s.heap H locs → W p l e rmX2_read s m args below meth c H locs 0 0 Q (F0 m pc ls [.int res])) (hrec2 : ∀ (x1 : Int32) (kd : Int32) (bg : Int32) (pt : Int32) (vl : Int32) (lt : Int32) (ft : Int32) (ho : Int32) (sr : Int32) (dr : Int32) (ir : Int32) (sf : Nat → Int32) (df : Nat → Int32) (jf : Nat → Int32), rec2 x1 kd bg pt vl lt ft ho sr dr ir sf df jf = some (res, kd', bg', pt', vl', lt', ft', ho', sr', dr', ir', sf', df', jf') → ∀ (H : Heap) (locs : List Loc) (ls : Array Slot), va_P D vwCl (wR cI cB ra a b ad kd bg pt vl lt ft us tf ho td pd sr dr ir qr sf df jf qf) H → va_D A (wR cI cB ra a b ad kd bg pt vl lt ft us tf ho td pd sr dr ir qr sf df jf qf) → va_S A s.heap H locs → lv_has ls 2 [(0, .ref ra), (1, .int x1)] → W p l e rmX2_read s m args below meth c H locs 0 0 Q (F0 m 2 ls [])) : ∀ (x1 : Int32) (kd : Int32) (bg : Int32) (pt : Int32) (vl : Int32) (lt : Int32) (ft : Int32) (ho : Int32) (sr : Int32) (dr : Int32) (ir : Int32) (sf : Nat → Int32) (df : Nat → Int32) (jf : Nat → Int32), mX2_read_b108 rec2 us tf x1 kd bg pt vl lt ft ho sr dr ir sf df jf = some (res, kd', bg', pt', vl', lt', ft', ho', sr', dr', ir', sf', df', jf') → ∀ (H : Heap) (locs : List Loc) (ls : Array Slot), va_P D vwCl (wR cI cB ra a b ad kd bg pt vl lt ft us tf ho td pd sr dr ir qr sf df jf qf) H → va_D A (wR cI cB ra a b ad kd bg pt vl lt ft us tf ho td pd sr dr ir qr sf df jf qf) → va_S A s.heap H locs → lv_has ls 2 [(0, .ref ra), (1, .int x1)] → W p l e rmX2_read s m args below meth c H locs 0 0 Q (F0 m 108 ls []) := by
  obtain ⟨hx, hb, hr, hml, hown, hts, hlk, hK⟩ := id C
  have hcf : CallFix p m c cX2_read 2 s args wsX2_read RX2 := ⟨hx, hb, hml, hown, hts⟩
  intro x1 kd bg pt vl lt ft ho sr dr ir sf df jf hm H locs ls hP hD hS hl
  unfold mX2_read_b108 at hm
  refine lv_aload_n hx hb dX2_read_108 rfl (lv_at hl 0 rfl) ?_
  refine gf (q0 := 0) hx hb hts hown hK flX2_read_23 hP rfl rfl dX2_read_109 ?_
  refine lv_if_eq (tgt := 122) hx hb dX2_read_112 (by decide) (fun c_48 => ?_) (fun c_48 => ?_)
  · replace hm := br_p hm c_48
    refine lv_iinc (v := (x1 + 1)) (lv' := [(1, .int (x1 + 1)), (0, .ref ra)]) hx hb dX2_read_122 hl (k := 1) rfl rfl (by decide) rfl (fun ls hl => ?_)
    refine lv_goto (tgt := 2) hx hb dX2_read_125 (by decide) ?_
    exact hrec2 _ _ _ _ _ _ _ _ _ _ _ _ _ _ hm _ _ _ hP hD hS (lv_sub hl [1, 0] rfl)
  · replace hm := br_n hm c_48
    refine lv_iconst (v := (-1)) hx hb dX2_read_115 (by decide) ?_
    refine lv_aload_n hx hb dX2_read_116 rfl (lv_at hl 0 rfl) ?_
    refine gf (q0 := 0) hx hb hts hown hK flX2_read_47 hP rfl rfl dX2_read_117 ?_
    refine lv_isub hx hb dX2_read_120 ?_
    obtain ⟨rfl, rfl, rfl, rfl, rfl, rfl, rfl, rfl, rfl, rfl, rfl, rfl, rfl, rfl⟩ := pr14 hm
    exact hret _ _ _ _ dX2_read_121 rfl hP hD hS
set_option maxRecDepth 100000 in
set_option maxHeartbeats 4000000 in
theorem tX2_read_b49 {ra : Nat} {a : Nat} {b : Nat} {ad : Nat → Nat} {sq sv : Nat → Nat} {us : Int32} {tf : Nat → Int32} {td : Int32} {pd : Int32} {qr : Int32} {qf : Nat → Int32} {res : Int32} {kd' : Int32} {bg' : Int32} {pt' : Int32} {vl' : Int32} {lt' : Int32} {ft' : Int32} {ho' : Int32} {sr' : Int32} {dr' : Int32} {ir' : Int32} {sf' : Nat → Int32} {df' : Nat → Int32} {jf' : Nat → Int32} {rec2 : Int32 → Int32 → Int32 → Int32 → Int32 → Int32 → Int32 → Int32 → Int32 → Int32 → Int32 → (Nat → Int32) → (Nat → Int32) → (Nat → Int32) → Option (Int32 × Int32 × Int32 × Int32 × Int32 × Int32 × Int32 × Int32 × Int32 × Int32 × Int32 × (Nat → Int32) × (Nat → Int32) × (Nat → Int32))} (C : Cx p s m args meth c cX2_read (some .int) 2 wsX2_read RX2 D cI cB cL cK) (hZ : ZR sq sv A s s.heap) (hA : ∀ q : Nat, s.heap.size ≤ q → A q) (hret : ∀ (pc : Nat) (ls : Array Slot) (H : Heap) (locs : List Loc), decode cX2_read pc = .ok (.ireturn, 1) → narrow .int (.int res) = .int res → va_P D vwCl (wR cI cB ra a b ad kd' bg' pt' vl' lt' ft' us tf ho' td pd sr' dr' ir' qr sf' df' jf' qf) H → va_D A (wR cI cB ra a b ad kd' bg' pt' vl' lt' ft' us tf ho' td pd sr' dr' ir' qr sf' df' jf' qf) → va_S A s.heap H locs → W p l e rmX2_read s m args below meth c H locs 0 0 Q (F0 m pc ls [.int res])) (hrec2 : ∀ (x1 : Int32) (kd : Int32) (bg : Int32) (pt : Int32) (vl : Int32) (lt : Int32) (ft : Int32) (ho : Int32) (sr : Int32) (dr : Int32) (ir : Int32) (sf : Nat → Int32) (df : Nat → Int32) (jf : Nat → Int32), rec2 x1 kd bg pt vl lt ft ho sr dr ir sf df jf = some (res, kd', bg', pt', vl', lt', ft', ho', sr', dr', ir', sf', df', jf') → ∀ (H : Heap) (locs : List Loc) (ls : Array Slot), va_P D vwCl (wR cI cB ra a b ad kd bg pt vl lt ft us tf ho td pd sr dr ir qr sf df jf qf) H → va_D A (wR cI cB ra a b ad kd bg pt vl lt ft us tf ho td pd sr dr ir qr sf df jf qf) → va_S A s.heap H locs → lv_has ls 2 [(0, .ref ra), (1, .int x1)] → W p l e rmX2_read s m args below meth c H locs 0 0 Q (F0 m 2 ls [])) : ∀ (x1 : Int32) (k0 : Int32) (kd : Int32) (bg : Int32) (pt : Int32) (vl : Int32) (lt : Int32) (ft : Int32) (ho : Int32) (sr : Int32) (dr : Int32) (ir : Int32) (sf : Nat → Int32) (df : Nat → Int32) (jf : Nat → Int32), mX2_read_b49 rec2 us tf x1 k0 kd bg pt vl lt ft ho sr dr ir sf df jf = some (res, kd', bg', pt', vl', lt', ft', ho', sr', dr', ir', sf', df', jf') → ∀ (H : Heap) (locs : List Loc) (ls : Array Slot), va_P D vwCl (wR cI cB ra a b ad kd bg pt vl lt ft us tf ho td pd sr dr ir qr sf df jf qf) H → va_D A (wR cI cB ra a b ad kd bg pt vl lt ft us tf ho td pd sr dr ir qr sf df jf qf) → va_S A s.heap H locs → lv_has ls 2 [(0, .ref ra), (1, .int x1)] → W p l e rmX2_read s m args below meth c H locs 0 0 Q (F0 m 49 ls [.int k0]) := by
  obtain ⟨hx, hb, hr, hml, hown, hts, hlk, hK⟩ := id C
  have hcf : CallFix p m c cX2_read 2 s args wsX2_read RX2 := ⟨hx, hb, hml, hown, hts⟩
  intro x1 k0 kd bg pt vl lt ft ho sr dr ir sf df jf hm H locs ls hP hD hS hl
  unfold mX2_read_b49 at hm
  by_cases c_13 : k0 = 0
  · replace hm := br_p hm c_13
    refine lv_tableIn (tgt := 80) hx hb dX2_read_49 (by rw [c_13]; decide) (by rw [c_13]; decide) (by rw [c_13]; rfl) (by decide) ?_
    refine lv_aload_n hx hb dX2_read_80 rfl (lv_at hl 0 rfl) ?_
    obtain ⟨kd14, bg15, pt16, vl17, ft18, sr19, sf20, h_21, hm⟩ := b7_s hm
    refine mu_vv hcf (kX2_readStep h_21) (cwX2_read_X2_readStep hts) hK hP hD hS hA Jn.rf (ci := 2) (q0 := 0) rfl rfl rfl hl.1 rfl (Nat.le_of_ble_eq_true rfl) dX2_read_81 ⟨Nat.zero_le _, Nat.zero_le _⟩ (fun H locs hP hD hS => ?_)
    refine lv_goto (tgt := 108) hx hb dX2_read_84 (by decide) ?_
    exact tX2_read_b108 C hZ hA hret hrec2 _ _ _ _ _ _ _ _ _ _ _ _ _ _ hm _ _ _ hP hD hS (lv_sub hl [0, 1] rfl)
  · replace hm := br_n hm c_13
    by_cases c_22 : k0 = 1
    · replace hm := br_p hm c_22
      refine lv_tableIn (tgt := 87) hx hb dX2_read_49 (by rw [c_22]; decide) (by rw [c_22]; decide) (by rw [c_22]; rfl) (by decide) ?_
      refine lv_aload_n hx hb dX2_read_87 rfl (lv_at hl 0 rfl) ?_
      obtain ⟨kd23, bg24, pt25, vl26, ft27, ho28, h_29, hm⟩ := b6_s hm
      refine mu_vv hcf (kX2_readHold h_29) (cwX2_read_X2_readHold hts) hK hP hD hS hA Jn.rf (ci := 2) (q0 := 0) rfl rfl rfl hl.1 rfl (Nat.le_of_ble_eq_true rfl) dX2_read_88 ⟨Nat.zero_le _, Nat.zero_le _⟩ (fun H locs hP hD hS => ?_)
      refine lv_goto (tgt := 108) hx hb dX2_read_91 (by decide) ?_
      exact tX2_read_b108 C hZ hA hret hrec2 _ _ _ _ _ _ _ _ _ _ _ _ _ _ hm _ _ _ hP hD hS (lv_sub hl [0, 1] rfl)
    · replace hm := br_n hm c_22
      by_cases c_30 : k0 = 2
      · replace hm := br_p hm c_30
        refine lv_tableIn (tgt := 94) hx hb dX2_read_49 (by rw [c_30]; decide) (by rw [c_30]; decide) (by rw [c_30]; rfl) (by decide) ?_
        refine lv_aload_n hx hb dX2_read_94 rfl (lv_at hl 0 rfl) ?_
        obtain ⟨kd31, bg32, pt33, vl34, ft35, dr36, df37, h_38, hm⟩ := b7_s hm
        refine mu_vv hcf (kX2_readDebtor h_38) (cwX2_read_X2_readDebtor hts) hK hP hD hS hA Jn.rf (ci := 2) (q0 := 0) rfl rfl rfl hl.1 rfl (Nat.le_of_ble_eq_true rfl) dX2_read_95 ⟨Nat.zero_le _, Nat.zero_le _⟩ (fun H locs hP hD hS => ?_)
        refine lv_goto (tgt := 108) hx hb dX2_read_98 (by decide) ?_
        exact tX2_read_b108 C hZ hA hret hrec2 _ _ _ _ _ _ _ _ _ _ _ _ _ _ hm _ _ _ hP hD hS (lv_sub hl [0, 1] rfl)
      · replace hm := br_n hm c_30
        by_cases c_39 : k0 = 3
        · replace hm := br_p hm c_39
          refine lv_tableIn (tgt := 101) hx hb dX2_read_49 (by rw [c_39]; decide) (by rw [c_39]; decide) (by rw [c_39]; rfl) (by decide) ?_
          refine lv_aload_n hx hb dX2_read_101 rfl (lv_at hl 0 rfl) ?_
          obtain ⟨kd40, bg41, pt42, vl43, ft44, ir45, jf46, h_47, hm⟩ := b7_s hm
          refine mu_vv hcf (kX2_readInvoice h_47) (cwX2_read_X2_readInvoice hts) hK hP hD hS hA Jn.rf (ci := 2) (q0 := 0) rfl rfl rfl hl.1 rfl (Nat.le_of_ble_eq_true rfl) dX2_read_102 ⟨Nat.zero_le _, Nat.zero_le _⟩ (fun H locs hP hD hS => ?_)
          refine lv_goto (tgt := 108) hx hb dX2_read_105 (by decide) ?_
          exact tX2_read_b108 C hZ hA hret hrec2 _ _ _ _ _ _ _ _ _ _ _ _ _ _ hm _ _ _ hP hD hS (lv_sub hl [0, 1] rfl)
        · replace hm := br_n hm c_39
          refine lv_tableOut (tgt := 108) hx hb dX2_read_49 (by have q0 := ne_ti (z := 0) (by decide) c_13; have q1 := ne_ti (z := 1) (by decide) c_22; have q2 := ne_ti (z := 2) (by decide) c_30; have q3 := ne_ti (z := 3) (by decide) c_39; omega) (by decide) ?_
          exact tX2_read_b108 C hZ hA hret hrec2 _ _ _ _ _ _ _ _ _ _ _ _ _ _ hm _ _ _ hP hD hS (lv_sub hl [0, 1] rfl)
set_option maxRecDepth 100000 in
set_option maxHeartbeats 4000000 in
theorem tX2_read_b30 {ra : Nat} {a : Nat} {b : Nat} {ad : Nat → Nat} {sq sv : Nat → Nat} {us : Int32} {tf : Nat → Int32} {td : Int32} {pd : Int32} {qr : Int32} {qf : Nat → Int32} {res : Int32} {kd' : Int32} {bg' : Int32} {pt' : Int32} {vl' : Int32} {lt' : Int32} {ft' : Int32} {ho' : Int32} {sr' : Int32} {dr' : Int32} {ir' : Int32} {sf' : Nat → Int32} {df' : Nat → Int32} {jf' : Nat → Int32} {rec2 : Int32 → Int32 → Int32 → Int32 → Int32 → Int32 → Int32 → Int32 → Int32 → Int32 → Int32 → (Nat → Int32) → (Nat → Int32) → (Nat → Int32) → Option (Int32 × Int32 × Int32 × Int32 × Int32 × Int32 × Int32 × Int32 × Int32 × Int32 × Int32 × (Nat → Int32) × (Nat → Int32) × (Nat → Int32))} (C : Cx p s m args meth c cX2_read (some .int) 2 wsX2_read RX2 D cI cB cL cK) (hZ : ZR sq sv A s s.heap) (hA : ∀ q : Nat, s.heap.size ≤ q → A q) (hret : ∀ (pc : Nat) (ls : Array Slot) (H : Heap) (locs : List Loc), decode cX2_read pc = .ok (.ireturn, 1) → narrow .int (.int res) = .int res → va_P D vwCl (wR cI cB ra a b ad kd' bg' pt' vl' lt' ft' us tf ho' td pd sr' dr' ir' qr sf' df' jf' qf) H → va_D A (wR cI cB ra a b ad kd' bg' pt' vl' lt' ft' us tf ho' td pd sr' dr' ir' qr sf' df' jf' qf) → va_S A s.heap H locs → W p l e rmX2_read s m args below meth c H locs 0 0 Q (F0 m pc ls [.int res])) (hrec2 : ∀ (x1 : Int32) (kd : Int32) (bg : Int32) (pt : Int32) (vl : Int32) (lt : Int32) (ft : Int32) (ho : Int32) (sr : Int32) (dr : Int32) (ir : Int32) (sf : Nat → Int32) (df : Nat → Int32) (jf : Nat → Int32), rec2 x1 kd bg pt vl lt ft ho sr dr ir sf df jf = some (res, kd', bg', pt', vl', lt', ft', ho', sr', dr', ir', sf', df', jf') → ∀ (H : Heap) (locs : List Loc) (ls : Array Slot), va_P D vwCl (wR cI cB ra a b ad kd bg pt vl lt ft us tf ho td pd sr dr ir qr sf df jf qf) H → va_D A (wR cI cB ra a b ad kd bg pt vl lt ft us tf ho td pd sr dr ir qr sf df jf qf) → va_S A s.heap H locs → lv_has ls 2 [(0, .ref ra), (1, .int x1)] → W p l e rmX2_read s m args below meth c H locs 0 0 Q (F0 m 2 ls [])) : ∀ (x1 : Int32) (kd : Int32) (bg : Int32) (pt : Int32) (vl : Int32) (lt : Int32) (ft : Int32) (ho : Int32) (sr : Int32) (dr : Int32) (ir : Int32) (sf : Nat → Int32) (df : Nat → Int32) (jf : Nat → Int32), mX2_read_b30 rec2 us tf x1 kd bg pt vl lt ft ho sr dr ir sf df jf = some (res, kd', bg', pt', vl', lt', ft', ho', sr', dr', ir', sf', df', jf') → ∀ (H : Heap) (locs : List Loc) (ls : Array Slot), va_P D vwCl (wR cI cB ra a b ad kd bg pt vl lt ft us tf ho td pd sr dr ir qr sf df jf qf) H → va_D A (wR cI cB ra a b ad kd bg pt vl lt ft us tf ho td pd sr dr ir qr sf df jf qf) → va_S A s.heap H locs → lv_has ls 2 [(0, .ref ra), (1, .int x1)] → W p l e rmX2_read s m args below meth c H locs 0 0 Q (F0 m 30 ls []) := by
  obtain ⟨hx, hb, hr, hml, hown, hts, hlk, hK⟩ := id C
  have hcf : CallFix p m c cX2_read 2 s args wsX2_read RX2 := ⟨hx, hb, hml, hown, hts⟩
  intro x1 kd bg pt vl lt ft ho sr dr ir sf df jf hm H locs ls hP hD hS hl
  unfold mX2_read_b30 at hm
  refine lv_aload_n hx hb dX2_read_30 rfl (lv_at hl 0 rfl) ?_
  obtain ⟨lt9, ft10, h_11, hm⟩ := b2_s hm
  refine muz_vv hcf (kX2_takeSort h_11) (cwX2_read_X2_takeSort hts) hK hZ hP hD hS hA Jn.rf (ci := 2) (q0 := 0) rfl rfl rfl hl.1 rfl (Nat.le_of_ble_eq_true rfl) dX2_read_31 ⟨Nat.zero_le _, Nat.zero_le _⟩ (fun H locs hP hD hS => ?_)
  refine lv_aload_n hx hb dX2_read_34 rfl (lv_at hl 0 rfl) ?_
  refine gf (q0 := 0) hx hb hts hown hK flX2_read_23 hP rfl rfl dX2_read_35 ?_
  refine lv_if_ne (tgt := 48) hx hb dX2_read_38 (by decide) (fun c_12 => ?_) (fun c_12 => ?_)
  · replace hm := br_n hm c_12
    refine lv_iconst (v := (-1)) hx hb dX2_read_48 (by decide) ?_
    exact tX2_read_b49 C hZ hA hret hrec2 _ _ _ _ _ _ _ _ _ _ _ _ _ _ _ hm _ _ _ hP hD hS (lv_sub hl [0, 1] rfl)
  · replace hm := br_p hm c_12
    refine lv_aload_n hx hb dX2_read_41 rfl (lv_at hl 0 rfl) ?_
    refine gf (q0 := 0) hx hb hts hown hK flX2_read_19 hP rfl rfl dX2_read_42 ?_
    refine lv_goto (tgt := 49) hx hb dX2_read_45 (by decide) ?_
    exact tX2_read_b49 C hZ hA hret hrec2 _ _ _ _ _ _ _ _ _ _ _ _ _ _ _ hm _ _ _ hP hD hS (lv_sub hl [0, 1] rfl)
set_option maxRecDepth 100000 in
set_option maxHeartbeats 4000000 in
theorem tX2_read_L2 {ra : Nat} {a : Nat} {b : Nat} {ad : Nat → Nat} {sq sv : Nat → Nat} {us : Int32} {tf : Nat → Int32} {td : Int32} {pd : Int32} {qr : Int32} {qf : Nat → Int32} {res : Int32} {kd' : Int32} {bg' : Int32} {pt' : Int32} {vl' : Int32} {lt' : Int32} {ft' : Int32} {ho' : Int32} {sr' : Int32} {dr' : Int32} {ir' : Int32} {sf' : Nat → Int32} {df' : Nat → Int32} {jf' : Nat → Int32} (C : Cx p s m args meth c cX2_read (some .int) 2 wsX2_read RX2 D cI cB cL cK) (hZ : ZR sq sv A s s.heap) (hA : ∀ q : Nat, s.heap.size ≤ q → A q) (hret : ∀ (pc : Nat) (ls : Array Slot) (H : Heap) (locs : List Loc), decode cX2_read pc = .ok (.ireturn, 1) → narrow .int (.int res) = .int res → va_P D vwCl (wR cI cB ra a b ad kd' bg' pt' vl' lt' ft' us tf ho' td pd sr' dr' ir' qr sf' df' jf' qf) H → va_D A (wR cI cB ra a b ad kd' bg' pt' vl' lt' ft' us tf ho' td pd sr' dr' ir' qr sf' df' jf' qf) → va_S A s.heap H locs → W p l e rmX2_read s m args below meth c H locs 0 0 Q (F0 m pc ls [.int res])) : ∀ (n9 : Nat) (x1 : Int32) (kd : Int32) (bg : Int32) (pt : Int32) (vl : Int32) (lt : Int32) (ft : Int32) (ho : Int32) (sr : Int32) (dr : Int32) (ir : Int32) (sf : Nat → Int32) (df : Nat → Int32) (jf : Nat → Int32), mX2_read_L2 n9 us tf x1 kd bg pt vl lt ft ho sr dr ir sf df jf = some (res, kd', bg', pt', vl', lt', ft', ho', sr', dr', ir', sf', df', jf') → ∀ (H : Heap) (locs : List Loc) (ls : Array Slot), va_P D vwCl (wR cI cB ra a b ad kd bg pt vl lt ft us tf ho td pd sr dr ir qr sf df jf qf) H → va_D A (wR cI cB ra a b ad kd bg pt vl lt ft us tf ho td pd sr dr ir qr sf df jf qf) → va_S A s.heap H locs → lv_has ls 2 [(0, .ref ra), (1, .int x1)] → W p l e rmX2_read s m args below meth c H locs 0 0 Q (F0 m 2 ls []) := by
  obtain ⟨hx, hb, hr, hml, hown, hts, hlk, hK⟩ := id C
  have hcf : CallFix p m c cX2_read 2 s args wsX2_read RX2 := ⟨hx, hb, hml, hown, hts⟩
  intro n9
  induction n9 with
  | zero => intro x1 kd bg pt vl lt ft ho sr dr ir sf df jf hm; cases hm
  | succ k ih =>
    intro x1 kd bg pt vl lt ft ho sr dr ir sf df jf hm H locs ls hP hD hS hl
    rw [mX2_read_L2.eq_2] at hm
    refine lv_iload_n hx hb dX2_read_2 rfl (lv_at hl 1 rfl) ?_
    refine lv_bipush (v := 25) hx hb dX2_read_3 (by decide) ?_
    refine lv_icmp_gt (tgt := 128) hx hb dX2_read_5 (by decide) (fun c_1 => ?_) (fun c_1 => ?_)
    · replace hm := br_p hm c_1
      refine lv_aload_n hx hb dX2_read_128 rfl (lv_at hl 0 rfl) ?_
      refine lv_iconst (v := 3) hx hb dX2_read_129 (by decide) ?_
      refine pf (q0 := 0) (X' := (wR cI cB ra a b ad kd bg pt vl lt 3 us tf ho td pd sr dr ir qr sf df jf qf)) hx hb hts hown hK fpX2_read_23 hP hD hS rfl rfl rfl (Nat.le_of_ble_eq_true rfl) rfl dX2_read_130 (fun H locs hP hD hS => ?_)
      refine lv_iconst (v := (-1)) hx hb dX2_read_133 (by decide) ?_
      refine lv_aload_n hx hb dX2_read_134 rfl (lv_at hl 0 rfl) ?_
      refine gf (q0 := 0) hx hb hts hown hK flX2_read_47 hP rfl rfl dX2_read_135 ?_
      refine lv_isub hx hb dX2_read_138 ?_
      obtain ⟨rfl, rfl, rfl, rfl, rfl, rfl, rfl, rfl, rfl, rfl, rfl, rfl, rfl, rfl⟩ := pr14 hm
      exact hret _ _ _ _ dX2_read_139 rfl hP hD hS
    · replace hm := br_n hm c_1
      refine lv_aload_n hx hb dX2_read_8 rfl (lv_at hl 0 rfl) ?_
      obtain ⟨kd2, bg3, pt4, vl5, h_6, hm⟩ := b4_s hm
      refine mu_vv hcf (kX2_advance h_6) (cwX2_read_X2_advance hts) hK hP hD hS hA Jn.rf (ci := 2) (q0 := 0) rfl rfl rfl hl.1 rfl (Nat.le_of_ble_eq_true rfl) dX2_read_9 ⟨Nat.zero_le _, Nat.zero_le _⟩ (fun H locs hP hD hS => ?_)
      refine lv_aload_n hx hb dX2_read_12 rfl (lv_at hl 0 rfl) ?_
      refine gf (q0 := 0) hx hb hts hown hK flX2_read_29 hP rfl rfl dX2_read_13 ?_
      refine lv_iconst (v := 4) hx hb dX2_read_16 (by decide) ?_
      refine lv_icmp_ne (tgt := 30) hx hb dX2_read_17 (by decide) (fun c_7 => ?_) (fun c_7 => ?_)
      · replace hm := br_n hm c_7
        exact tX2_read_b30 C hZ hA hret ih _ _ _ _ _ _ _ _ _ _ _ _ _ _ hm _ _ _ hP hD hS (lv_sub hl [0, 1] rfl)
      · replace hm := br_p hm c_7
        refine lv_aload_n hx hb dX2_read_20 rfl (lv_at hl 0 rfl) ?_
        refine gf (q0 := 0) hx hb hts hown hK flX2_read_19 hP rfl rfl dX2_read_21 ?_
        refine lv_iconst (v := 1) hx hb dX2_read_24 (by decide) ?_
        refine lv_icmp_lt (tgt := 30) hx hb dX2_read_25 (by decide) (fun c_8 => ?_) (fun c_8 => ?_)
        · replace hm := br_p hm c_8
          exact tX2_read_b30 C hZ hA hret ih _ _ _ _ _ _ _ _ _ _ _ _ _ _ hm _ _ _ hP hD hS (lv_sub hl [0, 1] rfl)
        · replace hm := br_n hm c_8
          refine lv_iload_n hx hb dX2_read_28 rfl (lv_at hl 1 rfl) ?_
          obtain ⟨rfl, rfl, rfl, rfl, rfl, rfl, rfl, rfl, rfl, rfl, rfl, rfl, rfl, rfl⟩ := pr14 hm
          exact hret _ _ _ _ dX2_read_29 rfl hP hD hS
set_option maxRecDepth 100000 in
set_option maxHeartbeats 4000000 in
theorem kX2_read {l : Launch} {D : va_G} {cI cB cL cK : ClassId} {ra : Nat} {a : Nat} {b : Nat} {ad : Nat → Nat} {sq sv : Nat → Nat} {kd : Int32} {bg : Int32} {pt : Int32} {vl : Int32} {lt : Int32} {ft : Int32} {us : Int32} {tf : Nat → Int32} {ho : Int32} {td : Int32} {pd : Int32} {sr : Int32} {dr : Int32} {ir : Int32} {qr : Int32} {sf : Nat → Int32} {df : Nat → Int32} {jf : Nat → Int32} {qf : Nat → Int32}  {res : Int32} {kd' : Int32} {bg' : Int32} {pt' : Int32} {vl' : Int32} {lt' : Int32} {ft' : Int32} {ho' : Int32} {sr' : Int32} {dr' : Int32} {ir' : Int32} {sf' : Nat → Int32} {df' : Nat → Int32} {jf' : Nat → Int32} (hm : mX2_read kd bg pt vl lt ft us tf ho sr dr ir sf df jf = some (res, kd', bg', pt', vl', lt', ft', ho', sr', dr', ir', sf', df', jf')) : MuZ l D cI cB cL cK sq sv yX2_read wsX2_read rmX2_read [.ref ra] (wR cI cB ra a b ad kd bg pt vl lt ft us tf ho td pd sr dr ir qr sf df jf qf) (wR cI cB ra a b ad kd' bg' pt' vl' lt' ft' us tf ho' td pd sr' dr' ir' qr sf' df' jf' qf) (some (.int res)) 0 0 := by
  refine MuZ.ofi (cc := cX2_read) (own := RX2) (by decide) rfl rfl (Nat.le_of_ble_eq_true rfl) (fun p e s m below meth c ls Q A C hZ hA hP hD hS hl hret => ?_)
  obtain ⟨hx, hb, hr, hml, hown, hts, hlk, hK⟩ := id C
  have hcf : CallFix p m c cX2_read 2 s _ wsX2_read RX2 := ⟨hx, hb, hml, hown, hts⟩
  have hl : lv_has ls 2 [(0, .ref ra)] := hl
  unfold mX2_read at hm
  refine lv_iconst (v := 0) hx hb dX2_read_0 (by decide) ?_
  refine lv_istore_n (lv' := [(1, .int 0), (0, .ref ra)]) hx hb dX2_read_1 rfl hl (by decide) rfl (fun ls hl => ?_)
  exact tX2_read_L2 C hZ hA hret _ _ _ _ _ _ _ _ _ _ _ _ _ _ _ hm _ _ _ hP hD hS (lv_sub hl [1, 0] rfl)
end
