/-! debtor(): it answers, or it throws -/
section
variable {p : Program} {l : Launch} {e : Env} {s : State} {m : MethodId} {args : Array Value} {below : List Frame} {meth : Method} {c : Code} {Q : State → Prop} {A : Nat → Prop} {D : va_G} {cI cB cL cK : ClassId}
def mX5_debtor (sr : Int32) (dr : Int32) (ir : Int32) (qr : Int32) (df : Nat → Int32) (jf : Nat → Int32) (qf : Nat → Int32) (p1 : Int32) (p2 : Int32) : Option (Int32) :=
  b1 (mX3_has dr p1) fun v1 => (if v1 = 0 then none else (if p2 = 0 then b1 (mX3_get 13 78 dr df p1 0) fun v5 => some v5 else (if p2 = 1 then b1 (mX3_get 13 78 dr df p1 1) fun v8 => some v8 else (if p2 = 2 then b1 (mX0_owes ir jf p1) fun v11 => some v11 else (if p2 = 3 then b1 (mX0_debt ir jf p1) fun v14 => some v14 else (if p2 = 4 then b1 (mX3_get 13 78 dr df p1 2) fun v17 => some v17 else (if p2 = 5 then b1 (mX3_get 13 78 dr df p1 3) fun v20 => some v20 else (if p2 = 6 then b1 (mX3_get 13 78 dr df p1 4) fun v23 => some v23 else (if p2 = 7 then b1 (mX0_greatestAge ir jf p1) fun v26 => some v26 else (if p2 = 8 then b1 (mX3_get 13 78 dr df p1 5) fun v29 => some v29 else (if p2 = 9 then b1 (mX0_isAtCourt sr dr df p1) fun v32 => (if v32 = 0 then some (0 : Int32) else some (1 : Int32)) else (if p2 = 10 then b1 (mX0_risk dr ir qr df jf qf p1) fun v36 => some v36 else none))))))))))))
/-! X5 debtor(II)I -/
abbrev rmX5_debtor : Room := { frames := 3, cells := 0, slots := 0, locals := 69 }
theorem hdX5_debtor : yX5_debtor.cls = RX5 ∧ yX5_debtor.cls ≠ "java/lang/invoke/MethodHandle" ∧ yX5_debtor.cls ≠ "java/lang/invoke/VarHandle" ∧ (parseMethodDescriptor yX5_debtor.desc).map (fun d => d.parameters.length) = some 2 := by decide +kernel
theorem inX5_debtor_X0 : ∀ w ∈ u_ws RX0 TX0 7, w ∈ wsX5_debtorN := by decide +kernel
theorem inX5_debtor_X5 : ∀ w ∈ u_ws RX5 TX5 5, w ∈ wsX5_debtorN := by decide +kernel
theorem cwX5_debtor_X0_debt {s : State} {args : Array Value} (hts : ∀ w ∈ wsX5_debtorN, w.before args s = true) : CallW rmX5_debtor s args RX5 RX0 126 yX0_debt cX0_debt 4 (some .int) wsX0_debt rmX0_debt 0 0 1 := cwV 1 hts gX5_debtorN_X0_debt rfl rfl rfl hdX0_debt ⟨Nat.le_of_ble_eq_true rfl, Nat.le_of_ble_eq_true rfl⟩
theorem cwX5_debtor_X0_greatestAge {s : State} {args : Array Value} (hts : ∀ w ∈ wsX5_debtorN, w.before args s = true) : CallW rmX5_debtor s args RX5 RX0 129 yX0_greatestAge cX0_greatestAge 4 (some .int) wsX0_greatestAge rmX0_greatestAge 0 0 1 := cwV 1 hts gX5_debtorN_X0_greatestAge rfl rfl rfl hdX0_greatestAge ⟨Nat.le_of_ble_eq_true rfl, Nat.le_of_ble_eq_true rfl⟩
theorem cwX5_debtor_X0_isAtCourt {s : State} {args : Array Value} (hts : ∀ w ∈ wsX5_debtorN, w.before args s = true) : CallW rmX5_debtor s args RX5 RX0 132 yX0_isAtCourt cX0_isAtCourt 2 (some .boolean) wsX0_isAtCourt rmX0_isAtCourt 0 0 1 := cwV 1 hts gX5_debtorN_X0_isAtCourt rfl rfl rfl hdX0_isAtCourt ⟨Nat.le_of_ble_eq_true rfl, Nat.le_of_ble_eq_true rfl⟩
theorem cwX5_debtor_X0_owes {s : State} {args : Array Value} (hts : ∀ w ∈ wsX5_debtorN, w.before args s = true) : CallW rmX5_debtor s args RX5 RX0 122 yX0_owes cX0_owes 4 (some .int) wsX0_owes rmX0_owes 0 0 1 := cwV 1 hts gX5_debtorN_X0_owes rfl rfl rfl hdX0_owes ⟨Nat.le_of_ble_eq_true rfl, Nat.le_of_ble_eq_true rfl⟩
theorem cwX5_debtor_X0_risk {s : State} {args : Array Value} (hts : ∀ w ∈ wsX5_debtorN, w.before args s = true) : CallW rmX5_debtor s args RX5 RX0 135 yX0_risk cX0_risk 4 (some .int) wsX0_risk rmX0_risk 0 0 1 := cwV 1 hts gX5_debtorN_X0_risk rfl rfl rfl hdX0_risk ⟨Nat.le_of_ble_eq_true rfl, Nat.le_of_ble_eq_true rfl⟩
theorem cwX5_debtor_X3_get {s : State} {args : Array Value} (hts : ∀ w ∈ wsX5_debtorN, w.before args s = true) : CallW rmX5_debtor s args RX5 RX3 108 yX3_get cX3_get 4 (some .int) wsX3_get rmX3_get 0 0 2 := cwV 2 hts gX5_debtorN_X3_get rfl rfl rfl hdX3_get ⟨Nat.le_of_ble_eq_true rfl, Nat.le_of_ble_eq_true rfl⟩
theorem cwX5_debtor_X3_has {s : State} {args : Array Value} (hts : ∀ w ∈ wsX5_debtorN, w.before args s = true) : CallW rmX5_debtor s args RX5 RX3 112 yX3_has cX3_has 2 (some .boolean) wsX3_has rmX3_has 0 0 1 := cwV 1 hts gX5_debtorN_X3_has rfl rfl rfl hdX3_has ⟨Nat.le_of_ble_eq_true rfl, Nat.le_of_ble_eq_true rfl⟩
theorem flX5_debtor_19 : Fl wsX5_debtorN RX5 19 5 1 := ⟨_, _, _, rfl, by decide, inX5_debtor_X5, by decide +kernel⟩
theorem flX5_debtor_86 : Fl wsX5_debtorN RX5 86 0 1 := ⟨_, _, _, rfl, by decide, inX5_debtor_X0, by decide +kernel⟩
set_option maxRecDepth 100000 in
set_option maxHeartbeats 4000000 in
theorem kX5_debtor {l : Launch} {D : va_G} {cI cB cL cK : ClassId} {ha : Nat} {a : Nat} {b : Nat} {ad : Nat → Nat} {pa : Nat → Nat} {hh : Nat} {hq : Nat} {kad : Nat → Nat → Nat} {lf : Int32} {us : Int32} {tf : Nat → Int32} {ho : Int32} {td : Int32} {pd : Int32} {sr : Int32} {dr : Int32} {ir : Int32} {qr : Int32} {sf : Nat → Int32} {df : Nat → Int32} {jf : Nat → Int32} {qf : Nat → Int32} {oho : Int32} {otd : Int32} {opd : Int32} {osr : Int32} {odr : Int32} {oir : Int32} {oqr : Int32} {osf : Nat → Int32} {odf : Nat → Int32} {ojf : Nat → Int32} {oqf : Nat → Int32} {ct : Int32} {tpp : Int32} {kv : Nat → BV} {p1 : Int32} {p2 : Int32} {res : Int32} (hm : mX5_debtor sr dr ir qr df jf qf p1 p2 = some res) : Rd l D cI cB cL cK yX5_debtor wsX5_debtorN rmX5_debtor [.ref ha, .int p1, .int p2] (wH cI cB cK ha a b ad pa hh hq kad lf us tf ho td pd sr dr ir qr sf df jf qf oho otd opd osr odr oir oqr osf odf ojf oqf ct tpp kv) res := by
  refine Rd.of (cc := cX5_debtor) (own := RX5) (by decide) rfl rfl (Nat.le_of_ble_eq_true rfl) (fun p e s m below meth c ls Q C hP hl hret => ?_)
  obtain ⟨hx, hb, hr, hml, hown, hts, hlk, hK⟩ := id C
  have hcf : CallFix p m c cX5_debtor 3 s _ wsX5_debtorN RX5 := ⟨hx, hb, hml, hown, hts⟩
  have hl : lv_has ls 3 [(0, .ref ha), (1, .int p1), (2, .int p2)] := hl
  unfold mX5_debtor at hm
  refine lv_aload_n hx hb dX5_debtor_0 rfl (lv_at hl 0 rfl) ?_
  refine gf (q0 := 0) hx hb hts hown hK flX5_debtor_19 hP rfl rfl dX5_debtor_1 ?_
  refine gf (q0 := 3) hx hb hts hown hK flX5_debtor_86 hP rfl rfl dX5_debtor_4 ?_
  refine lv_iload_n hx hb dX5_debtor_7 rfl (lv_at hl 1 rfl) ?_
  obtain ⟨v1, h_2, hm⟩ := b1_s hm
  refine rd_v hcf (kX3_has h_2) (cwX5_debtor_X3_has hts) hK hP sH_d (ci := 3) (q0 := 6) rfl rfl rfl hl.1 rfl (Nat.le_of_ble_eq_true rfl) dX5_debtor_8 ⟨Nat.zero_le _, Nat.zero_le _⟩ ?_
  refine lv_if_ne (tgt := 24) hx hb dX5_debtor_11 (by decide) (fun c_3 => ?_) (fun c_3 => ?_)
  · replace hm := br_n hm c_3
    refine lv_iload_n hx hb dX5_debtor_24 rfl (lv_at hl 2 rfl) ?_
    by_cases c_4 : p2 = 0
    · replace hm := br_p hm c_4
      refine lv_tableIn (tgt := 84) hx hb dX5_debtor_25 (by rw [c_4]; decide) (by rw [c_4]; decide) (by rw [c_4]; rfl) (by decide) ?_
      refine lv_aload_n hx hb dX5_debtor_84 rfl (lv_at hl 0 rfl) ?_
      refine gf (q0 := 0) hx hb hts hown hK flX5_debtor_19 hP rfl rfl dX5_debtor_85 ?_
      refine gf (q0 := 3) hx hb hts hown hK flX5_debtor_86 hP rfl rfl dX5_debtor_88 ?_
      refine lv_iload_n hx hb dX5_debtor_91 rfl (lv_at hl 1 rfl) ?_
      refine lv_iconst (v := 0) hx hb dX5_debtor_92 (by decide) ?_
      obtain ⟨v5, h_6, hm⟩ := b1_s hm
      refine rd_v hcf (kX3_get h_6) (cwX5_debtor_X3_get hts) hK hP sH_d (ci := 3) (q0 := 6) rfl rfl rfl hl.1 rfl (Nat.le_of_ble_eq_true rfl) dX5_debtor_93 ⟨Nat.zero_le _, Nat.zero_le _⟩ ?_
      cases hm
      exact hret _ _ dX5_debtor_96 rfl
    · replace hm := br_n hm c_4
      by_cases c_7 : p2 = 1
      · replace hm := br_p hm c_7
        refine lv_tableIn (tgt := 97) hx hb dX5_debtor_25 (by rw [c_7]; decide) (by rw [c_7]; decide) (by rw [c_7]; rfl) (by decide) ?_
        refine lv_aload_n hx hb dX5_debtor_97 rfl (lv_at hl 0 rfl) ?_
        refine gf (q0 := 0) hx hb hts hown hK flX5_debtor_19 hP rfl rfl dX5_debtor_98 ?_
        refine gf (q0 := 3) hx hb hts hown hK flX5_debtor_86 hP rfl rfl dX5_debtor_101 ?_
        refine lv_iload_n hx hb dX5_debtor_104 rfl (lv_at hl 1 rfl) ?_
        refine lv_iconst (v := 1) hx hb dX5_debtor_105 (by decide) ?_
        obtain ⟨v8, h_9, hm⟩ := b1_s hm
        refine rd_v hcf (kX3_get h_9) (cwX5_debtor_X3_get hts) hK hP sH_d (ci := 3) (q0 := 6) rfl rfl rfl hl.1 rfl (Nat.le_of_ble_eq_true rfl) dX5_debtor_106 ⟨Nat.zero_le _, Nat.zero_le _⟩ ?_
        cases hm
        exact hret _ _ dX5_debtor_109 rfl
      · replace hm := br_n hm c_7
        by_cases c_10 : p2 = 2
        · replace hm := br_p hm c_10
          refine lv_tableIn (tgt := 110) hx hb dX5_debtor_25 (by rw [c_10]; decide) (by rw [c_10]; decide) (by rw [c_10]; rfl) (by decide) ?_
          refine lv_aload_n hx hb dX5_debtor_110 rfl (lv_at hl 0 rfl) ?_
          refine gf (q0 := 0) hx hb hts hown hK flX5_debtor_19 hP rfl rfl dX5_debtor_111 ?_
          refine lv_iload_n hx hb dX5_debtor_114 rfl (lv_at hl 1 rfl) ?_
          obtain ⟨v11, h_12, hm⟩ := b1_s hm
          refine rd_v hcf (kX0_owes h_12) (cwX5_debtor_X0_owes hts) hK hP sH_b (ci := 0) (q0 := 3) rfl rfl rfl hl.1 rfl (Nat.le_of_ble_eq_true rfl) dX5_debtor_115 ⟨Nat.zero_le _, Nat.zero_le _⟩ ?_
          cases hm
          exact hret _ _ dX5_debtor_118 rfl
        · replace hm := br_n hm c_10
          by_cases c_13 : p2 = 3
          · replace hm := br_p hm c_13
            refine lv_tableIn (tgt := 119) hx hb dX5_debtor_25 (by rw [c_13]; decide) (by rw [c_13]; decide) (by rw [c_13]; rfl) (by decide) ?_
            refine lv_aload_n hx hb dX5_debtor_119 rfl (lv_at hl 0 rfl) ?_
            refine gf (q0 := 0) hx hb hts hown hK flX5_debtor_19 hP rfl rfl dX5_debtor_120 ?_
            refine lv_iload_n hx hb dX5_debtor_123 rfl (lv_at hl 1 rfl) ?_
            obtain ⟨v14, h_15, hm⟩ := b1_s hm
            refine rd_v hcf (kX0_debt h_15) (cwX5_debtor_X0_debt hts) hK hP sH_b (ci := 0) (q0 := 3) rfl rfl rfl hl.1 rfl (Nat.le_of_ble_eq_true rfl) dX5_debtor_124 ⟨Nat.zero_le _, Nat.zero_le _⟩ ?_
            cases hm
            exact hret _ _ dX5_debtor_127 rfl
          · replace hm := br_n hm c_13
            by_cases c_16 : p2 = 4
            · replace hm := br_p hm c_16
              refine lv_tableIn (tgt := 128) hx hb dX5_debtor_25 (by rw [c_16]; decide) (by rw [c_16]; decide) (by rw [c_16]; rfl) (by decide) ?_
              refine lv_aload_n hx hb dX5_debtor_128 rfl (lv_at hl 0 rfl) ?_
              refine gf (q0 := 0) hx hb hts hown hK flX5_debtor_19 hP rfl rfl dX5_debtor_129 ?_
              refine gf (q0 := 3) hx hb hts hown hK flX5_debtor_86 hP rfl rfl dX5_debtor_132 ?_
              refine lv_iload_n hx hb dX5_debtor_135 rfl (lv_at hl 1 rfl) ?_
              refine lv_iconst (v := 2) hx hb dX5_debtor_136 (by decide) ?_
              obtain ⟨v17, h_18, hm⟩ := b1_s hm
              refine rd_v hcf (kX3_get h_18) (cwX5_debtor_X3_get hts) hK hP sH_d (ci := 3) (q0 := 6) rfl rfl rfl hl.1 rfl (Nat.le_of_ble_eq_true rfl) dX5_debtor_137 ⟨Nat.zero_le _, Nat.zero_le _⟩ ?_
              cases hm
              exact hret _ _ dX5_debtor_140 rfl
            · replace hm := br_n hm c_16
              by_cases c_19 : p2 = 5
              · replace hm := br_p hm c_19
                refine lv_tableIn (tgt := 141) hx hb dX5_debtor_25 (by rw [c_19]; decide) (by rw [c_19]; decide) (by rw [c_19]; rfl) (by decide) ?_
                refine lv_aload_n hx hb dX5_debtor_141 rfl (lv_at hl 0 rfl) ?_
                refine gf (q0 := 0) hx hb hts hown hK flX5_debtor_19 hP rfl rfl dX5_debtor_142 ?_
                refine gf (q0 := 3) hx hb hts hown hK flX5_debtor_86 hP rfl rfl dX5_debtor_145 ?_
                refine lv_iload_n hx hb dX5_debtor_148 rfl (lv_at hl 1 rfl) ?_
                refine lv_iconst (v := 3) hx hb dX5_debtor_149 (by decide) ?_
                obtain ⟨v20, h_21, hm⟩ := b1_s hm
                refine rd_v hcf (kX3_get h_21) (cwX5_debtor_X3_get hts) hK hP sH_d (ci := 3) (q0 := 6) rfl rfl rfl hl.1 rfl (Nat.le_of_ble_eq_true rfl) dX5_debtor_150 ⟨Nat.zero_le _, Nat.zero_le _⟩ ?_
                cases hm
                exact hret _ _ dX5_debtor_153 rfl
              · replace hm := br_n hm c_19
                by_cases c_22 : p2 = 6
                · replace hm := br_p hm c_22
                  refine lv_tableIn (tgt := 154) hx hb dX5_debtor_25 (by rw [c_22]; decide) (by rw [c_22]; decide) (by rw [c_22]; rfl) (by decide) ?_
                  refine lv_aload_n hx hb dX5_debtor_154 rfl (lv_at hl 0 rfl) ?_
                  refine gf (q0 := 0) hx hb hts hown hK flX5_debtor_19 hP rfl rfl dX5_debtor_155 ?_
                  refine gf (q0 := 3) hx hb hts hown hK flX5_debtor_86 hP rfl rfl dX5_debtor_158 ?_
                  refine lv_iload_n hx hb dX5_debtor_161 rfl (lv_at hl 1 rfl) ?_
                  refine lv_iconst (v := 4) hx hb dX5_debtor_162 (by decide) ?_
                  obtain ⟨v23, h_24, hm⟩ := b1_s hm
                  refine rd_v hcf (kX3_get h_24) (cwX5_debtor_X3_get hts) hK hP sH_d (ci := 3) (q0 := 6) rfl rfl rfl hl.1 rfl (Nat.le_of_ble_eq_true rfl) dX5_debtor_163 ⟨Nat.zero_le _, Nat.zero_le _⟩ ?_
                  cases hm
                  exact hret _ _ dX5_debtor_166 rfl
                · replace hm := br_n hm c_22
                  by_cases c_25 : p2 = 7
                  · replace hm := br_p hm c_25
                    refine lv_tableIn (tgt := 167) hx hb dX5_debtor_25 (by rw [c_25]; decide) (by rw [c_25]; decide) (by rw [c_25]; rfl) (by decide) ?_
                    refine lv_aload_n hx hb dX5_debtor_167 rfl (lv_at hl 0 rfl) ?_
                    refine gf (q0 := 0) hx hb hts hown hK flX5_debtor_19 hP rfl rfl dX5_debtor_168 ?_
                    refine lv_iload_n hx hb dX5_debtor_171 rfl (lv_at hl 1 rfl) ?_
                    obtain ⟨v26, h_27, hm⟩ := b1_s hm
                    refine rd_v hcf (kX0_greatestAge h_27) (cwX5_debtor_X0_greatestAge hts) hK hP sH_b (ci := 0) (q0 := 3) rfl rfl rfl hl.1 rfl (Nat.le_of_ble_eq_true rfl) dX5_debtor_172 ⟨Nat.zero_le _, Nat.zero_le _⟩ ?_
                    cases hm
                    exact hret _ _ dX5_debtor_175 rfl
                  · replace hm := br_n hm c_25
                    by_cases c_28 : p2 = 8
                    · replace hm := br_p hm c_28
                      refine lv_tableIn (tgt := 176) hx hb dX5_debtor_25 (by rw [c_28]; decide) (by rw [c_28]; decide) (by rw [c_28]; rfl) (by decide) ?_
                      refine lv_aload_n hx hb dX5_debtor_176 rfl (lv_at hl 0 rfl) ?_
                      refine gf (q0 := 0) hx hb hts hown hK flX5_debtor_19 hP rfl rfl dX5_debtor_177 ?_
                      refine gf (q0 := 3) hx hb hts hown hK flX5_debtor_86 hP rfl rfl dX5_debtor_180 ?_
                      refine lv_iload_n hx hb dX5_debtor_183 rfl (lv_at hl 1 rfl) ?_
                      refine lv_iconst (v := 5) hx hb dX5_debtor_184 (by decide) ?_
                      obtain ⟨v29, h_30, hm⟩ := b1_s hm
                      refine rd_v hcf (kX3_get h_30) (cwX5_debtor_X3_get hts) hK hP sH_d (ci := 3) (q0 := 6) rfl rfl rfl hl.1 rfl (Nat.le_of_ble_eq_true rfl) dX5_debtor_185 ⟨Nat.zero_le _, Nat.zero_le _⟩ ?_
                      cases hm
                      exact hret _ _ dX5_debtor_188 rfl
                    · replace hm := br_n hm c_28
                      by_cases c_31 : p2 = 9
                      · replace hm := br_p hm c_31
                        refine lv_tableIn (tgt := 189) hx hb dX5_debtor_25 (by rw [c_31]; decide) (by rw [c_31]; decide) (by rw [c_31]; rfl) (by decide) ?_
                        refine lv_aload_n hx hb dX5_debtor_189 rfl (lv_at hl 0 rfl) ?_
                        refine gf (q0 := 0) hx hb hts hown hK flX5_debtor_19 hP rfl rfl dX5_debtor_190 ?_
                        refine lv_iload_n hx hb dX5_debtor_193 rfl (lv_at hl 1 rfl) ?_
                        obtain ⟨v32, h_33, hm⟩ := b1_s hm
                        refine rd_v hcf (kX0_isAtCourt h_33) (cwX5_debtor_X0_isAtCourt hts) hK hP sH_b (ci := 0) (q0 := 3) rfl rfl rfl hl.1 rfl (Nat.le_of_ble_eq_true rfl) dX5_debtor_194 ⟨Nat.zero_le _, Nat.zero_le _⟩ ?_
                        refine lv_if_eq (tgt := 204) hx hb dX5_debtor_197 (by decide) (fun c_34 => ?_) (fun c_34 => ?_)
                        · replace hm := br_p hm c_34
                          refine lv_iconst (v := 0) hx hb dX5_debtor_204 (by decide) ?_
                          cases hm
                          exact hret _ _ dX5_debtor_205 rfl
                        · replace hm := br_n hm c_34
                          refine lv_iconst (v := 1) hx hb dX5_debtor_200 (by decide) ?_
                          refine lv_goto (tgt := 205) hx hb dX5_debtor_201 (by decide) ?_
                          cases hm
                          exact hret _ _ dX5_debtor_205 rfl
                      · replace hm := br_n hm c_31
                        by_cases c_35 : p2 = 10
                        · replace hm := br_p hm c_35
                          refine lv_tableIn (tgt := 206) hx hb dX5_debtor_25 (by rw [c_35]; decide) (by rw [c_35]; decide) (by rw [c_35]; rfl) (by decide) ?_
                          refine lv_aload_n hx hb dX5_debtor_206 rfl (lv_at hl 0 rfl) ?_
                          refine gf (q0 := 0) hx hb hts hown hK flX5_debtor_19 hP rfl rfl dX5_debtor_207 ?_
                          refine lv_iload_n hx hb dX5_debtor_210 rfl (lv_at hl 1 rfl) ?_
                          obtain ⟨v36, h_37, hm⟩ := b1_s hm
                          refine rd_v hcf (kX0_risk h_37) (cwX5_debtor_X0_risk hts) hK hP sH_b (ci := 0) (q0 := 3) rfl rfl rfl hl.1 rfl (Nat.le_of_ble_eq_true rfl) dX5_debtor_211 ⟨Nat.zero_le _, Nat.zero_le _⟩ ?_
                          cases hm
                          exact hret _ _ dX5_debtor_214 rfl
                        · replace hm := br_n hm c_35
                          refine lv_tableOut (tgt := 215) hx hb dX5_debtor_25 (by have q0 := ne_ti (z := 0) (by decide) c_4; have q1 := ne_ti (z := 1) (by decide) c_7; have q2 := ne_ti (z := 2) (by decide) c_10; have q3 := ne_ti (z := 3) (by decide) c_13; have q4 := ne_ti (z := 4) (by decide) c_16; have q5 := ne_ti (z := 5) (by decide) c_19; have q6 := ne_ti (z := 6) (by decide) c_22; have q7 := ne_ti (z := 7) (by decide) c_25; have q8 := ne_ti (z := 8) (by decide) c_28; have q9 := ne_ti (z := 9) (by decide) c_31; have q10 := ne_ti (z := 10) (by decide) c_35; omega) (by decide) ?_
                          cases hm
  · replace hm := br_p hm c_3
    cases hm
end
abbrev wHO (cI : ClassId) (cB : ClassId) (cL : ClassId) (cK : ClassId) (ha : Nat) (a : Nat) (b : Nat) (ad : Nat → Nat) (pa : Nat → Nat) (hh : Nat) (hq : Nat) (kad : Nat → Nat → Nat) (ou : Nat) (lf : Int32) (us : Int32) (tf : Nat → Int32) (ho : Int32) (td : Int32) (pd : Int32) (sr : Int32) (dr : Int32) (ir : Int32) (qr : Int32) (sf : Nat → Int32) (df : Nat → Int32) (jf : Nat → Int32) (qf : Nat → Int32) (oho : Int32) (otd : Int32) (opd : Int32) (osr : Int32) (odr : Int32) (oir : Int32) (oqr : Int32) (osf : Nat → Int32) (odf : Nat → Int32) (ojf : Nat → Int32) (oqf : Nat → Int32) (ct : Int32) (tpp : Int32) (kv : Nat → BV) (ofn : Nat → Int64) : va_W :=
  [(ha, .inr (5, [.ref a, .ref (ad 0), .ref (pa 0), .ref hh, .int lf])), (a, .inr (4, [.ref b, .int us])), (b, .inl (cB, 640, .inl tf)), (ad 0, .inr (0, [.ref (ad 1), .ref (ad 3), .ref (ad 5), .ref (ad 7), .int ho, .int td, .int pd])), (ad 1, .inr (3, [.ref (ad 2), .int 3, .int sr])), (ad 2, .inl (cI, 18, .inl sf)), (ad 3, .inr (3, [.ref (ad 4), .int 13, .int dr])), (ad 4, .inl (cI, 78, .inl df)), (ad 5, .inr (3, [.ref (ad 6), .int 7, .int ir])), (ad 6, .inl (cI, 420, .inl jf)), (ad 7, .inr (3, [.ref (ad 8), .int 4, .int qr])), (ad 8, .inl (cI, 160, .inl qf)), (pa 0, .inr (0, [.ref (pa 1), .ref (pa 3), .ref (pa 5), .ref (pa 7), .int oho, .int otd, .int opd])), (pa 1, .inr (3, [.ref (pa 2), .int 3, .int osr])), (pa 2, .inl (cI, 18, .inl osf)), (pa 3, .inr (3, [.ref (pa 4), .int 13, .int odr])), (pa 4, .inl (cI, 78, .inl odf)), (pa 5, .inr (3, [.ref (pa 6), .int 7, .int oir])), (pa 6, .inl (cI, 420, .inl ojf)), (pa 7, .inr (3, [.ref (pa 8), .int 4, .int oqr])), (pa 8, .inl (cI, 160, .inl oqf)), (hh, .inr (1, [.ref hq, .int ct, .int tpp])), (hq, .inl (cK, 10, .inr (.inr (.inr (.inr (fun k => some (kad k 0))))))), (ou, .inl (cL, 1, .inr (.inl ofn)))] ++ (wHB cI kad kv)
set_option maxRecDepth 100000 in
theorem sHO_x {cI : ClassId} {cB : ClassId} {cL : ClassId} {cK : ClassId} {ha : Nat} {a : Nat} {b : Nat} {ad : Nat → Nat} {pa : Nat → Nat} {hh : Nat} {hq : Nat} {kad : Nat → Nat → Nat} {ou : Nat} {lf : Int32} {us : Int32} {tf : Nat → Int32} {ho : Int32} {td : Int32} {pd : Int32} {sr : Int32} {dr : Int32} {ir : Int32} {qr : Int32} {sf : Nat → Int32} {df : Nat → Int32} {jf : Nat → Int32} {qf : Nat → Int32} {oho : Int32} {otd : Int32} {opd : Int32} {osr : Int32} {odr : Int32} {oir : Int32} {oqr : Int32} {osf : Nat → Int32} {odf : Nat → Int32} {ojf : Nat → Int32} {oqf : Nat → Int32} {ct : Int32} {tpp : Int32} {kv : Nat → BV} {ofn : Nat → Int64} : Sb (wHO cI cB cL cK ha a b ad pa hh hq kad ou lf us tf ho td pd sr dr ir qr sf df jf qf oho otd opd osr odr oir oqr osf odf ojf oqf ct tpp kv ofn) (wH cI cB cK ha a b ad pa hh hq kad lf us tf ho td pd sr dr ir qr sf df jf qf oho otd opd osr odr oir oqr osf odf ojf oqf ct tpp kv) := (Sb.is (X := ([(ha, .inr (5, [.ref a, .ref (ad 0), .ref (pa 0), .ref hh, .int lf])), (a, .inr (4, [.ref b, .int us])), (b, .inl (cB, 640, .inl tf)), (ad 0, .inr (0, [.ref (ad 1), .ref (ad 3), .ref (ad 5), .ref (ad 7), .int ho, .int td, .int pd])), (ad 1, .inr (3, [.ref (ad 2), .int 3, .int sr])), (ad 2, .inl (cI, 18, .inl sf)), (ad 3, .inr (3, [.ref (ad 4), .int 13, .int dr])), (ad 4, .inl (cI, 78, .inl df)), (ad 5, .inr (3, [.ref (ad 6), .int 7, .int ir])), (ad 6, .inl (cI, 420, .inl jf)), (ad 7, .inr (3, [.ref (ad 8), .int 4, .int qr])), (ad 8, .inl (cI, 160, .inl qf)), (pa 0, .inr (0, [.ref (pa 1), .ref (pa 3), .ref (pa 5), .ref (pa 7), .int oho, .int otd, .int opd])), (pa 1, .inr (3, [.ref (pa 2), .int 3, .int osr])), (pa 2, .inl (cI, 18, .inl osf)), (pa 3, .inr (3, [.ref (pa 4), .int 13, .int odr])), (pa 4, .inl (cI, 78, .inl odf)), (pa 5, .inr (3, [.ref (pa 6), .int 7, .int oir])), (pa 6, .inl (cI, 420, .inl ojf)), (pa 7, .inr (3, [.ref (pa 8), .int 4, .int oqr])), (pa 8, .inl (cI, 160, .inl oqf)), (hh, .inr (1, [.ref hq, .int ct, .int tpp])), (hq, .inl (cK, 10, .inr (.inr (.inr (.inr (fun k => some (kad k 0))))))), (ou, .inl (cL, 1, .inr (.inl ofn)))] : va_W)) [0, 1, 2, 3, 4, 5, 6, 7, 8, 9, 10, 11, 12, 13, 14, 15, 16, 17, 18, 19, 20, 21, 22] rfl rfl).app1
set_option maxRecDepth 100000 in
theorem jHO_x {cI : ClassId} {cB : ClassId} {cL : ClassId} {cK : ClassId} {ha : Nat} {a : Nat} {b : Nat} {ad : Nat → Nat} {pa : Nat → Nat} {hh : Nat} {hq : Nat} {kad : Nat → Nat → Nat} {ou : Nat} {lf : Int32} {us : Int32} {tf : Nat → Int32} {ho : Int32} {td : Int32} {pd : Int32} {sr : Int32} {dr : Int32} {ir : Int32} {qr : Int32} {sf : Nat → Int32} {df : Nat → Int32} {jf : Nat → Int32} {qf : Nat → Int32} {oho : Int32} {otd : Int32} {opd : Int32} {osr : Int32} {odr : Int32} {oir : Int32} {oqr : Int32} {osf : Nat → Int32} {odf : Nat → Int32} {ojf : Nat → Int32} {oqf : Nat → Int32} {ct : Int32} {tpp : Int32} {kv : Nat → BV} {ofn : Nat → Int64} {lf' : Int32} {us' : Int32} {tf' : Nat → Int32} {ho' : Int32} {td' : Int32} {pd' : Int32} {sr' : Int32} {dr' : Int32} {ir' : Int32} {qr' : Int32} {sf' : Nat → Int32} {df' : Nat → Int32} {jf' : Nat → Int32} {qf' : Nat → Int32} {oho' : Int32} {otd' : Int32} {opd' : Int32} {osr' : Int32} {odr' : Int32} {oir' : Int32} {oqr' : Int32} {osf' : Nat → Int32} {odf' : Nat → Int32} {ojf' : Nat → Int32} {oqf' : Nat → Int32} {ct' : Int32} {tpp' : Int32} {kv' : Nat → BV} : Jn (wHO cI cB cL cK ha a b ad pa hh hq kad ou lf us tf ho td pd sr dr ir qr sf df jf qf oho otd opd osr odr oir oqr osf odf ojf oqf ct tpp kv ofn) (wHO cI cB cL cK ha a b ad pa hh hq kad ou lf' us' tf' ho' td' pd' sr' dr' ir' qr' sf' df' jf' qf' oho' otd' opd' osr' odr' oir' oqr' osf' odf' ojf' oqf' ct' tpp' kv' ofn) (wH cI cB cK ha a b ad pa hh hq kad lf us tf ho td pd sr dr ir qr sf df jf qf oho otd opd osr odr oir oqr osf odf ojf oqf ct tpp kv) (wH cI cB cK ha a b ad pa hh hq kad lf' us' tf' ho' td' pd' sr' dr' ir' qr' sf' df' jf' qf' oho' otd' opd' osr' odr' oir' oqr' osf' odf' ojf' oqf' ct' tpp' kv') := Jn.tl2 (L := ([(ha, .inr (5, [.ref a, .ref (ad 0), .ref (pa 0), .ref hh, .int lf])), (a, .inr (4, [.ref b, .int us])), (b, .inl (cB, 640, .inl tf)), (ad 0, .inr (0, [.ref (ad 1), .ref (ad 3), .ref (ad 5), .ref (ad 7), .int ho, .int td, .int pd])), (ad 1, .inr (3, [.ref (ad 2), .int 3, .int sr])), (ad 2, .inl (cI, 18, .inl sf)), (ad 3, .inr (3, [.ref (ad 4), .int 13, .int dr])), (ad 4, .inl (cI, 78, .inl df)), (ad 5, .inr (3, [.ref (ad 6), .int 7, .int ir])), (ad 6, .inl (cI, 420, .inl jf)), (ad 7, .inr (3, [.ref (ad 8), .int 4, .int qr])), (ad 8, .inl (cI, 160, .inl qf)), (pa 0, .inr (0, [.ref (pa 1), .ref (pa 3), .ref (pa 5), .ref (pa 7), .int oho, .int otd, .int opd])), (pa 1, .inr (3, [.ref (pa 2), .int 3, .int osr])), (pa 2, .inl (cI, 18, .inl osf)), (pa 3, .inr (3, [.ref (pa 4), .int 13, .int odr])), (pa 4, .inl (cI, 78, .inl odf)), (pa 5, .inr (3, [.ref (pa 6), .int 7, .int oir])), (pa 6, .inl (cI, 420, .inl ojf)), (pa 7, .inr (3, [.ref (pa 8), .int 4, .int oqr])), (pa 8, .inl (cI, 160, .inl oqf)), (hh, .inr (1, [.ref hq, .int ct, .int tpp])), (hq, .inl (cK, 10, .inr (.inr (.inr (.inr (fun k => some (kad k 0))))))), (ou, .inl (cL, 1, .inr (.inl ofn)))] : va_W)) (L' := ([(ha, .inr (5, [.ref a, .ref (ad 0), .ref (pa 0), .ref hh, .int lf'])), (a, .inr (4, [.ref b, .int us'])), (b, .inl (cB, 640, .inl tf')), (ad 0, .inr (0, [.ref (ad 1), .ref (ad 3), .ref (ad 5), .ref (ad 7), .int ho', .int td', .int pd'])), (ad 1, .inr (3, [.ref (ad 2), .int 3, .int sr'])), (ad 2, .inl (cI, 18, .inl sf')), (ad 3, .inr (3, [.ref (ad 4), .int 13, .int dr'])), (ad 4, .inl (cI, 78, .inl df')), (ad 5, .inr (3, [.ref (ad 6), .int 7, .int ir'])), (ad 6, .inl (cI, 420, .inl jf')), (ad 7, .inr (3, [.ref (ad 8), .int 4, .int qr'])), (ad 8, .inl (cI, 160, .inl qf')), (pa 0, .inr (0, [.ref (pa 1), .ref (pa 3), .ref (pa 5), .ref (pa 7), .int oho', .int otd', .int opd'])), (pa 1, .inr (3, [.ref (pa 2), .int 3, .int osr'])), (pa 2, .inl (cI, 18, .inl osf')), (pa 3, .inr (3, [.ref (pa 4), .int 13, .int odr'])), (pa 4, .inl (cI, 78, .inl odf')), (pa 5, .inr (3, [.ref (pa 6), .int 7, .int oir'])), (pa 6, .inl (cI, 420, .inl ojf')), (pa 7, .inr (3, [.ref (pa 8), .int 4, .int oqr'])), (pa 8, .inl (cI, 160, .inl oqf')), (hh, .inr (1, [.ref hq, .int ct', .int tpp'])), (hq, .inl (cK, 10, .inr (.inr (.inr (.inr (fun k => some (kad k 0))))))), (ou, .inl (cL, 1, .inr (.inl ofn)))] : va_W)) (lc := ([(ha, .inr (5, [.ref a, .ref (ad 0), .ref (pa 0), .ref hh, .int lf])), (a, .inr (4, [.ref b, .int us])), (b, .inl (cB, 640, .inl tf)), (ad 0, .inr (0, [.ref (ad 1), .ref (ad 3), .ref (ad 5), .ref (ad 7), .int ho, .int td, .int pd])), (ad 1, .inr (3, [.ref (ad 2), .int 3, .int sr])), (ad 2, .inl (cI, 18, .inl sf)), (ad 3, .inr (3, [.ref (ad 4), .int 13, .int dr])), (ad 4, .inl (cI, 78, .inl df)), (ad 5, .inr (3, [.ref (ad 6), .int 7, .int ir])), (ad 6, .inl (cI, 420, .inl jf)), (ad 7, .inr (3, [.ref (ad 8), .int 4, .int qr])), (ad 8, .inl (cI, 160, .inl qf)), (pa 0, .inr (0, [.ref (pa 1), .ref (pa 3), .ref (pa 5), .ref (pa 7), .int oho, .int otd, .int opd])), (pa 1, .inr (3, [.ref (pa 2), .int 3, .int osr])), (pa 2, .inl (cI, 18, .inl osf)), (pa 3, .inr (3, [.ref (pa 4), .int 13, .int odr])), (pa 4, .inl (cI, 78, .inl odf)), (pa 5, .inr (3, [.ref (pa 6), .int 7, .int oir])), (pa 6, .inl (cI, 420, .inl ojf)), (pa 7, .inr (3, [.ref (pa 8), .int 4, .int oqr])), (pa 8, .inl (cI, 160, .inl oqf)), (hh, .inr (1, [.ref hq, .int ct, .int tpp])), (hq, .inl (cK, 10, .inr (.inr (.inr (.inr (fun k => some (kad k 0)))))))] : va_W)) (lc' := ([(ha, .inr (5, [.ref a, .ref (ad 0), .ref (pa 0), .ref hh, .int lf'])), (a, .inr (4, [.ref b, .int us'])), (b, .inl (cB, 640, .inl tf')), (ad 0, .inr (0, [.ref (ad 1), .ref (ad 3), .ref (ad 5), .ref (ad 7), .int ho', .int td', .int pd'])), (ad 1, .inr (3, [.ref (ad 2), .int 3, .int sr'])), (ad 2, .inl (cI, 18, .inl sf')), (ad 3, .inr (3, [.ref (ad 4), .int 13, .int dr'])), (ad 4, .inl (cI, 78, .inl df')), (ad 5, .inr (3, [.ref (ad 6), .int 7, .int ir'])), (ad 6, .inl (cI, 420, .inl jf')), (ad 7, .inr (3, [.ref (ad 8), .int 4, .int qr'])), (ad 8, .inl (cI, 160, .inl qf')), (pa 0, .inr (0, [.ref (pa 1), .ref (pa 3), .ref (pa 5), .ref (pa 7), .int oho', .int otd', .int opd'])), (pa 1, .inr (3, [.ref (pa 2), .int 3, .int osr'])), (pa 2, .inl (cI, 18, .inl osf')), (pa 3, .inr (3, [.ref (pa 4), .int 13, .int odr'])), (pa 4, .inl (cI, 78, .inl odf')), (pa 5, .inr (3, [.ref (pa 6), .int 7, .int oir'])), (pa 6, .inl (cI, 420, .inl ojf')), (pa 7, .inr (3, [.ref (pa 8), .int 4, .int oqr'])), (pa 8, .inl (cI, 160, .inl oqf')), (hh, .inr (1, [.ref hq, .int ct', .int tpp'])), (hq, .inl (cK, 10, .inr (.inr (.inr (.inr (fun k => some (kad k 0)))))))] : va_W)) (lr := ([(ou, .inl (cL, 1, .inr (.inl ofn)))] : va_W)) [0, 1, 2, 3, 4, 5, 6, 7, 8, 9, 10, 11, 12, 13, 14, 15, 16, 17, 18, 19, 20, 21, 22, 23] [0, 1, 2, 3, 4, 5, 6, 7, 8, 9, 10, 11, 12, 13, 14, 15, 16, 17, 18, 19, 20, 21, 22, 23] rfl rfl rfl rfl
def XZ (qa qb : Nat) (A : Nat → Prop) (U : State) (H : Heap) : Prop := va_Nw (.declares (Bundle.initS "java/lang/RuntimeException")) U ∧ va_Nw (.declares (Bundle.initS "java/lang/Exception")) U ∧ va_Nw (.declares (Bundle.initS Bundle.tN)) U ∧ va_Nw (.castable "java/util/NoSuchElementException" "java/util/NoSuchElementException") U ∧ vx_Zq Bundle.tN "UNASSIGNED_STACK" Bundle.steD A U H ∧ vx_Zq Bundle.tN "SUPPRESSED_SENTINEL" Bundle.listD A U H ∧ vk_R RX5 117 "no such debtor" qa U ∧ vk_R RX5 138 "no such thing of a debtor" qb U
section XZs
variable {qa qb : Nat} {A B : Nat → Prop} {s u U : State} {H H1 : Heap}
theorem XZ.warm (hW : s.WarmedH U.vm) (h : XZ qa qb A s H) : XZ qa qb A U H := ⟨h.1.warmD hW, h.2.1.warmD hW, h.2.2.1.warmD hW, h.2.2.2.1.warmC hW, h.2.2.2.2.1.moved hW.alike, h.2.2.2.2.2.1.moved hW.alike, h.2.2.2.2.2.2.1.warm hW, h.2.2.2.2.2.2.2.warm hW⟩
theorem XZ.same (hv : U.vm = u.vm) (h : XZ qa qb A u H) : XZ qa qb A U H := ⟨h.1.same rfl hv.symm, h.2.1.same rfl hv.symm, h.2.2.1.same rfl hv.symm, h.2.2.2.1.same rfl hv.symm, h.2.2.2.2.1.moved (by rw [hv]; exact Vm.Alike.refl _), h.2.2.2.2.2.1.moved (by rw [hv]; exact Vm.Alike.refl _), h.2.2.2.2.2.2.1.same hv, h.2.2.2.2.2.2.2.same hv⟩
theorem XZ.kept (h : XZ qa qb A U H) (hq : ∀ a : Nat, a < H.size → ¬ A a → H1[a]? = H[a]?) : XZ qa qb A U H1 := ⟨h.1, h.2.1, h.2.2.1, h.2.2.2.1, h.2.2.2.2.1.kept hq, h.2.2.2.2.2.1.kept hq, h.2.2.2.2.2.2⟩
theorem XZ.narrow (h : XZ qa qb A U H) (hAB : ∀ q, B q → A q) : XZ qa qb B U H := ⟨h.1, h.2.1, h.2.2.1, h.2.2.2.1, h.2.2.2.2.1.narrow hAB, h.2.2.2.2.2.1.narrow hAB, h.2.2.2.2.2.2⟩
end XZs
theorem xz_B : ∀ w ∈ (tx_N).filter (fun w => !goodWord w), w ∈ [Cond.declares (Bundle.initS "java/lang/RuntimeException"), Cond.declares (Bundle.initS "java/lang/Exception"), Cond.declares (Bundle.initS Bundle.tN), Cond.castable "java/util/NoSuchElementException" "java/util/NoSuchElementException"] := by decide +kernel
theorem xz_ot : ∀ w ∈ Cond.classLink RX5 115 "java/util/NoSuchElementException" :: Cond.initialized "java/util/NoSuchElementException" :: tx_N, vx_ot w = true := by decide +kernel
theorem xz_at {args : Array Value} {s : State} {qa qb : Nat} {A : Nat → Prop} {H : Heap} (hts : ∀ w ∈ wsX5_debtorN, w.before args s = true) (h : XZ qa qb A s H) : ∀ w ∈ tx_N, w.before args s = true :=
  vx_hat (fun w hw => hts w (List.mem_cons_of_mem _ (List.mem_append_right _ hw))) xz_B (vx_c (h.1.use rfl) (vx_c (h.2.1.use rfl) (vx_c (h.2.2.1.use rfl) (vx_c (h.2.2.2.1.use rfl) vx_n))))
theorem xz_1 : Cond.classLink RX5 115 "java/util/NoSuchElementException" ∈ wsX5_debtorN := by decide +kernel
theorem xz_2 : Cond.initialized "java/util/NoSuchElementException" ∈ wsX5_debtorN := by decide +kernel
abbrev rmX5_debtorB : Room := { frames := 6, cells := 1, slots := 6, locals := 90 }
theorem cwX5_debtorB_X3_has {s : State} {args : Array Value} (hts : ∀ w ∈ wsX5_debtorN, w.before args s = true) : CallW rmX5_debtorB s args RX5 RX3 112 yX3_has cX3_has 2 (some .boolean) wsX3_has rmX3_has 0 0 1 := cwV 1 hts gX5_debtorN_X3_has rfl rfl rfl hdX3_has ⟨(Nat.le_of_ble_eq_true rfl), (Nat.le_of_ble_eq_true rfl)⟩
abbrev QB : Array Value → State → Outcome → State → Prop := va_Qi (fun _ (_ : Unit) => False) (fun _ _ => True) (fun _ => False)
abbrev XB : String → State → State → Prop := vx_X (fun _ : Unit => True) (fun E _ _ => E = "java/util/NoSuchElementException") (fun _ => False)
set_option maxRecDepth 100000 in
set_option maxHeartbeats 4000000 in
theorem kX5_debtorB {l : Launch} (htr : l.stackTraces = false) {D : va_G} {cI cB cL cK : ClassId} {ha : Nat} {a : Nat} {b : Nat} {ad : Nat → Nat} {pa : Nat → Nat} {hh : Nat} {hq : Nat} {kad : Nat → Nat → Nat} {lf : Int32} {us : Int32} {tf : Nat → Int32} {ho : Int32} {td : Int32} {pd : Int32} {sr : Int32} {dr : Int32} {ir : Int32} {qr : Int32} {sf : Nat → Int32} {df : Nat → Int32} {jf : Nat → Int32} {qf : Nat → Int32} {oho : Int32} {otd : Int32} {opd : Int32} {osr : Int32} {odr : Int32} {oir : Int32} {oqr : Int32} {osf : Nat → Int32} {odf : Nat → Int32} {ojf : Nat → Int32} {oqf : Nat → Int32} {ct : Int32} {tpp : Int32} {kv : Nat → BV} {p1 p2 v : Int32} {qa qb : Nat} (hm : mX3_has dr p1 = some v) (hm2 : v = 0 ∨ (¬ v = 0 ∧ (p2.toInt < 0 ∨ 10 < p2.toInt))) : vx_Met l yX5_debtor wsX5_debtorN rmX5_debtorB (va_Pc [.ref ha, .int p1, .int p2] (fun U => va_P D vwCl (wH cI cB cK ha a b ad pa hh hq kad lf us tf ho td pd sr dr ir qr sf df jf qf oho otd opd osr odr oir oqr osf odf ojf oqf ct tpp kv) U.heap ∧ va_K D vwCl (TYS cI cB cL cK) U ∧ XZ qa qb NoA U U.heap)) QB XB 1 6 (fun _ => False) := by
  refine vx_ofW (cc := cX5_debtor) (maxL := 3) (ret := some .int) (by decide) rfl ?_
  intro p e s m args below meth c s₁ B hml htab hv
  obtain ⟨rfl, hP, hK, hZ⟩ := hv
  have hts := atoms_spec (ws := wsX5_debtorN) B.pre
  have hown : s.vm.findClass RX5 = some m.cls := findClass_of_methodNamed B.named
  have hl := lv_entry [.ref ha, .int p1, .int p2] (n := 3) (Nat.le_of_ble_eq_true rfl)
  rw [lg_entry_eq]
  generalize (lg_sl ([.ref ha, .int p1, .int p2]) ++ List.replicate (3 - (lg_sl ([.ref ha, .int p1, .int p2])).length) Slot.unset).toArray = ls at hl ⊢
  have hl : lv_has ls 3 [(0, .ref ha), (1, .int p1), (2, .int p2)] := hl
  have hlk := B.notSynchronized
  have hx := B.exec
  have hb := B.bytes
  have hcf : CallFix p m c cX5_debtor 3 s _ wsX5_debtorN RX5 := ⟨hx, hb, hml, hown, hts⟩
  have hS : va_S NoA s.heap s.heap [] := va_S.rf
  refine lv_aload_n hx hb dX5_debtor_0 rfl (lv_at hl 0 rfl) ?_
  refine gf (q0 := 0) hx hb hts hown hK flX5_debtor_19 hP rfl rfl dX5_debtor_1 ?_
  refine gf (q0 := 3) hx hb hts hown hK flX5_debtor_86 hP rfl rfl dX5_debtor_4 ?_
  refine lv_iload_n hx hb dX5_debtor_7 rfl (lv_at hl 1 rfl) ?_
  refine rd_v hcf (kX3_has hm) (cwX5_debtorB_X3_has hts) hK hP sH_d (ci := 3) (q0 := 6) rfl rfl rfl hl.1 rfl (Nat.le_of_ble_eq_true rfl) dX5_debtor_8 ⟨Nat.zero_le _, Nat.zero_le _⟩ ?_
  refine lv_if_ne (tgt := 24) hx hb dX5_debtor_11 (by decide) (fun c_1 => ?_) (fun c_1 => ?_)
  · rcases hm2 with z | ⟨-, z⟩
    · exact absurd z c_1
    refine lv_iload_n hx hb dX5_debtor_24 rfl (lv_at hl 2 rfl) ?_
    refine lv_tableOut (tgt := 215) hx hb dX5_debtor_25 z (by decide) ?_
    exact tx_throw (text := "no such thing of a debtor") (Y0 := "java/lang/RuntimeException") (r0 := ["java/lang/Exception"]) hx hb htr tx_0 tx_1 tx_2 tx_5 hown (by decide) (by decide) (by decide) (hts _ xz_1) (hts _ xz_2) hZ.2.2.2.2.2.2.2 (xz_at hts hZ) xz_ot hZ.2.2.2.2.1 hZ.2.2.2.2.2.1 hS (hl.1.trans hml.symm) dX5_debtor_215 dX5_debtor_218 dX5_debtor_219 dX5_debtor_221 dX5_debtor_224 (fun x h => (htab x h).elim) (by decide) (Nat.le_of_ble_eq_true rfl) (Nat.le_of_ble_eq_true rfl) (Nat.le_of_ble_eq_true rfl) hlk (fun t _ h1 h2 => ⟨(), trivial, rfl, h1, fun q hq _ => h2 q hq⟩) (fun _ h => by cases h) (Nat.le_of_ble_eq_true rfl) (Nat.le_of_ble_eq_true rfl)
  · exact tx_throw (text := "no such debtor") (Y0 := "java/lang/RuntimeException") (r0 := ["java/lang/Exception"]) hx hb htr tx_0 tx_1 tx_2 tx_5 hown (by decide) (by decide) (by decide) (hts _ xz_1) (hts _ xz_2) hZ.2.2.2.2.2.2.1 (xz_at hts hZ) xz_ot hZ.2.2.2.2.1 hZ.2.2.2.2.2.1 hS (hl.1.trans hml.symm) dX5_debtor_14 dX5_debtor_17 dX5_debtor_18 dX5_debtor_20 dX5_debtor_23 (fun x h => (htab x h).elim) (by decide) (Nat.le_of_ble_eq_true rfl) (Nat.le_of_ble_eq_true rfl) (Nat.le_of_ble_eq_true rfl) hlk (fun t _ h1 h2 => ⟨(), trivial, rfl, h1, fun q hq _ => h2 q hq⟩) (fun _ h => by cases h) (Nat.le_of_ble_eq_true rfl) (Nat.le_of_ble_eq_true rfl)
/-- a static method with a table of handlers, which writes -/
def MuG (l : Launch) (D : va_G) (cI cB cL cK : ClassId) (Z : State → Prop) (y : MethodName) (ws : List Cond) (rm : Room) (av : List Value) (wc wc' : va_W) (res : Option Value) (mc ms : Nat) : Prop :=
  ∀ sz : Nat, Met l y ws rm (va_Pc av (fun U => U.heap.size = sz ∧ va_P D vwCl wc U.heap ∧ va_K D vwCl (TYS cI cB cL cK) U ∧ va_D (fun _ => True) wc ∧ Z U)) (QM D res wc wc' sz) mc ms (va_A wc sz)
abbrev rmL_debtorA : Room := { frames := 4, cells := 0, slots := 0, locals := 91 }
abbrev rmL_debtorB : Room := { frames := 7, cells := 1, slots := 6, locals := 120 }
theorem cwL_debtorA {s : State} {args : Array Value} (hts : ∀ w ∈ wsL_debtorN, w.before args s = true) : CallW rmL_debtorA s args RL RX5 7 yX5_debtor cX5_debtor 3 (some .int) wsX5_debtorN rmX5_debtor 0 0 2 := cwV 2 hts gL_debtorN_X5_debtor rfl rfl rfl hdX5_debtor ⟨(Nat.le_of_ble_eq_true rfl), (Nat.le_of_ble_eq_true rfl)⟩
theorem cwL_debtorB {s : State} {args : Array Value} (hts : ∀ w ∈ wsL_debtorN, w.before args s = true) : CallW rmL_debtorB s args RL RX5 7 yX5_debtor cX5_debtor 3 (some .int) wsX5_debtorN rmX5_debtorB 1 6 2 := cwV 2 hts gL_debtorN_X5_debtor rfl rfl rfl hdX5_debtor ⟨(Nat.le_of_ble_eq_true rfl), (Nat.le_of_ble_eq_true rfl)⟩
set_option maxRecDepth 100000 in
set_option maxHeartbeats 4000000 in
theorem kL_debtorA {l : Launch} {D : va_G} {cI cB cL cK : ClassId} {ha : Nat} {a : Nat} {b : Nat} {ad : Nat → Nat} {pa : Nat → Nat} {hh : Nat} {hq : Nat} {kad : Nat → Nat → Nat} {ou : Nat} {lf : Int32} {us : Int32} {tf : Nat → Int32} {ho : Int32} {td : Int32} {pd : Int32} {sr : Int32} {dr : Int32} {ir : Int32} {qr : Int32} {sf : Nat → Int32} {df : Nat → Int32} {jf : Nat → Int32} {qf : Nat → Int32} {oho : Int32} {otd : Int32} {opd : Int32} {osr : Int32} {odr : Int32} {oir : Int32} {oqr : Int32} {osf : Nat → Int32} {odf : Nat → Int32} {ojf : Nat → Int32} {oqf : Nat → Int32} {ct : Int32} {tpp : Int32} {kv : Nat → BV} {ofn : Nat → Int64} {p1 p2 res : Int32} (hm : mX5_debtor sr dr ir qr df jf qf p1 p2 = some res) : MuG l D cI cB cL cK (fun _ => True) yL_debtor wsL_debtorN rmL_debtorA [.ref ha, .int p1, .int p2, .ref ou] (wHO cI cB cL cK ha a b ad pa hh hq kad ou lf us tf ho td pd sr dr ir qr sf df jf qf oho otd opd osr odr oir oqr osf odf ojf oqf ct tpp kv ofn) (wHO cI cB cL cK ha a b ad pa hh hq kad ou lf us tf ho td pd sr dr ir qr sf df jf qf oho otd opd osr odr oir oqr osf odf ojf oqf ct tpp kv (vp_updL ofn 0 res.toInt64)) (some (.int 0)) 0 0 := by
  intro sz
  refine va_MetW (cc := cL_debtor) (maxL := 5) (ret := some .int) (hh := [(0, 10, 13, 13)]) (by decide) rfl ?_
  intro p e s m args below meth c s₁ B hml hv
  obtain ⟨rfl, hsz, hP, hK, hD0, hZ⟩ := hv
  subst hsz
  have hts := atoms_spec (ws := wsL_debtorN) B.pre
  have hown : s.vm.findClass RL = some m.cls := findClass_of_methodNamed B.named
  have hl := lv_entry [.ref ha, .int p1, .int p2, .ref ou] (n := 5) (Nat.le_of_ble_eq_true rfl)
  rw [lg_entry_eq]
  generalize (lg_sl ([.ref ha, .int p1, .int p2, .ref ou]) ++ List.replicate (5 - (lg_sl ([.ref ha, .int p1, .int p2, .ref ou])).length) Slot.unset).toArray = ls at hl ⊢
  have hl : lv_has ls 5 [(0, .ref ha), (1, .int p1), (2, .int p2), (3, .ref ou)] := hl
  have hlk := B.notSynchronized
  have hx := B.exec
  have hb := B.bytes
  have hr := B.returns
  have hcf : CallFix p m c cL_debtor 5 s _ wsL_debtorN RL := ⟨hx, hb, hml, hown, hts⟩
  have hD := hD0.self (sz := s.heap.size)
  have hS : va_S (va_A (wHO cI cB cL cK ha a b ad pa hh hq kad ou lf us tf ho td pd sr dr ir qr sf df jf qf oho otd opd osr odr oir oqr osf odf ojf oqf ct tpp kv ofn) s.heap.size) s.heap s.heap [] := va_S.rf
  refine lv_aload_n hx hb dL_debtor_0 rfl (lv_at hl 3 rfl) ?_
  refine lv_iconst (v := 0) hx hb dL_debtor_1 (by decide) ?_
  refine lv_aload_n hx hb dL_debtor_2 rfl (lv_at hl 0 rfl) ?_
  refine lv_iload_n hx hb dL_debtor_3 rfl (lv_at hl 1 rfl) ?_
  refine lv_iload_n hx hb dL_debtor_4 rfl (lv_at hl 2 rfl) ?_
  refine rd_v hcf (kX5_debtor hm) (cwL_debtorA hts) hK hP sHO_x (ci := 5) (q0 := 0) rfl rfl rfl hl.1 rfl (Nat.le_of_ble_eq_true rfl) dL_debtor_5 ⟨Nat.zero_le _, Nat.zero_le _⟩ ?_
  refine lv_i2l (v := res.toInt64) hx hb dL_debtor_8 rfl ?_
  refine va_last (n := 1) hx hb hK hP hD hS 23 2 rfl rfl (inr_in (i := 0) (n := 1) (by decide)) dL_debtor_9 (fun H locs hP hD hS => ?_)
  have hP : va_P D vwCl (wHO cI cB cL cK ha a b ad pa hh hq kad ou lf us tf ho td pd sr dr ir qr sf df jf qf oho otd opd osr odr oir oqr osf odf ojf oqf ct tpp kv (vp_updL ofn 0 res.toInt64)) H := hP
  have hD : va_D (va_A (wHO cI cB cL cK ha a b ad pa hh hq kad ou lf us tf ho td pd sr dr ir qr sf df jf qf oho otd opd osr odr oir oqr osf odf ojf oqf ct tpp kv ofn) s.heap.size) (wHO cI cB cL cK ha a b ad pa hh hq kad ou lf us tf ho td pd sr dr ir qr sf df jf qf oho otd opd osr odr oir oqr osf odf ojf oqf ct tpp kv (vp_updL ofn 0 res.toInt64)) := hD
  refine lv_goto (tgt := 17) hx hb dL_debtor_10 (by decide) ?_
  refine lv_iconst (v := 0) hx hb dL_debtor_17 (by decide) ?_
  exact W.iret hx hb hr (fun t ht _ => ⟨rfl, by rw [ht]; exact hP, hD, hS.F ht⟩) hS.2.2 dL_debtor_18 hlk
theorem xl_1 : Cond.classLink RL 13 "java/util/NoSuchElementException" ∈ wsL_debtorN := by decide +kernel
set_option maxRecDepth 100000 in
set_option maxHeartbeats 4000000 in
theorem kL_debtorB {l : Launch} (htr : l.stackTraces = false) {D : va_G} {cI cB cL cK : ClassId} {ha : Nat} {a : Nat} {b : Nat} {ad : Nat → Nat} {pa : Nat → Nat} {hh : Nat} {hq : Nat} {kad : Nat → Nat → Nat} {ou : Nat} {lf : Int32} {us : Int32} {tf : Nat → Int32} {ho : Int32} {td : Int32} {pd : Int32} {sr : Int32} {dr : Int32} {ir : Int32} {qr : Int32} {sf : Nat → Int32} {df : Nat → Int32} {jf : Nat → Int32} {qf : Nat → Int32} {oho : Int32} {otd : Int32} {opd : Int32} {osr : Int32} {odr : Int32} {oir : Int32} {oqr : Int32} {osf : Nat → Int32} {odf : Nat → Int32} {ojf : Nat → Int32} {oqf : Nat → Int32} {ct : Int32} {tpp : Int32} {kv : Nat → BV} {ofn : Nat → Int64} {p1 p2 v : Int32} {qa qb : Nat} (hm : mX3_has dr p1 = some v) (hm2 : v = 0 ∨ (¬ v = 0 ∧ (p2.toInt < 0 ∨ 10 < p2.toInt))) : MuG l D cI cB cL cK (fun U => XZ qa qb NoA U U.heap) yL_debtor wsL_debtorN rmL_debtorB [.ref ha, .int p1, .int p2, .ref ou] (wHO cI cB cL cK ha a b ad pa hh hq kad ou lf us tf ho td pd sr dr ir qr sf df jf qf oho otd opd osr odr oir oqr osf odf ojf oqf ct tpp kv ofn) (wHO cI cB cL cK ha a b ad pa hh hq kad ou lf us tf ho td pd sr dr ir qr sf df jf qf oho otd opd osr odr oir oqr osf odf ojf oqf ct tpp kv ofn) (some (.int 1)) 1 6 := by
  intro sz
  refine va_MetW (cc := cL_debtor) (maxL := 5) (ret := some .int) (hh := [(0, 10, 13, 13)]) (by decide) rfl ?_
  intro p e s m args below meth c s₁ B hml hv
  obtain ⟨rfl, hsz, hP, hK, hD0, hZ⟩ := hv
  subst hsz
  have hts := atoms_spec (ws := wsL_debtorN) B.pre
  have hown : s.vm.findClass RL = some m.cls := findClass_of_methodNamed B.named
  have hl := lv_entry [.ref ha, .int p1, .int p2, .ref ou] (n := 5) (Nat.le_of_ble_eq_true rfl)
  rw [lg_entry_eq]
  generalize (lg_sl ([.ref ha, .int p1, .int p2, .ref ou]) ++ List.replicate (5 - (lg_sl ([.ref ha, .int p1, .int p2, .ref ou])).length) Slot.unset).toArray = ls at hl ⊢
  have hl : lv_has ls 5 [(0, .ref ha), (1, .int p1), (2, .int p2), (3, .ref ou)] := hl
  have hlk := B.notSynchronized
  have hx := B.exec
  have hb := B.bytes
  have hr := B.returns
  have hcf : CallFix p m c cL_debtor 5 s _ wsL_debtorN RL := ⟨hx, hb, hml, hown, hts⟩
  have hD := hD0.self (sz := s.heap.size)
  have hS : va_S (va_A (wHO cI cB cL cK ha a b ad pa hh hq kad ou lf us tf ho td pd sr dr ir qr sf df jf qf oho otd opd osr odr oir oqr osf odf ojf oqf ct tpp kv ofn) s.heap.size) s.heap s.heap [] := va_S.rf
  refine lv_aload_n hx hb dL_debtor_0 rfl (lv_at hl 3 rfl) ?_
  refine lv_iconst (v := 0) hx hb dL_debtor_1 (by decide) ?_
  refine lv_aload_n hx hb dL_debtor_2 rfl (lv_at hl 0 rfl) ?_
  refine lv_iload_n hx hb dL_debtor_3 rfl (lv_at hl 1 rfl) ?_
  refine lv_iload_n hx hb dL_debtor_4 rfl (lv_at hl 2 rfl) ?_
  have htb := vx_table (x := yL_debtor) B (hts (.codeWith yL_debtor cL_debtor 5 (some .int) [(0, 10, 13, 13)]) List.mem_cons_self)
  refine vx_calli (A0 := va_A (wHO cI cB cL cK ha a b ad pa hh hq kad ou lf us tf ho td pd sr dr ir qr sf df jf qf oho otd opd osr odr oir oqr osf odf ojf oqf ct tpp kv ofn) s.heap.size) (vx_runV (rest := [.int 0, .ref ou]) (As := [.int p1, .int p2]) hcf (kX5_debtorB htr hm hm2) (cwL_debtorB hts) ⟨fun a U g mk q => ⟨q.1, q.2.1, va_K.moved (u := U) (U := U.calling g mk a) (Vm.Alike.refl U.vm) q.2.2.1, XZ.same (u := U) (U := U.calling g mk a) rfl q.2.2.2⟩, va_recv hK hP (ci := 5) (q0 := 0) rfl rfl, fun U hU hW => ⟨rfl, by rw [hU]; exact hP.sb sHO_x, va_K.moved hW.alike hK, by rw [hU]; exact hZ.warm hW⟩⟩ rfl rfl hl.1 rfl (lv_room (Nat.le_of_ble_eq_true rfl)) dL_debtor_5 ⟨(Nat.le_of_ble_eq_true rfl), (Nat.le_of_ble_eq_true rfl)⟩) hS (fun _ _ h => h.elim) (fun _ h => h.elim) (fun _ _ h => h.elim) (fun E ce q9 u t H1 locs1 ht hvm _ hE hz hk hS hc9 hv9 hcl9 => ?_) (fun r u t H1 locs1 ht hvm hp _ _ _ _ => hp.elim)
  subst hE
  refine vx_catch hown [] { startPc := 0, endPc := 10, handlerPc := 13, catchType := 13 } [] htb (fun z h => by cases h) (by decide) (by decide) (hts _ xl_1) (hZ.2.2.2.1.use rfl) hc9 hv9 hcl9 ?_
  have hP1 : va_P D vwCl (wHO cI cB cL cK ha a b ad pa hh hq kad ou lf us tf ho td pd sr dr ir qr sf df jf qf oho otd opd osr odr oir oqr osf odf ojf oqf ct tpp kv ofn) H1 := va_P_mem.mpr (fun z hz => (va_P_mem.mp hP z hz).kept (hk z.1 (va_P_mem.mp hP z hz).lt (fun h => h.elim)))
  refine lv_astore (lv' := [(4, .ref q9), (0, .ref ha), (1, .int p1), (2, .int p2), (3, .ref ou)]) hx hb dL_debtor_13 hl (by decide) rfl (fun ls hl => ?_)
  refine lv_iconst (v := 1) hx hb dL_debtor_15 (by decide) ?_
  exact W.iret hx hb hr (fun t ht _ => ⟨rfl, by rw [ht]; exact hP1, hD, hS.F ht⟩) hS.2.2 dL_debtor_16 hlk
