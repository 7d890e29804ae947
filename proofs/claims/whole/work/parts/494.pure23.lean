/-! PURE: text() -/
section Text
variable {tp : Nat → Int32}
/-- behind the row of zeros -/
def tT (thr tpd siz too frm srt num flt plc : Int32) (wrd : Int64) (snm lin : Int32) (tp nw rd : Nat → Int32) : Option (Int32 × Int32 × Int32 × Int32 × Int32 × Int32 × Int32 × Int32 × Int32 × Int32 × Int64 × Int32 × Int32 × (Nat → Int32) × (Nat → Int32)) :=
  b5 (mX6_go siz too frm srt num wrd tp) fun too2 frm3 srt4 num5 wrd6 => b10 (mX6_readWhole siz too2 frm3 srt4 num5 flt plc wrd6 lin tp rd) fun v8 too9 frm10 srt11 num12 flt13 plc14 wrd15 lin16 rd17 => (if v8 = 0 then some (((-1) - plc14), thr, tpd, siz, too9, frm10, srt11, num12, flt13, plc14, wrd15, snm, lin16, nw, rd17) else mX6_text_L75 FU tp 0 thr tpd siz too9 frm10 srt11 num12 flt13 plc14 wrd15 snm lin16 nw rd17)
theorem zero_L {thr tpd siz too frm srt num flt plc snm lin : Int32} {wrd : Int64} {nw : Nat → Int32} : ∀ (k i : Nat) (rd : Nat → Int32), 785 < k + i → i ≤ 785 → (∀ j, j < i → rd j = 0) → ∃ rd', mX6_text_L35 k tp (nI i) thr tpd siz too frm srt num flt plc wrd snm lin nw rd = tT thr tpd siz too frm srt num flt plc wrd snm lin tp nw rd' ∧ ∀ j, j < 785 → rd' j = 0 := by
  intro k
  induction k with
  | zero => intro i rd h1 h2; omega
  | succ k ih =>
    intro i rd h1 h2 h3
    rw [mX6_text_L35.eq_2]
    by_cases e : i = 785
    · subst e
      rw [if_pos lim785']; exact ⟨rd, rfl, h3⟩
    · have hi : i < 785 := by omega
      rw [if_neg (lim785 hi), inr_nI hi (by decide), ck_true, nI_clamp (by omega), nI_1]
      refine ih (i + 1) _ (by omega) (by omega) (fun j hj => ?_)
      by_cases q : j = i
      · rw [q, upd_s]
      · rw [upd_n q]; exact h3 j (by omega)
theorem take_L {thr tpd siz too frm srt num flt plc snm lin : Int32} {wrd : Int64} {rd : Nat → Int32} : ∀ (k i : Nat) (nw : Nat → Int32), 785 < k + i → i ≤ 785 → (∀ j, j < i → nw j = rd j) → ∃ nw', mX6_text_L75 k tp (nI i) thr tpd siz too frm srt num flt plc wrd snm lin nw rd = some (lin, thr, tpd, siz, too, frm, srt, num, flt, plc, wrd, 0, lin, nw', rd) ∧ ∀ j, j < 785 → nw' j = rd j := by
  intro k
  induction k with
  | zero => intro i rd h1 h2; omega
  | succ k ih =>
    intro i nw h1 h2 h3
    rw [mX6_text_L75.eq_2]
    by_cases e : i = 785
    · subst e
      rw [if_pos lim785']; exact ⟨nw, rfl, h3⟩
    · have hi : i < 785 := by omega
      rw [if_neg (lim785 hi), inr_nI hi (by decide), ck_true, ck_true, nI_clamp (by omega), nI_1]
      refine ih (i + 1) _ (by omega) (by omega) (fun j hj => ?_)
      by_cases q : j = i
      · rw [q, upd_s]
      · rw [upd_n q]; exact h3 j (by omega)
theorem whole_eq {u : Nat} {too frm srt num flt plc lin : Int32} {wrd : Int64} {rd : Nat → Int32} : mX6_readWhole (nI u) too frm srt num flt plc wrd lin tp rd = tA u tp (mX6_readAll_L0 FU (nI u) tp 0 too frm srt num flt plc wrd lin rd) := by
  unfold mX6_readWhole tA tB tC mX6_readAll
  rfl
theorem PS.empty {sf df jf qf rd : Nat → Int32} (h : ∀ j, j < 785 → rd j = 0) : PS 0 0 0 sf df jf qf rd := by
  refine ⟨⟨⟨h 0 (by decide), rfl, h 2 (by decide), h 3 (by decide), h 4 (by decide), h 5 (by decide), h 6 (by decide), by decide, by decide, by decide, by decide, by decide⟩, fun i hi => by omega, fun i hi => by omega, fun i hi => by omega, fun i hi => by omega⟩, fun x _ x2 => h x (by omega), fun x _ x2 => h x (by omega)⟩
theorem act_text {ho td pd sr dr ir qr us tpd ct tpp snm thr siz too frm srt num flt plc lin oho otd opd osr odr oir oqr : Int32} {wrd : Int64} {sf df jf qf nw tf sn rd osf odf ojf oqf : Nat → Int32} {kv : Nat → BV} (hT : TP us tpd tf tp) (hB : BK ho td pd sr dr ir qr sf df jf qf nw) (hH : HI ct tpp kv snm sn) :
    ∃ oho1 otd1 opd1 osr1 odr1 oir1 oqr1 res kd2 bg2 pt2 vl2 lt2 ft2 oho2 osr2 odr2 oir2 osf2 odf2 ojf2 cr us' ho' td' pd' sr' dr' ir' qr' sf' df' jf' qf' ct' tpd' siz' too' frm' srt' num' plc' wrd' snm' lin' nw' rd',
      mX0_clear oho otd opd osr odr oir oqr = some (oho1, otd1, opd1, osr1, odr1, oir1, oqr1) ∧ mX2_read 0 0 0 0 0 0 us tf oho1 osr1 odr1 oir1 osf odf ojf = some (res, kd2, bg2, pt2, vl2, lt2, ft2, oho2, osr2, odr2, oir2, osf2, odf2, ojf2) ∧ mX4_cut us 0 = some (cr, us')
      ∧ ((ft2 = 0 ∧ mX0_copyFrom ho td pd sr dr ir qr sf df jf qf oho2 otd1 opd1 osr2 odr2 oir2 oqr1 osf2 odf2 ojf2 oqf = some (ho', td', pd', sr', dr', ir', qr', sf', df', jf', qf') ∧ ct' = 0) ∨ (¬ ft2 = 0 ∧ ho' = ho ∧ td' = td ∧ pd' = pd ∧ sr' = sr ∧ dr' = dr ∧ ir' = ir ∧ qr' = qr ∧ sf' = sf ∧ df' = df ∧ jf' = jf ∧ qf' = qf ∧ ct' = ct))
      ∧ mX6_text thr tpd siz too frm srt num flt plc wrd snm lin tp nw rd = some (res, 0, tpd', siz', too', frm', srt', num', ft2, plc', wrd', snm', lin', nw', rd')
      ∧ TP us' tpd' tf tp ∧ BK ho' td' pd' sr' dr' ir' qr' sf' df' jf' qf' nw' ∧ HI ct' tpp kv snm' sn := by
  obtain ⟨u, hu, rfl, rfl, hb⟩ := hT
  have hTB : TB u tf tp := ⟨hu, hb⟩
  obtain ⟨rd0, z1, z2⟩ := zero_L (tp := tp) (thr := 0) (tpd := 0) (siz := nI u) (too := 0) (frm := frm) (srt := srt) (num := num) (flt := 0) (plc := plc) (wrd := wrd) (snm := snm) (lin := 0) (nw := nw) FU 0 rd (by unfold FU; omega) (by omega) (fun j hj => by omega)
  obtain ⟨too1, frm1, srt1, num1, wrd1, g1, t1⟩ := lex hTB (Nat.zero_le u) frm srt num wrd
  rw [nI_0] at z1 g1
  have hO := phA hTB (qf := oqf) FU FU (p := 0) (ns := 0) (ho := 1) (sf := osf) (df := odf) (jf := ojf) (rd := rd0) (kd := 0) (bg := 0) (vl := 0) (flt := 0) (plc := plc) t1 (PS.empty z2) (by unfold FU; omega) (by unfold FU; omega)
  rw [nI_0] at hO
  have cut : mX4_cut (nI u) 0 = some (1, 0) := by
    unfold mX4_cut
    rw [if_neg (by decide), if_pos (nI_pos' (by omega))]
  have tp0 : TP 0 0 tf tp := ⟨0, by decide, rfl, rfl, fun i hi => by omega⟩
  have tx : ∀ r, tT 0 0 (nI u) 0 frm srt num 0 plc wrd snm 0 tp nw rd0 = r → mX6_text thr (nI u) siz too frm srt num flt plc wrd snm lin tp nw rd = r := fun r hr => by
    unfold mX6_text
    exact z1.trans hr
  rcases hO with ⟨ns, nd, ni, kd, bg, pt, vl, lt, ln, sf2, df2, jf2, rd2, too2, frm2, srt2, num2, wrd2, c1, r1, hP⟩ | ⟨f, b, kd, pt, vl, lt, ho2, sr2, dr2, ir2, sf2, df2, jf2, too2, frm2, srt2, num2, wrd2, ln, rd2, hf, c1, r1⟩
  · obtain ⟨nw', n1, n2⟩ := take_L (tp := tp) (thr := 0) (tpd := 0) (siz := nI u) (too := too2) (frm := frm2) (srt := srt2) (num := num2) (flt := 0) (plc := plc) (wrd := wrd2) (snm := snm) (lin := ln) (rd := rd2) FU 0 nw (by unfold FU; omega) (by omega) (fun j hj => by omega)
    rw [nI_0] at n1
    obtain ⟨sf3, df3, jf3, qf3, k1, k2⟩ := hP.1.copy (td := 0) (oho := ho) (otd := td) (opd := pd) (osr := sr) (odr := dr) (oir := ir) (oqr := qr) (osf := sf) (odf := df) (ojf := jf) (oqf := qf)
    rw [nI_0] at k1
    refine ⟨1, 0, 0, 0, 0, 0, 0, ln, kd, bg, pt, vl, lt, 0, rd2 1, nI ns, nI nd, nI ni, sf2, df2, jf2, 1, 0, rd2 1, 0, 0, nI ns, nI nd, nI ni, 0, sf3, df3, jf3, qf3, 0, 0, nI u, too2, frm2, srt2, num2, plc, wrd2, 0, ln, nw', rd2, rfl, c1, cut, Or.inl ⟨rfl, k1, rfl⟩, tx _ ?_, tp0, ⟨ns, nd, ni, 0, 0, by decide, rfl, rfl, rfl, rfl, rfl, k2.congrR n2⟩, ?_⟩
    · unfold tT
      rw [g1, b5_some, whole_eq, r1, b10_some, if_neg n10, n1]
    · obtain ⟨m, τ, hm, hτ, -, -, q3, -⟩ := hH
      exact ⟨0, τ, by decide, hτ, rfl, rfl, q3, fun j hj => by omega⟩
  · refine ⟨1, 0, 0, 0, 0, 0, 0, -1 - b, kd, b, pt, vl, lt, f, ho2, sr2, dr2, ir2, sf2, df2, jf2, 1, 0, ho, td, pd, sr, dr, ir, qr, sf, df, jf, qf, ct, 0, nI u, too2, frm2, srt2, num2, b, wrd2, snm, ln, nw, rd2, rfl, c1, cut, Or.inr ⟨hf, rfl, rfl, rfl, rfl, rfl, rfl, rfl, rfl, rfl, rfl, rfl, rfl⟩, tx _ ?_, tp0, hB, hH⟩
    unfold tT
    rw [g1, b5_some, whole_eq, r1, b10_some, if_pos rfl]
end Text
