/-! PURE: lines -/
section Lines
variable {u q ns nd ni : Nat} {tf tp : Nat → Int32} {sf df jf qf rd : Nat → Int32} {too frm srt num : Int32} {wrd : Int64}
theorem bz1 : bz 1 = true := rfl
theorem bz0 : bz 0 = true := rfl
theorem line_step (h : TB u tf tp) (hq : q ≤ u) (hP : PS ns nd ni sf df jf qf rd) (hn : ns < 6) (kd bg vl flt plc : Int32) :
    (∃ q' kd' bg' vl' too' frm' srt' num' wrd' sf' rd', q' ≤ u ∧ mX2_readStep kd bg (nI q) vl 0 (nI u) tf (nI ns) sf = some (kd', bg', nI q', vl', 0, nI (ns + 1), sf') ∧ mX6_readStep (nI u) (nI q) frm srt num flt plc wrd tp rd = some (1, too', frm', srt', num', flt, plc, wrd', rd') ∧ TK u tf tp q' too' frm' srt' num' wrd' ∧ PS (ns + 1) nd ni sf' df jf qf rd' ∧ rd' 1 = rd 1)
    ∨ (∃ f kd' b' pt' vl' sr' sf' too' frm' srt' num' wrd' rd', ¬ f = 0 ∧ mX2_readStep kd bg (nI q) vl 0 (nI u) tf (nI ns) sf = some (kd', b', pt', vl', f, sr', sf') ∧ mX6_readStep (nI u) (nI q) frm srt num flt plc wrd tp rd = some (0, too', frm', srt', num', f, b', wrd', rd')) := by
  unfold mX2_readStep mX6_readStep
  have e2 : rd 2 = nI ns := hP.1.h2
  have i0 : ((7 : Int32) + 3 * nI ns) + 0 = nI (7 + 3 * ns + 0) := nI_lin 7 3 0 ns
  have i1 : ((7 : Int32) + 3 * nI ns) + 1 = nI (7 + 3 * ns + 1) := nI_lin 7 3 1 ns
  have i2 : ((7 : Int32) + 3 * nI ns) + 2 = nI (7 + 3 * ns + 2) := nI_lin 7 3 2 ns
  rw [e2, if_neg (show ¬ nI ns = 6 from fun z => by have := (nI_eq (b := 6) (by omega) (by decide)).mp z; omega), i0, i1, i2]
  obtain ⟨too1, frm1, srt1, num1, wrd1, g1, t1⟩ := lex h hq frm srt num wrd
  rw [g1, b5_some]
  rcases num_sim h t1 (a := 7 + 3 * ns + 0) (by omega) 1 99 kd bg vl flt plc rd with ⟨q1, v1, kd1, vl1, too2, frm2, srt2, num2, wrd2, l1, m1, lo1, hi1, c1, r1, t2⟩ | ⟨f, r0, kd1, pt1, vl1, hf, c1, r1⟩
  case inr =>
    rw [c1, b6_some, num_ft hf, b6_some, num_ft hf, b6_some, sem_ft hf, b6_some, if_pos rfl, r1, b9_some, if_pos rfl]
    exact Or.inr ⟨f, _, _, _, _, _, _, _, _, _, _, _, _, hf, rfl, rfl⟩
  rw [c1, b6_some, r1, b9_some, if_neg n10]
  rcases num_sim h t2 (a := 7 + 3 * ns + 1) (by omega) 0 99 kd1 frm1 vl1 flt plc (upd rd (7 + 3 * ns + 0) (nI v1)) with ⟨q2, v2, kd2, vl2, too3, frm3, srt3, num3, wrd3, l2, m2, lo2, hi2, c2, r2, t3⟩ | ⟨f, r0, kd2, pt2, vl2, hf, c2, r2⟩
  case inr =>
    rw [c2, b6_some, num_ft hf, b6_some, sem_ft hf, b6_some, if_pos rfl, r2, b9_some, if_pos rfl]
    exact Or.inr ⟨f, _, _, _, _, _, _, _, _, _, _, _, _, hf, rfl, rfl⟩
  rw [c2, b6_some, r2, b9_some, if_neg n10]
  rcases num_sim h t3 (a := 7 + 3 * ns + 2) (by omega) 0 999 kd2 frm2 vl2 flt plc (upd (upd rd (7 + 3 * ns + 0) (nI v1)) (7 + 3 * ns + 1) (nI v2)) with ⟨q3, v3, kd3, vl3, too4, frm4, srt4, num4, wrd4, l3, m3, lo3, hi3, c3, r3, t4⟩ | ⟨f, r0, kd3, pt3, vl3, hf, c3, r3⟩
  case inr =>
    rw [c3, b6_some, sem_ft hf, b6_some, if_pos rfl, r3, b9_some, if_pos rfl]
    exact Or.inr ⟨f, _, _, _, _, _, _, _, _, _, _, _, _, hf, rfl, rfl⟩
  rw [c3, b6_some, r3, b9_some, if_neg n10]
  rcases sem_sim h t4 kd3 frm3 vl3 flt plc with ⟨q4, kd4, vl4, too5, frm5, srt5, num5, wrd5, l4, c4, r4, t5⟩ | ⟨kd4, pt4, vl4, c4, r4⟩
  case inr =>
    rw [c4, b6_some, if_pos rfl, r4, b8_some, bz0, ck_true]
    exact Or.inr ⟨1, _, _, _, _, _, _, _, _, _, _, _, _, by decide, rfl, rfl⟩
  have a1 : ns < ns + 1 := by omega
  have a2 : ns + 1 ≤ 6 := by omega
  have ec : (upd (upd (upd rd (7 + 3 * ns + 0) (nI v1)) (7 + 3 * ns + 1) (nI v2)) (7 + 3 * ns + 2) (nI v3)) 2 + 1 = nI (ns + 1) := by
    rw [upd_n (by omega), upd_n (by omega), upd_n (by omega), e2, nI_1]
  unfold mX0_addStep
  rw [c4, b6_some, if_neg n10, aS hn, b3_some, sS0 a1 a2, b1_some, sS1 a1 a2, b1_some, sS2 a1 a2, b1_some, b2_some, r4, b8_some, bz1, ck_true, ec]
  exact Or.inl ⟨q4, _, _, _, _, _, _, _, _, _, _, l4, rfl, rfl, t5, hP.step hn, by rw [upd_n (by omega), upd_n (by omega), upd_n (by omega), upd_n (by omega)]⟩
theorem line_hold (h : TB u tf tp) (hq : q ≤ u) (hP : PS ns nd ni sf df jf qf rd) {ho : Int32} (hs : srt = 2) (hw : wrd = HH 1) (kd bg vl flt plc : Int32) :
    (∃ q' kd' bg' vl' too' frm' srt' num' wrd' rd', q' ≤ u ∧ mX2_readHold kd bg (nI q) vl 0 (nI u) tf ho = some (kd', bg', nI q', vl', 0, rd' 1) ∧ mX6_readHold (nI u) (nI q) frm srt num flt plc wrd tp rd = some (1, too', frm', srt', num', flt, plc, wrd', rd') ∧ TK u tf tp q' too' frm' srt' num' wrd' ∧ PS ns nd ni sf df jf qf rd')
    ∨ (∃ f kd' b' pt' vl' ho' too' frm' srt' num' wrd' rd', ¬ f = 0 ∧ mX2_readHold kd bg (nI q) vl 0 (nI u) tf ho = some (kd', b', pt', vl', f, ho') ∧ mX6_readHold (nI u) (nI q) frm srt num flt plc wrd tp rd = some (0, too', frm', srt', num', f, b', wrd', rd')) := by
  unfold mX2_readHold mX6_readHold
  rw [h_1, b1_some, isW, if_pos ⟨hs, hw⟩, b1_some, if_neg n10]
  obtain ⟨too1, frm1, srt1, num1, wrd1, g1, t1⟩ := lex h hq frm srt num wrd
  rw [g1, b5_some]
  rcases num_sim h t1 (a := 1) (by omega) 1 9 kd bg vl flt plc rd with ⟨q1, v1, kd1, vl1, too2, frm2, srt2, num2, wrd2, l1, m1, lo1, hi1, c1, r1, t2⟩ | ⟨f, r0, kd1, pt1, vl1, hf, c1, r1⟩
  case inr =>
    rw [c1, b6_some, sem_ft hf, b6_some, if_pos rfl, show mX6_told (nI u) too1 frm1 srt1 num1 flt plc wrd1 tp rd 1 1 9 = _ from r1, b9_some, if_pos rfl]
    exact Or.inr ⟨f, _, _, _, _, _, _, _, _, _, _, _, hf, rfl, rfl⟩
  rw [c1, b6_some, show mX6_told (nI u) too1 frm1 srt1 num1 flt plc wrd1 tp rd 1 1 9 = _ from r1, b9_some, if_neg n10]
  rcases sem_sim h t2 kd1 frm1 vl1 flt plc with ⟨q2, kd2, vl2, too3, frm3, srt3, num3, wrd3, l2, c2, r2, t3⟩ | ⟨kd2, pt2, vl2, c2, r2⟩
  case inr =>
    rw [c2, b6_some, if_pos rfl, r2, b8_some, if_pos rfl]
    exact Or.inr ⟨1, _, _, _, _, _, _, _, _, _, _, _, by decide, rfl, rfl⟩
  rw [c2, b6_some, if_neg n10, r2, b8_some, if_neg n10]
  exact Or.inl ⟨q2, _, _, _, _, _, _, _, _, (upd rd (1) (nI v1)), l2, by rw [upd_s], rfl, t3, hP.hold⟩
theorem line_debtor (h : TB u tf tp) (hq : q ≤ u) (hP : PS ns nd ni sf df jf qf rd) (hn : nd < 6) (kd bg vl flt plc : Int32) :
    (∃ q' kd' bg' vl' too' frm' srt' num' wrd' df' rd', q' ≤ u ∧ mX2_readDebtor kd bg (nI q) vl 0 (nI u) tf (nI nd) df = some (kd', bg', nI q', vl', 0, nI (nd + 1), df') ∧ mX6_readDebtor (nI u) (nI q) frm srt num flt plc wrd tp rd = some (1, too', frm', srt', num', flt, plc, wrd', rd') ∧ TK u tf tp q' too' frm' srt' num' wrd' ∧ PS ns (nd + 1) ni sf df' jf qf rd' ∧ rd' 1 = rd 1)
    ∨ (∃ f kd' b' pt' vl' dr' df' too' frm' srt' num' wrd' rd', ¬ f = 0 ∧ mX2_readDebtor kd bg (nI q) vl 0 (nI u) tf (nI nd) df = some (kd', b', pt', vl', f, dr', df') ∧ mX6_readDebtor (nI u) (nI q) frm srt num flt plc wrd tp rd = some (0, too', frm', srt', num', f, b', wrd', rd')) := by
  unfold mX2_readDebtor mX6_readDebtor
  have e2 : rd 3 = nI nd := hP.1.h3
  have i0 : ((25 : Int32) + 30 * nI nd) + 0 = nI (25 + 30 * nd + 0) := nI_lin 25 30 0 nd
  have i1 : ((25 : Int32) + 30 * nI nd) + 1 = nI (25 + 30 * nd + 1) := nI_lin 25 30 1 nd
  rw [e2, if_neg (show ¬ nI nd = 6 from fun z => by have := (nI_eq (b := 6) (by omega) (by decide)).mp z; omega), i0, i1]
  obtain ⟨too1, frm1, srt1, num1, wrd1, g1, t1⟩ := lex h hq frm srt num wrd
  rw [g1, b5_some]
  rcases num_sim h t1 (a := 25 + 30 * nd + 0) (by omega) 0 9999 kd bg vl flt plc rd with ⟨q1, v1, kd1, vl1, too2, frm2, srt2, num2, wrd2, l1, m1, lo1, hi1, c1, r1, t2⟩ | ⟨f, r0, kd1, pt1, vl1, hf, c1, r1⟩
  case inr =>
    rw [c1, b6_some, num_ft hf, b6_some, sem_ft hf, b6_some, if_pos rfl, r1, b9_some, if_pos rfl]
    exact Or.inr ⟨f, _, _, _, _, _, _, _, _, _, _, _, _, hf, rfl, rfl⟩
  rw [c1, b6_some, r1, b9_some, if_neg n10]
  rcases num_sim h t2 (a := 25 + 30 * nd + 1) (by omega) 0 99 kd1 frm1 vl1 flt plc (upd rd (25 + 30 * nd + 0) (nI v1)) with ⟨q2, v2, kd2, vl2, too3, frm3, srt3, num3, wrd3, l2, m2, lo2, hi2, c2, r2, t3⟩ | ⟨f, r0, kd2, pt2, vl2, hf, c2, r2⟩
  case inr =>
    rw [c2, b6_some, sem_ft hf, b6_some, if_pos rfl, r2, b9_some, if_pos rfl]
    exact Or.inr ⟨f, _, _, _, _, _, _, _, _, _, _, _, _, hf, rfl, rfl⟩
  rw [c2, b6_some, r2, b9_some, if_neg n10]
  rcases sem_sim h t3 kd2 frm2 vl2 flt plc with ⟨q3, kd3, vl3, too4, frm4, srt4, num4, wrd4, l3, c3, r3, t4⟩ | ⟨kd3, pt3, vl3, c3, r3⟩
  case inr =>
    rw [c3, b6_some, if_pos rfl, r3, b8_some, bz0, ck_true]
    exact Or.inr ⟨1, _, _, _, _, _, _, _, _, _, _, _, _, by decide, rfl, rfl⟩
  have a1 : nd < nd + 1 := by omega
  have a2 : nd + 1 ≤ 6 := by omega
  have ec : (upd (upd rd (25 + 30 * nd + 0) (nI v1)) (25 + 30 * nd + 1) (nI v2)) 3 + 1 = nI (nd + 1) := by
    rw [upd_n (by omega), upd_n (by omega), e2, nI_1]
  unfold mX0_addDebtor
  rw [c3, b6_some, if_neg n10, aD hn, b3_some, sD0 a1 a2, b1_some, sD1 a1 a2, b1_some, b2_some, r3, b8_some, bz1, ck_true, ec]
  exact Or.inl ⟨q3, _, _, _, _, _, _, _, _, _, _, l3, rfl, rfl, t4, hP.debtor hn, by rw [upd_n (by omega), upd_n (by omega), upd_n (by omega)]⟩
theorem line_invoice (h : TB u tf tp) (hq : q ≤ u) (hP : PS ns nd ni sf df jf qf rd) (hn : ni < 12) (kd bg vl flt plc : Int32) :
    (∃ q' kd' bg' vl' too' frm' srt' num' wrd' jf' rd', q' ≤ u ∧ mX2_readInvoice kd bg (nI q) vl 0 (nI u) tf (nI nd) (nI ni) jf = some (kd', bg', nI q', vl', 0, nI (ni + 1), jf') ∧ mX6_readInvoice (nI u) (nI q) frm srt num flt plc wrd tp rd = some (1, too', frm', srt', num', flt, plc, wrd', rd') ∧ TK u tf tp q' too' frm' srt' num' wrd' ∧ PS ns nd (ni + 1) sf df jf' qf rd' ∧ rd' 1 = rd 1)
    ∨ (∃ f kd' b' pt' vl' ir' jf' too' frm' srt' num' wrd' rd', ¬ f = 0 ∧ mX2_readInvoice kd bg (nI q) vl 0 (nI u) tf (nI nd) (nI ni) jf = some (kd', b', pt', vl', f, ir', jf') ∧ mX6_readInvoice (nI u) (nI q) frm srt num flt plc wrd tp rd = some (0, too', frm', srt', num', f, b', wrd', rd')) := by
  unfold mX2_readInvoice mX6_readInvoice
  have e2 : rd 4 = nI ni := hP.1.h4
  have e3 : rd 3 = nI nd := hP.1.h3
  have ld := hP.1.ld
  have i0 : ((205 : Int32) + 7 * nI ni) + 0 = nI (205 + 7 * ni + 0) := nI_lin 205 7 0 ni
  have i1 : ((205 : Int32) + 7 * nI ni) + 1 = nI (205 + 7 * ni + 1) := nI_lin 205 7 1 ni
  have i2 : ((205 : Int32) + 7 * nI ni) + 2 = nI (205 + 7 * ni + 2) := nI_lin 205 7 2 ni
  have i3 : ((205 : Int32) + 7 * nI ni) + 3 = nI (205 + 7 * ni + 3) := nI_lin 205 7 3 ni
  rw [e2, e3, if_neg (show ¬ nI ni = 12 from fun z => by have := (nI_eq (b := 12) (by omega) (by decide)).mp z; omega), i0, i1, i2, i3, size_eq, b1_some]
  obtain ⟨too1, frm1, srt1, num1, wrd1, g1, t1⟩ := lex h hq frm srt num wrd
  rw [g1, b5_some]
  rcases num_sim h t1 (a := 205 + 7 * ni + 0) (by omega) 0 (nI nd - 1) kd bg vl flt plc rd with ⟨q1, v1, kd1, vl1, too2, frm2, srt2, num2, wrd2, l1, m1, lo1, hi1, c1, r1, t2⟩ | ⟨f, r0, kd1, pt1, vl1, hf, c1, r1⟩
  case inr =>
    rw [c1, b6_some, num_ft hf, b6_some, num_ft hf, b6_some, sem_ft hf, b6_some, if_pos rfl, r1, b9_some, if_pos rfl]
    exact Or.inr ⟨f, _, _, _, _, _, _, _, _, _, _, _, _, hf, rfl, rfl⟩
  rw [c1, b6_some, r1, b9_some, if_neg n10]
  rcases num_sim h t2 (a := 205 + 7 * ni + 1) (by omega) 1 9999 kd1 frm1 vl1 flt plc (upd rd (205 + 7 * ni + 0) (nI v1)) with ⟨q2, v2, kd2, vl2, too3, frm3, srt3, num3, wrd3, l2, m2, lo2, hi2, c2, r2, t3⟩ | ⟨f, r0, kd2, pt2, vl2, hf, c2, r2⟩
  case inr =>
    rw [c2, b6_some, num_ft hf, b6_some, sem_ft hf, b6_some, if_pos rfl, r2, b9_some, if_pos rfl]
    exact Or.inr ⟨f, _, _, _, _, _, _, _, _, _, _, _, _, hf, rfl, rfl⟩
  rw [c2, b6_some, r2, b9_some, if_neg n10]
  rcases num_sim h t3 (a := 205 + 7 * ni + 3) (by omega) 0 99 kd2 frm2 vl2 flt plc (upd (upd rd (205 + 7 * ni + 0) (nI v1)) (205 + 7 * ni + 1) (nI v2)) with ⟨q3, v3, kd3, vl3, too4, frm4, srt4, num4, wrd4, l3, m3, lo3, hi3, c3, r3, t4⟩ | ⟨f, r0, kd3, pt3, vl3, hf, c3, r3⟩
  case inr =>
    rw [c3, b6_some, sem_ft hf, b6_some, if_pos rfl, r3, b9_some, if_pos rfl]
    exact Or.inr ⟨f, _, _, _, _, _, _, _, _, _, _, _, _, hf, rfl, rfl⟩
  rw [c3, b6_some, r3, b9_some, if_neg n10]
  rw [inr_nI (show 205 + 7 * ni + 1 < 785 by omega) (by decide), ck_true, inr_nI (show 205 + 7 * ni + 2 < 785 by omega) (by decide), ck_true]
  rcases sem_sim h t4 kd3 frm3 vl3 flt plc with ⟨q4, kd4, vl4, too5, frm5, srt5, num5, wrd5, l4, c4, r4, t5⟩ | ⟨kd4, pt4, vl4, c4, r4⟩
  case inr =>
    rw [c4, b6_some, if_pos rfl, r4, b8_some, bz0, ck_true]
    exact Or.inr ⟨1, _, _, _, _, _, _, _, _, _, _, _, _, by decide, rfl, rfl⟩
  have hd : v1 < nd := by
    rcases Nat.eq_zero_or_pos nd with z | z
    · rw [z] at hi1
      exact absurd (Int32.le_trans (nI_pos' (show v1 < 2 ^ 31 by omega)) hi1) (by decide)
    · obtain ⟨y, rfl⟩ : ∃ y, nd = y + 1 := ⟨nd - 1, by omega⟩
      rw [nI_pred] at hi1
      have := (nI_leI (by omega) (by omega)).mp hi1
      omega
  have hb : 0 ≤ nI v2 := nI_pos' (by omega)
  have es : (upd (upd (upd rd (205 + 7 * ni + 0) (nI v1)) (205 + 7 * ni + 1) (nI v2)) (205 + 7 * ni + 3) (nI v3)) (205 + 7 * ni + 1) = nI v2 := by rw [upd_n (by omega), upd_s]
  have ec : (upd (upd (upd (upd rd (205 + 7 * ni + 0) (nI v1)) (205 + 7 * ni + 1) (nI v2)) (205 + 7 * ni + 3) (nI v3)) (205 + 7 * ni + 2) (nI v2)) 4 + 1 = nI (ni + 1) := by
    rw [upd_n (by omega), upd_n (by omega), upd_n (by omega), upd_n (by omega), e2, nI_1]
  rw [c4, b6_some, if_neg n10, addInv_c (show ni < 60 by omega), b3_some, r4, b8_some, bz1, ck_true, nI_clamp (show 205 + 7 * ni + 1 < 2 ^ 31 by omega), nI_clamp (show 205 + 7 * ni + 2 < 2 ^ 31 by omega), es, ec]
  exact Or.inl ⟨q4, _, _, _, _, _, _, _, _, _, _, l4, rfl, rfl, t5, hP.invoice (show ni < 60 by omega) hd hb, by rw [upd_n (by omega), upd_n (by omega), upd_n (by omega), upd_n (by omega), upd_n (by omega)]⟩
end Lines
