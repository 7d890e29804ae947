/-! PURE: debtors, steps, the whole -/
section Whole2
variable {u : Nat} {tf tp : Nat → Int32}
abbrev RT : Type := Int32 × Int32 × Int32 × Int32 × Int32 × Int32 × Int32 × Int64 × Int32 × (Nat → Int32)
def tB (u : Nat) (tp : Nat → Int32) (x : Option RT) : Option RT :=
  b10 x fun v24 too25 frm26 srt27 num28 flt29 plc30 wrd31 lin32 rd33 => (if v24 = 0 then some ((0 : Int32), too25, frm26, srt27, num28, flt29, plc30, wrd31, lin32, rd33) else tC (mX6_readAll (nI u) too25 frm26 srt27 num28 flt29 plc30 wrd31 lin32 tp rd33 2))
def tA (u : Nat) (tp : Nat → Int32) (x : Option RT) : Option RT :=
  b10 x fun v1 too2 frm3 srt4 num5 flt6 plc7 wrd8 lin9 rd10 => (if v1 = 0 then some ((0 : Int32), too2, frm3, srt4, num5, flt6, plc7, wrd8, lin9, rd10) else b9 (mX6_readHold (nI u) too2 frm3 srt4 num5 flt6 plc7 wrd8 tp rd10) fun v13 too14 frm15 srt16 num17 flt18 plc19 wrd20 rd21 => (if v13 = 0 then some ((0 : Int32), too14, frm15, srt16, num17, flt18, plc19, wrd20, lin9, rd21) else tB u tp (mX6_readAll (nI u) too14 frm15 srt16 num17 flt18 plc19 wrd20 (lin9 + 1) tp rd21 1)))
theorem word_of (h : TB u tf tp) {p : Nat} {too frm srt num : Int32} {wrd : Int64} (hT : TK u tf tp p too frm srt num wrd) (kd0 bg0 vl0 : Int32) {w : Nat} (hw : w < 4) (hs : srt = 2 ∧ wrd = HH w) : ∃ kd vl q, q ≤ u ∧ too = nI q ∧ kd = 1 ∧ mX2_advance kd0 bg0 (nI p) vl0 (nI u) tf = some (kd, frm, nI q, vl) ∧ (∀ lt ft sr dr ir, mX2_takeSort kd frm (nI q) lt ft (nI u) tf sr dr ir = mX2_takeSort_b16 kd frm (nI q) (nI u) tf sr dr ir (nI w) lt ft) := by
  obtain ⟨kd, pt, vl, s, e, ts, hc⟩ := tok_s h hT kd0 bg0 vl0
  rcases hc with ⟨-, -, k0⟩ | ⟨-, -, -, kw⟩ | ⟨w', q, hw', s1, k1, k2, kw, hq, kp, kt⟩
  · exact absurd (k0.symm.trans hs.1) (by decide)
  · exact absurd hs (kw w hw)
  · have ew : w' = w := congrArg Fin.val (HH_inj ⟨w', hw'⟩ ⟨w, hw⟩ (kw.symm.trans hs.2))
    subst ew
    subst kp
    exact ⟨kd, vl, q, hq, kt, k1, e, fun lt ft sr dr ir => by rw [ts, s1]⟩
theorem phB (h : TB u tf tp) {qf : Nat → Int32} : ∀ (k k' : Nat) {p ns nd lines : Nat} {sf df jf rd : Nat → Int32} {too frm srt num lt kd bg vl flt plc : Int32} {wrd : Int64}, TK u tf tp p too frm srt num wrd → PS ns nd 0 sf df jf qf rd → lines = ns + 1 + nd → 20 < k + nd → 6 < k' + nd → (lt = 1 ∨ lt = 2) →
    OUT qf flt plc (mX2_read_L2 k (nI u) tf (nI lines) kd bg (nI p) vl lt 0 (rd 1) (nI ns) (nI nd) (nI 0) sf df jf) (tB u tp (mX6_readAll_L0 k' (nI u) tp 1 too frm srt num flt plc wrd (nI lines) rd)) := by
  intro k
  induction k with
  | zero => intro k' p ns nd lines sf df jf rd too frm srt num lt kd bg vl flt plc wrd hT hP hl h1 h2 hlt; have := hP.1.ld; omega
  | succ k ih =>
    intro k' p ns nd lines sf df jf rd too frm srt num lt kd bg vl flt plc wrd hT hP hl h1 h2 hlt
    have ld := hP.1.ld
    have ls := hP.1.ls
    obtain ⟨k', rfl⟩ : ∃ y, k' = y + 1 := ⟨k' - 1, by omega⟩
    by_cases hs : srt = 2 ∧ wrd = HH 2
    · obtain ⟨kd', vl', q, hq, kt, k1, e, ts⟩ := word_of h hT kd bg vl (by decide) hs
      rw [mX2_read_L2.eq_2, mX6_readAll_L0.eq_2, if_neg (show ¬ (25 : Int32) < nI lines from nI_nlt (a := 25) (by omega) (by decide)), e, b4_some, sort_1, b1_some, if_pos hs, if_neg n10, if_neg (show ¬ kd' = 4 by rw [k1]; decide), if_neg n10, if_pos rfl]
      unfold mX2_read_b30
      rw [ts]
      unfold mX2_takeSort_b16
      have km : mX2_mayComeNow lt (nI 2) = some 1 := by
        unfold mX2_mayComeNow
        rw [if_neg (show ¬ lt = 0 by rcases hlt with z | z <;> rw [z] <;> decide), if_neg (show ¬ lt = 3 by rcases hlt with z | z <;> rw [z] <;> decide), if_pos (show nI 2 = 2 from rfl)]
      have ka : mX2_hasAllOf (nI ns) (nI nd) (nI 0) (nI 2) = (if nI nd < 6 then some (0 : Int32) else some (1 : Int32)) := by
        unfold mX2_hasAllOf
        rw [if_neg (by decide), if_neg (by decide), if_pos (show nI 2 = 2 from rfl), size_eq, b1_some]
      rw [km, b1_some, if_neg n10, ka]
      by_cases n6 : nd < 6
      · rw [if_pos (show nI nd < 6 from nI_lt (b := 6) n6 (by decide)), b1_some, if_pos rfl, b2_some, if_pos rfl, kt]
        unfold mX2_read_b49
        rw [if_neg (by decide), if_neg (by decide), if_pos (show nI 2 = 2 from rfl)]
        rcases line_debtor (q := q) (frm := frm) (srt := srt) (num := num) (wrd := wrd) h hq hP n6 kd' frm vl' flt plc with ⟨q', kd2, bg2, vl2, too2, frm2, srt2, num2, wrd2, df2, rd2, g1, g2, g3, g4, g5, g6⟩ | ⟨f, kd2, b2, pt2, vl2, dr2, df2, too2, frm2, srt2, num2, wrd2, rd2, hf, g2, g3⟩
        · rw [g2, b7_some, g3, b9_some, if_neg n10]
          unfold mX2_read_b108 mX6_readAll_b46
          rw [if_pos rfl, nI_1, ← g6]
          exact ih k' g4 g5 (by omega) (by omega) (by omega) (Or.inr rfl)
        · rw [g2, b7_some, g3, b9_some, if_pos rfl]
          unfold mX2_read_b108 tB
          rw [if_neg hf, b10_some, if_pos rfl]
          exact Or.inr ⟨f, b2, _, _, _, _, _, _, _, _, _, _, _, _, _, _, _, _, _, _, hf, rfl, rfl⟩
      · have e6 : nd = 6 := by omega
        rw [if_neg (show ¬ nI nd < 6 from nI_nlt (b := 6) (by omega) (by omega)), b1_some, if_neg n10, b2_some, if_neg (by decide)]
        unfold mX2_read_b49 mX2_read_b108 mX6_readDebtor
        rw [if_neg (by decide), if_neg (by decide), if_neg (by decide), if_neg (by decide), if_neg (by decide), hP.1.h3, if_pos (show nI nd = 6 by rw [e6]; rfl), bad_n (show ¬ srt = 1 by rw [hs.1]; decide), b3_some, bz0, ck_true, b9_some, if_pos rfl]
        unfold tB
        rw [b10_some, if_pos rfl]
        exact Or.inr ⟨3, frm, _, _, _, _, _, _, _, _, _, _, _, _, _, _, _, _, _, _, by decide, rfl, rfl⟩
    · rw [mX6_readAll_L0.eq_2, sort_1, b1_some, if_neg hs, if_pos rfl]
      unfold tB mX6_readAll
      rw [b10_some, if_neg n10]
      exact phC h (k + 1) FU hT hP (by omega) (by omega) (by omega) (by unfold FU; omega) (Or.inr ⟨hlt, hs⟩)
theorem phA (h : TB u tf tp) {qf : Nat → Int32} : ∀ (k k' : Nat) {p ns : Nat} {ho : Int32} {sf df jf rd : Nat → Int32} {too frm srt num kd bg vl flt plc : Int32} {wrd : Int64}, TK u tf tp p too frm srt num wrd → PS ns 0 0 sf df jf qf rd → 30 < k + ns → 6 < k' + ns →
    OUT qf flt plc (mX2_read_L2 k (nI u) tf (nI ns) kd bg (nI p) vl 0 0 ho (nI ns) (nI 0) (nI 0) sf df jf) (tA u tp (mX6_readAll_L0 k' (nI u) tp 0 too frm srt num flt plc wrd (nI ns) rd)) := by
  intro k
  induction k with
  | zero => intro k' p ns ho sf df jf rd too frm srt num kd bg vl flt plc wrd hT hP h1 h2; have := hP.1.ls; omega
  | succ k ih =>
    intro k' p ns ho sf df jf rd too frm srt num kd bg vl flt plc wrd hT hP h1 h2
    have ls := hP.1.ls
    obtain ⟨k', rfl⟩ : ∃ y, k' = y + 1 := ⟨k' - 1, by omega⟩
    by_cases hs : srt = 2 ∧ wrd = HH 0
    · obtain ⟨kd', vl', q, hq, kt, k1, e, ts⟩ := word_of h hT kd bg vl (by decide) hs
      rw [mX2_read_L2.eq_2, mX6_readAll_L0.eq_2, if_neg (show ¬ (25 : Int32) < nI ns from nI_nlt (a := 25) (by omega) (by decide)), e, b4_some, sort_0, b1_some, if_pos hs, if_neg n10, if_neg (show ¬ kd' = 4 by rw [k1]; decide), if_pos rfl]
      unfold mX2_read_b30
      rw [ts]
      unfold mX2_takeSort_b16
      have km : mX2_mayComeNow 0 (nI 0) = some 1 := rfl
      have ka : mX2_hasAllOf (nI ns) (nI 0) (nI 0) (nI 0) = (if nI ns < 6 then some (0 : Int32) else some (1 : Int32)) := rfl
      rw [km, b1_some, if_neg n10, ka]
      by_cases n6 : ns < 6
      · rw [if_pos (show nI ns < 6 from nI_lt (b := 6) n6 (by decide)), b1_some, if_pos rfl, b2_some, if_pos rfl, kt]
        unfold mX2_read_b49
        rw [if_pos (show nI 0 = 0 from rfl)]
        rcases line_step (q := q) (frm := frm) (srt := srt) (num := num) (wrd := wrd) h hq hP n6 kd' frm vl' flt plc with ⟨q', kd2, bg2, vl2, too2, frm2, srt2, num2, wrd2, sf2, rd2, g1, g2, g3, g4, g5, g6⟩ | ⟨f, kd2, b2, pt2, vl2, sr2, sf2, too2, frm2, srt2, num2, wrd2, rd2, hf, g2, g3⟩
        · rw [g2, b7_some, g3, b9_some, if_neg n10]
          unfold mX2_read_b108 mX6_readAll_b46
          rw [if_pos rfl, nI_1]
          exact ih k' g4 g5 (by omega) (by omega)
        · rw [g2, b7_some, g3, b9_some, if_pos rfl]
          unfold mX2_read_b108 tA
          rw [if_neg hf, b10_some, if_pos rfl]
          exact Or.inr ⟨f, b2, _, _, _, _, _, _, _, _, _, _, _, _, _, _, _, _, _, _, hf, rfl, rfl⟩
      · have e6 : ns = 6 := by omega
        rw [if_neg (show ¬ nI ns < 6 from nI_nlt (b := 6) (by omega) (by omega)), b1_some, if_neg n10, b2_some, if_neg (by decide)]
        unfold mX2_read_b49 mX2_read_b108 mX6_readStep
        rw [if_neg (by decide), if_neg (by decide), if_neg (by decide), if_neg (by decide), if_neg (by decide), hP.1.h2, if_pos (show nI ns = 6 by rw [e6]; rfl), bad_n (show ¬ srt = 1 by rw [hs.1]; decide), b3_some, bz0, ck_true, b9_some, if_pos rfl]
        unfold tA
        rw [b10_some, if_pos rfl]
        exact Or.inr ⟨3, frm, _, _, _, _, _, _, _, _, _, _, _, _, _, _, _, _, _, _, by decide, rfl, rfl⟩
    · rw [mX6_readAll_L0.eq_2, sort_0, b1_some, if_neg hs, if_pos rfl]
      unfold tA
      rw [b10_some, if_neg n10]
      by_cases hh : srt = 2 ∧ wrd = HH 1
      · obtain ⟨kd', vl', q, hq, kt, k1, e, ts⟩ := word_of h hT kd bg vl (by decide) hh
        rw [mX2_read_L2.eq_2, if_neg (show ¬ (25 : Int32) < nI ns from nI_nlt (a := 25) (by omega) (by decide)), e, b4_some, if_neg (show ¬ kd' = 4 by rw [k1]; decide)]
        unfold mX2_read_b30
        rw [ts, kt]
        unfold mX2_takeSort_b16
        rw [show mX2_mayComeNow 0 (nI 1) = some 1 from rfl, b1_some, if_neg n10, show mX2_hasAllOf (nI ns) (nI 0) (nI 0) (nI 1) = some 0 from rfl, b1_some, if_pos rfl, b2_some, if_pos rfl]
        unfold mX2_read_b49
        rw [if_neg (show ¬ nI 1 = 0 by decide), if_pos (show nI 1 = 1 from rfl)]
        rcases line_hold (q := q) (frm := frm) (srt := srt) (num := num) (wrd := wrd) (ho := ho) h hq hP hh.1 hh.2 kd' frm vl' flt plc with ⟨q', kd2, bg2, vl2, too2, frm2, srt2, num2, wrd2, rd2, g1, g2, g3, g4, g5⟩ | ⟨f, kd2, b2, pt2, vl2, ho2, too2, frm2, srt2, num2, wrd2, rd2, hf, g2, g3⟩
        · rw [g2, b6_some, g3, b9_some, if_neg n10]
          unfold mX2_read_b108 mX6_readAll
          rw [if_pos rfl, nI_1]
          exact phB h k FU g4 g5 (by omega) (by omega) (by unfold FU; omega) (Or.inl rfl)
        · rw [g2, b6_some, g3, b9_some, if_pos rfl]
          unfold mX2_read_b108
          rw [if_neg hf]
          exact Or.inr ⟨f, b2, _, _, _, _, _, _, _, _, _, _, _, _, _, _, _, _, _, _, hf, rfl, rfl⟩
      · -- neither
        obtain ⟨kd', pt, vl', s, e, ts, hc⟩ := tok_s h hT kd bg vl
        have km : mX2_mayComeNow 0 s = some 0 := by
          rcases hc with ⟨s1, -⟩ | ⟨s1, -⟩ | ⟨w, q, hw, s1, k1, k2, kw, -⟩
          · rw [s1]; rfl
          · rw [s1]; rfl
          · have w0 : w ≠ 0 := fun y => hs ⟨k2, by rw [kw, y]⟩
            have w1 : w ≠ 1 := fun y => hh ⟨k2, by rw [kw, y]⟩
            unfold mX2_mayComeNow
            rw [if_pos rfl, s1, if_neg (nI_ne0 (by omega) (by omega)), if_neg (show ¬ nI w = 1 from fun y => w1 ((nI_eq (b := 1) (by omega) (by decide)).mp y))]
        have cl : mX2_read_L2 (k + 1) (nI u) tf (nI ns) kd bg (nI p) vl 0 0 ho (nI ns) (nI 0) (nI 0) sf df jf = some (-1 - frm, kd', frm, pt, vl', 0, 1, ho, nI ns, nI 0, nI 0, sf, df, jf) := by
          rw [mX2_read_L2.eq_2, if_neg (show ¬ (25 : Int32) < nI ns from nI_nlt (a := 25) (by omega) (by decide)), e, b4_some]
          unfold mX2_read_b30
          rw [ts]
          unfold mX2_takeSort_b16
          rw [km, b1_some, if_pos rfl, b2_some, if_neg n10, if_pos (show (0 : Int32) < 1 by decide)]
          unfold mX2_read_b49 mX2_read_b108
          rw [if_neg (show ¬ (-1 : Int32) = 0 by decide), if_neg (show ¬ (-1 : Int32) = 1 by decide), if_neg (show ¬ (-1 : Int32) = 2 by decide), if_neg (show ¬ (-1 : Int32) = 3 by decide), if_neg n10]
          split <;> rfl
        rw [cl]
        unfold mX6_readHold
        rw [h_1, b1_some, isW, if_neg hh, b1_some, if_pos rfl, bad_1 (Or.inr rfl), b3_some, bz0, ck_true, b9_some, if_pos rfl]
        exact Or.inr ⟨1, frm, _, _, _, _, _, _, _, _, _, _, _, _, _, _, _, _, _, _, by decide, rfl, rfl⟩
end Whole2
