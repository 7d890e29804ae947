/-! PURE: a whole text -/
section Whole
variable {u : Nat} {tf tp : Nat → Int32}
/-- the token at p, and the sort of line that it begins -/
theorem tok_s (h : TB u tf tp) {p : Nat} {too frm srt num : Int32} {wrd : Int64} (hT : TK u tf tp p too frm srt num wrd) (kd0 bg0 vl0 : Int32) : ∃ kd pt vl s, mX2_advance kd0 bg0 (nI p) vl0 (nI u) tf = some (kd, frm, pt, vl) ∧ (∀ lt ft sr dr ir, mX2_takeSort kd frm pt lt ft (nI u) tf sr dr ir = mX2_takeSort_b16 kd frm pt (nI u) tf sr dr ir s lt ft) ∧
    ((s = -1 ∧ kd = 4 ∧ srt = 0) ∨ (s = -1 ∧ ¬ kd = 4 ∧ ¬ srt = 0 ∧ ∀ w, w < 4 → ¬ (srt = 2 ∧ wrd = HH w)) ∨ (∃ w q, w < 4 ∧ s = nI w ∧ kd = 1 ∧ srt = 2 ∧ wrd = HH w ∧ q ≤ u ∧ pt = nI q ∧ too = nI q)) := by
  obtain ⟨kd, pt, vl, e, hk⟩ := hT kd0 bg0 vl0
  have other : ¬ kd = 1 → ∀ lt ft sr dr ir, mX2_takeSort kd frm pt lt ft (nI u) tf sr dr ir = mX2_takeSort_b16 kd frm pt (nI u) tf sr dr ir (-1) lt ft := fun k1 lt ft sr dr ir => by
    unfold mX2_takeSort
    rw [if_neg k1]
  rcases hk with ⟨k1, k2⟩ | ⟨k1, k2⟩ | ⟨k1, k2, -⟩ | ⟨k1, k2, -⟩ | ⟨k1, k2, b, q, k3, k4, k5, k6, k7, k8, k9⟩
  · exact ⟨kd, pt, vl, -1, e, other (by rw [k1]; decide), Or.inr (Or.inl ⟨rfl, by rw [k1]; decide, by rw [k2]; decide, fun w _ z => absurd (k2.symm.trans z.1) (by decide)⟩)⟩
  · exact ⟨kd, pt, vl, -1, e, other (by rw [k1]; decide), Or.inl ⟨rfl, k1, k2⟩⟩
  · exact ⟨kd, pt, vl, -1, e, other (by rw [k1]; decide), Or.inr (Or.inl ⟨rfl, by rw [k1]; decide, by rw [k2]; decide, fun w _ z => absurd (k2.symm.trans z.1) (by decide)⟩)⟩
  · exact ⟨kd, pt, vl, -1, e, other (by rw [k1]; decide), Or.inr (Or.inl ⟨rfl, by rw [k1]; decide, by rw [k2]; decide, fun w _ z => absurd (k2.symm.trans z.1) (by decide)⟩)⟩
  · obtain ⟨s, s1, s2⟩ := sortW h k4 k3 k8 k9
    have word : ∀ lt ft sr dr ir, mX2_takeSort kd frm pt lt ft (nI u) tf sr dr ir = mX2_takeSort_b16 kd frm pt (nI u) tf sr dr ir s lt ft := fun lt ft sr dr ir => by
      unfold mX2_takeSort
      rw [if_pos k1, k5, k6, s1, b1_some]
    refine ⟨kd, pt, vl, s, e, word, Or.inr ?_⟩
    rcases s2 with ⟨a, c⟩ | ⟨a, c⟩ | ⟨a, c⟩ | ⟨a, c⟩ | ⟨a, c0, c1, c2, c3⟩
    · exact Or.inr ⟨0, q, by decide, a, k1, k2, c, k3, k6, k7⟩
    · exact Or.inr ⟨1, q, by decide, a, k1, k2, c, k3, k6, k7⟩
    · exact Or.inr ⟨2, q, by decide, a, k1, k2, c, k3, k6, k7⟩
    · exact Or.inr ⟨3, q, by decide, a, k1, k2, c, k3, k6, k7⟩
    · refine Or.inl ⟨a, by rw [k1]; decide, by rw [k2]; decide, fun w hw z => ?_⟩
      have w4 : w = 0 ∨ w = 1 ∨ w = 2 ∨ w = 3 := by omega
      obtain ⟨-, z⟩ := z
      rcases w4 with y | y | y | y
      · rw [y] at z; exact c0 z
      · rw [y] at z; exact c1 z
      · rw [y] at z; exact c2 z
      · rw [y] at z; exact c3 z
theorem HH_inj : ∀ w v : Fin 4, HH w.val = HH v.val → w = v := by decide +kernel
/-- both took the text, or both hold the same fault -/
def OUT (qf : Nat → Int32) (flt plc : Int32) (cl : Option (Int32 × Int32 × Int32 × Int32 × Int32 × Int32 × Int32 × Int32 × Int32 × Int32 × Int32 × (Nat → Int32) × (Nat → Int32) × (Nat → Int32))) (rf : Option (Int32 × Int32 × Int32 × Int32 × Int32 × Int32 × Int32 × Int64 × Int32 × (Nat → Int32))) : Prop :=
  (∃ ns nd ni kd bg pt vl lt lin sf df jf rd too frm srt num wrd, cl = some (lin, kd, bg, pt, vl, lt, 0, rd 1, nI ns, nI nd, nI ni, sf, df, jf) ∧ rf = some (1, too, frm, srt, num, flt, plc, wrd, lin, rd) ∧ PS ns nd ni sf df jf qf rd)
  ∨ (∃ f b kd pt vl lt ho sr dr ir sf df jf too frm srt num wrd lin rd, ¬ f = 0 ∧ cl = some (-1 - b, kd, b, pt, vl, lt, f, ho, sr, dr, ir, sf, df, jf) ∧ rf = some (0, too, frm, srt, num, f, b, wrd, lin, rd))
/-- behind the invoices -/
def tC (x : Option (Int32 × Int32 × Int32 × Int32 × Int32 × Int32 × Int32 × Int64 × Int32 × (Nat → Int32))) : Option (Int32 × Int32 × Int32 × Int32 × Int32 × Int32 × Int32 × Int64 × Int32 × (Nat → Int32)) :=
  b10 x fun v36 too37 frm38 srt39 num40 flt41 plc42 wrd43 lin44 rd45 => (if v36 = 0 then some ((0 : Int32), too37, frm38, srt39, num40, flt41, plc42, wrd43, lin44, rd45) else (if srt39 = 0 then some ((1 : Int32), too37, frm38, srt39, num40, flt41, plc42, wrd43, lin44, rd45) else b3 (mX6_bad frm38 srt39 flt41 plc42 1) fun v49 flt50 plc51 => (if v49 = 0 then some ((0 : Int32), too37, frm38, srt39, num40, flt50, plc51, wrd43, lin44, rd45) else some ((1 : Int32), too37, frm38, srt39, num40, flt50, plc51, wrd43, lin44, rd45))))
theorem phC (h : TB u tf tp) {qf : Nat → Int32} : ∀ (k k' : Nat) {p ns nd ni lines : Nat} {sf df jf rd : Nat → Int32} {too frm srt num lt kd bg vl flt plc : Int32} {wrd : Int64}, TK u tf tp p too frm srt num wrd → PS ns nd ni sf df jf qf rd → ni ≤ 12 → lines = ns + 1 + nd + ni → 12 < k + ni → 12 < k' + ni → (lt = 3 ∨ ((lt = 1 ∨ lt = 2) ∧ ¬ (srt = 2 ∧ wrd = HH 2))) →
    OUT qf flt plc (mX2_read_L2 k (nI u) tf (nI lines) kd bg (nI p) vl lt 0 (rd 1) (nI ns) (nI nd) (nI ni) sf df jf) (tC (mX6_readAll_L0 k' (nI u) tp 2 too frm srt num flt plc wrd (nI lines) rd)) := by
  intro k
  induction k with
  | zero => intro k' p ns nd ni lines sf df jf rd too frm srt num lt kd bg vl flt plc wrd hT hP hn hl h1 h2 hlt; omega
  | succ k ih =>
    intro k' p ns nd ni lines sf df jf rd too frm srt num lt kd bg vl flt plc wrd hT hP hn hl h1 h2 hlt
    obtain ⟨k', rfl⟩ : ∃ y, k' = y + 1 := ⟨k' - 1, by omega⟩
    have ld := hP.1.ld
    have ls := hP.1.ls
    have lt1 : ¬ lt < 1 := by rcases hlt with z | ⟨z | z, -⟩ <;> rw [z] <;> decide
    have lt0 : ¬ lt = 0 := by rcases hlt with z | ⟨z | z, -⟩ <;> rw [z] <;> decide
    obtain ⟨kd', pt, vl', s, e, ts, hc⟩ := tok_s h hT kd bg vl
    rw [mX2_read_L2.eq_2, mX6_readAll_L0.eq_2, if_neg (show ¬ (25 : Int32) < nI lines from nI_nlt (a := 25) (by omega) (by decide)), e, b4_some, sort_2, b1_some]
    -- no such line can come: a fault of kind 1
    have bad : ¬ kd' = 4 → ¬ srt = 0 → ¬ (srt = 2 ∧ wrd = HH 3) → mX2_mayComeNow lt s = some 0 → OUT qf flt plc (if kd' = 4 then (if lt < 1 then mX2_read_b30 (mX2_read_L2 k (nI u) tf) (nI u) tf (nI lines) kd' frm pt vl' lt 0 (rd 1) (nI ns) (nI nd) (nI ni) sf df jf else some (nI lines, kd', frm, pt, vl', lt, 0, rd 1, nI ns, nI nd, nI ni, sf, df, jf)) else mX2_read_b30 (mX2_read_L2 k (nI u) tf) (nI u) tf (nI lines) kd' frm pt vl' lt 0 (rd 1) (nI ns) (nI nd) (nI ni) sf df jf) (tC (if (if srt = 2 ∧ wrd = HH 3 then (1 : Int32) else 0) = 0 then some ((1 : Int32), too, frm, srt, num, flt, plc, wrd, nI lines, rd) else (if (2 : Int32) = 0 then b9 (mX6_readStep (nI u) too frm srt num flt plc wrd tp rd) fun v28 too29 frm30 srt31 num32 flt33 plc34 wrd35 rd36 => (if v28 = 0 then some ((0 : Int32), too29, frm30, srt31, num32, flt33, plc34, wrd35, nI lines, rd36) else mX6_readAll_b46 (mX6_readAll_L0 k' (nI u) tp) (nI u) tp 2 too29 frm30 srt31 num32 flt33 plc34 wrd35 (nI lines) rd36) else (if (2 : Int32) = 1 then b9 (mX6_readDebtor (nI u) too frm srt num flt plc wrd tp rd) fun v17 too18 frm19 srt20 num21 flt22 plc23 wrd24 rd25 => (if v17 = 0 then some ((0 : Int32), too18, frm19, srt20, num21, flt22, plc23, wrd24, nI lines, rd25) else mX6_readAll_b46 (mX6_readAll_L0 k' (nI u) tp) (nI u) tp 2 too18 frm19 srt20 num21 flt22 plc23 wrd24 (nI lines) rd25) else b9 (mX6_readInvoice (nI u) too frm srt num flt plc wrd tp rd) fun v6 too7 frm8 srt9 num10 flt11 plc12 wrd13 rd14 => (if v6 = 0 then some ((0 : Int32), too7, frm8, srt9, num10, flt11, plc12, wrd13, nI lines, rd14) else mX6_readAll_b46 (mX6_readAll_L0 k' (nI u) tp) (nI u) tp 2 too7 frm8 srt9 num10 flt11 plc12 wrd13 (nI lines) rd14))))) := fun k4 k0 k3 km => by
      rw [if_neg k4, if_neg k3, if_pos rfl]
      unfold mX2_read_b30 tC
      rw [ts, b10_some, if_neg n10, if_neg k0, bad_1 (Or.inr rfl), b3_some, if_pos rfl]
      unfold mX2_takeSort_b16
      rw [km, b1_some, if_pos rfl, b2_some, if_neg n10]
      unfold mX2_read_b49 mX2_read_b108
      rw [if_neg (by decide), if_neg (by decide), if_neg (by decide), if_neg (by decide), if_neg n10]
      exact Or.inr ⟨1, frm, _, _, _, _, _, _, _, _, _, _, _, _, _, _, _, _, _, _, by decide, rfl, rfl⟩
    rcases hc with ⟨s1, k4, k0⟩ | ⟨s1, k4, k0, kw⟩ | ⟨w, q, hw, s1, k1, k2, kw, hq, kp, kt⟩
    · -- the end
      rw [if_pos k4, if_neg lt1, if_neg (show ¬ (srt = 2 ∧ wrd = HH 3) from fun z => absurd (k0.symm.trans z.1) (by decide)), if_pos rfl]
      unfold tC
      rw [b10_some, if_neg n10, if_pos k0]
      exact Or.inl ⟨ns, nd, ni, _, _, _, _, _, _, _, _, _, rd, _, _, _, _, _, rfl, rfl, hP⟩
    · refine bad k4 k0 (kw 3 (by decide)) ?_
      unfold mX2_mayComeNow
      rw [s1, if_neg lt0]
      split <;> rfl
    · by_cases w3 : w = 3
      · subst w3
        rw [if_neg (show ¬ kd' = 4 by rw [k1]; decide), if_pos (show srt = 2 ∧ wrd = HH 3 from ⟨k2, kw⟩), if_neg n10, if_neg (show ¬ (2 : Int32) = 0 by decide), if_neg (show ¬ (2 : Int32) = 1 by decide)]
        unfold mX2_read_b30
        rw [ts]
        unfold mX2_takeSort_b16
        have km : mX2_mayComeNow lt s = some 1 := by
          unfold mX2_mayComeNow
          rw [s1, if_neg lt0]
          split <;> rfl
        have ka : mX2_hasAllOf (nI ns) (nI nd) (nI ni) s = (if nI ni < 12 then some (0 : Int32) else some (1 : Int32)) := by
          unfold mX2_hasAllOf
          rw [s1, if_neg (by decide), if_neg (by decide), if_neg (by decide), if_pos (show nI 3 = 3 from rfl), size_eq, b1_some]
        rw [km, b1_some, if_neg n10, ka]
        by_cases n12 : ni < 12
        · rw [if_pos (show nI ni < 12 from nI_lt (b := 12) n12 (by decide)), b1_some, if_pos rfl, b2_some, if_pos rfl, kp, kt]
          unfold mX2_read_b49
          rw [s1, if_neg (by decide), if_neg (by decide), if_neg (by decide), if_pos (show nI 3 = 3 from rfl)]
          rcases line_invoice (q := q) (frm := frm) (srt := srt) (num := num) (wrd := wrd) h hq hP n12 kd' frm vl' flt plc with ⟨q', kd2, bg2, vl2, too2, frm2, srt2, num2, wrd2, jf2, rd2, g1, g2, g3, g4, g5, g6⟩ | ⟨f, kd2, b2, pt2, vl2, ir2, jf2, too2, frm2, srt2, num2, wrd2, rd2, hf, g2, g3⟩
          · rw [g2, b7_some, g3, b9_some, if_neg n10]
            unfold mX2_read_b108 mX6_readAll_b46
            rw [if_pos rfl, nI_1, ← g6]
            exact ih k' g4 g5 (by omega) (by omega) (by omega) (by omega) (Or.inl rfl)
          · rw [g2, b7_some, g3, b9_some, if_pos rfl]
            unfold mX2_read_b108 tC
            rw [if_neg hf, b10_some, if_pos rfl]
            exact Or.inr ⟨f, b2, _, _, _, _, _, _, _, _, _, _, _, _, _, _, _, _, _, _, hf, rfl, rfl⟩
        · have e12 : ni = 12 := by omega
          rw [if_neg (show ¬ nI ni < 12 from nI_nlt (b := 12) (by omega) (by omega)), b1_some, if_neg n10, b2_some, if_neg (by decide)]
          unfold mX2_read_b49 mX2_read_b108 mX6_readInvoice
          rw [if_neg (by decide), if_neg (by decide), if_neg (by decide), if_neg (by decide), if_neg (by decide), hP.1.h4, if_pos (show nI ni = 12 by rw [e12]; rfl), bad_n (show ¬ srt = 1 by rw [k2]; decide), b3_some, bz0, ck_true, b9_some, if_pos rfl]
          unfold tC
          rw [b10_some, if_pos rfl]
          exact Or.inr ⟨3, frm, _, _, _, _, _, _, _, _, _, _, _, _, _, _, _, _, _, _, by decide, rfl, rfl⟩
      · refine bad (by rw [k1]; decide) (by rw [k2]; decide) (fun z => w3 ?_) ?_
        · have := HH_inj ⟨w, hw⟩ ⟨3, by decide⟩ (kw.symm.trans z.2)
          exact congrArg Fin.val this
        · unfold mX2_mayComeNow
          rw [if_neg lt0, s1]
          rcases hlt with z | ⟨z, z2⟩
          · rw [if_pos z, if_neg (show ¬ nI w = 3 from fun y => w3 ((nI_eq (b := 3) (by omega) (by decide)).mp y))]
          · have w2 : w ≠ 2 := fun y => z2 ⟨k2, by rw [kw, y]⟩
            rw [if_neg (show ¬ lt = 3 by rcases z with z | z <;> rw [z] <;> decide), if_neg (show ¬ nI w = 2 from fun y => w2 ((nI_eq (b := 2) (by omega) (by decide)).mp y)), if_neg (show ¬ nI w = 3 from fun y => w3 ((nI_eq (b := 3) (by omega) (by decide)).mp y))]
end Whole
