/-! PURE: the house's acts, done by both -/
section Acts
variable {ho td pd sr dr ir qr : Int32} {sf df jf qf nw : Nat → Int32} {ct tpp snm thr : Int32} {kv : Nat → BV} {sn : Nat → Int32}
theorem sum_r {x : Int32} (b : Int32) : mX6_isIn x 1 b = some (if x < 1 then 0 else if b < x then 0 else 1) := isIn_ite
theorem act_bill {p1 p2 p3 : Int32} (hB : BK ho td pd sr dr ir qr sf df jf qf nw) (hH : HI ct tpp kv snm sn) : ∃ r ir' df' jf' ct' tpp' kv' snm' nw' sn', mX5_bill ho td pd sr dr ir qr sf df jf qf ct tpp kv p1 p2 p3 = some (r, ir', df', jf', ct', tpp', kv') ∧ mX6_bill thr snm nw sn p1 p2 p3 = some (r, 0, snm', nw', sn') ∧ BK ho td pd sr dr ir' qr sf df' jf' qf nw' ∧ HI ct' tpp' kv' snm' sn' := by
  obtain ⟨ns, nd, ni, no, t, ht, rfl, rfl, rfl, rfl, rfl, h⟩ := hB
  have li := h.li
  have hB : BK ho (nI t) pd (nI ns) (nI nd) (nI ni) (nI no) sf df jf qf nw := ⟨ns, nd, ni, no, t, ht, rfl, rfl, rfl, rfl, rfl, h⟩
  unfold mX5_bill mX6_bill
  rcases h.isD p1 with ⟨d, hd, rfl, e1, e2⟩ | ⟨e1, e2⟩
  · rw [e1, e2, b1_some, b1_some, if_neg n10, if_neg n10, sum_r]
    unfold mX5_isSum
    by_cases c1 : p2 < 1
    · rw [if_pos c1, if_pos c1, b1_some, b1_some, if_pos rfl, if_pos rfl]
      exact ⟨_, _, _, _, _, _, _, _, _, _, rfl, rfl, hB, hH⟩
    rw [if_neg c1, if_neg c1]
    by_cases c2 : 9999 < p2
    · rw [if_pos c2, if_pos c2, b1_some, b1_some, if_pos rfl, if_pos rfl]
      exact ⟨_, _, _, _, _, _, _, _, _, _, rfl, rfl, hB, hH⟩
    rw [if_neg c2, if_neg c2, b1_some, b1_some, if_neg n10, if_neg n10, isIn_ite]
    by_cases c3 : p3 < 0
    · rw [if_pos c3, if_pos c3, b1_some, if_pos rfl]
      exact ⟨_, _, _, _, _, _, _, _, _, _, rfl, rfl, hB, hH⟩
    rw [if_neg c3, if_neg c3]
    by_cases c4 : 99 < p3
    · rw [if_neg (Int32.not_le.mpr c4), if_pos c4, b1_some, if_pos rfl]
      exact ⟨_, _, _, _, _, _, _, _, _, _, rfl, rfl, hB, hH⟩
    rw [if_pos (Int32.not_lt.mp c4), if_neg c4, b1_some, if_neg n10, h.h4]
    by_cases c5 : ni = 60
    · have e60 : mX3_isFull 7 420 (nI ni) = some 1 := by rw [c5]; exact fJ1
      rw [e60, b1_some, if_neg n10, if_pos (show nI ni = 60 by rw [c5]; rfl)]
      exact ⟨_, _, _, _, _, _, _, _, _, _, rfl, rfl, hB, hH⟩
    have hlt : ni < 60 := by omega
    obtain ⟨ct', tpp', kv', snm', sn', k1, k2, k3⟩ := hH.keep h ht
    obtain ⟨jf1, df', jf', nw', g1, g2, g3, g4⟩ := h.bill hd hlt (b := p2) (c := nI t + p3) (e := 0) (Int32.le_trans (by decide : (0 : Int32) ≤ 1) (Int32.not_lt.mp c1))
    rw [fJ0 hlt, b1_some, if_pos rfl, if_neg (show ¬ nI ni = 60 from fun z => c5 ((nI_eq (b := 60) (by omega) (by decide)).mp z)), k1, b3_some, g1, b3_some, g2, b2_some, k2, b2_some, today_eq, b1_some, h.h0, g3, b2_some]
    exact ⟨_, _, _, _, _, _, _, _, _, _, rfl, rfl, ⟨ns, nd, ni + 1, no, t, ht, rfl, rfl, rfl, rfl, rfl, g4⟩, k3⟩
  · rw [e1, e2, b1_some, b1_some, if_pos rfl, if_pos rfl]
    exact ⟨_, _, _, _, _, _, _, _, _, _, rfl, rfl, hB, hH⟩
theorem may_pay {ns nd ni no t g : Nat} (h : RR ho pd sf df jf qf nw ns nd ni no t g) (p1 p2 : Int32) : (∃ d, d < nd ∧ p1 = nI d ∧ mX5_mayPay (nI nd) p1 p2 = some 1 ∧ mX6_canPay nw p1 p2 = some 1) ∨ (mX5_mayPay (nI nd) p1 p2 = some 0 ∧ mX6_canPay nw p1 p2 = some 0) := by
  unfold mX5_mayPay mX6_canPay
  rcases h.isD p1 with ⟨d, hd, rfl, e1, e2⟩ | ⟨e1, e2⟩
  · rw [e1, e2, b1_some, b1_some, if_neg n10, if_neg n10, sum_r]
    by_cases c1 : p2 < 1
    · rw [if_pos c1, if_pos c1, b1_some, if_pos rfl]; exact Or.inr ⟨rfl, rfl⟩
    rw [if_neg c1, if_neg c1]
    by_cases c2 : 99999 < p2
    · rw [if_pos c2, if_pos c2, b1_some, if_pos rfl]; exact Or.inr ⟨rfl, rfl⟩
    rw [if_neg c2, if_neg c2, b1_some, if_neg n10]; exact Or.inl ⟨d, hd, rfl, rfl, rfl⟩
  · rw [e1, e2, b1_some, b1_some, if_pos rfl, if_pos rfl]; exact Or.inr ⟨rfl, rfl⟩
theorem act_pay {p1 p2 : Int32} (hB : BK ho td pd sr dr ir qr sf df jf qf nw) (hH : HI ct tpp kv snm sn) : ∃ r pd' df' jf' qf' ct' tpp' kv' snm' nw' sn', mX5_pay ho td pd sr dr ir qr sf df jf qf ct tpp kv p1 p2 = some (r, pd', df', jf', qf', ct', tpp', kv') ∧ mX6_pay thr snm nw sn p1 p2 = some (r, 0, snm', nw', sn') ∧ BK ho td pd' sr dr ir qr sf df' jf' qf' nw' ∧ HI ct' tpp' kv' snm' sn' := by
  obtain ⟨ns, nd, ni, no, t, ht, rfl, rfl, rfl, rfl, rfl, h⟩ := hB
  have ld := h.ld
  have hB : BK ho (nI t) pd (nI ns) (nI nd) (nI ni) (nI no) sf df jf qf nw := ⟨ns, nd, ni, no, t, ht, rfl, rfl, rfl, rfl, rfl, h⟩
  unfold mX5_pay mX6_pay
  rcases may_pay h p1 p2 with ⟨d, hd, rfl, e1, e2⟩ | ⟨e1, e2⟩
  · obtain ⟨ct', tpp', kv', snm', sn', k1, k2, k3⟩ := hH.keep h ht
    obtain ⟨r, df', jf', qf', nw', g1, g2, g3⟩ := h.pay hd p2
    rw [e1, e2, b1_some, b1_some, if_neg n10, if_neg n10, k1, b3_some, k2, b2_some, g1, b5_some, g2, b2_some, gD2 hd ld, b1_some, it2 (show d < 6 by omega), b1_some, (g3.d hd).2.2.1]
    exact ⟨_, _, _, _, _, _, _, _, _, _, _, rfl, rfl, ⟨ns, nd, ni, no, t, ht, rfl, rfl, rfl, rfl, rfl, g3⟩, k3⟩
  · rw [e1, e2, b1_some, b1_some, if_pos rfl, if_pos rfl]
    exact ⟨_, _, _, _, _, _, _, _, _, _, _, rfl, rfl, hB, hH⟩
theorem act_dispute {p1 : Int32} (hB : BK ho td pd sr dr ir qr sf df jf qf nw) (hH : HI ct tpp kv snm sn) : ∃ r jf' ct' tpp' kv' snm' nw' sn', mX5_dispute ho td pd sr dr ir qr sf df jf qf ct tpp kv p1 = some (r, jf', ct', tpp', kv') ∧ mX6_dispute thr snm nw sn p1 = some (r, 0, snm', nw', sn') ∧ BK ho td pd sr dr ir qr sf df jf' qf nw' ∧ HI ct' tpp' kv' snm' sn' := by
  obtain ⟨ns, nd, ni, no, t, ht, rfl, rfl, rfl, rfl, rfl, h⟩ := hB
  have ld := h.ld
  have li := h.li
  have hB : BK ho (nI t) pd (nI ns) (nI nd) (nI ni) (nI no) sf df jf qf nw := ⟨ns, nd, ni, no, t, ht, rfl, rfl, rfl, rfl, rfl, h⟩
  unfold mX5_dispute mX6_dispute
  rcases h.isI p1 with ⟨i, hi, rfl, e1, e2⟩ | ⟨e1, e2, -⟩
  · obtain ⟨d, hd, ed⟩ := h.ofJ hi
    obtain ⟨-, -, b3, -, b5⟩ := h.2.2.2.1 i hi
    have hi9 : i < 60 := by omega
    rw [e1, e2, b1_some, b1_some, if_neg n10, if_neg n10, gJ2 hi li, b1_some, gJ5 hi li, b1_some, gJ0 hi li, b1_some, bi0 hi9, b1_some, b1_some, claim_r hi9, b1_some, cl0, h.j hi (k := 2) (by decide), h.j hi (k := 5) (by decide), h.j hi (k := 0) (by decide), ed, h.plan hd, b1_some, it9 (show d < 6 by omega), b1_some]
    by_cases c1 : nw (205 + 7 * i + 2) = 0
    · rw [if_pos c1, if_neg (fun z => (cl_spec.mp z).2.1 (by rw [c1]; exact Int32.le_refl 0))]
      exact ⟨_, _, _, _, _, _, _, _, rfl, rfl, hB, hH⟩
    rw [if_neg c1]
    by_cases c2 : nw (205 + 7 * i + 5) = 1
    · rw [if_pos c2, if_neg (fun z => n10 (c2.symm.trans (cl_spec.mp z).2.2))]
      exact ⟨_, _, _, _, _, _, _, _, rfl, rfl, hB, hH⟩
    rw [if_neg c2, if_pos (cl_spec.mpr ⟨ed, fun z => c1 (Int32.le_antisymm z b3), b5.resolve_right c2⟩)]
    by_cases c3 : nw (25 + 30 * d + 9) = 0
    · obtain ⟨ct', tpp', kv', snm', sn', k1, k2, k3⟩ := hH.keep h ht
      rw [if_pos c3, if_pos rfl, if_pos ((h.plan9 hd).mpr c3), k1, b3_some, k2, b2_some, sJ5 hi li, b1_some, xi5 hi9, ck_true, ti5 hi9]
      exact ⟨_, _, _, _, _, _, _, _, rfl, rfl, ⟨ns, nd, ni, no, t, ht, rfl, rfl, rfl, rfl, rfl, h.cellJ hi (by decide) (by decide) (fun z => absurd z (by decide)) (fun z => absurd z (by decide)) (fun _ => Or.inr rfl)⟩, k3⟩
    · rw [if_neg c3, if_neg n10, if_neg (fun z => c3 ((h.plan9 hd).mp z))]
      exact ⟨_, _, _, _, _, _, _, _, rfl, rfl, hB, hH⟩
  · rw [e1, e2, b1_some, b1_some, if_pos rfl, if_pos rfl]
    exact ⟨_, _, _, _, _, _, _, _, rfl, rfl, hB, hH⟩
theorem act_settle {p1 p2 : Int32} (hB : BK ho td pd sr dr ir qr sf df jf qf nw) (hH : HI ct tpp kv snm sn) : ∃ r df' jf' qf' ct' tpp' kv' snm' nw' sn', mX5_settle ho td pd sr dr ir qr sf df jf qf ct tpp kv p1 p2 = some (r, df', jf', qf', ct', tpp', kv') ∧ mX6_settle thr snm nw sn p1 p2 = some (r, 0, snm', nw', sn') ∧ BK ho td pd sr dr ir qr sf df' jf' qf' nw' ∧ HI ct' tpp' kv' snm' sn' := by
  obtain ⟨ns, nd, ni, no, t, ht, rfl, rfl, rfl, rfl, rfl, h⟩ := hB
  have ld := h.ld
  have li := h.li
  have hB : BK ho (nI t) pd (nI ns) (nI nd) (nI ni) (nI no) sf df jf qf nw := ⟨ns, nd, ni, no, t, ht, rfl, rfl, rfl, rfl, rfl, h⟩
  unfold mX5_settle mX6_settle
  rcases h.isI p1 with ⟨i, hi, rfl, e1, e2⟩ | ⟨e1, e2, -⟩
  · obtain ⟨d, hd, ed⟩ := h.ofJ hi
    have hi9 : i < 60 := by omega
    rw [e1, e2, b1_some, b1_some, if_neg n10, if_neg n10, gJ5 hi li, b1_some, bi5 hi9, b1_some, h.j hi (k := 5) (by decide)]
    by_cases c1 : nw (205 + 7 * i + 5) = 0
    · rw [if_pos c1, if_pos c1]
      exact ⟨_, _, _, _, _, _, _, _, _, _, rfl, rfl, hB, hH⟩
    rw [if_neg c1, if_neg c1, gJ2 hi li, b1_some, bi2 hi9, b1_some, h.j hi (k := 2) (by decide), isIn_ite]
    by_cases c2 : p2 < 0
    · rw [if_pos c2, if_pos c2, b1_some, if_pos rfl]
      exact ⟨_, _, _, _, _, _, _, _, _, _, rfl, rfl, hB, hH⟩
    rw [if_neg c2, if_neg c2]
    by_cases c3 : nw (205 + 7 * i + 2) < p2
    · rw [if_neg (Int32.not_le.mpr c3), if_pos c3, b1_some, if_pos rfl]
      exact ⟨_, _, _, _, _, _, _, _, _, _, rfl, rfl, hB, hH⟩
    obtain ⟨ct', tpp', kv', snm', sn', k1, k2, k3⟩ := hH.keep h ht
    have h1 := h.cellJ (k := 2) (v := nw (205 + 7 * i + 2) - p2) hi (by decide) (by decide) (fun _ => sub_pos' (Int32.not_lt.mp c2) (Int32.not_lt.mp c3)) (fun z => absurd z (by decide)) (fun z => absurd z (by decide))
    have h2 := h1.cellJ (k := 5) (v := 0) hi (by decide) (by decide) (fun z => absurd z (by decide)) (fun z => absurd z (by decide)) (fun _ => Or.inl rfl)
    obtain ⟨df3, jf3, nw3, p1, p2', h3, ho3⟩ := h2.place2 hd
    obtain ⟨rr, qf4, nw4, q1, q2, h4⟩ := h3.rel hd
    have o0 : (upd (upd nw (205 + 7 * i + 2) (nw (205 + 7 * i + 2) - p2)) (205 + 7 * i + 5) 0) (205 + 7 * i + 0) = nI d := by
      rw [upd_n (by omega), upd_n (by omega)]; exact ed
    rw [if_pos (Int32.not_lt.mp c3), if_neg c3, b1_some, if_neg n10, k1, b3_some, k2, b2_some, xi2 hi9, ck_true, ck_true, xi5 hi9, ck_true, ti2 hi9, ti5 hi9, bi0 hi9, b1_some, o0, p2', b1_some]
    unfold mX0_takeOff
    rw [gJ0 hi li, b1_some, h.j hi (k := 0) (by decide), ed, cJ2 hi li, b1_some, h.j hi (k := 2) (by decide), ← Int32.sub_eq_add_neg, sJ5 hi li, b1_some, p1, b2_some, q1, b2_some, b3_some, gJ2 hi li, b1_some, bi0 hi9, b1_some, ho3 i, o0, q2, b2_some, bi2 hi9, b1_some, h4.j hi (k := 2) (by decide)]
    exact ⟨_, _, _, _, _, _, _, _, _, _, rfl, rfl, ⟨ns, nd, ni, no, t, ht, rfl, rfl, rfl, rfl, rfl, h4⟩, k3⟩
  · rw [e1, e2, b1_some, b1_some, if_pos rfl, if_pos rfl]
    exact ⟨_, _, _, _, _, _, _, _, _, _, rfl, rfl, hB, hH⟩
end Acts
