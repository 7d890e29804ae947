/-! PURE: promise, plan, pass, undo, would -/
theorem b11_some {α0 α1 α2 α3 α4 α5 α6 α7 α8 α9 α10 ρ : Type} {a0 : α0} {a1 : α1} {a2 : α2} {a3 : α3} {a4 : α4} {a5 : α5} {a6 : α6} {a7 : α7} {a8 : α8} {a9 : α9} {a10 : α10} {f : α0 → α1 → α2 → α3 → α4 → α5 → α6 → α7 → α8 → α9 → α10 → Option ρ} : b11 (some (a0, a1, a2, a3, a4, a5, a6, a7, a8, a9, a10)) f = f a0 a1 a2 a3 a4 a5 a6 a7 a8 a9 a10 := rfl
section Acts3
variable {ho td pd sr dr ir qr : Int32} {sf df jf qf nw : Nat → Int32} {ct tpp snm thr : Int32} {kv : Nat → BV} {sn : Nat → Int32}
theorem act_promise {p1 p2 p3 : Int32} (hB : BK ho td pd sr dr ir qr sf df jf qf nw) (hH : HI ct tpp kv snm sn) : ∃ r df' ct' tpp' kv' snm' nw' sn', mX5_promise ho td pd sr dr ir qr sf df jf qf ct tpp kv p1 p2 p3 = some (r, df', ct', tpp', kv') ∧ mX6_promise thr snm nw sn p1 p2 p3 = some (r, 0, snm', nw', sn') ∧ BK ho td pd sr dr ir qr sf df' jf qf nw' ∧ HI ct' tpp' kv' snm' sn' := by
  obtain ⟨ns, nd, ni, no, t, ht, rfl, rfl, rfl, rfl, rfl, h⟩ := hB
  have ld := h.ld
  have hB : BK ho (nI t) pd (nI ns) (nI nd) (nI ni) (nI no) sf df jf qf nw := ⟨ns, nd, ni, no, t, ht, rfl, rfl, rfl, rfl, rfl, h⟩
  unfold mX5_promise mX6_promise
  rcases h.isD p1 with ⟨d, hd, rfl, e1, e2⟩ | ⟨e1, e2⟩
  · have d6 : d < 6 := by omega
    obtain ⟨dv, k1, k2⟩ := h.debt (nI d)
    obtain ⟨sv, s1, s2, s3⟩ := h.stop hd
    obtain ⟨cv, c1, c2, -⟩ := h.court hd
    rw [e1, e2, b1_some, b1_some, if_neg n10, if_neg n10, k1, k2, b1_some, b1_some, sum_r, today_eq, h.h0]
    by_cases q1 : p2 < 1
    · rw [if_pos q1, if_pos q1, b1_some, if_pos rfl]
      exact ⟨_, _, _, _, _, _, _, _, rfl, rfl, hB, hH⟩
    rw [if_neg q1, if_neg q1]
    by_cases q2 : dv < p2
    · rw [if_pos q2, if_pos q2, b1_some, if_pos rfl]
      exact ⟨_, _, _, _, _, _, _, _, rfl, rfl, hB, hH⟩
    rw [if_neg q2, if_neg q2, b1_some, if_neg n10, b1_some, b1_some, isIn_ite]
    by_cases q3 : p3 < nI t
    · rw [if_pos q3, if_pos q3, b1_some, if_pos rfl]
      exact ⟨_, _, _, _, _, _, _, _, rfl, rfl, hB, hH⟩
    rw [if_neg q3, if_neg q3]
    by_cases q4 : nI t + 30 < p3
    · rw [if_neg (Int32.not_le.mpr q4), if_pos q4, b1_some, if_pos rfl]
      exact ⟨_, _, _, _, _, _, _, _, rfl, rfl, hB, hH⟩
    rw [if_pos (Int32.not_lt.mp q4), if_neg q4, b1_some, if_neg n10, s1, s2, b1_some, b1_some]
    by_cases q5 : sv = 0
    · rw [if_pos q5, if_pos q5, gD5 hd ld, b1_some, it8 d6, b1_some, (h.d hd).2.2.2.2.2.1]
      by_cases q6 : nw (25 + 30 * d + 8) < 2
      · rw [if_pos q6, if_pos q6, c1, c2, b1_some, b1_some]
        by_cases q7 : cv = 0
        · obtain ⟨ct', tpp', kv', snm', sn', m1, m2, m3⟩ := hH.keep h ht
          unfold mX0_agreePromise
          rw [if_pos q7, if_pos q7, m1, b3_some, m2, b2_some, sD6 hd ld, b1_some, sD7 hd ld, b1_some, sD12 hd ld, b1_some, b1_some, pu5 d6, b1_some, pu6 d6, b1_some, pu7 d6, b1_some]
          exact ⟨_, _, _, _, _, _, _, _, rfl, rfl, ⟨ns, nd, ni, no, t, ht, rfl, rfl, rfl, rfl, rfl, h.row hd (rD1_prom (h.d hd) (Int32.le_trans (by decide : (0 : Int32) ≤ 1) (Int32.not_lt.mp q1)) (s3.mp q5).2) (fun j hj => by rw [upd_n (by omega), upd_n (by omega), upd_n (by omega)]) (fun j hj => by rw [upd_n (by omega), upd_n (by omega), upd_n (by omega)])⟩, m3⟩
        · rw [if_neg q7, if_neg q7]
          exact ⟨_, _, _, _, _, _, _, _, rfl, rfl, hB, hH⟩
      · rw [if_neg q6, if_neg q6]
        exact ⟨_, _, _, _, _, _, _, _, rfl, rfl, hB, hH⟩
    · rw [if_neg q5, if_neg q5]
      exact ⟨_, _, _, _, _, _, _, _, rfl, rfl, hB, hH⟩
  · rw [e1, e2, b1_some, b1_some, if_pos rfl, if_pos rfl]
    exact ⟨_, _, _, _, _, _, _, _, rfl, rfl, hB, hH⟩
theorem act_plan {p1 p2 p3 : Int32} (hB : BK ho td pd sr dr ir qr sf df jf qf nw) (hH : HI ct tpp kv snm sn) : ∃ r df' ct' tpp' kv' snm' nw' sn', mX5_plan ho td pd sr dr ir qr sf df jf qf ct tpp kv p1 p2 p3 = some (r, df', ct', tpp', kv') ∧ mX6_plan thr snm nw sn p1 p2 p3 = some (r, 0, snm', nw', sn') ∧ BK ho td pd sr dr ir qr sf df' jf qf nw' ∧ HI ct' tpp' kv' snm' sn' := by
  obtain ⟨ns, nd, ni, no, t, ht, rfl, rfl, rfl, rfl, rfl, h⟩ := hB
  have ld := h.ld
  have hB : BK ho (nI t) pd (nI ns) (nI nd) (nI ni) (nI no) sf df jf qf nw := ⟨ns, nd, ni, no, t, ht, rfl, rfl, rfl, rfl, rfl, h⟩
  unfold mX5_plan mX6_plan
  rcases h.isD p1 with ⟨d, hd, rfl, e1, e2⟩ | ⟨e1, e2⟩
  · have d6 : d < 6 := by omega
    obtain ⟨dv, k1, k2⟩ := h.debt (nI d)
    obtain ⟨cv, c1, c2, -⟩ := h.court hd
    rw [e1, e2, b1_some, b1_some, if_neg n10, if_neg n10, isIn_ite]
    by_cases q1 : p2 < 2
    · rw [if_pos q1, if_pos q1, b1_some, if_pos rfl]
      exact ⟨_, _, _, _, _, _, _, _, rfl, rfl, hB, hH⟩
    rw [if_neg q1, if_neg q1]
    by_cases q2 : 12 < p2
    · rw [if_pos q2, if_pos q2, b1_some, if_pos rfl]
      exact ⟨_, _, _, _, _, _, _, _, rfl, rfl, hB, hH⟩
    rw [if_neg q2, if_neg q2, b1_some, if_neg n10, isIn_ite]
    by_cases q3 : p3 < 1
    · rw [if_pos q3, if_pos q3, b1_some, if_pos rfl]
      exact ⟨_, _, _, _, _, _, _, _, rfl, rfl, hB, hH⟩
    rw [if_neg q3, if_neg q3]
    by_cases q4 : 30 < p3
    · rw [if_neg (Int32.not_le.mpr q4), if_pos q4, b1_some, if_pos rfl]
      exact ⟨_, _, _, _, _, _, _, _, rfl, rfl, hB, hH⟩
    rw [if_pos (Int32.not_lt.mp q4), if_neg q4, b1_some, if_neg n10, h.plan hd, b1_some, it9 d6, b1_some]
    by_cases q5 : nw (25 + 30 * d + 9) = 0
    · rw [if_pos q5, if_pos rfl, if_pos ((h.plan9 hd).mpr q5), k1, k2, b1_some, b1_some]
      by_cases q6 : p2 ≤ dv
      · rw [if_pos q6, if_pos q6, c1, c2, b1_some, b1_some]
        by_cases q7 : cv = 0
        · obtain ⟨ct', tpp', kv', snm', sn', m1, m2, m3⟩ := hH.keep h ht
          obtain ⟨n, hn12, rfl⟩ := nI_of2 (x := p2) (M := 12) (n := 12) rfl (fun z => q1 (Int32.lt_trans z (by decide))) (Int32.not_lt.mp q2)
          have n2 : 0 < n := by
            rcases Nat.eq_zero_or_pos n with z | z
            · exact absurd (show nI n < 2 by rw [z]; decide) q1
            · exact z
          have hdv : 0 ≤ dv := Int32.le_trans (nI_pos' (show n < 2 ^ 31 by omega)) q6
          obtain ⟨nwL, l1, l2, l3⟩ := inst_L (d := d) (sn := sn') (thr := 0) (snm := snm') (a := dv) (n := n) d6 n2 hn12 (nw0 := upd (upd (upd (upd (upd nw (25 + 30 * d + 5) 0) (25 + 30 * d + 9) (nI n)) (25 + 30 * d + 10) (nI t)) (25 + 30 * d + 11) p3) (25 + 30 * d + 12) 0) FU 0 (upd (upd (upd (upd (upd nw (25 + 30 * d + 5) 0) (25 + 30 * d + 9) (nI n)) (25 + 30 * d + 10) (nI t)) (25 + 30 * d + 11) p3) (25 + 30 * d + 12) 0) (by unfold FU; omega) (Nat.zero_le _) (fun i hi => by omega) (fun _ _ => rfl)
          rw [nI_0] at l1
          have tt : (upd (upd nw (25 + 30 * d + 5) 0) (25 + 30 * d + 9) (nI n)) 0 = nI t := by rw [upd_n (by omega), upd_n (by omega)]; exact h.h0
          unfold mX0_agreePlan
          rw [if_pos q7, if_pos q7, m1, b3_some, m2, b2_some, sD6 hd ld, b1_some, sD8 hd ld, b1_some, k1, b1_some, sD9 hd ld, b1_some, sD10 hd ld, b1_some, sD11 hd ld, b1_some, sD12 hd ld, b1_some, b1_some, pu5 d6, b1_some, pu9 d6, b1_some, today_eq, b1_some, tt, pu10 d6, b1_some, pu11 d6, b1_some, pu12 d6, b1_some, l1]
          refine ⟨_, _, _, _, _, _, _, _, rfl, rfl, ⟨ns, nd, ni, no, t, ht, rfl, rfl, rfl, rfl, rfl, h.row hd (rD1_plan (h.d hd) hdv hn12 (fun j hj a1 a2 a3 a4 a5 => ?_) ?_ ?_ ?_ ?_ ?_ l2) (fun j hj => ?_) (fun j hj => ?_)⟩, m3⟩
          · rw [l3 _ (by omega), upd_n (by omega), upd_n (by omega), upd_n (by omega), upd_n (by omega), upd_n (by omega)]
          · rw [l3 _ (by omega), upd_n (by omega), upd_n (by omega), upd_n (by omega), upd_n (by omega), upd_s]
          · rw [l3 _ (by omega), upd_n (by omega), upd_n (by omega), upd_n (by omega), upd_s]
          · rw [l3 _ (by omega), upd_n (by omega), upd_n (by omega), upd_s]
          · rw [l3 _ (by omega), upd_n (by omega), upd_s]
          · rw [l3 _ (by omega), upd_s]
          · rw [l3 _ (by omega), upd_n (by omega), upd_n (by omega), upd_n (by omega), upd_n (by omega), upd_n (by omega)]
          · rw [upd_n (by omega), upd_n (by omega), upd_n (by omega), upd_n (by omega), upd_n (by omega), upd_n (by omega)]
        · rw [if_neg q7, if_neg q7]
          exact ⟨_, _, _, _, _, _, _, _, rfl, rfl, hB, hH⟩
      · rw [if_neg q6, if_neg q6]
        exact ⟨_, _, _, _, _, _, _, _, rfl, rfl, hB, hH⟩
    · rw [if_neg q5, if_neg n10, if_neg (fun z => q5 ((h.plan9 hd).mp z))]
      exact ⟨_, _, _, _, _, _, _, _, rfl, rfl, hB, hH⟩
  · rw [e1, e2, b1_some, b1_some, if_pos rfl, if_pos rfl]
    exact ⟨_, _, _, _, _, _, _, _, rfl, rfl, hB, hH⟩
theorem act_pass {p1 stp sfo hst : Int32} (hB : BK ho td pd sr dr ir qr sf df jf qf nw) (hH : HI ct tpp kv snm sn) : ∃ r td' ir' df' jf' qf' ct' tpp' kv' snm' stp' hst' nw' sn', mX5_pass ho td pd sr dr ir qr sf df jf qf ct tpp kv p1 = some (r, td', ir', df', jf', qf', ct', tpp', kv') ∧ mX6_pass thr snm stp sfo hst nw sn p1 = some (r, 0, snm', stp', hst', nw', sn') ∧ BK ho td' pd sr dr ir' qr sf df' jf' qf' nw' ∧ HI ct' tpp' kv' snm' sn' := by
  obtain ⟨ns, nd, ni, no, t, ht, rfl, rfl, rfl, rfl, rfl, h⟩ := hB
  have hB : BK ho (nI t) pd (nI ns) (nI nd) (nI ni) (nI no) sf df jf qf nw := ⟨ns, nd, ni, no, t, ht, rfl, rfl, rfl, rfl, rfl, h⟩
  unfold mX5_pass mX6_pass
  rw [isIn_ite]
  by_cases q1 : p1 < 1
  · rw [if_pos q1, if_pos q1, b1_some, if_pos rfl]
    exact ⟨_, _, _, _, _, _, _, _, _, _, _, _, _, _, rfl, rfl, hB, hH⟩
  rw [if_neg q1, if_neg q1]
  by_cases q2 : 99 < p1
  · rw [if_pos q2, if_pos q2, b1_some, if_pos rfl]
    exact ⟨_, _, _, _, _, _, _, _, _, _, _, _, _, _, rfl, rfl, hB, hH⟩
  obtain ⟨n, hn, rfl⟩ := nI_of2 (x := p1) (M := 99) (n := 99) rfl (fun z => q1 (Int32.lt_trans z (by decide))) (Int32.not_lt.mp q2)
  rw [if_neg q2, if_neg q2, b1_some, if_neg n10, today_eq, b1_some, h.h0, nI_add]
  by_cases q3 : nI (t + n) ≤ 999
  · have q3' : t + n ≤ 999 := (nI_leI (b := 999) (by omega) (by decide)).mp q3
    obtain ⟨ct', tpp', kv', snm', sn', m1, m2, m3⟩ := hH.keep h ht
    obtain ⟨t', ni', df', jf', qf', nw', stp', hst', g1, g2, g3, g4⟩ := pass_loop (sfo := sfo) (ct := ct') (tpp := tpp') (kv := kv') (thr := 0) (snm := snm') (sn := sn') (n := n) (stp := stp) (hst := hst) FU FU 0 t ni h (by omega) (by unfold FU; omega) (by unfold FU; omega) (Nat.zero_le _) hn
    rw [nI_0] at g1 g2
    rw [if_pos q3, if_pos q3, m1, b3_some, m2, b2_some, g1, g2]
    exact ⟨_, _, _, _, _, _, _, _, _, _, _, _, _, _, rfl, rfl, ⟨ns, nd, ni', no, t', g3, rfl, rfl, rfl, rfl, rfl, g4⟩, m3⟩
  · rw [if_neg q3, if_neg q3]
    exact ⟨_, _, _, _, _, _, _, _, _, _, _, _, _, _, rfl, rfl, hB, hH⟩
theorem act_undo (hB : BK ho td pd sr dr ir qr sf df jf qf nw) (hH : HI ct tpp kv snm sn) : ∃ r ho' td' pd' sr' dr' ir' qr' sf' df' jf' qf' ct' tpp' snm' nw', mX5_undo ho td pd sr dr ir qr sf df jf qf ct tpp kv = some (r, ho', td', pd', sr', dr', ir', qr', sf', df', jf', qf', ct', tpp') ∧ mX6_undo thr snm nw sn = some (r, 0, snm', nw') ∧ BK ho' td' pd' sr' dr' ir' qr' sf' df' jf' qf' nw' ∧ HI ct' tpp' kv snm' sn := by
  obtain ⟨m, τ, hm, hτ, rfl, rfl, rfl, hk⟩ := hH
  unfold mX5_undo mX6_undo mX1_size
  rw [b1_some]
  by_cases q0 : m = 0
  · rw [if_pos (by rw [q0]; rfl), if_pos (by rw [q0]; rfl)]
    exact ⟨_, _, _, _, _, _, _, _, _, _, _, _, _, _, _, _, rfl, rfl, hB, ⟨m, τ, hm, hτ, rfl, rfl, rfl, hk⟩⟩
  · obtain ⟨m, rfl⟩ : ∃ y, m = y + 1 := ⟨m - 1, by omega⟩
    have hne : ¬ nI (m + 1) = 0 := nI_ne0 (by omega) (by omega)
    obtain ⟨ns, nd, ni, no, t, ht, w1, w2, w3, w4, w5, w⟩ := hk 0 (by omega)
    obtain ⟨nw', u1, u2⟩ := undo_L (m := m) (by omega) (sn := sn) (thr := 0) FU 0 nw (by unfold FU; omega) (by omega) (fun j hj => by omega)
    rw [nI_0] at u1
    have key : ∀ l : Nat, l = (τ + 9 - 0) % 10 → ∃ sf' df' jf' qf', mX1_restore_b23 kv (nI l) (nI (m + 1)) (nI τ) ho td pd sr dr ir qr sf df jf qf = some (nI m, nI l, (kv l).1, nI t, (kv l).2.2.1, nI ns, nI nd, nI ni, nI no, sf', df', jf', qf') ∧ RR (kv l).1 (kv l).2.2.1 sf' df' jf' qf' nw' ns nd ni no t t := fun l hl => by
      have l10 : l < 10 := by omega
      rw [← hl] at w1 w2 w3 w4 w5 w
      obtain ⟨sf', df', jf', qf', c1, c2⟩ := w.copy (td := nI t) (oho := ho) (otd := td) (opd := pd) (osr := sr) (odr := dr) (oir := ir) (oqr := qr) (osf := sf) (odf := df) (ojf := jf) (oqf := qf)
      refine ⟨sf', df', jf', qf', ?_, c2.congrR (fun j hj => by rw [u2 j hj]; rfl)⟩
      unfold mX1_restore_b23
      rw [if_neg hne, if_neg (nI_pos (by omega)), if_neg (show ¬ (10 : Int32) ≤ nI l from nI_ge (b := 10) l10 (by decide)), inr_nI l10 (by decide), ck_true, ck_true, nI_clamp (show l < 2 ^ 31 by omega), w1, w2, w3, w4, w5, c1, nI_pred]
      rfl
    have hh : ∀ l : Nat, l = (τ + 9 - 0) % 10 → HI (nI m) (nI l) kv (nI m) sn := fun l hl => by
      refine ⟨m, l, by omega, by omega, rfl, rfl, rfl, fun j hj => ?_⟩
      have hj1 := hk (j + 1) (by omega)
      rw [show (l + 9 - j) % 10 = (τ + 9 - (j + 1)) % 10 by omega]
      have e : m + 1 - 1 - (j + 1) = m - 1 - j := by omega
      rw [e] at hj1
      exact hj1
    rw [if_neg hne, if_neg hne, nI_pred, u1]
    unfold mX1_restore
    by_cases z : τ = 0
    · obtain ⟨sf', df', jf', qf', c1, c2⟩ := key 9 (by omega)
      rw [if_pos (show nI τ ≤ 0 by rw [z]; exact Int32.le_refl 0), show (10 : Int32) - 1 = nI 9 from nI_pred 9, c1]
      exact ⟨_, _, _, _, _, _, _, _, _, _, _, _, _, _, _, _, rfl, rfl, ⟨ns, nd, ni, no, t, ht, rfl, rfl, rfl, rfl, rfl, c2⟩, hh 9 (by omega)⟩
    · obtain ⟨y, rfl⟩ : ∃ y, τ = y + 1 := ⟨τ - 1, by omega⟩
      obtain ⟨sf', df', jf', qf', c1, c2⟩ := key y (by omega)
      rw [if_neg (nI_nle (by omega) (by omega)), nI_pred, c1]
      exact ⟨_, _, _, _, _, _, _, _, _, _, _, _, _, _, _, _, rfl, rfl, ⟨ns, nd, ni, no, t, ht, rfl, rfl, rfl, rfl, rfl, c2⟩, hh y (by omega)⟩
theorem act_would {p1 p2 oho otd opd osr odr oir oqr : Int32} {osf odf ojf oqf kp : Nat → Int32} (hB : BK ho td pd sr dr ir qr sf df jf qf nw) : ∃ r oho' otd' opd' osr' odr' oir' oqr' osf' odf' ojf' oqf' nw' kp', mX5_would ho td pd sr dr ir qr sf df jf qf oho otd opd osr odr oir oqr osf odf ojf oqf p1 p2 = some (r, oho', otd', opd', osr', odr', oir', oqr', osf', odf', ojf', oqf') ∧ mX6_would thr nw kp p1 p2 = some (r, 0, nw', kp') ∧ BK ho td pd sr dr ir qr sf df jf qf nw' := by
  obtain ⟨ns, nd, ni, no, t, ht, rfl, rfl, rfl, rfl, rfl, h⟩ := hB
  have hB : BK ho (nI t) pd (nI ns) (nI nd) (nI ni) (nI no) sf df jf qf nw := ⟨ns, nd, ni, no, t, ht, rfl, rfl, rfl, rfl, rfl, h⟩
  unfold mX5_would mX6_would
  rcases may_pay h p1 p2 with ⟨d, hd, rfl, e1, e2⟩ | ⟨e1, e2⟩
  · obtain ⟨kp', k1, k2⟩ := keeps_ok nw kp
    obtain ⟨sf', df', jf', qf', c1, c2⟩ := h.copy (td := nI t) (oho := oho) (otd := otd) (opd := opd) (osr := osr) (odr := odr) (oir := oir) (oqr := oqr) (osf := osf) (odf := odf) (ojf := ojf) (oqf := oqf)
    obtain ⟨r, df2, jf2, qf2, nw2, g1, g2, -⟩ := c2.pay hd p2
    obtain ⟨nw3, m1, m2⟩ := back_ok nw2 kp'
    rw [e1, e2, b1_some, b1_some, if_neg n10, if_neg n10, c1, k1, b1_some, g2, b2_some, m1, b1_some]
    refine ⟨r, ho, nI t, pd + p2, nI ns, nI nd, nI ni, nI no, sf', df2, jf2, qf2, nw3, kp', ?_, rfl, ⟨ns, nd, ni, no, t, ht, rfl, rfl, rfl, rfl, rfl, h.congrR (fun j hj => (m2 j hj).trans (k2 j hj))⟩⟩
    rw [b11_some, g1, b5_some]
  · rw [e1, e2, b1_some, b1_some, if_pos rfl, if_pos rfl]
    exact ⟨_, _, _, _, _, _, _, _, _, _, _, _, _, _, rfl, rfl, hB⟩
end Acts3
