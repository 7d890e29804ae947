/-! PURE: a day, a payment, a settling -/
section DayB
variable {ho pd : Int32} {sf df jf qf nw : Nat → Int32} {ns nd ni no t g d : Nat} {sfo stp hst : Int32}
theorem RR.tomorrow (h : RR ho pd sf df jf qf nw ns nd ni no t g) (ht : t + 1 ≤ 1299) : RR ho pd sf df jf qf (upd nw 0 (nI t + 1)) ns nd ni no (t + 1) g := by
  have e : ∀ j, j ≠ 0 → upd nw 0 (nI t + 1) j = nw j := fun j z => upd_n z
  obtain ⟨h1, h2, h3, h4, h5⟩ := h
  obtain ⟨q0, q1, q2, q3, q4, q5, q6, b1, b2, b3, b4, b5⟩ := h1
  exact ⟨⟨by rw [upd_s, nI_1], by rw [e 1 (by decide)]; exact q1, by rw [e 2 (by decide)]; exact q2, by rw [e 3 (by decide)]; exact q3, by rw [e 4 (by decide)]; exact q4, by rw [e 5 (by decide)]; exact q5, by rw [e 6 (by decide)]; exact q6, b1, b2, b3, b4, ht⟩, rS_congr b1 h2 (fun j _ _ => e j (by omega)), rD_congr b2 h3 (fun j _ _ => e j (by omega)), rJ_congr b3 h4 (fun j _ _ => e j (by omega)), rQ_congr b4 h5 (fun j _ _ => e j (by omega))⟩
theorem RR.paid (h : RR ho pd sf df jf qf nw ns nd ni no t g) (v : Int32) : RR ho v sf df jf qf (upd nw 6 v) ns nd ni no t g := by
  have e : ∀ j, j ≠ 6 → upd nw 6 v j = nw j := fun j z => upd_n z
  obtain ⟨h1, h2, h3, h4, h5⟩ := h
  obtain ⟨q0, q1, q2, q3, q4, q5, q6, b1, b2, b3, b4, b5⟩ := h1
  exact ⟨⟨by rw [e 0 (by decide)]; exact q0, by rw [e 1 (by decide)]; exact q1, by rw [e 2 (by decide)]; exact q2, by rw [e 3 (by decide)]; exact q3, by rw [e 4 (by decide)]; exact q4, by rw [e 5 (by decide)]; exact q5, upd_s, b1, b2, b3, b4, b5⟩, rS_congr b1 h2 (fun j _ _ => e j (by omega)), rD_congr b2 h3 (fun j _ _ => e j (by omega)), rJ_congr b3 h4 (fun j _ _ => e j (by omega)), rQ_congr b4 h5 (fun j _ _ => e j (by omega))⟩
end DayB
section DayC
variable {ho pd : Int32} {sf : Nat → Int32} {ns nd no t g : Nat} {sfo : Int32}
theorem close_loop {jf qf : Nat → Int32} {ni : Nat} {stp hst : Int32} : ∀ (k k' i : Nat) {df nw : Nat → Int32}, RR ho pd sf df jf qf nw ns nd ni no t g → nd < k + i → nd < k' + i → i ≤ nd →
    ∃ df' nw', mX0_endDay_L6 k ho (nI ns) (nI nd) (nI no) sf (nI i) (nI t) (nI ni) df jf qf = mX0_endDay_L40 FU ho (nI ns) (nI nd) (nI no) sf 0 (nI t + 1) (nI ni) df' jf qf ∧ mX6_ends_L79 k' sfo (nI i) stp hst nw = mX6_ends_L132 FU sfo 0 stp 0 (upd nw' 0 (nI t + 1)) ∧ RR ho pd sf df' jf qf nw' ns nd ni no t g := by
  intro k
  induction k with
  | zero => intro k' i df nw h h1 h2 h3; omega
  | succ k ih =>
    intro k' i df nw h h1 h2 h3
    obtain ⟨k', rfl⟩ : ∃ y, k' = y + 1 := ⟨k' - 1, by omega⟩
    have ld := h.ld
    rw [mX0_endDay_L6.eq_2, mX6_ends_L79.eq_2, size_eq, b1_some, h.h3]
    by_cases e : i = nd
    · rw [e, if_pos (nI_le (Nat.le_refl _) (by omega)), if_pos (nI_le (Nat.le_refl _) (by omega)), h.h0]
      exact ⟨_, _, rfl, rfl, h⟩
    · have hi : i < nd := by omega
      obtain ⟨df', nw1, nw', v, e1, e2, e3, e4, e5⟩ := h.close hi
      rw [if_neg (nI_ge hi (by omega)), if_neg (nI_ge hi (by omega)), e1, b1_some, e2, b1_some, e3, b1_some, nI_1]
      have nx := ih k' (i + 1) e5 (by omega) (by omega) (by omega)
      rcases e4 with ⟨z, rfl⟩ | ⟨z, q⟩
      · rw [if_pos z]; exact nx
      · rw [if_neg z, q, b1_some]; exact nx
theorem step_loop {qf : Nat → Int32} : ∀ (k k' i ni : Nat) {df jf nw : Nat → Int32} {stp hst : Int32}, RR ho pd sf df jf qf nw ns nd ni no t g → nd < k + i → nd < k' + i → i ≤ nd →
    ∃ ni' df' jf' nw' stp' hst', mX0_endDay_L40 k ho (nI ns) (nI nd) (nI no) sf (nI i) (nI t) (nI ni) df jf qf = mX0_endDay_L65 FU ho (nI ns) (nI nd) (nI no) sf 0 (nI t) (nI ni') df' jf' qf ∧ mX6_ends_L132 k' sfo (nI i) stp hst nw = mX6_ends_L187 FU sfo 0 stp' hst' nw' ∧ RR ho pd sf df' jf' qf nw' ns nd ni' no t g := by
  intro k
  induction k with
  | zero => intro k' i ni df jf nw stp hst h h1 h2 h3; omega
  | succ k ih =>
    intro k' i ni df jf nw stp hst h h1 h2 h3
    obtain ⟨k', rfl⟩ : ∃ y, k' = y + 1 := ⟨k' - 1, by omega⟩
    have ld := h.ld
    rw [mX0_endDay_L40.eq_2, mX6_ends_L132.eq_2, size_eq, b1_some, h.h3]
    by_cases e : i = nd
    · rw [e, if_pos (nI_le (Nat.le_refl _) (by omega)), if_pos (nI_le (Nat.le_refl _) (by omega))]
      exact ⟨_, _, _, _, _, _, rfl, rfl, h⟩
    · have hi : i < nd := by omega
      obtain ⟨v, ni', df', jf', nw', stp', e1, e2, e3, -⟩ := h.step (stp := -1) hi
      rw [if_neg (nI_ge hi (by omega)), if_neg (nI_ge hi (by omega)), e1, b4_some, e2, b2_some, nI_1]
      unfold mX6_ends_b171
      rw [nI_1]
      split
      · split
        · exact ih k' (i + 1) ni' e3 (by omega) (by omega) (by omega)
        · exact ih k' (i + 1) ni' e3 (by omega) (by omega) (by omega)
      · exact ih k' (i + 1) ni' e3 (by omega) (by omega) (by omega)
theorem rel_loop {df jf : Nat → Int32} {ni : Nat} {stp hst : Int32} : ∀ (k k' i : Nat) {qf nw : Nat → Int32}, RR ho pd sf df jf qf nw ns nd ni no t g → nd < k + i → nd < k' + i → i ≤ nd →
    ∃ qf' nw', mX0_endDay_L65 k ho (nI ns) (nI nd) (nI no) sf (nI i) (nI t) (nI ni) df jf qf = some (nI t, nI ni, df, jf, qf') ∧ mX6_ends_L187 k' sfo (nI i) stp hst nw = some (stp, hst, nw') ∧ RR ho pd sf df jf qf' nw' ns nd ni no t g := by
  intro k
  induction k with
  | zero => intro k' i qf nw h h1 h2 h3; omega
  | succ k ih =>
    intro k' i qf nw h h1 h2 h3
    obtain ⟨k', rfl⟩ : ∃ y, k' = y + 1 := ⟨k' - 1, by omega⟩
    have ld := h.ld
    rw [mX0_endDay_L65.eq_2, mX6_ends_L187.eq_2, size_eq, b1_some, h.h3]
    by_cases e : i = nd
    · rw [e, if_pos (nI_le (Nat.le_refl _) (by omega)), if_pos (nI_le (Nat.le_refl _) (by omega))]
      exact ⟨_, _, rfl, rfl, h⟩
    · have hi : i < nd := by omega
      obtain ⟨r, qf', nw', e1, e2, e3⟩ := h.rel hi
      rw [if_neg (nI_ge hi (by omega)), if_neg (nI_ge hi (by omega)), e1, b2_some, e2, b2_some, nI_1]
      exact ih k' (i + 1) e3 (by omega) (by omega) (by omega)
theorem RR.day {df jf qf nw : Nat → Int32} {ni : Nat} {stp hst : Int32} (h : RR ho pd sf df jf qf nw ns nd ni no t g) (hg : g ≤ 5000) (ht : t + 1 ≤ 1299) : ∃ ni' df' jf' qf' nw' stp' hst', mX0_endDay ho (nI t) (nI ns) (nI nd) (nI ni) (nI no) sf df jf qf = some (nI (t + 1), nI ni', df', jf', qf') ∧ mX6_ends stp sfo hst nw = some (stp', hst', nw') ∧ RR ho pd sf df' jf' qf' nw' ns nd ni' no (t + 1) (g + 1) := by
  have li := h.li
  have ld := h.ld
  obtain ⟨jf1, nw1, a1, a2, h1⟩ := age_sim (sfo := sfo) (stp := stp) (hst := hst) hg FU FU 0 h.wk (fun i _ hi => (h.2.2.2.1 i hi).2.2.2.1) (by unfold FU; omega) (by unfold FU; omega) (Nat.zero_le _)
  obtain ⟨df2, nw2, b1, b2, h2⟩ := close_loop (sfo := sfo) (stp := stp) (hst := hst) FU FU 0 h1 (by unfold FU; omega) (by unfold FU; omega) (Nat.zero_le _)
  have h3 := h2.tomorrow ht
  obtain ⟨ni4, df4, jf4, nw4, stp4, hst4, c1, c2, h4⟩ := step_loop (sfo := sfo) (stp := stp) (hst := 0) FU FU 0 ni h3 (by unfold FU; omega) (by unfold FU; omega) (Nat.zero_le _)
  obtain ⟨qf5, nw5, d1, d2, h5⟩ := rel_loop (sfo := sfo) (stp := stp4) (hst := hst4) FU FU 0 h4 (by unfold FU; omega) (by unfold FU; omega) (Nat.zero_le _)
  refine ⟨_, _, _, _, _, stp4, hst4, ?_, ?_, h5⟩
  · unfold mX0_endDay mX0_ageInvoices
    rw [show mX0_ageInvoices_L2 FU (nI t) (nI nd) (nI ni) df 0 jf = some jf1 from a1, b1_some]
    rw [nI_0] at b1 c1 d1
    rw [b1, nI_1, c1, d1]
  · unfold mX6_ends
    rw [nI_0] at a2 b2 c2 d2
    rw [a2, b2, c2, d2]
/-- days pass -/
theorem pass_loop {ct tpp : Int32} {kv : Nat → BV} {thr snm : Int32} {sn : Nat → Int32} {n : Nat} : ∀ (k k' i t ni : Nat) {df jf qf nw : Nat → Int32} {stp hst : Int32}, RR ho pd sf df jf qf nw ns nd ni no t t → t + (n - i) ≤ 999 → n < k + i → n < k' + i → i ≤ n → n ≤ 99 →
    ∃ t' ni' df' jf' qf' nw' stp' hst', mX5_pass_L41 k ho pd (nI ns) (nI nd) (nI no) sf (nI n) (nI i) (nI t) (nI ni) df jf qf ct tpp kv = some (nI t', nI t', nI ni', df', jf', qf', ct, tpp, kv) ∧ mX6_pass_L35 k' sfo (nI n) (nI i) thr snm stp hst nw sn = some (nI t', thr, snm, stp', hst', nw', sn) ∧ t' ≤ 999 ∧ RR ho pd sf df' jf' qf' nw' ns nd ni' no t' t' := by
  intro k
  induction k with
  | zero => intro k' i t ni df jf qf nw stp hst h h0 h1 h2 h3 h4; omega
  | succ k ih =>
    intro k' i t ni df jf qf nw stp hst h h0 h1 h2 h3 h4
    obtain ⟨k', rfl⟩ : ∃ y, k' = y + 1 := ⟨k' - 1, by omega⟩
    rw [mX5_pass_L41.eq_2, mX6_pass_L35.eq_2]
    by_cases e : i = n
    · rw [e, if_pos (nI_le (Nat.le_refl _) (by omega)), if_pos (nI_le (Nat.le_refl _) (by omega)), today_eq, b1_some, h.h0]
      exact ⟨_, _, _, _, _, _, _, _, rfl, rfl, by omega, h⟩
    · have hi : i < n := by omega
      obtain ⟨ni', df', jf', qf', nw', stp', hst', e1, e2, e3⟩ := h.day (sfo := sfo) (stp := stp) (hst := hst) (by omega) (by omega)
      rw [if_neg (nI_ge hi (by omega)), if_neg (nI_ge hi (by omega)), e1, b5_some, e2, b3_some, nI_1]
      exact ih k' (i + 1) (t + 1) ni' e3 (by omega) (by omega) (by omega) (by omega) h4
end DayC
section Pay
variable {ho pd : Int32} {sf df jf qf nw : Nat → Int32} {ns nd ni no t g d : Nat}
theorem RR.pay (h : RR ho pd sf df jf qf nw ns nd ni no t g) (hd : d < nd) (v : Int32) : ∃ r df' jf' qf' nw', mX0_receive ho pd (nI nd) (nI ni) (nI no) df jf qf (nI d) v = some (r, pd + v, df', jf', qf') ∧ mX6_pays nw (nI d) v = some (r, nw') ∧ RR ho (pd + v) sf df' jf' qf' nw' ns nd ni no t g := by
  have ld := h.ld
  have d6 : d < 6 := by omega
  have h1 := (h.row hd (rD1_cash (v := nw (25 + 30 * d + 2) + v) (h.d hd)) (fun j hj => upd_n (by omega)) (fun j hj => upd_n (by omega))).paid (pd + v)
  generalize hN1 : upd (upd nw (25 + 30 * d + 2) (nw (25 + 30 * d + 2) + v)) 6 (pd + v) = nw1 at h1
  generalize hD1 : upd df (d * 13 + 2) (nw (25 + 30 * d + 2) + v) = df1 at h1
  -- what counts as paid since
  have key : ∃ nw2, (∀ r : Option (Int32 × (Nat → Int32)), r = mX6_pays_b76 (nI d) nw2 → (b1 (mX6_its nw1 (nI d) 5) fun v5 => (if v5 ≤ 0 then mX6_pays_b50 (nI d) v nw1 else b1 (mX6_its nw1 (nI d) 7) fun v8 => b1 (mX6_puts nw1 (nI d) 7 (v8 + v)) fun nw10 => mX6_pays_b50 (nI d) v nw10)) = r) ∧ RR ho (pd + v) sf (upd df1 (d * 13 + 12) (df1 (d * 13 + 12) + v)) jf qf nw2 ns nd ni no t g := by
    rw [it5 d6, b1_some]
    by_cases z : nw1 (25 + 30 * d + 5) = 0
    · rw [if_pos ((h1.prom5 hd).mpr z)]
      unfold mX6_pays_b50
      rw [it9 d6, b1_some]
      by_cases y : nw1 (25 + 30 * d + 9) = 0
      · rw [if_pos ((h1.plan9 hd).mpr y)]
        exact ⟨nw1, fun r hr => hr.symm, h1.row hd (rD1_payN (h1.d hd) z y) (fun j hj => rfl) (fun j hj => upd_n (by omega))⟩
      · rw [if_neg (fun q => y ((h1.plan9 hd).mp q)), it12 d6, b1_some, pu12 d6, b1_some]
        exact ⟨_, fun r hr => hr.symm, h1.row hd (rD1_payL (h1.d hd) y) (fun j hj => upd_n (by omega)) (fun j hj => upd_n (by omega))⟩
    · rw [if_neg (fun q => z ((h1.prom5 hd).mp q)), it7 d6, b1_some, pu7 d6, b1_some]
      have h2 := h1.row hd (rD1_payP (v := v) (h1.d hd) z) (fun j hj => upd_n (by omega)) (fun j hj => upd_n (by omega))
      refine ⟨_, fun r hr => ?_, h2⟩
      unfold mX6_pays_b50
      have y : (upd nw1 (25 + 30 * d + 7) (nw1 (25 + 30 * d + 7) + v)) (25 + 30 * d + 9) = 0 := by
        rw [upd_n (by omega)]; exact ((h1.d hd).2.2.2.2.2.2.2.2.2.2.1).resolve_left z
      rw [it9 d6, b1_some, if_pos ((h2.plan9 hd).mpr y), hr]
  obtain ⟨nw2, k1, h2⟩ := key
  obtain ⟨df3, jf3, nw3, p1, p2, h3⟩ := h2.place hd
  obtain ⟨r, qf4, nw4, q1, q2, h4⟩ := h3.rel hd
  refine ⟨r, df3, jf3, qf4, nw4, ?_, ?_, h4⟩
  · unfold mX0_receive
    rw [cD2 hd ld, b1_some, (h.d hd).2.2.1, hD1, cD12 hd ld, b1_some, p1, b2_some, q1, b2_some]
  · unfold mX6_pays
    rw [it2 d6, b1_some, pu2 d6, b1_some, upd_n (show 6 ≠ 25 + 30 * d + 2 by omega), h.h6, hN1]
    refine k1 _ ?_
    unfold mX6_pays_b76
    rw [p2, b1_some, q2, b2_some]
end Pay
