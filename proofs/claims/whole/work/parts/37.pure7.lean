/-! PURE: agreements close, steps are done, a day ends -/
section Close
variable {ho pd : Int32} {sf df jf qf nw : Nat → Int32} {ns nd ni no t g d : Nat} {sfo stp hst : Int32}
theorem RR.row {i : Nat} {df' nw' : Nat → Int32} (h : RR ho pd sf df jf qf nw ns nd ni no t g) (hi : i < nd) (hd : rD1 df' nw' (i * 13) (25 + 30 * i) ns) (e : ∀ j, j < 25 + 30 * i ∨ 25 + 30 * i + 30 ≤ j → nw' j = nw j) (e1 : ∀ j, j < i * 13 ∨ i * 13 + 13 ≤ j → df' j = df j) : RR ho pd sf df' jf qf nw' ns nd ni no t g := h.putD hi e e1 hd
/-- the plan's part -/
theorem RR.close2 (h : RR ho pd sf df jf qf nw ns nd ni no t g) (hd : d < nd) : ∃ df' nw' v, mX0_closeAgreement_b69 (nI t) (nI nd) (nI ni) jf (nI d) df = some df' ∧ mX6_its nw (nI d) 9 = some v ∧ ((v ≤ 0 ∧ nw' = nw) ∨ (¬ v ≤ 0 ∧ mX6_endsPlan nw (nI d) = some nw')) ∧ RR ho pd sf df' jf qf nw' ns nd ni no t g := by
  have ld := h.ld
  have d6 : d < 6 := by omega
  unfold mX0_closeAgreement_b69
  rw [h.plan hd, b1_some]
  by_cases z : nw (25 + 30 * d + 9) = 0
  · rw [if_pos z, if_pos rfl]
    exact ⟨_, _, _, rfl, it9 d6, Or.inl ⟨(h.plan9 hd).mpr z, rfl⟩, h⟩
  · obtain ⟨v, e1, e2⟩ := h.over hd z
    rw [if_neg z, if_neg (by decide), e1, b1_some]
    by_cases q : v = 0
    · rw [if_pos q]
      rw [if_pos q] at e2
      exact ⟨_, _, _, rfl, it9 d6, Or.inr ⟨fun y => z ((h.plan9 hd).mp y), e2⟩, h⟩
    · rw [if_neg q, sD8 hd ld, b1_some]
      rw [if_neg q] at e2
      exact ⟨_, _, _, rfl, it9 d6, Or.inr ⟨fun y => z ((h.plan9 hd).mp y), e2⟩, h.row hd (rD1_noPlan (h.d hd)) (fun j hj => upd_n (by omega)) (fun j hj => upd_n (by omega))⟩
theorem RR.close (h : RR ho pd sf df jf qf nw ns nd ni no t g) (hd : d < nd) : ∃ df' nw1 nw' v, mX0_closeAgreement (nI t) (nI nd) (nI ni) df jf (nI d) = some df' ∧ mX6_endsPromise nw (nI d) = some nw1 ∧ mX6_its nw1 (nI d) 9 = some v ∧ ((v ≤ 0 ∧ nw' = nw1) ∨ (¬ v ≤ 0 ∧ mX6_endsPlan nw1 (nI d) = some nw')) ∧ RR ho pd sf df' jf qf nw' ns nd ni no t g := by
  have ld := h.ld
  have d6 : d < 6 := by omega
  unfold mX0_closeAgreement mX6_endsPromise
  rw [h.prom hd, b1_some, it5 d6, b1_some]
  by_cases z : nw (25 + 30 * d + 5) = 0
  · rw [if_pos z, if_pos z, if_pos rfl]
    obtain ⟨df', nw', v, e1, e2, e3, e4⟩ := h.close2 hd
    exact ⟨df', nw, nw', v, e1, rfl, e2, e3, e4⟩
  · obtain ⟨q1, q2⟩ := (h.d hd).2.2.2.2.2.2.2.2.2.2.2.1 z
    rw [if_neg z, if_neg z, if_neg (by decide), gD7 hd ld, b1_some, it6 d6, b1_some, today_eq, b1_some, h.h0, q1]
    by_cases c1 : nI t < nw (25 + 30 * d + 6)
    · rw [if_pos c1, if_neg (Int32.not_le.mpr c1)]
      obtain ⟨df', nw', v, e1, e2, e3, e4⟩ := h.close2 hd
      exact ⟨df', nw, nw', v, e1, rfl, e2, e3, e4⟩
    · rw [if_neg c1, if_pos (Int32.not_lt.mp c1), gD12 hd ld, b1_some, gD6 hd ld, b1_some, it7 d6, b1_some, b1_some, q2, (h.d hd).2.2.2.2.2.2.1]
      unfold mX0_closeAgreement_b58 mX6_endsPromise_b56
      by_cases c2 : nw (25 + 30 * d + 5) ≤ nw (25 + 30 * d + 7)
      · rw [if_pos c2, if_pos c2, sD6 hd ld, b1_some, pu5 d6, b1_some]
        have h1 := h.row hd (rD1_noProm (h.d hd)) (fun j hj => upd_n (by omega)) (fun j hj => upd_n (by omega))
        obtain ⟨df', nw', v, e1, e2, e3, e4⟩ := h1.close2 hd
        exact ⟨df', _, nw', v, e1, rfl, e2, e3, e4⟩
      · rw [if_neg c2, if_neg c2, cD5 hd ld, b1_some, sD6 hd ld, b1_some, it8 d6, b1_some, pu8 d6, b1_some, pu5 d6, b1_some, (h.d hd).2.2.2.2.2.1]
        have h0 := h.row hd (rD1_broken (v := nw (25 + 30 * d + 8) + 1) (h.d hd)) (fun j hj => upd_n (by omega)) (fun j hj => upd_n (by omega))
        have h1 := h0.row hd (rD1_noProm (h0.d hd)) (fun j hj => upd_n (by omega)) (fun j hj => upd_n (by omega))
        obtain ⟨df', nw', v, e1, e2, e3, e4⟩ := h1.close2 hd
        exact ⟨df', _, nw', v, e1, rfl, e2, e3, e4⟩
/-- the next step of a debtor -/
theorem xs_at {s c : Nat} (h : 7 + 3 * s + c < 785) : inr ((7 + 3 * nI s) + nI c) 785 = true ∧ ((7 + 3 * nI s) + nI c : Int32).toNatClampNeg = 7 + 3 * s + c := by
  have e : (7 + 3 * nI s) + nI c = nI (7 + 3 * s + c) := nI_lin 7 3 c s
  rw [e]; exact ⟨inr_nI h (by decide), nI_clamp (by omega)⟩
theorem RR.stepped (h : RR ho pd sf df jf qf nw ns nd ni no t g) (hd : d < nd) {st : Nat} (hs : st < ns) (e3 : nw (25 + 30 * d + 3) = nI st) : ∃ ni' df' jf' nw', (b1 (mX3_set 13 78 (nI nd) df (nI d) 3 (nI st + 1)) fun df12 => b1 (mX3_set 13 78 (nI nd) df12 (nI d) 4 (nI t)) fun df14 => b1 (mX3_get 3 18 (nI ns) sf (nI st) 2) fun v16 => (if v16 ≤ 0 then some ((1 : Int32), nI ni, df14, jf) else b1 (mX3_isFull 7 420 (nI ni)) fun v19 => (if v19 = 0 then b3 (mX0_addInvoice (nI ni) jf (nI d) v16 (nI t) 1) fun v22 ir23 jf24 => b2 (mX0_placeCash (nI nd) ir23 df14 jf24 (nI d)) fun df26 jf27 => some ((1 : Int32), ir23, df26, jf27) else some ((1 : Int32), nI ni, df14, jf)))) = some (1, nI ni', df', jf') ∧ mX6_steps_b101 (nI d) (nI st) (7 + (3 * nI st)) stp nw = some (nI d, nw') ∧ RR ho pd sf df' jf' qf nw' ns nd ni' no t g := by
  have ld := h.ld
  have ls := h.ls
  have li := h.li
  have d6 : d < 6 := by omega
  have h1 := h.row hd (rD1_stage (v := nI (st + 1)) (h.d hd) ⟨st + 1, by omega, rfl⟩) (fun j hj => upd_n (by omega)) (fun j hj => upd_n (by omega))
  have h2 := h1.row hd (rD1_day (v := nI t) (h1.d hd)) (fun j hj => upd_n (by omega)) (fun j hj => upd_n (by omega))
  unfold mX6_steps_b101
  obtain ⟨x1, x2⟩ := xs_at (s := st) (c := 2) (by omega)
  have x1 : inr ((7 + 3 * nI st) + 2) 785 = true := x1
  have x2 : ((7 + 3 * nI st) + 2 : Int32).toNatClampNeg = 7 + 3 * st + 2 := x2
  rw [sD3 hd ld, b1_some, sD4 hd ld, b1_some, gS2 hs ls, b1_some, nI_1, pu3 d6, b1_some, today_eq, b1_some, upd_n (show 0 ≠ 25 + 30 * d + 3 by omega), h.h0, pu4 d6, b1_some, x1, ck_true, x2, h2.s hs (k := 2) (by decide)]
  generalize hF : upd (upd nw (25 + 30 * d + 3) (nI (st + 1))) (25 + 30 * d + 4) (nI t) = nw2 at h2 ⊢
  by_cases c1 : nw2 (7 + 3 * st + 2) ≤ 0
  · rw [if_pos c1, if_pos c1]
    exact ⟨_, _, _, _, rfl, rfl, h2⟩
  · rw [if_neg c1, if_neg c1, h2.h4]
    by_cases c2 : ni = 60
    · have e60 : mX3_isFull 7 420 (nI ni) = some 1 := by rw [c2]; exact fJ1
      rw [e60, b1_some, if_neg (by decide), if_pos (show (60 : Int32) ≤ nI ni by rw [c2]; exact Int32.le_refl 60)]
      exact ⟨_, _, _, _, rfl, rfl, h2⟩
    · have hlt : ni < 60 := by omega
      obtain ⟨jf1, df', jf', nw', e1, e2, e3, e4⟩ := h2.bill hd hlt (b := nw2 (7 + 3 * st + 2)) (c := nI t) (e := 1) (Int32.le_of_lt (Int32.not_le.mp c1))
      rw [fJ0 hlt, b1_some, if_pos rfl, e1, b3_some, e2, b2_some, if_neg (show ¬ (60 : Int32) ≤ nI ni from nI_ge (b := 60) hlt (by decide)), ck_true, today_eq, b1_some, h2.h0, e3, b2_some]
      exact ⟨_, _, _, _, rfl, rfl, e4⟩
theorem RR.step (h : RR ho pd sf df jf qf nw ns nd ni no t g) (hd : d < nd) : ∃ v ni' df' jf' nw' stp', mX0_doStep (nI t) (nI ns) (nI nd) (nI ni) sf df jf (nI d) = some (v, nI ni', df', jf') ∧ mX6_steps stp nw (nI d) = some (stp', nw') ∧ RR ho pd sf df' jf' qf nw' ns nd ni' no t g ∧ ((v = 0 ∧ stp' = stp) ∨ (v = 1 ∧ stp' = nI d)) := by
  have ld := h.ld
  have ls := h.ls
  have d6 : d < 6 := by omega
  obtain ⟨ag, g1, g2⟩ := h.age (nI d)
  obtain ⟨cv, k1, k2, k3⟩ := h.court hd
  obtain ⟨sv, s1, s2, -⟩ := h.stop hd
  obtain ⟨st, hst, e3⟩ := (h.d hd).2.2.2.2.2.2.2.2.1
  unfold mX0_doStep mX6_steps
  rw [g1, g2, b1_some, b1_some, k1, k2, b1_some, b1_some, gD3 hd ld, it3 d6, b1_some, b1_some, (h.d hd).2.2.2.1, e3, s1, s2, b1_some, b1_some]
  by_cases c0 : ag = 0
  · rw [if_pos c0, if_pos c0]
    by_cases c1 : cv = 0
    · rw [if_pos c1, if_pos c1, sD3 hd ld, b1_some, pu3 d6, b1_some]
      exact ⟨_, _, _, _, _, _, rfl, rfl, h.row hd (rD1_stage (h.d hd) ⟨0, Nat.zero_le _, rfl⟩) (fun j hj => upd_n (by omega)) (fun j hj => upd_n (by omega)), Or.inl ⟨rfl, rfl⟩⟩
    · rw [if_neg c1, if_neg c1]
      exact ⟨_, _, _, _, _, _, rfl, rfl, h, Or.inl ⟨rfl, rfl⟩⟩
  · rw [if_neg c0, if_neg c0]
    by_cases c2 : sv = 0
    · rw [if_pos c2, if_pos c2, h.h2]
      unfold mX0_isStepRipe
      by_cases c3 : st < ns
      · obtain ⟨x1, x2⟩ := xs_at (s := st) (c := 0) (by omega)
        obtain ⟨y1, y2⟩ := xs_at (s := st) (c := 1) (by omega)
        have x1 : inr ((7 + 3 * nI st) + 0) 785 = true := x1
        have x2 : ((7 + 3 * nI st) + 0 : Int32).toNatClampNeg = 7 + 3 * st + 0 := x2
        have y1 : inr ((7 + 3 * nI st) + 1) 785 = true := y1
        have y2 : ((7 + 3 * nI st) + 1 : Int32).toNatClampNeg = 7 + 3 * st + 1 := y2
        obtain ⟨ni', df', jf', nw', r1, r2, r3⟩ := h.stepped (stp := stp) hd c3 e3
        rw [has_in c3 (by omega), b1_some, if_neg (by decide), gS0 c3 ls, b1_some, h.s c3 (k := 0) (by decide), gD4 hd ld, b1_some, (h.d hd).2.2.2.2.1, gS1 c3 ls, b1_some, h.s c3 (k := 1) (by decide), if_pos (nI_lt c3 (by omega)), x1, ck_true, x2, today_eq, b1_some, h.h0, it4 d6, b1_some, y1, ck_true, y2]
        by_cases c4 : nw (7 + 3 * st + 0) ≤ ag
        · rw [if_pos c4, if_neg (Int32.not_lt.mpr c4)]
          by_cases c5 : st = 0
          · rw [if_pos (by rw [c5]; rfl), b1_some, if_neg (by decide), if_pos (show nI st ≤ 0 by rw [c5]; exact Int32.le_refl 0)]
            exact ⟨_, _, _, _, _, _, r1, r2, r3, Or.inr ⟨rfl, rfl⟩⟩
          · rw [if_neg (nI_ne0 (by omega) (by omega)), if_neg (nI_nle (by omega) (by omega))]
            by_cases c6 : nI t - nw (25 + 30 * d + 4) < nw (7 + 3 * st + 1)
            · rw [if_pos c6, b1_some, if_pos rfl, if_neg (Int32.not_le.mpr c6)]
              exact ⟨_, _, _, _, _, _, rfl, rfl, h, Or.inl ⟨rfl, rfl⟩⟩
            · rw [if_neg c6, b1_some, if_neg (by decide), if_pos (Int32.not_lt.mp c6)]
              exact ⟨_, _, _, _, _, _, r1, r2, r3, Or.inr ⟨rfl, rfl⟩⟩
        · rw [if_neg c4, b1_some, if_pos rfl, if_pos (Int32.not_le.mp c4)]
          exact ⟨_, _, _, _, _, _, rfl, rfl, h, Or.inl ⟨rfl, rfl⟩⟩
      · rw [has_out (by omega) (Or.inr (nI_le (show ns ≤ st by omega) (by omega))), b1_some, if_pos rfl, b1_some, if_pos rfl, if_neg (nI_nlt (show ns ≤ st by omega) (by omega))]
        exact ⟨_, _, _, _, _, _, rfl, rfl, h, Or.inl ⟨rfl, rfl⟩⟩
    · rw [if_neg c2, if_neg c2]
      exact ⟨_, _, _, _, _, _, rfl, rfl, h, Or.inl ⟨rfl, rfl⟩⟩
end Close
