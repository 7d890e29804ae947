/-! PURE: next() -/
section Next
variable {ho pd : Int32} {sf : Nat → Int32} {ns nd no d np : Nat}
theorem dayN {t g ni : Nat} {dfP jfP qfP nwP dfG jfG qfG nw : Nat → Int32} {stp hst : Int32} (hd : d < nd) (hP : RR ho pd sf dfP jfP qfP nwP ns nd np no t g) (hG : RR ho pd sf dfG jfG qfG nw ns nd ni no t g) (hA : AG d np ni dfP jfP dfG jfG) (hg : g ≤ 5000) (ht : t + 1 ≤ 1299) :
    ∃ v irP dfP' jfP' stp' hst' nw', mX0_endDayOf (nI t) (nI ns) (nI nd) (nI np) sf dfP jfP (nI d) = some (v, nI (t + 1), irP, dfP', jfP') ∧ mX6_ends stp (nI d) hst nw = some (stp', hst', nw') ∧ ((v = 0 ∧ irP = nI np ∧ hst' = 0 ∧ ∃ nwP' ni' dfG' jfG' qfG', RR ho pd sf dfP' jfP' qfP nwP' ns nd np no (t + 1) (g + 1) ∧ RR ho pd sf dfG' jfG' qfG' nw' ns nd ni' no (t + 1) (g + 1) ∧ AG d np ni' dfP' jfP' dfG' jfG') ∨ (v = 1 ∧ hst' = 1)) := by
  have ld := hP.ld
  have lp := hP.li
  have li := hG.li
  obtain ⟨jfP1, nwP1, a1, -, hP1⟩ := age_sim (sfo := 0) (stp := 0) (hst := 0) hg FU FU 0 hP.wk (fun i _ hi => (hP.2.2.2.1 i hi).2.2.2.1) (by unfold FU; omega) (by unfold FU; omega) (Nat.zero_le _)
  obtain ⟨dfP2, nwPa, nwP2, w, c1, -, -, -, hP2⟩ := hP1.close hd
  have hP3 := hP2.tomorrow ht
  obtain ⟨v, np', dfP4, jfP4, nwP4, stp4, s1, -, hP4, e4⟩ := hP3.step (stp := -1) hd
  obtain ⟨jfG1, nw1, b1, b2, hG1⟩ := age_sim (sfo := nI d) (stp := stp) (hst := hst) hg FU FU 0 hG.wk (fun i _ hi => (hG.2.2.2.1 i hi).2.2.2.1) (by unfold FU; omega) (by unfold FU; omega) (Nat.zero_le _)
  rw [nI_0] at a1 b1 b2
  have hA1 : AG d np ni dfP jfP1 dfG jfG1 := hA.aged (t := t) hd ld li (by unfold mX0_ageInvoices; exact a1) (by unfold mX0_ageInvoices; exact b1)
  obtain ⟨dfG2, nw2, d1, hG2, hA2⟩ := closeN (stp := stp) (hst := hst) (sfo := nI d) hd c1 FU 0 hG1 (fun _ => hA1) (fun z => by omega) (by unfold FU; omega) (Nat.zero_le _)
  have hG3 := hG2.tomorrow ht
  obtain ⟨ni', dfG4, jfG4, nw4, stp', hst', f1, hG4, hor⟩ := stepN (stp := stp) (hst := 0) hd s1 FU 0 ni hG3 (fun _ => ⟨rfl, hA2⟩) (fun z => by omega) (by unfold FU; omega) (Nat.zero_le _)
  obtain ⟨qfG5, nw5, -, g2, hG5⟩ := rel_loop (sfo := nI d) (stp := stp') (hst := hst') FU FU 0 hG4 (by unfold FU; omega) (by unfold FU; omega) (Nat.zero_le _)
  rw [nI_0] at d1 f1 g2
  have hv : bz v = true := by
    rcases e4 with ⟨z, -⟩ | ⟨z, -⟩ <;> rw [z] <;> rfl
  refine ⟨v, nI np', dfP4, jfP4, stp', hst', nw5, ?_, ?_, ?_⟩
  · unfold mX0_endDayOf mX0_ageInvoices
    rw [a1, b1_some, c1, b1_some, nI_1, s1, b4_some, hv, ck_true]
  · unfold mX6_ends
    rw [b2, d1, f1, g2]
  · rcases hor with ⟨z1, z2, z3, z4⟩ | z
    · have en : np' = np := (nI_eq (by have := hP4.li; omega) (by omega)).mp z2
      subst en
      exact Or.inl ⟨z1, rfl, z3, nwP4, ni', dfG4, jfG4, qfG5, hP4, hG5, z4⟩
    · exact Or.inr z
theorem nextN {t0 : Nat} (ht0 : t0 ≤ 999) {xho xtd xpd xsr xdr xir xqr opd oqr thr : Int32} {xsf xdf xjf xqf oqf kp : Nat → Int32} (hd : d < nd) : ∀ (k k' m : Nat) {ni : Nat} {dfP jfP qfP nwP dfG jfG qfG nw : Nat → Int32} {stp : Int32}, RR ho pd sf dfP jfP qfP nwP ns nd np no (t0 + m) (t0 + m) → RR ho pd sf dfG jfG qfG nw ns nd ni no (t0 + m) (t0 + m) → AG d np ni dfP jfP dfG jfG → 201 < k + m → 201 < k' + m → m ≤ 200 →
    ∃ r otd' oir' odf' ojf' stp' hst' nw1 nw', mX5_next_L29 k xho xtd xpd xsr xdr xir xqr xsf xdf xjf xqf (nI d) (nI (m + 1)) ho (nI (t0 + m)) opd (nI ns) (nI nd) (nI np) oqr sf dfP jfP oqf = some (r, ho, otd', opd, nI ns, nI nd, oir', oqr, sf, odf', ojf', oqf) ∧ mX6_next_L31 k' (nI m) thr stp (nI d) 0 nw kp = some (r, thr, stp', nI d, hst', nw', kp) ∧ mX6_back nw1 kp = some nw' := by
  intro k
  induction k with
  | zero => intro k' m ni dfP jfP qfP nwP dfG jfG qfG nw stp hP hG hA h1 h2 h3; omega
  | succ k ih =>
    intro k' m ni dfP jfP qfP nwP dfG jfG qfG nw stp hP hG hA h1 h2 h3
    obtain ⟨k', rfl⟩ : ∃ y, k' = y + 1 := ⟨k' - 1, by omega⟩
    rw [mX5_next_L29.eq_2, mX6_next_L31.eq_2]
    by_cases e : m = 200
    · subst e
      obtain ⟨nwB, q1, -⟩ := back_ok nw kp
      rw [if_pos (show (200 : Int32) < nI (200 + 1) by decide), if_pos (show (200 : Int32) ≤ nI 200 from Int32.le_refl _)]
      unfold mX6_next_b55
      rw [q1, b1_some, if_pos rfl]
      exact ⟨_, _, _, _, _, _, _, nw, nwB, rfl, rfl, q1⟩
    · obtain ⟨v, irP, dfP', jfP', stp', hst', nw2, e1, e2, e3⟩ := dayN (stp := stp) (hst := 0) hd hP hG hA (by omega) (by omega)
      rw [if_neg (show ¬ (200 : Int32) < nI (m + 1) from nI_nlt (a := 200) (by omega) (by decide)), if_neg (show ¬ (200 : Int32) ≤ nI m from nI_ge (b := 200) (by omega) (by decide)), e1, b5_some, if_pos rfl, e2, b3_some, nI_1, nI_1]
      rcases e3 with ⟨z1, z2, z3, nwP', ni', dfG', jfG', qfG', hP', hG', hA'⟩ | ⟨z1, z2⟩
      · rw [if_pos z1, z2, z3]
        exact ih k' (m + 1) hP' hG' hA' (by omega) (by omega) (by omega)
      · obtain ⟨k', rfl⟩ : ∃ y, k' = y + 1 := ⟨k' - 1, by omega⟩
        obtain ⟨nwB, q1, -⟩ := back_ok nw2 kp
        have hne : ¬ hst' = 0 := by rw [z2]; decide
        rw [if_neg (show ¬ v = 0 by rw [z1]; decide), mX6_next_L31.eq_2, if_neg hne]
        unfold mX6_next_b55
        rw [q1, b1_some, if_neg hne]
        refine ⟨_, _, _, _, _, stp', hst', nw2, nwB, rfl, ?_, q1⟩
        split <;> rfl
theorem act_next {td sr dr ir qr thr p1 oho otd opd osr odr oir oqr stp sfo hst : Int32} {df jf qf nw osf odf ojf oqf kp : Nat → Int32} (hB : BK ho td pd sr dr ir qr sf df jf qf nw) : ∃ r oho' otd' opd' osr' odr' oir' oqr' osf' odf' ojf' oqf' stp' sfo' hst' nw' kp', mX5_next ho td pd sr dr ir qr sf df jf qf oho otd opd osr odr oir oqr osf odf ojf oqf p1 = some (r, oho', otd', opd', osr', odr', oir', oqr', osf', odf', ojf', oqf') ∧ mX6_next thr stp sfo hst nw kp p1 = some (r, 0, stp', sfo', hst', nw', kp') ∧ BK ho td pd sr dr ir qr sf df jf qf nw' := by
  obtain ⟨ns, nd, ni, no, t, ht, rfl, rfl, rfl, rfl, rfl, h⟩ := hB
  have hB : BK ho (nI t) pd (nI ns) (nI nd) (nI ni) (nI no) sf df jf qf nw := ⟨ns, nd, ni, no, t, ht, rfl, rfl, rfl, rfl, rfl, h⟩
  unfold mX5_next mX6_next
  rcases h.isD p1 with ⟨d, hd, rfl, e1, e2⟩ | ⟨e1, e2⟩
  · obtain ⟨kp', k1, k2⟩ := keeps_ok nw kp
    obtain ⟨sf', df', jf', qf', c1, c2⟩ := h.copy (td := nI t) (oho := oho) (otd := otd) (opd := opd) (osr := osr) (odr := odr) (oir := oir) (oqr := oqr) (osf := osf) (odf := odf) (ojf := ojf) (oqf := oqf)
    obtain ⟨r, otd', oir', odf', ojf', stp', hst', nw1, nw', g1, g2, g3⟩ := nextN (xho := ho) (xtd := nI t) (xpd := pd) (xsr := nI ns) (xdr := nI nd) (xir := nI ni) (xqr := nI no) (opd := pd) (oqr := nI no) (thr := 0) (xsf := sf) (xdf := df) (xjf := jf) (xqf := qf) (oqf := qf') (kp := kp') (stp := stp) (t0 := t) ht hd FU FU 0 c2 c2 ⟨fun _ _ => rfl, Nat.le_refl _, fun _ _ => rfl, fun _ _ _ _ _ => rfl, fun i h1 h2 => by omega⟩ (by unfold FU; omega) (by unfold FU; omega) (by omega)
    obtain ⟨nwB, m1, m2⟩ := back_ok nw1 kp'
    have en : nw' = nwB := Option.some.inj (g3.symm.trans m1)
    subst en
    rw [nI_0] at g2
    rw [e1, e2, b1_some, b1_some, if_neg n10, if_neg n10, c1, b11_some, k1, b1_some, g2]
    refine ⟨r, ho, otd', pd, nI ns, nI nd, oir', nI no, sf', odf', ojf', qf', stp', nI d, hst', nw', kp', g1, rfl, ⟨ns, nd, ni, no, t, ht, rfl, rfl, rfl, rfl, rfl, h.congrR (fun j hj => (m2 j hj).trans (k2 j hj))⟩⟩
  · rw [e1, e2, b1_some, b1_some, if_pos rfl, if_pos rfl]
    exact ⟨_, _, _, _, _, _, _, _, _, _, _, _, _, _, _, _, _, rfl, rfl, hB⟩
end Next
