/-! PURE: orders are released; a day ends -/
section Rel
variable {ho pd : Int32} {sf df jf : Nat → Int32} {ns nd ni no t g d : Nat}
theorem rel_sim (hd : d < nd) : ∀ (k k' i : Nat) {qf nw : Nat → Int32} (x : Int32), RR ho pd sf df jf qf nw ns nd ni no t g → no < k + i → no < k' + i → i ≤ no →
    ∃ r qf' nw', mX0_release_L4 k ho (nI nd) (nI ni) (nI no) df jf (nI d) x (nI i) qf = some (r, qf') ∧ mX6_releases_L4 k' (nI d) x (nI i) nw = some (r, nw') ∧ RR ho pd sf df jf qf' nw' ns nd ni no t g := by
  intro k
  induction k with
  | zero => intro k' i qf nw x h h1 h2 h3; omega
  | succ k ih =>
    intro k' i qf nw x h h1 h2 h3
    obtain ⟨k', rfl⟩ : ∃ y, k' = y + 1 := ⟨k' - 1, by omega⟩
    have lo := h.lo
    have ld := h.ld
    rw [mX0_release_L4.eq_2, mX6_releases_L4.eq_2, size_eq, b1_some, h.h5]
    by_cases e : i = no
    · subst e
      rw [if_pos (nI_le (Nat.le_refl _) (by omega)), if_pos (nI_le (Nat.le_refl _) (by omega))]
      exact ⟨_, _, _, rfl, rfl, h⟩
    · have hi : i < no := by omega
      have hi9 : i < 40 := by omega
      rw [if_neg (nI_ge hi (by omega)), if_neg (nI_ge hi (by omega)), gQ0 hi lo, or0 hi9, b1_some, b1_some, h.q hi (k := 0) (by decide), nI_1]
      by_cases c1 : nw (625 + 4 * i + 0) = nI d
      · rw [if_pos c1, if_pos c1, gQ2 hi lo, or2 hi9, b1_some, b1_some, h.q hi (k := 2) (by decide)]
        by_cases c2 : nw (625 + 4 * i + 2) = 0
        · obtain ⟨rk, k1, k2⟩ := h.risk hd
          rw [if_pos c2, if_pos c2, it3 (show d < 6 by omega), b1_some, h.h1, k2, b1_some, or1 hi9, b1_some, it0 (show d < 6 by omega), b1_some, xo2 hi9, ck_true, to2 hi9]
          unfold mX0_mayRelease
          rw [gD3 hd ld, b1_some, (h.d hd).2.2.2.1, k1, b1_some, gQ1 hi lo, b1_some, gD0 hd ld, b1_some, (h.d hd).1, h.q hi (k := 1) (by decide)]
          by_cases c3 : ho ≤ nw (25 + 30 * d + 3)
          · rw [if_pos c3, if_pos c3, b1_some, if_pos rfl]
            exact ⟨_, _, _, rfl, rfl, h⟩
          · rw [if_neg c3, if_neg c3]
            by_cases c4 : nw (25 + 30 * d + 0) < rk + nw (625 + 4 * i + 1)
            · rw [if_pos c4, if_neg (Int32.not_le.mpr c4), b1_some, if_pos rfl]
              exact ⟨_, _, _, rfl, rfl, h⟩
            · rw [if_neg c4, if_pos (Int32.not_lt.mp c4), b1_some, if_neg (by decide), sQ2 hi lo, b1_some]
              exact ih k' (i + 1) (x + 1) (h.cellQ hi (by decide) (by decide) (by decide)) (by omega) (by omega) (by omega)
        · rw [if_neg c2, if_neg c2]
          exact ih k' (i + 1) x h (by omega) (by omega) (by omega)
      · rw [if_neg c1, if_neg c1]
        exact ih k' (i + 1) x h (by omega) (by omega) (by omega)
theorem RR.rel {qf nw : Nat → Int32} (h : RR ho pd sf df jf qf nw ns nd ni no t g) (hd : d < nd) : ∃ r qf' nw', mX0_release ho (nI nd) (nI ni) (nI no) df jf qf (nI d) = some (r, qf') ∧ mX6_releases nw (nI d) = some (r, nw') ∧ RR ho pd sf df jf qf' nw' ns nd ni no t g := by
  have lo := h.lo
  exact rel_sim hd FU FU 0 0 h (by unfold FU; omega) (by unfold FU; omega) (Nat.zero_le _)
end Rel
section Inv
variable {ho pd : Int32} {sf df qf : Nat → Int32} {ns nd ni no t g d : Nat}
/-- a further invoice -/
theorem addInv_c {jf : Nat → Int32} {a b c e : Int32} (h : ni < 60) : mX0_addInvoice (nI ni) jf a b c e = some (nI ni, nI (ni + 1), upd (upd (upd (upd (upd (zrow jf (ni * 7) 7) (ni * 7 + 0) a) (ni * 7 + 1) b) (ni * 7 + 2) b) (ni * 7 + 3) c) (ni * 7 + 6) e) := by
  unfold mX0_addInvoice
  have h1 : ni < ni + 1 := by omega
  have h2 : ni + 1 ≤ 60 := by omega
  rw [aJ h, b3_some, sJ0 h1 h2, b1_some, sJ1 h1 h2, b1_some, sJ2 h1 h2, b1_some, sJ3 h1 h2, b1_some, sJ6 h1 h2, b1_some]
theorem RR.more {jf nw : Nat → Int32} (h : RR ho pd sf df jf qf nw ns nd ni no t g) (hd : d < nd) (hi : ni < 60) {b c e : Int32} (hb : 0 ≤ b) :
    RR ho pd sf df (upd (upd (upd (upd (upd (zrow jf (ni * 7) 7) (ni * 7 + 0) (nI d)) (ni * 7 + 1) b) (ni * 7 + 2) b) (ni * 7 + 3) c) (ni * 7 + 6) e) qf
      (upd (upd (upd (upd (upd (upd (upd (upd nw (205 + 7 * ni + 0) (nI d)) (205 + 7 * ni + 1) b) (205 + 7 * ni + 2) b) (205 + 7 * ni + 3) c) (205 + 7 * ni + 4) 0) (205 + 7 * ni + 5) 0) (205 + 7 * ni + 6) e) 4 (nI (ni + 1))) ns nd (ni + 1) no t g := by
  obtain ⟨h1, h2, h3, h4, h5⟩ := h
  obtain ⟨q0, q1, q2, q3, q4, q5, q6, b1, b2, b3, b4, b5⟩ := h1
  generalize hN : (upd (upd (upd (upd (upd (upd (upd (upd nw (205 + 7 * ni + 0) (nI d)) (205 + 7 * ni + 1) b) (205 + 7 * ni + 2) b) (205 + 7 * ni + 3) c) (205 + 7 * ni + 4) 0) (205 + 7 * ni + 5) 0) (205 + 7 * ni + 6) e) 4 (nI (ni + 1))) = N
  generalize hJ : (upd (upd (upd (upd (upd (zrow jf (ni * 7) 7) (ni * 7 + 0) (nI d)) (ni * 7 + 1) b) (ni * 7 + 2) b) (ni * 7 + 3) c) (ni * 7 + 6) e) = J
  have off : ∀ j, j ≠ 4 → (j < 205 + 7 * ni ∨ 205 + 7 * ni + 7 ≤ j) → N j = nw j := fun j z w => by
    rw [← hN, upd_n z, upd_n (by omega), upd_n (by omega), upd_n (by omega), upd_n (by omega), upd_n (by omega), upd_n (by omega), upd_n (by omega)]
  have joff : ∀ j, j < ni * 7 → J j = jf j := fun j w => by
    rw [← hJ, upd_n (by omega), upd_n (by omega), upd_n (by omega), upd_n (by omega), upd_n (by omega), zrow_at, if_neg (by omega)]
  have n4 : N 4 = nI (ni + 1) := by rw [← hN, upd_s]
  have r6 : N (205 + 7 * ni + 6) = e := by rw [← hN, upd_n (by omega), upd_s]
  have r5 : N (205 + 7 * ni + 5) = 0 := by rw [← hN, upd_n (by omega), upd_n (by omega), upd_s]
  have r4 : N (205 + 7 * ni + 4) = 0 := by rw [← hN, upd_n (by omega), upd_n (by omega), upd_n (by omega), upd_s]
  have r3 : N (205 + 7 * ni + 3) = c := by rw [← hN, upd_n (by omega), upd_n (by omega), upd_n (by omega), upd_n (by omega), upd_s]
  have r2 : N (205 + 7 * ni + 2) = b := by rw [← hN, upd_n (by omega), upd_n (by omega), upd_n (by omega), upd_n (by omega), upd_n (by omega), upd_s]
  have r1 : N (205 + 7 * ni + 1) = b := by rw [← hN, upd_n (by omega), upd_n (by omega), upd_n (by omega), upd_n (by omega), upd_n (by omega), upd_n (by omega), upd_s]
  have r0 : N (205 + 7 * ni + 0) = nI d := by rw [← hN, upd_n (by omega), upd_n (by omega), upd_n (by omega), upd_n (by omega), upd_n (by omega), upd_n (by omega), upd_n (by omega), upd_s]
  have j6 : J (ni * 7 + 6) = e := by rw [← hJ, upd_s]
  have j3 : J (ni * 7 + 3) = c := by rw [← hJ, upd_n (by omega), upd_s]
  have j2 : J (ni * 7 + 2) = b := by rw [← hJ, upd_n (by omega), upd_n (by omega), upd_s]
  have j1 : J (ni * 7 + 1) = b := by rw [← hJ, upd_n (by omega), upd_n (by omega), upd_n (by omega), upd_s]
  have j0 : J (ni * 7 + 0) = nI d := by rw [← hJ, upd_n (by omega), upd_n (by omega), upd_n (by omega), upd_n (by omega), upd_s]
  have j4 : J (ni * 7 + 4) = 0 := by rw [← hJ, upd_n (by omega), upd_n (by omega), upd_n (by omega), upd_n (by omega), upd_n (by omega), zrow_at, if_pos (by omega)]
  have j5 : J (ni * 7 + 5) = 0 := by rw [← hJ, upd_n (by omega), upd_n (by omega), upd_n (by omega), upd_n (by omega), upd_n (by omega), zrow_at, if_pos (by omega)]
  refine ⟨⟨by rw [off 0 (by omega) (by omega)]; exact q0, by rw [off 1 (by omega) (by omega)]; exact q1, by rw [off 2 (by omega) (by omega)]; exact q2, by rw [off 3 (by omega) (by omega)]; exact q3, n4, by rw [off 5 (by omega) (by omega)]; exact q5, by rw [off 6 (by omega) (by omega)]; exact q6, b1, b2, by omega, b4, b5⟩, rS_congr b1 h2 (fun j _ _ => off j (by omega) (by omega)), rD_congr b2 h3 (fun j _ _ => off j (by omega) (by omega)), fun i hi' => ?_, rQ_congr b4 h5 (fun j _ _ => off j (by omega) (by omega))⟩
  by_cases z : i = ni
  · subst z
    refine ⟨fun k hk => ?_, ⟨d, hd, r0⟩, by rw [r2]; exact hb, ⟨0, Nat.zero_le _, r4⟩, Or.inl r5⟩
    match k, hk with
    | 0, _ => rw [j0, r0]
    | 1, _ => rw [j1, r1]
    | 2, _ => rw [j2, r2]
    | 3, _ => rw [j3, r3]
    | 4, _ => rw [j4, r4]
    | 5, _ => rw [j5, r5]
    | 6, _ => rw [j6, r6]
    | k + 7, hk => omega
  · obtain ⟨g1, g2, g3, g4, g5⟩ := h4 i (by omega)
    refine ⟨fun k hk => ?_, ?_⟩
    · rw [joff _ (by omega), off _ (by omega) (by omega)]; exact g1 k hk
    · rw [off _ (by omega) (by omega), off (205 + 7 * i + 2) (by omega) (by omega), off (205 + 7 * i + 4) (by omega) (by omega), off (205 + 7 * i + 5) (by omega) (by omega)]; exact ⟨g2, g3, g4, g5⟩
/-- a further invoice, and cash is placed on it -/
theorem RR.bill {jf nw : Nat → Int32} (h : RR ho pd sf df jf qf nw ns nd ni no t g) (hd : d < nd) (hi : ni < 60) {b c e : Int32} (hb : 0 ≤ b) : ∃ jf1 df' jf' nw', mX0_addInvoice (nI ni) jf (nI d) b c e = some (nI ni, nI (ni + 1), jf1) ∧ mX0_placeCash (nI nd) (nI (ni + 1)) df jf1 (nI d) = some (df', jf') ∧ mX6_invoices nw (nI d) b c e = some (nI ni, nw') ∧ RR ho pd sf df' jf' qf nw' ns nd (ni + 1) no t g := by
  have hR := h.more hd hi (b := b) (c := c) (e := e) hb
  obtain ⟨df', jf', nw', e1, e2, e3⟩ := hR.place hd
  refine ⟨_, df', jf', nw', addInv_c hi, e1, ?_, e3⟩
  unfold mX6_invoices
  rw [h.h4, xi0 hi, ck_true, xi1 hi, ck_true, xi2 hi, ck_true, xi3 hi, ck_true, xi4 hi, ck_true, xi5 hi, ck_true, xi6 hi, ck_true, ti0 hi, ti1 hi, ti2 hi, ti3 hi, ti4 hi, ti5 hi, ti6 hi]
  have e4 : (upd (upd (upd (upd (upd (upd (upd nw (205 + 7 * ni + 0) (nI d)) (205 + 7 * ni + 1) b) (205 + 7 * ni + 2) b) (205 + 7 * ni + 3) c) (205 + 7 * ni + 4) 0) (205 + 7 * ni + 5) 0) (205 + 7 * ni + 6) e) 4 + 1 = nI (ni + 1) := by
    rw [upd_n (by omega), upd_n (by omega), upd_n (by omega), upd_n (by omega), upd_n (by omega), upd_n (by omega), upd_n (by omega), h.h4, nI_1]
  rw [e4, e2, b1_some, e3.h4, nI_pred]
end Inv
