/-! PURE: further acts -/
section Order
variable {ho pd : Int32} {sf df jf : Nat → Int32} {ns nd ni no t g d : Nat}
theorem RR.moreQ {qf nw : Nat → Int32} (h : RR ho pd sf df jf qf nw ns nd ni no t g) (hd : d < nd) (hi : no < 40) {b : Int32} (hb : 0 ≤ b) :
    RR ho pd sf df jf (upd (upd (upd (upd (zrow qf (no * 4) 4) (no * 4 + 0) (nI d)) (no * 4 + 1) b) (no * 4 + 2) 0) (no * 4 + 3) (-1))
      (upd (upd (upd (upd (upd nw (625 + 4 * no + 0) (nI d)) (625 + 4 * no + 1) b) (625 + 4 * no + 2) 0) (625 + 4 * no + 3) (-1)) 5 (nI (no + 1))) ns nd ni (no + 1) t g := by
  obtain ⟨h1, h2, h3, h4, h5⟩ := h
  obtain ⟨q0, q1, q2, q3, q4, q5, q6, b1, b2, b3, b4, b5⟩ := h1
  generalize hN : (upd (upd (upd (upd (upd nw (625 + 4 * no + 0) (nI d)) (625 + 4 * no + 1) b) (625 + 4 * no + 2) 0) (625 + 4 * no + 3) (-1)) 5 (nI (no + 1))) = N
  generalize hJ : (upd (upd (upd (upd (zrow qf (no * 4) 4) (no * 4 + 0) (nI d)) (no * 4 + 1) b) (no * 4 + 2) 0) (no * 4 + 3) (-1)) = J
  have off : ∀ j, j ≠ 5 → j < 625 + 4 * no → N j = nw j := fun j z w => by
    rw [← hN, upd_n z, upd_n (by omega), upd_n (by omega), upd_n (by omega), upd_n (by omega)]
  have joff : ∀ j, j < no * 4 → J j = qf j := fun j w => by
    rw [← hJ, upd_n (by omega), upd_n (by omega), upd_n (by omega), upd_n (by omega), zrow_at, if_neg (by omega)]
  have n5 : N 5 = nI (no + 1) := by rw [← hN, upd_s]
  have r3 : N (625 + 4 * no + 3) = -1 := by rw [← hN, upd_n (by omega), upd_s]
  have r2 : N (625 + 4 * no + 2) = 0 := by rw [← hN, upd_n (by omega), upd_n (by omega), upd_s]
  have r1 : N (625 + 4 * no + 1) = b := by rw [← hN, upd_n (by omega), upd_n (by omega), upd_n (by omega), upd_s]
  have r0 : N (625 + 4 * no + 0) = nI d := by rw [← hN, upd_n (by omega), upd_n (by omega), upd_n (by omega), upd_n (by omega), upd_s]
  have j3 : J (no * 4 + 3) = -1 := by rw [← hJ, upd_s]
  have j2 : J (no * 4 + 2) = 0 := by rw [← hJ, upd_n (by omega), upd_s]
  have j1 : J (no * 4 + 1) = b := by rw [← hJ, upd_n (by omega), upd_n (by omega), upd_s]
  have j0 : J (no * 4 + 0) = nI d := by rw [← hJ, upd_n (by omega), upd_n (by omega), upd_n (by omega), upd_s]
  refine ⟨⟨by rw [off 0 (by omega) (by omega)]; exact q0, by rw [off 1 (by omega) (by omega)]; exact q1, by rw [off 2 (by omega) (by omega)]; exact q2, by rw [off 3 (by omega) (by omega)]; exact q3, by rw [off 4 (by omega) (by omega)]; exact q4, n5, by rw [off 6 (by omega) (by omega)]; exact q6, b1, b2, b3, by omega, b5⟩, rS_congr b1 h2 (fun j _ _ => off j (by omega) (by omega)), rD_congr b2 h3 (fun j _ _ => off j (by omega) (by omega)), rJ_congr b3 h4 (fun j _ _ => off j (by omega) (by omega)), fun i hi' => ?_⟩
  by_cases z : i = no
  · subst z
    refine ⟨fun k hk => ?_, ⟨d, hd, r0⟩, by rw [r1]; exact hb⟩
    match k, hk with
    | 0, _ => rw [j0, r0]
    | 1, _ => rw [j1, r1]
    | 2, _ => rw [j2, r2]
    | 3, _ => rw [j3, r3]
    | k + 4, hk => omega
  · obtain ⟨g1, g2⟩ := h5 i (by omega)
    refine ⟨fun k hk => ?_, ?_⟩
    · rw [joff _ (by omega), off _ (by omega) (by omega)]; exact g1 k hk
    · rw [off _ (by omega) (by omega), off (625 + 4 * i + 1) (by omega) (by omega)]; exact g2
/-- a plan's row -/
theorem rD1_plan {c r : Nat} {df nw nw' : Nat → Int32} {a v w : Int32} {n : Nat} (h : rD1 df nw c r ns) (h0 : 0 ≤ a) (hn : n ≤ 12)
    (e : ∀ j, j < 13 → j ≠ 5 → j ≠ 9 → j ≠ 10 → j ≠ 11 → j ≠ 12 → nw' (r + j) = nw (r + j)) (e5 : nw' (r + 5) = 0) (e9 : nw' (r + 9) = nI n) (e10 : nw' (r + 10) = v) (e11 : nw' (r + 11) = w) (e12 : nw' (r + 12) = 0) (eI : ∀ k, k < n → nw' (r + (13 + k)) = a / nI n + (if nI k < a - a / nI n * nI n then 1 else 0)) :
    rD1 (upd (upd (upd (upd (upd (upd df (c + 6) 0) (c + 8) (nI n)) (c + 9) a) (c + 10) v) (c + 11) w) (c + 12) 0) nw' c r ns := by
  obtain ⟨a0, a1, a2, a3, a4, a5, a6, a7, a8, -⟩ := h
  generalize hD : (upd (upd (upd (upd (upd (upd df (c + 6) 0) (c + 8) (nI n)) (c + 9) a) (c + 10) v) (c + 11) w) (c + 12) 0) = D
  have off : ∀ j, j < 6 → D (c + j) = df (c + j) := fun j hj => by
    rw [← hD, upd_n (by omega), upd_n (by omega), upd_n (by omega), upd_n (by omega), upd_n (by omega), upd_n (by omega)]
  have d12 : D (c + 12) = 0 := by rw [← hD, upd_s]
  have d11 : D (c + 11) = w := by rw [← hD, upd_n (by omega), upd_s]
  have d10 : D (c + 10) = v := by rw [← hD, upd_n (by omega), upd_n (by omega), upd_s]
  have d9 : D (c + 9) = a := by rw [← hD, upd_n (by omega), upd_n (by omega), upd_n (by omega), upd_s]
  have d8 : D (c + 8) = nI n := by rw [← hD, upd_n (by omega), upd_n (by omega), upd_n (by omega), upd_n (by omega), upd_s]
  have d6 : D (c + 6) = 0 := by rw [← hD, upd_n (by omega), upd_n (by omega), upd_n (by omega), upd_n (by omega), upd_n (by omega), upd_s]
  refine ⟨?_, ?_, ?_, ?_, ?_, ?_, ?_, ?_, ?_, ?_, Or.inl e5, fun z => absurd e5 z, n, hn, e9, fun _ => ⟨by rw [d10, e10], by rw [d11, e11], by rw [d12, e12], by rw [d9]; exact h0, fun k hk => by rw [d9]; exact eI k hk⟩⟩
  · rw [off 0 (by decide), e 0 (by decide) (by decide) (by decide) (by decide) (by decide) (by decide)]; exact a0
  · rw [off 1 (by decide), e 1 (by decide) (by decide) (by decide) (by decide) (by decide) (by decide)]; exact a1
  · rw [off 2 (by decide), e 2 (by decide) (by decide) (by decide) (by decide) (by decide) (by decide)]; exact a2
  · rw [off 3 (by decide), e 3 (by decide) (by decide) (by decide) (by decide) (by decide) (by decide)]; exact a3
  · rw [off 4 (by decide), e 4 (by decide) (by decide) (by decide) (by decide) (by decide) (by decide)]; exact a4
  · rw [off 5 (by decide), e 8 (by decide) (by decide) (by decide) (by decide) (by decide) (by decide)]; exact a5
  · rw [d6, e5]
  · rw [d8, e9]
  · rw [e 3 (by decide) (by decide) (by decide) (by decide) (by decide) (by decide)]; exact a8
  · rw [e5]; exact Int32.le_refl 0
theorem inst_L {sn : Nat → Int32} {thr snm a : Int32} {n : Nat} (hd : d < 6) (h0 : 0 < n) (hn : n ≤ 12) {nw0 : Nat → Int32} : ∀ (k j : Nat) (nw : Nat → Int32), n < k + j → j ≤ n → (∀ i, i < j → nw (25 + 30 * d + (13 + i)) = a / nI n + (if nI i < a - a / nI n * nI n then 1 else 0)) → (∀ x, (x < 25 + 30 * d + 13 ∨ 25 + 30 * d + 25 ≤ x) → nw x = nw0 x) →
    ∃ nw', mX6_plan_L124 k (nI d) (nI n) a (nI j) thr snm nw sn = some (0, thr, snm, nw', sn) ∧ (∀ i, i < n → nw' (25 + 30 * d + (13 + i)) = a / nI n + (if nI i < a - a / nI n * nI n then 1 else 0)) ∧ ∀ x, (x < 25 + 30 * d + 13 ∨ 25 + 30 * d + 25 ≤ x) → nw' x = nw0 x := by
  intro k
  induction k with
  | zero => intro j nw h1 h2; omega
  | succ k ih =>
    intro j nw h1 h2 h3 h4
    rw [mX6_plan_L124.eq_2]
    by_cases e : j = n
    · rw [e, if_pos (nI_le (Nat.le_refl _) (by omega))]
      subst e
      exact ⟨nw, rfl, h3, h4⟩
    · have hj : j < n := by omega
      have e0 : (!(nI n == 0)) = true := by
        rw [Bool.not_eq_true', beq_eq_false_iff_ne]; exact nI_ne0 (by omega) (by omega)
      have pe : ∀ v, mX6_puts nw (nI d) (nI (13 + j)) v = some (upd nw (25 + 30 * d + (13 + j)) v) := fun v => puts_eq hd (by omega)
      have nx : ∀ v, v = a / nI n + (if nI j < a - a / nI n * nI n then 1 else 0) → ∃ nw', mX6_plan_L124 k (nI d) (nI n) a (nI (j + 1)) thr snm (upd nw (25 + 30 * d + (13 + j)) v) sn = some (0, thr, snm, nw', sn) ∧ (∀ i, i < n → nw' (25 + 30 * d + (13 + i)) = a / nI n + (if nI i < a - a / nI n * nI n then 1 else 0)) ∧ ∀ x, (x < 25 + 30 * d + 13 ∨ 25 + 30 * d + 25 ≤ x) → nw' x = nw0 x := fun v hv => by
        refine ih (j + 1) _ (by omega) (by omega) (fun i hi => ?_) (fun x hx => ?_)
        · by_cases q : i = j
          · rw [q, upd_s]; exact hv
          · rw [upd_n (by omega)]; exact h3 i (by omega)
        · rw [upd_n (by omega)]; exact h4 x hx
      rw [if_neg (nI_ge hj (by omega)), e0, ck_true, ck_true, show (13 : Int32) + nI j = nI (13 + j) from nI_add 13 j, pe, pe, b1_some, b1_some, nI_1]
      by_cases c : a - a / nI n * nI n ≤ nI j
      · rw [if_pos c]; exact nx _ (by rw [if_neg (Int32.not_lt.mpr c)])
      · rw [if_neg c]; exact nx _ (by rw [if_pos (Int32.not_le.mp c)])
end Order
section Acts2
variable {ho td pd sr dr ir qr : Int32} {sf df jf qf nw : Nat → Int32} {ct tpp snm thr : Int32} {kv : Nat → BV} {sn : Nat → Int32}
theorem act_asks {p1 p2 : Int32} (hB : BK ho td pd sr dr ir qr sf df jf qf nw) (hH : HI ct tpp kv snm sn) : ∃ r qr' qf' ct' tpp' kv' snm' nw' sn', mX5_asks ho td pd sr dr ir qr sf df jf qf ct tpp kv p1 p2 = some (r, qr', qf', ct', tpp', kv') ∧ mX6_asks thr snm nw sn p1 p2 = some (r, 0, snm', nw', sn') ∧ BK ho td pd sr dr ir qr' sf df jf qf' nw' ∧ HI ct' tpp' kv' snm' sn' := by
  obtain ⟨ns, nd, ni, no, t, ht, rfl, rfl, rfl, rfl, rfl, h⟩ := hB
  have lo := h.lo
  have hB : BK ho (nI t) pd (nI ns) (nI nd) (nI ni) (nI no) sf df jf qf nw := ⟨ns, nd, ni, no, t, ht, rfl, rfl, rfl, rfl, rfl, h⟩
  unfold mX5_asks mX6_asks
  rcases h.isD p1 with ⟨d, hd, rfl, e1, e2⟩ | ⟨e1, e2⟩
  · rw [e1, e2, b1_some, b1_some, if_neg n10, if_neg n10, sum_r]
    unfold mX5_isSum
    by_cases c1 : p2 < 1
    · rw [if_pos c1, if_pos c1, b1_some, b1_some, if_pos rfl, if_pos rfl]
      exact ⟨_, _, _, _, _, _, _, _, _, rfl, rfl, hB, hH⟩
    rw [if_neg c1, if_neg c1]
    by_cases c2 : 9999 < p2
    · rw [if_pos c2, if_pos c2, b1_some, b1_some, if_pos rfl, if_pos rfl]
      exact ⟨_, _, _, _, _, _, _, _, _, rfl, rfl, hB, hH⟩
    rw [if_neg c2, if_neg c2, b1_some, b1_some, if_neg n10, if_neg n10, h.h5]
    by_cases c5 : no = 40
    · have e40 : mX3_isFull 4 160 (nI no) = some 1 := by rw [c5]; exact fQ1
      rw [e40, b1_some, if_neg n10, if_pos (show nI no = 40 by rw [c5]; rfl)]
      exact ⟨_, _, _, _, _, _, _, _, _, rfl, rfl, hB, hH⟩
    have hlt : no < 40 := by omega
    obtain ⟨ct', tpp', kv', snm', sn', k1, k2, k3⟩ := hH.keep h ht
    have h1 := h.moreQ hd hlt (b := p2) (Int32.le_trans (by decide : (0 : Int32) ≤ 1) (Int32.not_lt.mp c1))
    obtain ⟨rr, qf', nw', g1, g2, g3⟩ := h1.rel hd
    have a1 : no < no + 1 := by omega
    have a2 : no + 1 ≤ 40 := by omega
    have e4 : (upd (upd (upd (upd nw (625 + 4 * no + 0) (nI d)) (625 + 4 * no + 1) p2) (625 + 4 * no + 2) 0) (625 + 4 * no + 3) (-1)) 5 + 1 = nI (no + 1) := by
      rw [upd_n (by omega), upd_n (by omega), upd_n (by omega), upd_n (by omega), h.h5, nI_1]
    rw [fQ0 hlt, b1_some, if_pos rfl, if_neg (show ¬ nI no = 40 from fun z => c5 ((nI_eq (b := 40) (by omega) (by decide)).mp z)), k1, b3_some, k2, b2_some, xo0 hlt, ck_true, xo1 hlt, ck_true, xo2 hlt, ck_true, xo3 hlt, ck_true, to0 hlt, to1 hlt, to2 hlt, to3 hlt, e4, g2, b2_some, g3.h5, nI_pred]
    unfold mX0_addOrder
    rw [aQ hlt, b3_some, sQ0 a1 a2, b1_some, sQ1 a1 a2, b1_some, sQ2 a1 a2, b1_some, sQ3 a1 a2, b1_some, g1, b2_some, b3_some]
    exact ⟨_, _, _, _, _, _, _, _, _, rfl, rfl, ⟨ns, nd, ni, no + 1, t, ht, rfl, rfl, rfl, rfl, rfl, g3⟩, k3⟩
  · rw [e1, e2, b1_some, b1_some, if_pos rfl, if_pos rfl]
    exact ⟨_, _, _, _, _, _, _, _, _, rfl, rfl, hB, hH⟩
theorem act_cancel {p1 : Int32} (hB : BK ho td pd sr dr ir qr sf df jf qf nw) (hH : HI ct tpp kv snm sn) : ∃ r qf' ct' tpp' kv' snm' nw' sn', mX5_cancel ho td pd sr dr ir qr sf df jf qf ct tpp kv p1 = some (r, qf', ct', tpp', kv') ∧ mX6_cancel thr snm nw sn p1 = some (r, 0, snm', nw', sn') ∧ BK ho td pd sr dr ir qr sf df jf qf' nw' ∧ HI ct' tpp' kv' snm' sn' := by
  obtain ⟨ns, nd, ni, no, t, ht, rfl, rfl, rfl, rfl, rfl, h⟩ := hB
  have lo := h.lo
  have hB : BK ho (nI t) pd (nI ns) (nI nd) (nI ni) (nI no) sf df jf qf nw := ⟨ns, nd, ni, no, t, ht, rfl, rfl, rfl, rfl, rfl, h⟩
  unfold mX5_cancel mX6_cancel
  rcases h.isO p1 with ⟨i, hi, rfl, e1, e2⟩ | ⟨e1, e2, -⟩
  · have hi9 : i < 40 := by omega
    rw [e1, e2, b1_some, b1_some, if_neg n10, if_neg n10, gQ2 hi lo, b1_some, or2 hi9, b1_some, h.q hi (k := 2) (by decide)]
    by_cases c1 : nw (625 + 4 * i + 2) ≤ 1
    · obtain ⟨ct', tpp', kv', snm', sn', k1, k2, k3⟩ := hH.keep h ht
      have h1 := h.cellQ (k := 2) (v := 3) hi (by decide) (by decide) (by decide)
      obtain ⟨d, hd, ed⟩ := h1.ofQ hi
      obtain ⟨rr, qf', nw', g1, g2, g3⟩ := h1.rel hd
      rw [if_pos c1, if_pos c1, k1, b3_some, k2, b2_some, sQ2 hi lo, b1_some, gQ0 hi lo, b1_some, xo2 hi9, ck_true, to2 hi9, or0 hi9, b1_some, h1.q hi (k := 0) (by decide), ed, g1, b2_some, g2, b2_some]
      exact ⟨_, _, _, _, _, _, _, _, rfl, rfl, ⟨ns, nd, ni, no, t, ht, rfl, rfl, rfl, rfl, rfl, g3⟩, k3⟩
    · rw [if_neg c1, if_neg c1]
      exact ⟨_, _, _, _, _, _, _, _, rfl, rfl, hB, hH⟩
  · rw [e1, e2, b1_some, b1_some, if_pos rfl, if_pos rfl]
    exact ⟨_, _, _, _, _, _, _, _, rfl, rfl, hB, hH⟩
theorem act_ships {p1 : Int32} (hB : BK ho td pd sr dr ir qr sf df jf qf nw) (hH : HI ct tpp kv snm sn) : ∃ r ir' df' jf' qf' ct' tpp' kv' snm' nw' sn', mX5_ships ho td pd sr dr ir qr sf df jf qf ct tpp kv p1 = some (r, ir', df', jf', qf', ct', tpp', kv') ∧ mX6_ships thr snm nw sn p1 = some (r, 0, snm', nw', sn') ∧ BK ho td pd sr dr ir' qr sf df' jf' qf' nw' ∧ HI ct' tpp' kv' snm' sn' := by
  obtain ⟨ns, nd, ni, no, t, ht, rfl, rfl, rfl, rfl, rfl, h⟩ := hB
  have lo := h.lo
  have li := h.li
  have ld := h.ld
  have hB : BK ho (nI t) pd (nI ns) (nI nd) (nI ni) (nI no) sf df jf qf nw := ⟨ns, nd, ni, no, t, ht, rfl, rfl, rfl, rfl, rfl, h⟩
  unfold mX5_ships mX6_ships
  rcases h.isO p1 with ⟨i, hi, rfl, e1, e2⟩ | ⟨e1, e2, -⟩
  · have hi9 : i < 40 := by omega
    rw [e1, e2, b1_some, b1_some, if_neg n10, if_neg n10, gQ2 hi lo, b1_some, or2 hi9, b1_some, h.q hi (k := 2) (by decide)]
    by_cases c1 : nw (625 + 4 * i + 2) = 1
    · rw [if_pos c1, if_pos c1, h.h4]
      by_cases c5 : ni = 60
      · have e60 : mX3_isFull 7 420 (nI ni) = some 1 := by rw [c5]; exact fJ1
        rw [e60, b1_some, if_neg n10, if_pos (show nI ni = 60 by rw [c5]; rfl)]
        exact ⟨_, _, _, _, _, _, _, _, _, _, _, rfl, rfl, hB, hH⟩
      have hlt : ni < 60 := by omega
      obtain ⟨ct', tpp', kv', snm', sn', k1, k2, k3⟩ := hH.keep h ht
      obtain ⟨d, hd, ed⟩ := h.ofQ hi
      have d6 : d < 6 := by omega
      have h1 := h.cellQ (k := 2) (v := 2) hi (by decide) (by decide) (by decide)
      have h2 := h1.cellQ (k := 3) (v := nI ni) hi (by decide) (by decide) (by decide)
      have hs : 0 ≤ nw (625 + 4 * i + 1) := (h.2.2.2.2 i hi).2.2
      have o1 : (upd (upd nw (625 + 4 * i + 2) 2) (625 + 4 * i + 3) (nI ni)) (625 + 4 * i + 1) = nw (625 + 4 * i + 1) := by rw [upd_n (by omega), upd_n (by omega)]
      have o2 : (upd (upd nw (625 + 4 * i + 2) 2) (625 + 4 * i + 3) (nI ni)) (25 + 30 * d + 1) = nw (25 + 30 * d + 1) := by rw [upd_n (by omega), upd_n (by omega)]
      have o3 : (upd nw (625 + 4 * i + 2) 2) 4 = nI ni := by rw [upd_n (by omega)]; exact h.h4
      obtain ⟨jf1, df', jf', nw', g1, g2, g3, g4⟩ := h2.bill hd hlt (b := nw (625 + 4 * i + 1)) (c := nI t + nw (25 + 30 * d + 1)) (e := 0) hs
      rw [fJ0 hlt, b1_some, if_pos rfl, if_neg (show ¬ nI ni = 60 from fun z => c5 ((nI_eq (b := 60) (by omega) (by decide)).mp z)), k1, b3_some, k2, b2_some, or0 hi9, b1_some, ed, xo2 hi9, ck_true, xo3 hi9, ck_true, to2 hi9, to3 hi9, o3, or1 hi9, b1_some, o1, today_eq, b1_some, h2.h0, it1 d6, b1_some, o2, g3, b2_some]
      unfold mX0_billOrder
      rw [gQ0 hi lo, b1_some, h.q hi (k := 0) (by decide), ed, gD1 hd ld, b1_some, gQ1 hi lo, b1_some, h.q hi (k := 1) (by decide), (h.d hd).2.1, g1, b3_some, sQ2 hi lo, b1_some, sQ3 hi lo, b1_some, g2, b2_some, b5_some]
      exact ⟨_, _, _, _, _, _, _, _, _, _, _, rfl, rfl, ⟨ns, nd, ni + 1, no, t, ht, rfl, rfl, rfl, rfl, rfl, g4⟩, k3⟩
    · rw [if_neg c1, if_neg c1]
      exact ⟨_, _, _, _, _, _, _, _, _, _, _, rfl, rfl, hB, hH⟩
  · rw [e1, e2, b1_some, b1_some, if_pos rfl, if_pos rfl]
    exact ⟨_, _, _, _, _, _, _, _, _, _, _, rfl, rfl, hB, hH⟩
end Acts2
