/-! PURE: what a day's end does -/
section Day
variable {ho pd : Int32} {sf df qf : Nat → Int32} {ns nd ni no t g d : Nat} {sfo stp hst : Int32}
theorem RR.wk {jf nw : Nat → Int32} (h : RR ho pd sf df jf qf nw ns nd ni no t g) : RR ho pd sf df jf qf nw ns nd ni no t (g + 1) := by
  obtain ⟨h1, h2, h3, h4, h5⟩ := h
  refine ⟨h1, h2, h3, fun i hi => ?_, h5⟩
  obtain ⟨a1, a2, a3, ⟨a, ha, a4⟩, a5⟩ := h4 i hi
  exact ⟨a1, a2, a3, ⟨a, by omega, a4⟩, a5⟩
theorem age_sim (hg : g ≤ 5000) : ∀ (k k' i : Nat) {jf nw : Nat → Int32}, RR ho pd sf df jf qf nw ns nd ni no t (g + 1) → (∀ i', i ≤ i' → i' < ni → ∃ a, a ≤ g ∧ nw (205 + 7 * i' + 4) = nI a) → ni < k + i → ni < k' + i → i ≤ ni →
    ∃ jf' nw', mX0_ageInvoices_L2 k (nI t) (nI nd) (nI ni) df (nI i) jf = some jf' ∧ mX6_ends_L2 k' sfo (nI i) stp hst nw = mX6_ends_L79 FU sfo 0 stp hst nw' ∧ RR ho pd sf df jf' qf nw' ns nd ni no t (g + 1) := by
  intro k
  induction k with
  | zero => intro k' i jf nw h ha h1 h2 h3; omega
  | succ k ih =>
    intro k' i jf nw h ha h1 h2 h3
    obtain ⟨k', rfl⟩ : ∃ y, k' = y + 1 := ⟨k' - 1, by omega⟩
    have li := h.li
    rw [mX0_ageInvoices_L2.eq_2, mX6_ends_L2.eq_2, size_eq, b1_some, h.h4]
    by_cases e : i = ni
    · rw [e, if_pos (nI_le (Nat.le_refl _) (by omega)), if_pos (nI_le (Nat.le_refl _) (by omega))]
      exact ⟨_, _, rfl, rfl, h⟩
    · have hi : i < ni := by omega
      have hi9 : i < 60 := by omega
      obtain ⟨f, hf, ef⟩ := h.ofJ hi
      obtain ⟨sv, s1, s2, -⟩ := h.stop hf
      have nx := fun (k' : Nat) => ih k' (i + 1) (jf := jf) (nw := nw) h (fun i' q1 q2 => ha i' (by omega) q2)
      rw [if_neg (nI_ge hi (by omega)), if_neg (nI_ge hi (by omega)), gJ0 hi li, b1_some, gJ3 hi li, b1_some, bi0 hi9, b1_some, h.j hi (k := 0) (by decide), h.j hi (k := 3) (by decide), ef, claim_c hi li, claim_r hi9, h.cl hi, b1_some, b1_some, cl0, cl0, today_eq, b1_some, h.h0, bi3 hi9, b1_some, b1_some, s1, s2, b1_some, b1_some, nI_1]
      by_cases c1 : nI t < nw (205 + 7 * i + 3)
      · rw [if_pos c1, if_pos c1]
        obtain ⟨jf', nw', e1, e2, e3⟩ := nx k' (by omega) (by omega) (by omega)
        refine ⟨jf', nw', e1, ?_, e3⟩
        split <;> exact e2
      · rw [if_neg c1, if_neg c1]
        by_cases c2 : CL nw (205 + 7 * i) (nI f) = true
        · rw [if_pos c2, if_pos c2]
          by_cases c3 : sv = 0
          · rw [if_pos c3, if_pos c3, cJ4 hi li, b1_some, xi4 hi9, ck_true, ck_true, ti4 hi9, h.j hi (k := 4) (by decide)]
            obtain ⟨a, ha1, ha2⟩ := ha i (Nat.le_refl i) hi
            refine ih k' (i + 1) (h.cellJ hi (by decide) (by decide) (fun z => absurd z (by decide)) (fun _ => ⟨a + 1, by omega, by rw [ha2, nI_1]⟩) (fun z => absurd z (by decide))) (fun i' q1 q2 => ?_) (by omega) (by omega) (by omega)
            rw [upd_n (show 205 + 7 * i' + 4 ≠ 205 + 7 * i + 4 by clear ha; omega)]
            exact ha i' (by omega) q2
          · rw [if_neg c3, if_neg c3]
            exact nx k' (by omega) (by omega) (by omega)
        · rw [if_neg c2, if_neg c2]
          exact nx k' (by omega) (by omega) (by omega)
end Day
/-! a plan -/
def anyF (p : Nat → Bool) : Nat → Nat → Bool
  | 0, _ => false
  | m + 1, j => p j || anyF p m (j + 1)
/-- the first m instalments together -/
def sumI (q r : Int32) (m : Nat) : Int32 := nI m * q + mnI (nI m) r
theorem sumI_0 {q r : Int32} (hr : 0 ≤ r) : sumI q r 0 = 0 := by
  unfold sumI
  rw [nI_0, Int32.zero_mul, show mnI 0 r = 0 from if_neg (Int32.not_lt.mpr hr)]; rfl
theorem mn_step {r : Int32} {j : Nat} (hj : j < 1000) : mnI (nI (j + 1)) r = mnI (nI j) r + (if nI j < r then 1 else 0) := by
  by_cases c : nI j < r
  · rw [if_pos c, show mnI (nI j) r = nI j from if_neg (Int32.not_lt.mpr (Int32.le_of_lt c)), nI_1]
    refine if_neg (fun z => ?_)
    rw [i32_lt, nI_toInt (by omega)] at c z
    omega
  · rw [if_neg c, Int32.add_zero]
    have c' := Int32.not_lt.mp c
    have e1 : mnI (nI (j + 1)) r = r := if_pos (by
      rw [i32_le, nI_toInt (by omega)] at c'
      rw [i32_lt, nI_toInt (by omega)]
      omega)
    rw [e1]
    by_cases z : r < nI j
    · exact (if_pos z : mnI (nI j) r = r).symm
    · rw [show mnI (nI j) r = nI j from if_neg z]
      exact Int32.le_antisymm c' (Int32.not_lt.mp z)
theorem sumI_s {q r : Int32} {j : Nat} (hj : j < 1000) : sumI q r j + (q + (if nI j < r then 1 else 0)) = sumI q r (j + 1) := by
  unfold sumI
  rw [mn_step hj, ← nI_1, Int32.add_mul, Int32.one_mul, ← Int32.add_assoc, ← Int32.add_assoc, i32_ac (nI j * q) (mnI (nI j) r) q]
theorem rem_n {a n : Nat} (ha : a < 2 ^ 31) (h0 : 0 < n) (hn : n < 2 ^ 31) : nI a - nI a / nI n * nI n = nI (a % n) := by
  rw [pk_div ha h0 hn, pk_mul]
  have e : nI a = nI (a % n) + nI (a / n * n) := by rw [nI_add]; congr 1; exact (Nat.mod_add_div' a n).symm
  rw [e, Int32.add_sub_cancel]
section Plan
variable {ho pd : Int32} {sf df jf qf nw : Nat → Int32} {ns nd ni no t g d : Nat}
abbrev hitB (nw : Nat → Int32) (R : Nat) (q r td : Int32) (m : Nat) : Nat → Bool := fun j => decide (nw (R + 10) + nw (R + 11) * (nI j + 1) = td) && (decide (nw (R + 12) < sumI q r (j + 1)) || decide (j = m))
theorem over_c (h : RR ho pd sf df jf qf nw ns nd ni no t g) (hd : d < nd) {m : Nat} (hm : m + 1 ≤ 12) (h9 : nw (25 + 30 * d + 9) = nI (m + 1)) {q r dv : Int32} (hq : q = df (d * 13 + 9) / nI (m + 1)) (hr : r = df (d * 13 + 9) - df (d * 13 + 9) / nI (m + 1) * nI (m + 1)) (hdv : mX0_debt (nI ni) jf (nI d) = some dv) :
    ∀ (k j : Nat), m + 1 < k + j → j ≤ m + 1 → mX0_isPlanOver_L15 k (nI t) (nI nd) (nI ni) df jf (nI d) (nI m) (nI j) = some (if (anyF (hitB nw (25 + 30 * d) q r (nI t) m) (m + 1 - j) j || decide (dv = 0)) = true then (1 : Int32) else (0 : Int32)) := by
  have ld := h.ld
  obtain ⟨a0, a1, a2, a3, a4, a5, a6, a7, a8, a9, a10, a11, n, hn, a12, a13⟩ := h.d hd
  have en : n = m + 1 := (nI_eq (by omega) (by omega)).mp (a12.symm.trans h9)
  subst en
  obtain ⟨p0, p1, p2, p3, p4⟩ := a13 (by omega)
  intro k
  induction k with
  | zero => intro j h1 h2; omega
  | succ k ih =>
    intro j h1 h2
    rw [mX0_isPlanOver_L15.eq_2]
    by_cases e : j = m + 1
    · subst e
      rw [if_pos (nI_lt (by omega) (by omega)), hdv, b1_some, Nat.sub_self]
      show _ = some (if (false || decide (dv = 0)) = true then (1 : Int32) else (0 : Int32))
      by_cases z : dv = 0
      · rw [if_pos z, decide_eq_true z]; rfl
      · rw [if_neg z, decide_eq_false z]; rfl
    · rw [if_neg (nI_nlt (show j ≤ m by omega) (by omega)), show m + 1 - j = (m + 1 - (j + 1)) + 1 by omega]
      show _ = some (if ((hitB nw (25 + 30 * d) q r (nI t) m j || anyF (hitB nw (25 + 30 * d) q r (nI t) m) (m + 1 - (j + 1)) (j + 1)) || decide (dv = 0)) = true then (1 : Int32) else (0 : Int32))
      have ih' := ih (j + 1) (by omega) (by omega)
      unfold mX0_instalmentDay
      rw [gD10 hd ld, b1_some, gD11 hd ld, b1_some, b1_some, p0, p1, Int32.mul_comm (nI j + 1) _]
      unfold hitB
      by_cases c1 : nw (25 + 30 * d + 10) + nw (25 + 30 * d + 11) * (nI j + 1) = nI t
      · rw [if_pos c1, gD12 hd ld, b1_some, p2, decide_eq_true c1]
        unfold mX0_instalmentsTogether
        rw [gD8 hd ld, b1_some, gD9 hd ld, b1_some, a7, h9, if_pos (show (0 : Int32) < nI (m + 1) from nI_lt (a := 0) (by omega) (by omega))]
        have e0 : (!(nI (m + 1) == 0)) = true := by
          rw [Bool.not_eq_true', beq_eq_false_iff_ne]; exact nI_ne0 (by omega) (by omega)
        rw [e0, ck_true, ck_true, b1_some, nI_1, ← hr, ← hq]
        have e1 : nI (j + 1) * q + mnI (nI (j + 1)) r = sumI q r (j + 1) := rfl
        rw [show nI (j + 1) * q + mnI (nI (j + 1)) r = sumI q r (j + 1) from rfl]
        unfold mX0_isPlanOver_b59
        by_cases c2 : sumI q r (j + 1) ≤ nw (25 + 30 * d + 12)
        · rw [if_pos c2, if_pos rfl, decide_eq_false (Int32.not_lt.mpr c2)]
          by_cases c3 : j = m
          · rw [if_pos (by rw [c3]), decide_eq_true c3]; rfl
          · rw [if_neg (fun z => c3 ((nI_eq (by omega) (by omega)).mp z)), decide_eq_false c3, nI_1, ih']; rfl
        · rw [if_neg c2, if_neg (by decide), decide_eq_true (Int32.not_le.mp c2)]; rfl
      · rw [if_neg c1, decide_eq_false c1, nI_1, ih']; rfl
theorem over_r (h : RR ho pd sf df jf qf nw ns nd ni no t g) (hd : d < nd) {m : Nat} (hm : m + 1 ≤ 12) (h9 : nw (25 + 30 * d + 9) = nI (m + 1)) {q r : Int32} (hq : q = df (d * 13 + 9) / nI (m + 1)) (hr : r = df (d * 13 + 9) - df (d * 13 + 9) / nI (m + 1) * nI (m + 1)) :
    ∀ (k j : Nat) (x4 : Int32), x4 = 0 ∨ x4 = 1 → m + 1 < k + j → j ≤ m + 1 → mX6_endsPlan_L28 k (nI d) (nI (m + 1)) (sumI q r j) x4 (nI j) nw = some (if (anyF (hitB nw (25 + 30 * d) q r (nI t) m) (m + 1 - j) j || decide (x4 = 1)) = true then upd nw (25 + 30 * d + 9) 0 else nw) := by
  have ld := h.ld
  have d6 : d < 6 := by omega
  obtain ⟨a0, a1, a2, a3, a4, a5, a6, a7, a8, a9, a10, a11, n, hn, a12, a13⟩ := h.d hd
  have en : n = m + 1 := (nI_eq (by omega) (by omega)).mp (a12.symm.trans h9)
  subst en
  obtain ⟨p0, p1, p2, p3, p4⟩ := a13 (by omega)
  intro k
  induction k with
  | zero => intro j x4 hx h1 h2; omega
  | succ k ih =>
    intro j x4 hx h1 h2
    rw [mX6_endsPlan_L28.eq_2]
    by_cases e : j = m + 1
    · subst e
      rw [if_pos (nI_le (Nat.le_refl _) (by omega)), pu9 d6, b1_some, Nat.sub_self]
      show _ = some (if (false || decide (x4 = 1)) = true then upd nw (25 + 30 * d + 9) 0 else nw)
      rcases hx with z | z
      · rw [if_pos z, z]; rfl
      · rw [if_neg (by rw [z]; decide), z]; rfl
    · have hj : j < m + 1 := by omega
      rw [if_neg (nI_ge hj (by omega)), show m + 1 - j = (m + 1 - (j + 1)) + 1 by omega]
      show _ = some (if ((hitB nw (25 + 30 * d) q r (nI t) m j || anyF (hitB nw (25 + 30 * d) q r (nI t) m) (m + 1 - (j + 1)) (j + 1)) || decide (x4 = 1)) = true then upd nw (25 + 30 * d + 9) 0 else nw)
      have ih0 := ih (j + 1) 0 (Or.inl rfl) (by omega) (by omega)
      have ih1 := ih (j + 1) 1 (Or.inr rfl) (by omega) (by omega)
      have ihx := ih (j + 1) x4 hx (by omega) (by omega)
      have ei : mX6_its nw (nI d) (13 + nI j) = some (nw (25 + 30 * d + (13 + j))) := by
        rw [show (13 : Int32) + nI j = nI (13 + j) from nI_add 13 j]; exact its_eq d6 (by omega)
      unfold mX6_dayOf
      rw [ei, b1_some, p4 j hj, it10 d6, b1_some, it11 d6, b1_some, b1_some, today_eq, b1_some, h.h0, ← hr, ← hq, sumI_s (by omega)]
      unfold mX6_endsPlan_b85 hitB
      by_cases c1 : nw (25 + 30 * d + 10) + nw (25 + 30 * d + 11) * (nI j + 1) = nI t
      · rw [if_pos c1, decide_eq_true c1, nI_1, ih1]
        rcases hx with z | z
        · rw [if_pos z, it12 d6, b1_some]
          by_cases c2 : nw (25 + 30 * d + 12) < sumI q r (j + 1)
          · rw [if_pos c2, decide_eq_true c2]
            simp only [decide_true, Bool.or_true, Bool.true_or, Bool.and_true, if_true]
          · rw [if_neg c2, decide_eq_false c2, nI_pred]
            by_cases c3 : j = m
            · rw [if_pos (by rw [c3]), decide_eq_true c3]
              simp only [decide_true, Bool.or_true, Bool.true_or, Bool.and_true, if_true]
            · rw [if_neg (fun z => c3 ((nI_eq (by omega) (by omega)).mp z)), decide_eq_false c3, ih0, z]
              simp only [Bool.or_false, Bool.and_false, Bool.false_or]
        · rw [if_neg (by rw [z]; decide), z]
          simp only [decide_true, Bool.or_true, if_true]
      · rw [if_neg c1, decide_eq_false c1, nI_1, ihx]
        simp only [Bool.false_and, Bool.false_or]
theorem RR.over (h : RR ho pd sf df jf qf nw ns nd ni no t g) (hd : d < nd) (h9 : nw (25 + 30 * d + 9) ≠ 0) : ∃ v, mX0_isPlanOver (nI t) (nI nd) (nI ni) df jf (nI d) = some v ∧ mX6_endsPlan nw (nI d) = some (if v = 0 then nw else upd nw (25 + 30 * d + 9) 0) := by
  have ld := h.ld
  have d6 : d < 6 := by omega
  obtain ⟨n, hn, a12, a13⟩ := (h.d hd).2.2.2.2.2.2.2.2.2.2.2.2
  have a7 := (h.d hd).2.2.2.2.2.2.2.1
  have n0 : n ≠ 0 := fun z => h9 (by rw [a12, z]; rfl)
  obtain ⟨m, rfl⟩ : ∃ m, n = m + 1 := ⟨n - 1, by omega⟩
  obtain ⟨-, -, -, p3, -⟩ := a13 n0
  obtain ⟨dv, k1, k2⟩ := h.debt (nI d)
  obtain ⟨a, ha, ea⟩ := nI_of (Int32.not_lt.mpr p3)
  have hr0 : 0 ≤ df (d * 13 + 9) - df (d * 13 + 9) / nI (m + 1) * nI (m + 1) := by
    rw [ea, rem_n ha (by omega) (by omega)]
    have := Nat.mod_lt a (show m + 1 > 0 by omega)
    exact nI_pos' (by omega)
  have e1 := over_c h hd hn a12 rfl rfl k1 FU 0 (by unfold FU; omega) (by omega)
  have e2 := fun x4 hx => over_r h hd hn a12 rfl rfl FU 0 x4 hx (by unfold FU; omega) (by omega)
  refine ⟨_, (by unfold mX0_isPlanOver; rw [gD8 hd ld, b1_some, a7, a12, nI_pred]; exact e1), ?_⟩
  unfold mX6_endsPlan
  rw [it9 d6, b1_some, k2, b1_some, a12]
  rw [sumI_0 hr0] at e2
  by_cases z : dv = 0
  · rw [if_pos z, decide_eq_true z]
    refine (e2 1 (Or.inr rfl)).trans ?_
    simp only [decide_true, Bool.or_true, if_true]
    rfl
  · rw [if_neg z, decide_eq_false z]
    refine (e2 0 (Or.inl rfl)).trans ?_
    simp only [Bool.or_false, show decide ((0 : Int32) = 1) = false from rfl]
    split <;> rfl
end Plan
