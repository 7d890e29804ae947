/-! PURE: the house's questions, asked of both -/
theorem n10 : ¬ (1 : Int32) = 0 := by decide
def BK (ho td pd sr dr ir qr : Int32) (sf df jf qf nw : Nat → Int32) : Prop := ∃ ns nd ni no t : Nat, t ≤ 999 ∧ td = nI t ∧ sr = nI ns ∧ dr = nI nd ∧ ir = nI ni ∧ qr = nI no ∧ RR ho pd sf df jf qf nw ns nd ni no t t
theorem isIn_0 {x a b : Int32} (h : x < a ∨ b < x) : mX6_isIn x a b = some 0 := by
  unfold mX6_isIn
  rcases h with h | h
  · rw [if_pos h]
  · by_cases z : x < a
    · rw [if_pos z]
    · rw [if_neg z, if_pos h]
theorem isIn_1 {x a b : Int32} (h1 : ¬ x < a) (h2 : ¬ b < x) : mX6_isIn x a b = some 1 := by
  unfold mX6_isIn
  rw [if_neg h1, if_neg h2]
theorem isIn_ite {x a b : Int32} : mX6_isIn x a b = some (if x < a then 0 else if b < x then 0 else 1) := by
  unfold mX6_isIn
  split
  · rfl
  · split <;> rfl
theorem pred_lt {n : Nat} (hn : n ≤ 1000) {x : Int32} (h : nI n ≤ x) : nI n - 1 < x := by
  rw [i32_le, nI_toInt (by omega)] at h
  rw [i32_lt]
  have e : (nI n - 1).toInt = (n : Int) - 1 := by
    rw [Int32.toInt_sub, nI_toInt (by omega)]
    exact Int.bmod_eq_of_le (by show _ ≤ (n : Int) - (1 : Int32).toInt; have : (1 : Int32).toInt = 1 := rfl; omega) (by show (n : Int) - (1 : Int32).toInt < _; have : (1 : Int32).toInt = 1 := rfl; omega)
  omega
theorem pred_lt2 {n : Nat} (hn : n ≤ 1000) {x m : Int32} (e : nI n - 1 = m) (h : nI n ≤ x) : m < x := e ▸ pred_lt hn h
theorem ex_ite {c : Prop} [Decidable c] {A A' : Option Int32} {B B' : Option (Int32 × Int32)} (h1 : c → ∃ r, A = some r ∧ B = some (r, 0)) (h2 : ¬ c → ∃ r, A' = some r ∧ B' = some (r, 0)) : ∃ r, (if c then A else A') = some r ∧ (if c then B else B') = some (r, 0) := by
  by_cases z : c
  · rw [if_pos z, if_pos z]; exact h1 z
  · rw [if_neg z, if_neg z]; exact h2 z
theorem in_has {n : Nat} (hn : n ≤ 1000) (x : Int32) : (∃ j, j < n ∧ x = nI j ∧ mX3_has (nI n) x = some 1 ∧ mX6_isIn x 0 (nI n - 1) = some 1) ∨ (mX3_has (nI n) x = some 0 ∧ mX6_isIn x 0 (nI n - 1) = some 0 ∧ (x < 0 ∨ nI n ≤ x)) := by
  rcases pk_ix x (n := n) (by omega) with h | h | ⟨j, hj, rfl⟩
  · exact Or.inr ⟨has_out (by omega) (Or.inl h), isIn_0 (Or.inl h), Or.inl h⟩
  · exact Or.inr ⟨has_out (by omega) (Or.inr h), isIn_0 (Or.inr (pred_lt hn h)), Or.inr h⟩
  · refine Or.inl ⟨j, hj, rfl, has_in hj (by omega), isIn_1 (nI_pos (by omega)) ?_⟩
    obtain ⟨m, rfl⟩ : ∃ m, n = m + 1 := ⟨n - 1, by omega⟩
    rw [nI_pred]
    exact nI_nlt (by omega) (by omega)
section Ask
variable {ho pd : Int32} {sf df jf qf nw : Nat → Int32} {ns nd ni no t g d : Nat} {thr : Int32}
theorem RR.isD (h : RR ho pd sf df jf qf nw ns nd ni no t g) (x : Int32) : (∃ j, j < nd ∧ x = nI j ∧ mX3_has (nI nd) x = some 1 ∧ mX6_isDebtor nw x = some 1) ∨ (mX3_has (nI nd) x = some 0 ∧ mX6_isDebtor nw x = some 0) := by
  unfold mX6_isDebtor
  rw [h.h3]
  have ld := h.ld
  rcases in_has (n := nd) (by omega) x with ⟨j, a, b, c, e⟩ | ⟨c, e, -⟩
  · exact Or.inl ⟨j, a, b, c, by rw [e]; rfl⟩
  · exact Or.inr ⟨c, by rw [e]; rfl⟩
theorem RR.isI (h : RR ho pd sf df jf qf nw ns nd ni no t g) (x : Int32) : (∃ j, j < ni ∧ x = nI j ∧ mX3_has (nI ni) x = some 1 ∧ mX6_isInvoice nw x = some 1) ∨ (mX3_has (nI ni) x = some 0 ∧ mX6_isInvoice nw x = some 0 ∧ (x < 0 ∨ nI ni ≤ x)) := by
  unfold mX6_isInvoice
  rw [h.h4]
  have ld := h.li
  rcases in_has (n := ni) (by omega) x with ⟨j, a, b, c, e⟩ | ⟨c, e, f⟩
  · exact Or.inl ⟨j, a, b, c, by rw [e]; rfl⟩
  · exact Or.inr ⟨c, by rw [e]; rfl, f⟩
theorem RR.isO (h : RR ho pd sf df jf qf nw ns nd ni no t g) (x : Int32) : (∃ j, j < no ∧ x = nI j ∧ mX3_has (nI no) x = some 1 ∧ mX6_isOrder nw x = some 1) ∨ (mX3_has (nI no) x = some 0 ∧ mX6_isOrder nw x = some 0 ∧ (x < 0 ∨ nI no ≤ x)) := by
  unfold mX6_isOrder
  rw [h.h5]
  have ld := h.lo
  rcases in_has (n := no) (by omega) x with ⟨j, a, b, c, e⟩ | ⟨c, e, f⟩
  · exact Or.inl ⟨j, a, b, c, by rw [e]; rfl⟩
  · exact Or.inr ⟨c, by rw [e]; rfl, f⟩
theorem ask_now (h : RR ho pd sf df jf qf nw ns nd ni no t g) {us ct p1 : Int32} : ∃ r, mX5_now us (nI t) pd (nI ns) (nI nd) (nI ni) (nI no) df jf qf ct p1 = some r ∧ mX6_now thr us ct nw p1 = some (r, 0) := by
  obtain ⟨v1, a1, a2⟩ := h.wait
  obtain ⟨v2, b1, b2⟩ := h.all
  obtain ⟨v3, c1, c2⟩ := h.cash
  unfold mX5_now mX6_now
  rw [a1, a2, b1, b2, c1, c2, today_eq, h.h0, h.h2, h.h3, h.h4, h.h5, h.h6]
  simp only [b1_some, size_eq, mX1_size, mX4_length]
  repeat' (first | exact ⟨_, rfl, rfl⟩ | refine ex_ite (fun _ => ?_) (fun _ => ?_))
theorem ask_step (h : RR ho pd sf df jf qf nw ns nd ni no t g) {p1 p2 : Int32} : ∃ r, mX5_step (nI ns) sf p1 p2 = some r ∧ mX6_step thr nw p1 p2 = some (r, 0) := by
  have ls := h.ls
  unfold mX5_step mX6_step
  rw [h.h2]
  rcases in_has (n := ns) (by omega) p1 with ⟨i, hi, rfl, -, e⟩ | ⟨-, e, f⟩
  · rw [e, b1_some, if_neg n10]
    rcases pk_ix p2 (n := 3) (by decide) with c | c | ⟨j, hj, rfl⟩
    · rw [isIn_0 (Or.inl c), b1_some, if_pos rfl, show mX3_get 3 18 (nI ns) sf (nI i) p2 = some (-1) from get_col (w := 3) hi (by omega) (Or.inl c), b1_some]
      exact ⟨_, rfl, rfl⟩
    · rw [isIn_0 (Or.inr (pred_lt2 (n := 3) (m := 2) (by decide) (by decide) c)), b1_some, if_pos rfl, show mX3_get 3 18 (nI ns) sf (nI i) p2 = some (-1) from get_col (w := 3) hi (by omega) (Or.inr (Int32.not_lt.mpr c)), b1_some]
      exact ⟨_, rfl, rfl⟩
    · obtain ⟨x1, x2⟩ := xs_at (s := i) (c := j) (by omega)
      rw [isIn_1 (nI_pos (by omega)) (show ¬ (2 : Int32) < nI j from nI_nlt (a := 2) (by omega) (by decide)), b1_some, if_neg n10, x1, ck_true, x2, show mX3_get 3 18 (nI ns) sf (nI i) (nI j) = _ from get_in (w := 3) (n := 18) hj hi (by omega) (by decide), b1_some, h.s hi hj]
      exact ⟨_, rfl, rfl⟩
  · rw [e, b1_some, if_pos rfl, show mX3_get 3 18 (nI ns) sf p1 p2 = some (-1) from get_row (w := 3) (by omega) f, b1_some]
    exact ⟨_, rfl, rfl⟩
theorem ask_invoice (h : RR ho pd sf df jf qf nw ns nd ni no t g) {p1 p2 : Int32} : ∃ r, mX5_invoice (nI ni) jf p1 p2 = some r ∧ mX6_invoice thr nw p1 p2 = some (r, 0) := by
  have ls := h.li
  unfold mX5_invoice mX6_invoice
  rcases h.isI p1 with ⟨i, hi, rfl, -, e⟩ | ⟨-, e, f⟩
  · rw [e, b1_some, if_neg n10]
    rcases pk_ix p2 (n := 7) (by decide) with c | c | ⟨j, hj, rfl⟩
    · rw [isIn_0 (Or.inl c), b1_some, if_pos rfl, show mX3_get 7 420 (nI ni) jf (nI i) p2 = some (-1) from get_col (w := 7) hi (by omega) (Or.inl c), b1_some]
      exact ⟨_, rfl, rfl⟩
    · rw [isIn_0 (Or.inr (pred_lt2 (n := 7) (m := 6) (by decide) (by decide) c)), b1_some, if_pos rfl, show mX3_get 7 420 (nI ni) jf (nI i) p2 = some (-1) from get_col (w := 7) hi (by omega) (Or.inr (Int32.not_lt.mpr c)), b1_some]
      exact ⟨_, rfl, rfl⟩
    · rw [isIn_1 (nI_pos (by omega)) (show ¬ (6 : Int32) < nI j from nI_nlt (a := 6) (by omega) (by decide)), b1_some, if_neg n10, billed_eq (show i < 60 by omega) hj, b1_some, show mX3_get 7 420 (nI ni) jf (nI i) (nI j) = _ from get_in (w := 7) (n := 420) hj hi (by omega) (by decide), b1_some, h.j hi hj]
      exact ⟨_, rfl, rfl⟩
  · rw [e, b1_some, if_pos rfl, show mX3_get 7 420 (nI ni) jf p1 p2 = some (-1) from get_row (w := 7) (by omega) f, b1_some]
    exact ⟨_, rfl, rfl⟩
theorem ask_order (h : RR ho pd sf df jf qf nw ns nd ni no t g) {p1 p2 : Int32} : ∃ r, mX5_order (nI no) qf p1 p2 = some r ∧ mX6_order thr nw p1 p2 = some (r, 0) := by
  have ls := h.lo
  unfold mX5_order mX6_order
  rcases h.isO p1 with ⟨i, hi, rfl, -, e⟩ | ⟨-, e, f⟩
  · rw [e, b1_some, if_neg n10]
    rcases pk_ix p2 (n := 4) (by decide) with c | c | ⟨j, hj, rfl⟩
    · rw [isIn_0 (Or.inl c), b1_some, if_pos rfl, show mX3_get 4 160 (nI no) qf (nI i) p2 = some (-1) from get_col (w := 4) hi (by omega) (Or.inl c), b1_some]
      exact ⟨_, rfl, rfl⟩
    · rw [isIn_0 (Or.inr (pred_lt2 (n := 4) (m := 3) (by decide) (by decide) c)), b1_some, if_pos rfl, show mX3_get 4 160 (nI no) qf (nI i) p2 = some (-1) from get_col (w := 4) hi (by omega) (Or.inr (Int32.not_lt.mpr c)), b1_some]
      exact ⟨_, rfl, rfl⟩
    · rw [isIn_1 (nI_pos (by omega)) (show ¬ (3 : Int32) < nI j from nI_nlt (a := 3) (by omega) (by decide)), b1_some, if_neg n10, ordered_eq (show i < 40 by omega) hj, b1_some, show mX3_get 4 160 (nI no) qf (nI i) (nI j) = _ from get_in (w := 4) (n := 160) hj hi (by omega) (by decide), b1_some, h.q hi hj]
      exact ⟨_, rfl, rfl⟩
  · rw [e, b1_some, if_pos rfl, show mX3_get 4 160 (nI no) qf p1 p2 = some (-1) from get_row (w := 4) (by omega) f, b1_some]
    exact ⟨_, rfl, rfl⟩
theorem ask_promised (h : RR ho pd sf df jf qf nw ns nd ni no t g) {p1 p2 : Int32} : ∃ r, mX5_promised (nI nd) df p1 p2 = some r ∧ mX6_promised thr nw p1 p2 = some (r, 0) := by
  have ld := h.ld
  unfold mX5_promised mX6_promised
  rcases h.isD p1 with ⟨d, hd, rfl, e1, e2⟩ | ⟨e1, e2⟩
  · have d6 : d < 6 := by omega
    rw [e1, e2, b1_some, b1_some, if_neg n10, if_neg n10, h.prom hd, b1_some, it5 d6, b1_some]
    by_cases z : nw (25 + 30 * d + 5) = 0
    · rw [if_pos z, if_pos rfl, if_pos ((h.prom5 hd).mpr z)]
      exact ⟨_, rfl, rfl⟩
    · obtain ⟨q1, q2⟩ := (h.d hd).2.2.2.2.2.2.2.2.2.2.2.1 z
      rw [if_neg z, if_neg n10, if_neg (fun q => z ((h.prom5 hd).mp q)), gD6 hd ld, gD7 hd ld, gD12 hd ld, b1_some, b1_some, b1_some, q1, q2, (h.d hd).2.2.2.2.2.2.1]
      rcases pk_ix p2 (n := 3) (by decide) with c | c | ⟨j, hj, rfl⟩
      · rw [isIn_0 (Or.inl c), b1_some, if_pos rfl, if_neg (fun y => by rw [y] at c; exact absurd c (by decide)), if_neg (fun y => by rw [y] at c; exact absurd c (by decide)), if_neg (fun y => by rw [y] at c; exact absurd c (by decide))]
        exact ⟨_, rfl, rfl⟩
      · rw [isIn_0 (Or.inr (pred_lt2 (n := 3) (m := 2) (by decide) (by decide) c)), b1_some, if_pos rfl, if_neg (fun y => by rw [y] at c; exact absurd c (by decide)), if_neg (fun y => by rw [y] at c; exact absurd c (by decide)), if_neg (fun y => by rw [y] at c; exact absurd c (by decide))]
        exact ⟨_, rfl, rfl⟩
      · rw [isIn_1 (nI_pos (by omega)) (show ¬ (2 : Int32) < nI j from nI_nlt (a := 2) (by omega) (by decide)), b1_some, if_neg n10, show (5 : Int32) + nI j = nI (5 + j) from nI_add 5 j, its_eq d6 (by omega), b1_some]
        match j, hj with
        | 0, _ => exact ⟨_, rfl, rfl⟩
        | 1, _ => exact ⟨_, rfl, rfl⟩
        | 2, _ => exact ⟨_, rfl, rfl⟩
        | j + 3, hj => omega
  · rw [e1, e2, b1_some, b1_some, if_pos rfl, if_pos rfl]
    exact ⟨_, rfl, rfl⟩
theorem ask_debtor (h : RR ho pd sf df jf qf nw ns nd ni no t g) {p1 p2 : Int32} : (∃ r, mX5_debtor (nI ns) (nI nd) (nI ni) (nI no) df jf qf p1 p2 = some r ∧ mX6_debtor thr nw p1 p2 = some (r, 0)) ∨ (∃ v r, mX3_has (nI nd) p1 = some v ∧ (v = 0 ∨ (¬ v = 0 ∧ (p2.toInt < 0 ∨ 10 < p2.toInt))) ∧ mX6_debtor thr nw p1 p2 = some (r, 1)) := by
  have ld := h.ld
  rcases h.isD p1 with ⟨d, hd, rfl, e1, e2⟩ | ⟨e1, e2⟩
  · have d6 : d < 6 := by omega
    obtain ⟨w1, a1, a2⟩ := h.owes (nI d)
    obtain ⟨w2, b1, b2⟩ := h.debt (nI d)
    obtain ⟨w3, c1, c2⟩ := h.age (nI d)
    obtain ⟨w4, k1, k2⟩ := h.risk hd
    obtain ⟨w5, m1, m2, -⟩ := h.court hd
    obtain ⟨r0, r1, r2, r3, r4, r5, -⟩ := h.d hd
    rcases pk_ix p2 (n := 11) (by decide) with c | c | ⟨j, hj, rfl⟩
    · refine Or.inr ⟨1, 0, e1, Or.inr ⟨by decide, Or.inl ?_⟩, ?_⟩
      · rw [i32_lt] at c; exact c
      · unfold mX6_debtor
        have ne : ∀ k : Int32, ¬ k < 0 → ¬ p2 = k := fun k hk z => hk (z ▸ c)
        rw [e2, b1_some, if_neg n10, if_neg (ne 0 (by decide)), if_neg (ne 1 (by decide)), if_neg (ne 2 (by decide)), if_neg (ne 3 (by decide)), if_neg (ne 4 (by decide)), if_neg (ne 5 (by decide)), if_neg (ne 6 (by decide)), if_neg (ne 7 (by decide)), if_neg (ne 8 (by decide)), if_neg (ne 9 (by decide)), if_neg (ne 10 (by decide))]
        rfl
    · refine Or.inr ⟨1, 0, e1, Or.inr ⟨by decide, Or.inr ?_⟩, ?_⟩
      · rw [i32_le] at c
        have : (nI 11).toInt = 11 := rfl
        omega
      · unfold mX6_debtor
        have ne : ∀ k : Int32, ¬ nI 11 ≤ k → ¬ p2 = k := fun k hk z => hk (z ▸ c)
        rw [e2, b1_some, if_neg n10, if_neg (ne 0 (by decide)), if_neg (ne 1 (by decide)), if_neg (ne 2 (by decide)), if_neg (ne 3 (by decide)), if_neg (ne 4 (by decide)), if_neg (ne 5 (by decide)), if_neg (ne 6 (by decide)), if_neg (ne 7 (by decide)), if_neg (ne 8 (by decide)), if_neg (ne 9 (by decide)), if_neg (ne 10 (by decide))]
        rfl
    · refine Or.inl ?_
      unfold mX5_debtor mX6_debtor
      rw [e1, e2, b1_some, b1_some, if_neg n10, if_neg n10, gD0 hd ld, gD1 hd ld, gD2 hd ld, gD3 hd ld, gD4 hd ld, gD5 hd ld, a1, a2, b1, b2, c1, c2, k1, k2, m1, m2, it0 d6, it1 d6, it2 d6, it3 d6, it4 d6, it8 d6, r0, r1, r2, r3, r4, r5]
      simp only [b1_some]
      match j, hj with
      | 0, _ => exact ⟨_, rfl, rfl⟩
      | 1, _ => exact ⟨_, rfl, rfl⟩
      | 2, _ => exact ⟨_, rfl, rfl⟩
      | 3, _ => exact ⟨_, rfl, rfl⟩
      | 4, _ => exact ⟨_, rfl, rfl⟩
      | 5, _ => exact ⟨_, rfl, rfl⟩
      | 6, _ => exact ⟨_, rfl, rfl⟩
      | 7, _ => exact ⟨_, rfl, rfl⟩
      | 8, _ => exact ⟨_, rfl, rfl⟩
      | 9, _ =>
        show ∃ r, (if w5 = 0 then some (0 : Int32) else some (1 : Int32)) = some r ∧ (if w5 = 0 then some ((0 : Int32), (0 : Int32)) else some ((1 : Int32), (0 : Int32))) = some (r, 0)
        split <;> exact ⟨_, rfl, rfl⟩
      | 10, _ => exact ⟨_, rfl, rfl⟩
      | j + 11, hj => omega
  · refine Or.inr ⟨0, 0, e1, Or.inl rfl, ?_⟩
    unfold mX6_debtor
    rw [e2, b1_some, if_pos rfl]
    rfl
end Ask
