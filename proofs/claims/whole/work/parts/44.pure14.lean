/-! PURE: aged, planned -/
section Aged
variable {ho pd : Int32} {sf df jf qf nw : Nat → Int32} {ns nd ni no t g d : Nat} {thr : Int32}
/-- the bracket of an age -/
def brk (a : Nat) : Nat := if a ≤ 60 then (if a ≤ 30 then (if a = 0 then 0 else 1) else 2) else 3
theorem brk_c {jf : Nat → Int32} {i a : Nat} (hi : i < ni) (hn : ni ≤ 60) (ha : a < 2 ^ 31) (h4 : jf (i * 7 + 4) = nI a) : mX0_bracketOf (nI ni) jf (nI i) = some (if jf (i * 7 + 5) = 1 then 4 else nI (brk a)) := by
  unfold mX0_bracketOf brk
  rw [gJ5 hi hn, b1_some, gJ4 hi hn, b1_some, h4]
  by_cases z : jf (i * 7 + 5) = 1
  · rw [if_pos z, if_pos z]
  · rw [if_neg z, if_neg z]
    by_cases c1 : a ≤ 60
    · rw [if_pos (show nI a ≤ 60 from nI_le (b := 60) c1 (by decide)), if_pos c1]
      by_cases c2 : a ≤ 30
      · rw [if_pos (show nI a ≤ 30 from nI_le (b := 30) c2 (by decide)), if_pos c2]
        by_cases c3 : a = 0
        · rw [if_pos (show nI a ≤ 0 by rw [c3]; exact Int32.le_refl 0), if_pos c3]; rfl
        · rw [if_neg (nI_nle (by omega) ha), if_neg c3]; rfl
      · rw [if_neg (show ¬ nI a ≤ 30 from nI_ge (a := 30) (by omega) ha), if_neg c2]; rfl
    · rw [if_neg (show ¬ nI a ≤ 60 from nI_ge (a := 60) (by omega) ha), if_neg c1]; rfl
theorem aged_1 {a w : Nat} (ha : a < 2 ^ 31) (hw : w < 4) : mX6_isAged (nI a) (nI w) = some (if brk a = w then 1 else 0) := by
  unfold mX6_isAged brk
  match w, hw with
  | 0, _ =>
    rw [if_pos (show nI 0 = 0 from rfl)]
    by_cases c3 : a = 0
    · rw [if_pos (show nI a = 0 by rw [c3]; rfl), if_pos (by rw [if_pos (by omega), if_pos (by omega), if_pos c3])]
    · rw [if_neg (nI_ne0 (by omega) ha), if_neg (by rw [if_neg c3]; split <;> (try split) <;> omega)]
  | 1, _ =>
    rw [if_neg (show ¬ nI 1 = 0 by decide), if_pos (show nI 1 = 1 from rfl)]
    by_cases c1 : 1 ≤ a ∧ a ≤ 30
    · rw [isIn_1 (show ¬ nI a < 1 from nI_nlt (b := 1) c1.1 ha) (show ¬ (30 : Int32) < nI a from nI_nlt (a := 30) c1.2 (by decide)), b1_some, if_pos (by rw [if_pos (by omega), if_pos (by omega), if_neg (by omega)])]; rfl
    · rw [isIn_0 (by
        rcases Nat.lt_or_ge a 1 with z | z
        · exact Or.inl (nI_lt (b := 1) z (by decide))
        · exact Or.inr (nI_lt (a := 30) (by omega) ha)), b1_some, if_neg (by split <;> (try split) <;> (try split) <;> omega)]; rfl
  | 2, _ =>
    rw [if_neg (show ¬ nI 2 = 0 by decide), if_neg (show ¬ nI 2 = 1 by decide), if_pos (show nI 2 = 2 from rfl)]
    by_cases c1 : 31 ≤ a ∧ a ≤ 60
    · rw [isIn_1 (show ¬ nI a < 31 from nI_nlt (b := 31) c1.1 ha) (show ¬ (60 : Int32) < nI a from nI_nlt (a := 60) c1.2 (by decide)), b1_some, if_pos (by rw [if_pos (by omega), if_neg (by omega)])]; rfl
    · rw [isIn_0 (by
        rcases Nat.lt_or_ge a 31 with z | z
        · exact Or.inl (nI_lt (b := 31) z (by decide))
        · exact Or.inr (nI_lt (a := 60) (by omega) ha)), b1_some, if_neg (by split <;> (try split) <;> (try split) <;> omega)]; rfl
  | 3, _ =>
    rw [if_neg (show ¬ nI 3 = 0 by decide), if_neg (show ¬ nI 3 = 1 by decide), if_neg (show ¬ nI 3 = 2 by decide)]
    by_cases c1 : a ≤ 60
    · rw [if_pos (show nI a ≤ 60 from nI_le (b := 60) c1 (by decide)), if_neg (by split <;> (try split) <;> (try split) <;> omega)]
    · rw [if_neg (show ¬ nI a ≤ 60 from nI_ge (a := 60) (by omega) ha), if_pos (by rw [if_neg c1])]
  | w + 4, hw => omega
/-- is a row's sum asked for? -/
theorem b65_eq {rec35 : Int32 → Int32 → Int32 → Int32 → Int32 → Option (Int32 × Int32)} (h : RR ho pd sf df jf qf nw ns nd ni no t g) (hg : g ≤ 5000) {i w : Nat} (hi : i < ni) (hw : w < 5) {p1 x : Int32} : ∃ B : Bool, (mX0_bracketOf (nI ni) jf (nI i) = some (if B = true then nI w else -1) ∨ ∃ v, ¬ v = nI w ∧ B = false ∧ mX0_bracketOf (nI ni) jf (nI i) = some v) ∧ mX6_aged_b65 rec35 nw p1 (nI w) x (nI i) thr = if B = true then rec35 p1 (nI w) (x + nw (205 + 7 * i + 2)) (nI i + 1) thr else rec35 p1 (nI w) x (nI i + 1) thr := by
  have li := h.li
  have hi9 : i < 60 := by omega
  obtain ⟨-, -, -, ⟨a, ha, ea⟩, b5⟩ := h.2.2.2.1 i hi
  have ha' : a < 2 ^ 31 := by omega
  have eb := brk_c (jf := jf) hi li ha' ((h.j hi (k := 4) (by decide)).trans ea)
  have hb : brk a < 4 := by unfold brk; split <;> (try split) <;> (try split) <;> omega
  rw [h.j hi (k := 5) (by decide)] at eb
  unfold mX6_aged_b65 mX6_aged_b118
  rw [bi5 hi9, b1_some, b1_some, bi2 hi9, b1_some, bi4 hi9, b1_some, ea]
  by_cases c4 : w = 4
  · subst c4
    rw [if_pos (show nI 4 = 4 from rfl)]
    by_cases z : nw (205 + 7 * i + 5) = 1
    · rw [if_pos z] at eb
      refine ⟨true, Or.inl (by rw [eb]; rfl), ?_⟩
      rw [if_pos z, if_neg n10, if_pos rfl]
    · rw [if_neg z] at eb
      refine ⟨false, Or.inr ⟨_, fun q => ?_, rfl, eb⟩, ?_⟩
      · have := (nI_eq (by omega) (by omega)).mp q; omega
      · rw [if_neg z, if_pos rfl, if_neg (by decide)]
  · have hw4 : w < 4 := by omega
    rw [if_neg (show ¬ nI w = 4 from fun q => c4 ((nI_eq (b := 4) (by omega) (by decide)).mp q))]
    rcases b5 with z | z
    · rw [if_pos z, aged_1 ha' hw4, b1_some]
      rw [if_neg (show ¬ nw (205 + 7 * i + 5) = 1 from fun q => n10 (q.symm.trans z))] at eb
      by_cases c : brk a = w
      · refine ⟨true, Or.inl (by rw [eb, if_pos rfl, c]), ?_⟩
        rw [if_pos c, if_neg n10, if_neg n10, if_pos rfl]
      · refine ⟨false, Or.inr ⟨_, fun q => c ((nI_eq (by omega) (by omega)).mp q), rfl, eb⟩, ?_⟩
        rw [if_neg c, if_pos rfl, if_pos rfl, if_neg (by decide)]
    · rw [if_neg (show ¬ nw (205 + 7 * i + 5) = 0 from fun q => n10 (z.symm.trans q)), if_pos rfl]
      rw [if_pos z] at eb
      refine ⟨false, Or.inr ⟨_, fun q => c4 ((nI_eq (b := 4) (by omega) (by decide)).mp q.symm), rfl, eb⟩, ?_⟩
      rw [if_neg (by decide)]
theorem aged_sim (h : RR ho pd sf df jf qf nw ns nd ni no t g) (hg : g ≤ 5000) {w : Nat} (hw : w < 5) {p1 : Int32} : ∀ (k k' i : Nat) (x : Int32), ni < k + i → ni < k' + i → i ≤ ni → ∃ r, mX0_openInBracket_L5 k (nI ni) jf p1 (nI w) x (nI i) = some r ∧ mX6_aged_L35 k' nw p1 (nI w) x (nI i) thr = some (r, thr) := by
  have li := h.li
  intro k
  induction k with
  | zero => intro k' i x h1 h2 h3; omega
  | succ k ih =>
    intro k' i x h1 h2 h3
    obtain ⟨k', rfl⟩ : ∃ y, k' = y + 1 := ⟨k' - 1, by omega⟩
    rw [mX0_openInBracket_L5.eq_2, mX6_aged_L35.eq_2, size_eq, b1_some, h.h4]
    by_cases e : i = ni
    · rw [e, if_pos (nI_le (Nat.le_refl _) (by omega)), if_pos (nI_le (Nat.le_refl _) (by omega))]
      exact ⟨_, rfl, rfl⟩
    · have hi : i < ni := by omega
      have hi9 : i < 60 := by omega
      obtain ⟨B, e1, e2⟩ := b65_eq (rec35 := mX6_aged_L35 k' nw) (thr := thr) (p1 := p1) (x := x) h hg hi hw
      have nx : ∀ y, ∃ r, mX0_openInBracket_L5 k (nI ni) jf p1 (nI w) y (nI i + 1) = some r ∧ mX6_aged_L35 k' nw p1 (nI w) y (nI i + 1) thr = some (r, thr) := fun y => by
        rw [nI_1]; exact ih k' (i + 1) y (by omega) (by omega) (by omega)
      have key : ∃ r, mX0_openInBracket_b41 (mX0_openInBracket_L5 k (nI ni) jf) (nI ni) jf p1 (nI w) x (nI i) 1 = some r ∧ mX6_aged_b65 (mX6_aged_L35 k' nw) nw p1 (nI w) x (nI i) thr = some (r, thr) := by
        unfold mX0_openInBracket_b41
        rw [if_neg n10, e2, gJ2 hi li, b1_some, h.j hi (k := 2) (by decide)]
        cases B with
        | true =>
          rcases e1 with e1 | ⟨v, -, q, -⟩
          · rw [e1, b1_some, if_pos rfl, if_pos rfl, if_pos rfl]; exact nx _
          · cases q
        | false =>
          rw [if_neg (by decide : ¬ false = true)]
          rcases e1 with e1 | ⟨v, q1, -, q2⟩
          · rw [e1, b1_some, if_neg (by decide : ¬ false = true), if_neg (fun q => nI_ne (show w < 2 ^ 31 by omega) q.symm)]; exact nx _
          · rw [q2, b1_some, if_neg q1]; exact nx _
      rw [if_neg (nI_ge hi (by omega)), if_neg (nI_ge hi (by omega)), gJ0 hi li, b1_some, bi0 hi9, b1_some, h.j hi (k := 0) (by decide)]
      by_cases c1 : p1 = -1
      · rw [if_pos c1, if_pos c1]; exact key
      · rw [if_neg c1, if_neg c1]
        by_cases c2 : nw (205 + 7 * i + 0) = p1
        · rw [if_pos c2, if_pos c2]; exact key
        · rw [if_neg c2, if_neg c2]
          unfold mX0_openInBracket_b41
          rw [if_pos rfl]; exact nx _
theorem ask_aged (h : RR ho pd sf df jf qf nw ns nd ni no t g) (hg : g ≤ 5000) {p1 p2 : Int32} : ∃ r, mX5_aged (nI nd) (nI ni) jf p1 p2 = some r ∧ mX6_aged thr nw p1 p2 = some (r, 0) := by
  have li := h.li
  have key : ∃ r, mX5_aged_b24 (nI nd) (nI ni) jf p1 p2 1 = some r ∧ mX6_aged_b18 nw p1 p2 0 = some (r, 0) := by
    unfold mX5_aged_b24 mX6_aged_b18
    rw [if_neg n10]
    rcases pk_ix p2 (n := 5) (by decide) with c | c | ⟨j, hj, rfl⟩
    · rw [if_pos c, isIn_0 (Or.inl c), b1_some, if_pos rfl]; exact ⟨_, rfl, rfl⟩
    · rw [isIn_0 (Or.inr (pred_lt2 (n := 5) (m := 4) (by decide) (by decide) c)), b1_some, if_pos rfl, if_neg (show ¬ p2 < 0 from fun z => absurd (Int32.lt_of_le_of_lt c z) (by decide)), if_neg (show ¬ p2 ≤ 4 from fun z => absurd (Int32.le_trans c z) (by decide))]
      exact ⟨_, rfl, rfl⟩
    · obtain ⟨r, e1, e2⟩ := aged_sim (thr := 0) (p1 := p1) h hg hj FU FU 0 0 (by unfold FU; omega) (by unfold FU; omega) (Nat.zero_le _)
      rw [nI_0] at e1 e2
      rw [if_neg (nI_pos (by omega)), if_pos (show nI j ≤ 4 from nI_le (b := 4) (by omega) (by decide)), isIn_1 (nI_pos (by omega)) (show ¬ (4 : Int32) < nI j from nI_nlt (a := 4) (by omega) (by decide)), b1_some, if_neg n10, e2]
      unfold mX0_openInBracket
      rw [e1, b1_some]
      exact ⟨_, rfl, rfl⟩
  unfold mX5_aged mX6_aged
  by_cases c1 : p1 = -1
  · rw [if_pos c1, if_pos c1]; exact key
  · rw [if_neg c1, if_neg c1]
    rcases h.isD p1 with ⟨d, hd, -, e1, e2⟩ | ⟨e1, e2⟩
    · rw [e1, e2, b1_some, b1_some, if_neg n10, if_neg n10]; exact key
    · rw [e1, e2, b1_some, b1_some, if_pos rfl, if_pos rfl]
      unfold mX5_aged_b24
      rw [if_pos rfl]
      exact ⟨_, rfl, rfl⟩
end Aged
section Planned
variable {ho pd : Int32} {sf df jf qf nw : Nat → Int32} {ns nd ni no t g d : Nat} {thr : Int32}
theorem next_sim (h : RR ho pd sf df jf qf nw ns nd ni no t g) (hd : d < nd) {n : Nat} (hn : n ≤ 12) (h9 : nw (25 + 30 * d + 9) = nI n) (p0 : df (d * 13 + 10) = nw (25 + 30 * d + 10)) (p1 : df (d * 13 + 11) = nw (25 + 30 * d + 11)) : ∀ (k k' i : Nat), n < k + i → n < k' + i → i ≤ n → ∃ r, mX0_nextInstalmentDay_L13 k (nI t) (nI nd) df (nI d) (nI n) (nI i) = some r ∧ mX6_nextDay_L2 k' nw (nI d) (nI i) = some r := by
  have ld := h.ld
  have d6 : d < 6 := by omega
  intro k
  induction k with
  | zero => intro k' i h1 h2 h3; omega
  | succ k ih =>
    intro k' i h1 h2 h3
    obtain ⟨k', rfl⟩ : ∃ y, k' = y + 1 := ⟨k' - 1, by omega⟩
    rw [mX0_nextInstalmentDay_L13.eq_2, mX6_nextDay_L2.eq_2, it9 d6, b1_some, h9]
    by_cases e : i = n
    · rw [e, if_pos (nI_le (Nat.le_refl _) (by omega)), if_pos (nI_le (Nat.le_refl _) (by omega))]
      exact ⟨_, rfl, rfl⟩
    · have hi : i < n := by omega
      unfold mX0_instalmentDay mX6_dayOf
      rw [if_neg (nI_ge hi (by omega)), if_neg (nI_ge hi (by omega)), gD10 hd ld, b1_some, gD11 hd ld, b1_some, b1_some, it10 d6, b1_some, it11 d6, b1_some, b1_some, today_eq, b1_some, h.h0, p0, p1, Int32.mul_comm (nI i + 1) _]
      by_cases c : nw (25 + 30 * d + 10) + nw (25 + 30 * d + 11) * (nI i + 1) < nI t
      · rw [if_pos c, if_pos c, nI_1]
        exact ih k' (i + 1) (by omega) (by omega) (by omega)
      · rw [if_neg c, if_neg c, b1_some]
        exact ⟨_, rfl, rfl⟩
theorem ask_planned (h : RR ho pd sf df jf qf nw ns nd ni no t g) {p1 p2 : Int32} : ∃ r, mX5_planned (nI t) (nI nd) df p1 p2 = some r ∧ mX6_planned thr nw p1 p2 = some (r, 0) := by
  have ld := h.ld
  unfold mX5_planned mX6_planned
  rcases h.isD p1 with ⟨d, hd, rfl, e1, e2⟩ | ⟨e1, e2⟩
  · have d6 : d < 6 := by omega
    rw [e1, e2, b1_some, b1_some, if_neg n10, if_neg n10, h.plan hd, b1_some, it9 d6, b1_some]
    by_cases z : nw (25 + 30 * d + 9) = 0
    · rw [if_pos z, if_pos z, if_pos rfl]; exact ⟨_, rfl, rfl⟩
    · obtain ⟨n, hn, h9, hp⟩ := (h.d hd).2.2.2.2.2.2.2.2.2.2.2.2
      have n0 : n ≠ 0 := fun q => z (by rw [h9, q]; rfl)
      obtain ⟨a0, a1, a2, a3, a4⟩ := hp n0
      have e9 : df (d * 13 + 8) = nI n := ((h.d hd).2.2.2.2.2.2.2.1).trans h9
      rw [if_neg z, if_neg z, if_neg n10, gD8 hd ld, b1_some, b1_some, e9, h9]
      -- neither an instalment nor its day
      have rest : ∃ r, mX5_planned_b95 (nI t) (nI nd) df (nI d) p2 (nI n) = some r ∧ (if p2 = 0 then some (nI n, (0 : Int32)) else (if p2 = 1 then b1 (mX6_its nw (nI d) 12) fun v20 => some (v20, (0 : Int32)) else (if p2 = 2 then b1 (mX6_nextDay nw (nI d)) fun v18 => some (v18, (0 : Int32)) else some (((-1) : Int32), (0 : Int32))))) = some (r, 0) := by
        obtain ⟨r, q1, q2⟩ := next_sim h hd hn h9 a0 a1 FU FU 0 (by unfold FU; omega) (by unfold FU; omega) (Nat.zero_le _)
        rw [nI_0] at q1 q2
        unfold mX5_planned_b95 mX0_nextInstalmentDay mX6_nextDay
        rw [gD12 hd ld, b1_some, it12 d6, b1_some, gD8 hd ld, b1_some, e9, q1, q2, b1_some, b1_some, a2]
        repeat' (first | exact ⟨_, rfl, rfl⟩ | refine ex_ite (fun _ => ?_) (fun _ => ?_))
      have day : (¬ (p2 < 30 ∨ 29 + nI n < p2) → ∃ k, k < n ∧ p2 = nI (30 + k)) := fun q => by
        have q1 : ¬ p2 < 30 := fun y => q (Or.inl y)
        have q2 : ¬ 29 + nI n < p2 := fun y => q (Or.inr y)
        obtain ⟨j, hj, rfl⟩ := nI_of (fun y => q1 (Int32.lt_trans y (by decide)))
        rw [show (29 : Int32) + nI n = nI (29 + n) from nI_add 29 n] at q2
        have b1 : 30 ≤ j := Nat.le_of_not_lt (fun y => q1 (nI_lt (b := 30) y (by decide)))
        have b2 : j ≤ 29 + n := Nat.le_of_not_lt (fun y => q2 (nI_lt y hj))
        exact ⟨j - 30, by omega, by rw [show 30 + (j - 30) = j by omega]⟩
      have ins : (¬ (p2 < 10 ∨ 9 + nI n < p2) → ∃ k, k < n ∧ p2 = nI (10 + k)) := fun q => by
        have q1 : ¬ p2 < 10 := fun y => q (Or.inl y)
        have q2 : ¬ 9 + nI n < p2 := fun y => q (Or.inr y)
        obtain ⟨j, hj, rfl⟩ := nI_of (fun y => q1 (Int32.lt_trans y (by decide)))
        rw [show (9 : Int32) + nI n = nI (9 + n) from nI_add 9 n] at q2
        have b1 : 10 ≤ j := Nat.le_of_not_lt (fun y => q1 (nI_lt (b := 10) y (by decide)))
        have b2 : j ≤ 9 + n := Nat.le_of_not_lt (fun y => q2 (nI_lt y hj))
        exact ⟨j - 10, by omega, by rw [show 10 + (j - 10) = j by omega]⟩
      have up : ∀ c : Nat, c ≤ 100 → nI c + nI n ≤ p2 → nI (c - 1) + nI n < p2 ∨ c = 0 := fun c hc q => by
        rcases Nat.eq_zero_or_pos c with y | y
        · exact Or.inr y
        · refine Or.inl (Int32.lt_of_lt_of_le ?_ q)
          rw [nI_add, nI_add]; exact nI_lt (by omega) (by omega)
      have b68 : (∃ r, mX5_planned_b68 (nI t) (nI nd) df (nI d) p2 (nI n) = some r ∧ (b1 (mX6_isIn p2 30 (29 + nI n)) fun v12 => (if v12 = 0 then (if p2 = 0 then some (nI n, (0 : Int32)) else (if p2 = 1 then b1 (mX6_its nw (nI d) 12) fun v20 => some (v20, (0 : Int32)) else (if p2 = 2 then b1 (mX6_nextDay nw (nI d)) fun v18 => some (v18, (0 : Int32)) else some (((-1) : Int32), (0 : Int32))))) else b1 (mX6_dayOf nw (nI d) (p2 - 30)) fun v22 => some (v22, (0 : Int32)))) = some (r, 0)) := by
        unfold mX5_planned_b68
        by_cases q : p2 < 30 ∨ 29 + nI n < p2
        · rw [isIn_0 q, b1_some, if_pos rfl]
          rcases q with q | q
          · rw [if_pos q]; exact rest
          · by_cases q' : p2 < 30
            · rw [if_pos q']; exact rest
            · rw [if_neg q', if_pos (show (30 : Int32) + nI n ≤ p2 by
                obtain ⟨j, hj, rfl⟩ := nI_of (fun y => q' (Int32.lt_trans y (by decide)))
                rw [show (29 : Int32) + nI n = nI (29 + n) from nI_add 29 n] at q
                rw [show (30 : Int32) + nI n = nI (30 + n) from nI_add 30 n]
                have := (nI_ltI (by omega) hj).mp q
                exact nI_le (by omega) hj)]
              exact rest
        · obtain ⟨k, hk, rfl⟩ := day q
          rw [isIn_1 (fun y => q (Or.inl y)) (fun y => q (Or.inr y)), b1_some, if_neg n10, if_neg (fun y => q (Or.inl y)), if_neg (show ¬ (30 : Int32) + nI n ≤ nI (30 + k) by rw [show (30 : Int32) + nI n = nI (30 + n) from nI_add 30 n]; exact nI_ge (by omega) (by omega))]
          have e30 : nI (30 + k) - 30 = nI k := by rw [show nI (30 + k) = nI k + 30 by rw [show nI k + 30 = nI (k + 30) from nI_add k 30, Nat.add_comm]]; exact Int32.add_sub_cancel _ _
          unfold mX0_instalmentDay mX6_dayOf
          rw [e30, gD10 hd ld, b1_some, gD11 hd ld, b1_some, b1_some, it10 d6, b1_some, it11 d6, b1_some, b1_some, a0, a1, Int32.mul_comm (nI k + 1) _]
          exact ⟨_, rfl, rfl⟩
      by_cases q : p2 < 10 ∨ 9 + nI n < p2
      · rw [isIn_0 q, b1_some, if_pos rfl]
        rcases q with q | q
        · rw [if_pos q]; exact b68
        · by_cases q' : p2 < 10
          · rw [if_pos q']; exact b68
          · rw [if_neg q', if_pos (show (10 : Int32) + nI n ≤ p2 by
              obtain ⟨j, hj, rfl⟩ := nI_of (fun y => q' (Int32.lt_trans y (by decide)))
              rw [show (9 : Int32) + nI n = nI (9 + n) from nI_add 9 n] at q
              rw [show (10 : Int32) + nI n = nI (10 + n) from nI_add 10 n]
              have := (nI_ltI (by omega) hj).mp q
              exact nI_le (by omega) hj)]
            exact b68
      · obtain ⟨k, hk, rfl⟩ := ins q
        rw [isIn_1 (fun y => q (Or.inl y)) (fun y => q (Or.inr y)), b1_some, if_neg n10, if_neg (fun y => q (Or.inl y)), if_neg (show ¬ (10 : Int32) + nI n ≤ nI (10 + k) by rw [show (10 : Int32) + nI n = nI (10 + n) from nI_add 10 n]; exact nI_ge (by omega) (by omega))]
        have e10 : nI (10 + k) - 10 = nI k := by rw [show nI (10 + k) = nI k + 10 by rw [show nI k + 10 = nI (k + 10) from nI_add k 10, Nat.add_comm]]; exact Int32.add_sub_cancel _ _
        have e13 : (13 : Int32) + nI (10 + k) - 10 = nI (13 + k) := by
          rw [show (13 : Int32) + nI (10 + k) = nI (13 + k) + 10 by rw [show (13 : Int32) + nI (10 + k) = nI (13 + (10 + k)) from nI_add 13 (10 + k), show nI (13 + k) + 10 = nI (13 + k + 10) from nI_add (13 + k) 10]; congr 1; omega]; exact Int32.add_sub_cancel _ _
        have e0 : (!(nI n == 0)) = true := by
          rw [Bool.not_eq_true', beq_eq_false_iff_ne]; exact nI_ne0 (by omega) (by omega)
        unfold mX0_instalment mX0_instalmentsTogether
        rw [e10, e13, its_eq d6 (by omega), b1_some, a4 k hk, gD8 hd ld, gD9 hd ld, e9]
        have hpos : (0 : Int32) < nI n := nI_lt (a := 0) (by omega) (by omega)
        simp only [b1_some, if_pos hpos, e0, ck_true, nI_1]
        have es : nI (k + 1) * (df (d * 13 + 9) / nI n) + mnI (nI (k + 1)) (df (d * 13 + 9) - df (d * 13 + 9) / nI n * nI n) - (nI k * (df (d * 13 + 9) / nI n) + mnI (nI k) (df (d * 13 + 9) - df (d * 13 + 9) / nI n * nI n)) = df (d * 13 + 9) / nI n + (if nI k < df (d * 13 + 9) - df (d * 13 + 9) / nI n * nI n then 1 else 0) := by
          have s := sumI_s (q := df (d * 13 + 9) / nI n) (r := df (d * 13 + 9) - df (d * 13 + 9) / nI n * nI n) (j := k) (by omega)
          show sumI _ _ (k + 1) - sumI _ _ k = _
          rw [← s, Int32.add_comm, Int32.add_sub_cancel]
        rw [es]
        exact ⟨_, rfl, rfl⟩
  · rw [e1, e2, b1_some, b1_some, if_pos rfl, if_pos rfl]
    exact ⟨_, rfl, rfl⟩
end Planned
