/-! PURE: the two readers, token by token -/
/-- words as numbers -/
def hN (d : Nat → Nat) : Nat → Nat
  | 0 => 0
  | n + 1 => 27 * hN d n + d n
theorem hN_inj {d e : Nat → Nat} : ∀ (n m : Nat), (∀ i, i < n → 1 ≤ d i ∧ d i ≤ 26) → (∀ i, i < m → 1 ≤ e i ∧ e i ≤ 26) → hN d n = hN e m → n = m ∧ ∀ i, i < n → d i = e i
  | 0, 0, _, _, _ => ⟨rfl, fun i h => by omega⟩
  | 0, m + 1, _, h2, h => by
    have := h2 m (by omega)
    have h : 0 = 27 * hN e m + e m := h
    omega
  | n + 1, 0, h1, _, h => by
    have := h1 n (by omega)
    have h : 27 * hN d n + d n = 0 := h
    omega
  | n + 1, m + 1, h1, h2, h => by
    have a := h1 n (by omega)
    have b := h2 m (by omega)
    have h : 27 * hN d n + d n = 27 * hN e m + e m := h
    have q1 : d n = e m := by omega
    have q2 : hN d n = hN e m := by omega
    obtain ⟨k1, k2⟩ := hN_inj n m (fun i hi => h1 i (by omega)) (fun i hi => h2 i (by omega)) q2
    subst k1
    refine ⟨rfl, fun i hi => ?_⟩
    by_cases z : i = n
    · rw [z]; exact q1
    · exact k2 i (by omega)
theorem hN_lt {d : Nat → Nat} : ∀ n, (∀ i, i < n → d i ≤ 26) → hN d n < 27 ^ n
  | 0, _ => Nat.zero_lt_one
  | n + 1, h => by
    have a := hN_lt n (fun i hi => h i (by omega))
    have b := h n (by omega)
    show 27 * hN d n + d n < 27 ^ (n + 1)
    rw [Nat.pow_succ]; omega
theorem hN_congr {d e : Nat → Nat} : ∀ n, (∀ i, i < n → d i = e i) → hN d n = hN e n
  | 0, _ => rfl
  | n + 1, h => by
    show 27 * hN d n + d n = 27 * hN e n + e n
    rw [hN_congr n (fun i hi => h i (by omega)), h n (by omega)]
section Lex
variable {u : Nat} {tf tp : Nat → Int32}
/-- a tape of u bytes -/
def TB (u : Nat) (tf tp : Nat → Int32) : Prop := u ≤ 640 ∧ ∀ i, i < u → tf i &&& 255 = tp i
theorem TB.at (h : TB u tf tp) {i : Nat} (hi : i < u) : mX4_at (nI u) tf (nI i) = some (tp i) := by
  have hu := h.1
  unfold mX4_at
  rw [if_neg (nI_pos (by omega)), if_neg (nI_ge hi (by omega)), if_neg (show ¬ (640 : Int32) ≤ nI i from nI_ge (b := 640) (by omega) (by decide)), inr_nI (show i < 640 by omega) (by decide), ck_true, nI_clamp (by omega), h.2 i hi]
theorem TB.tat (h : TB u tf tp) {i : Nat} (hi : i < u) : mX6_tapeAt (nI u) tp (nI i) = some (tp i) := by
  have hu := h.1
  unfold mX6_tapeAt
  rw [if_neg (nI_ge hi (by omega)), inr_nI (show i < 640 by omega) (by decide), ck_true, nI_clamp (by omega)]
theorem TB.byte (h : TB u tf tp) {i : Nat} (hi : i < u) : ∃ c : Nat, c < 256 ∧ tp i = nI c := by
  rw [← h.2 i hi]
  exact ⟨_, Nat.mod_lt _ (by decide), pk_and (tf i) (m := 255) 8 rfl⟩
def isL (x : Int32) : Bool := !decide (x < 97) && !decide (122 < x)
def isD (x : Int32) : Bool := !decide (x < 48) && !decide (57 < x)
theorem let_c (x : Int32) : mX2_isLetter x = some (if isL x = true then (1 : Int32) else (0 : Int32)) := by
  unfold mX2_isLetter isL
  by_cases a : x < 97
  · simp [a]
  · by_cases b : 122 < x
    · simp [a, b]
    · simp [a, b]
theorem let_r (x : Int32) : mX6_isLetter x = some (if isL x = true then (1 : Int32) else (0 : Int32)) := let_c x
theorem dig_c (x : Int32) : mX2_isDigit x = some (if isD x = true then (1 : Int32) else (0 : Int32)) := by
  unfold mX2_isDigit isD
  by_cases a : x < 48
  · simp [a]
  · by_cases b : 57 < x
    · simp [a, b]
    · simp [a, b]
theorem dig_r (x : Int32) : mX6_isDigit x = some (if isD x = true then (1 : Int32) else (0 : Int32)) := dig_c x
theorem isL_of {x : Int32} (h : isL x = true) : ∃ c : Nat, x = nI c ∧ 97 ≤ c ∧ c ≤ 122 := by
  unfold isL at h
  rw [Bool.and_eq_true, Bool.not_eq_true', Bool.not_eq_true', decide_eq_false_iff_not, decide_eq_false_iff_not] at h
  obtain ⟨c, hc, rfl⟩ := nI_of (x := x) (fun z => h.1 (Int32.lt_trans z (by decide)))
  exact ⟨c, rfl, Nat.le_of_not_lt (fun z => h.1 (nI_lt (b := 97) z (by decide))), Nat.le_of_not_lt (fun z => h.2 (nI_lt (a := 122) z hc))⟩
theorem isD_of {x : Int32} (h : isD x = true) : ∃ c : Nat, x = nI c ∧ 48 ≤ c ∧ c ≤ 57 := by
  unfold isD at h
  rw [Bool.and_eq_true, Bool.not_eq_true', Bool.not_eq_true', decide_eq_false_iff_not, decide_eq_false_iff_not] at h
  obtain ⟨c, hc, rfl⟩ := nI_of (x := x) (fun z => h.1 (Int32.lt_trans z (by decide)))
  exact ⟨c, rfl, Nat.le_of_not_lt (fun z => h.1 (nI_lt (b := 48) z (by decide))), Nat.le_of_not_lt (fun z => h.2 (nI_lt (a := 57) z hc))⟩
theorem isL_D {x : Int32} (h : isL x = true) : isD x = false := by
  obtain ⟨c, rfl, h1, h2⟩ := isL_of h
  cases hd : isD (nI c)
  · rfl
  · obtain ⟨e, he, h3, h4⟩ := isD_of hd
    have := (nI_eq (by omega) (by omega)).mp he
    omega
/-- a letter's digit -/
def dg (tp : Nat → Int32) (b : Nat) : Nat → Nat := fun i => (tp (b + i)).toNatClampNeg - 96
/-- how a run of letters and digits stands at q -/
def RUN (tp : Nat → Int32) (b q : Nat) (nl nd : Nat) (F good num vl : Int32) (wrd : Int64) : Prop :=
  b ≤ q ∧ nl + nd = q - b ∧ ((F = 1 ∧ good = 1 ∧ nd = 0 ∧ isL (tp b) = true ∧ (∀ i, i < q - b → isL (tp (b + i)) = true) ∧ wrd = lN (hN (dg tp b) (min (q - b) 8))) ∨ (F = 0 ∧ good = 1 ∧ nl = 0 ∧ isD (tp b) = true ∧ (q - b ≤ 4 → vl = num ∧ ∃ v, num = nI v ∧ v < 10 ^ (q - b))) ∨ (good = 0 ∧ 0 < nl ∧ 0 < nd))
def KIND (tp : Nat → Int32) (b q : Nat) (kd srt num vl : Int32) (wrd : Int64) : Prop :=
  (kd = 0 ∧ srt = 1) ∨ (kd = 2 ∧ srt = 3 ∧ vl = num ∧ ∃ v, num = nI v ∧ v < 10000) ∨ (kd = 1 ∧ srt = 2 ∧ b < q ∧ (∀ i, i < q - b → isL (tp (b + i)) = true) ∧ wrd = lN (hN (dg tp b) (min (q - b) 8)))
theorem sub_n {a b : Nat} (h : b ≤ a) : nI a - nI b = nI (a - b) := by
  have e : nI a = nI (a - b) + nI b := by rw [nI_add]; exact congrArg nI (by omega)
  rw [e, Int32.add_sub_cancel]
theorem run_end {b q nl nd : Nat} {F good num vl kd srt : Int32} {wrd : Int64} {us : Int32} {tf' : Nat → Int32} (hq : b < q) (hu : q ≤ 640) (h : RUN tp b q nl nd F good num vl wrd) : ∃ kd' vl' srt' num' wrd', mX2_scanRun_b116 us tf' (nI nl) (nI nd) kd (nI q) vl = some (kd', nI q, vl') ∧ (if good = 0 then some (nI q, nI b, (1 : Int32), num, wrd) else (if F = 0 then (if (nI q - nI b) ≤ 4 then mX6_go_b338 (nI u) tp F (nI q) (nI b) srt num wrd else some (nI q, nI b, (1 : Int32), num, wrd)) else mX6_go_b338 (nI u) tp F (nI q) (nI b) srt num wrd)) = some (nI q, nI b, srt', num', wrd') ∧ KIND tp b q kd' srt' num' vl' wrd' := by
  obtain ⟨h1, h2, h3⟩ := h
  unfold mX2_scanRun_b116 mX2_scanRun_b132 mX6_go_b338
  rw [sub_n h1]
  rcases h3 with ⟨rfl, rfl, rfl, a1, a2, a3⟩ | ⟨rfl, rfl, rfl, a1, a2⟩ | ⟨rfl, a1, a2⟩
  · rw [if_neg (nI_nle (show 0 < nl by omega) (by omega)), if_pos (show nI 0 = 0 from rfl), if_neg n10, if_neg n10, if_neg n10]
    exact ⟨_, _, _, _, _, rfl, rfl, Or.inr (Or.inr ⟨rfl, rfl, hq, a2, a3⟩)⟩
  · rw [if_pos (show nI 0 ≤ 0 from Int32.le_refl 0), if_pos (show nI 0 = 0 from rfl), if_neg (nI_nle (show 0 < nd by omega) (by omega)), if_neg n10, if_pos rfl, if_pos rfl]
    by_cases c : q - b ≤ 4
    · rw [if_neg (show ¬ (4 : Int32) < nI nd from nI_nlt (a := 4) (by omega) (by decide)), if_pos (show nI (q - b) ≤ 4 from nI_le (b := 4) c (by decide))]
      obtain ⟨e1, v, e2, e3⟩ := a2 c
      refine ⟨_, _, _, _, _, rfl, rfl, Or.inr (Or.inl ⟨rfl, rfl, e1, v, e2, Nat.lt_of_lt_of_le e3 (Nat.pow_le_pow_right (by decide) c)⟩)⟩
    · rw [if_pos (show (4 : Int32) < nI nd from nI_lt (a := 4) (by omega) (by omega)), if_neg (show ¬ nI (q - b) ≤ 4 from nI_ge (a := 4) (by omega) (by omega))]
      exact ⟨_, _, _, _, _, rfl, rfl, Or.inl ⟨rfl, rfl⟩⟩
  · rw [if_neg (nI_nle a1 (by omega)), if_neg (nI_ne0 a2 (by omega)), if_neg (nI_ne0 a1 (by omega)), if_pos rfl]
    exact ⟨_, _, _, _, _, rfl, rfl, Or.inl ⟨rfl, rfl⟩⟩
theorem b234_eq {rec177 : Int32 → Int32 → Int32 → Int32 → Int32 → Int32 → Int64 → Option (Int32 × Int32 × Int32 × Int32 × Int64)} {siz F x4 k0 too frm srt num : Int32} {wrd : Int64} {tp : Nat → Int32} : mX6_go_b234 rec177 siz tp F x4 k0 too frm srt num wrd = rec177 F k0 (too + 1) frm srt (if 4 ≤ (too - frm) then num else ((10 * num) + x4) - 48) (if 8 ≤ (too - frm) then wrd else ((27 * wrd) + x4.toInt64) - 96) := by
  unfold mX6_go_b234 mX6_go_b269 mX6_go_b299
  by_cases a : 8 ≤ (too - frm)
  · rw [if_pos a, if_pos a]
    by_cases b : 4 ≤ (too - frm)
    · rw [if_pos b, if_pos b]
    · rw [if_neg b, if_neg b]
  · rw [if_neg a, if_neg a]
    by_cases b : 4 ≤ (too - frm)
    · rw [if_pos b, if_pos b]
    · rw [if_neg b, if_neg b]
theorem run_sim (h : TB u tf tp) {b : Nat} (hb : b < u) : ∀ (k k' q nl nd : Nat) (F good num vl kd srt : Int32) (wrd : Int64), RUN tp b q nl nd F good num vl wrd → q ≤ u → u < k + q → u < k' + q →
    ∃ q' kd' vl' srt' num' wrd', b < q' ∧ q' ≤ u ∧ mX2_scanRun_L9 k (nI u) tf (nI u) (nI nl) (nI nd) kd (nI q) vl = some (kd', nI q', vl') ∧ mX6_go_L177 k' (nI u) tp F good (nI q) (nI b) srt num wrd = some (nI q', nI b, srt', num', wrd') ∧ KIND tp b q' kd' srt' num' vl' wrd' := by
  have hu := h.1
  intro k
  induction k with
  | zero => intro k' q nl nd F good num vl kd srt wrd h1 h2 h3 h4; omega
  | succ k ih =>
    intro k' q nl nd F good num vl kd srt wrd hR h2 h3 h4
    obtain ⟨k', rfl⟩ : ∃ y, k' = y + 1 := ⟨k' - 1, by omega⟩
    have hR' := hR
    obtain ⟨r1, r2, r3⟩ := hR'
    rw [mX2_scanRun_L9.eq_2, mX6_go_L177.eq_2]
    by_cases e : q = u
    · have hq : b < q := by omega
      obtain ⟨a1, a2, a3, a4, a5, g1, g2, g3⟩ := run_end (u := u) (srt := srt) (kd := kd) (us := nI u) (tf' := tf) hq (by omega) hR
      have e0 : mX6_tapeAt (nI u) tp (nI q) = some 0 := by unfold mX6_tapeAt; rw [if_pos (nI_le (by omega) (by omega))]
      rw [if_pos (nI_le (show u ≤ q by omega) (by omega)), e0, b1_some, let_r, b1_some, if_pos (show (if isL 0 = true then (1 : Int32) else (0 : Int32)) = 0 by decide), b1_some, dig_r, b1_some, if_pos (show (if isD 0 = true then (1 : Int32) else (0 : Int32)) = 0 by decide)]
      exact ⟨q, a1, a2, a3, a4, a5, hq, by omega, g1, g2, g3⟩
    · have hq : q < u := by omega
      rw [if_neg (nI_ge hq (by omega)), h.at hq, b1_some, let_c, b1_some, cl0, b1_some, dig_c, b1_some, cl0, h.tat hq, b1_some, let_r, b1_some, cl0, b1_some, dig_r, b1_some, cl0]
      -- one sign more
      have more : isL (tp q) = true ∨ isD (tp q) = true → ∃ q' kd' vl' srt' num' wrd', b < q' ∧ q' ≤ u ∧ mX2_scanRun_b51 (mX2_scanRun_L9 k (nI u) tf) (nI u) tf (nI u) (nI nl) (nI nd) kd (nI q) vl = some (kd', nI q', vl') ∧ mX6_go_b205 (mX6_go_L177 k' (nI u) tp) (nI u) tp F good (nI q) (nI b) srt num wrd = some (nI q', nI b, srt', num', wrd') ∧ KIND tp b q' kd' srt' num' vl' wrd' := fun hc => by
        have hcl : (nI q).toNatClampNeg = q := nI_clamp (by omega)
        unfold mX2_scanRun_b51 mX2_scanRun_b103 mX6_go_b205
        rw [h.at hq, b1_some, let_c, b1_some, cl0, b1_some, inr_nI (show q < 640 by omega) (by decide), ck_true, hcl, let_r, b1_some, b234_eq, b234_eq, sub_n r1, nI_1, nI_1, nI_1]
        have fin : ∀ nl' nd' good' vl', RUN tp b (q + 1) nl' nd' F good' (if 4 ≤ nI (q - b) then num else ((10 * num) + tp q) - 48) vl' (if 8 ≤ nI (q - b) then wrd else ((27 * wrd) + (tp q).toInt64) - 96) → ∃ q' kd' vl'' srt' num' wrd', b < q' ∧ q' ≤ u ∧ mX2_scanRun_L9 k (nI u) tf (nI u) (nI nl') (nI nd') kd (nI (q + 1)) vl' = some (kd', nI q', vl'') ∧ mX6_go_L177 k' (nI u) tp F good' (nI (q + 1)) (nI b) srt (if 4 ≤ nI (q - b) then num else ((10 * num) + tp q) - 48) (if 8 ≤ nI (q - b) then wrd else ((27 * wrd) + (tp q).toInt64) - 96) = some (nI q', nI b, srt', num', wrd') ∧ KIND tp b q' kd' srt' num' vl'' wrd' := fun nl' nd' good' vl' hr => ih k' (q + 1) nl' nd' F good' _ vl' kd srt _ hr (by omega) (by omega) (by omega)
        have hbq : b + (q - b) = q := Nat.add_sub_cancel' r1
        by_cases c1 : isL (tp q) = true
        · rw [if_pos c1, if_pos c1]
          rcases r3 with ⟨f1, f2, f3, f4, f5, f6⟩ | ⟨f1, f2, f3, f4, f5⟩ | ⟨f1, f2, f3⟩
          · rw [if_neg (show ¬ good = 0 by rw [f2]; decide), if_pos f1.symm]
            refine fin (nl + 1) nd 1 vl ⟨by omega, by omega, Or.inl ⟨f1, rfl, f3, f4, fun i hi => ?_, ?_⟩⟩
            · by_cases z : i = q - b
              · rw [z, hbq]; exact c1
              · exact f5 i (by omega)
            · obtain ⟨c, ec, e1, e2⟩ := isL_of c1
              by_cases z : q - b < 8
              · rw [if_neg (show ¬ (8 : Int32) ≤ nI (q - b) from nI_ge (b := 8) z (by decide)), f6, Nat.min_eq_left (show q - b ≤ 8 by omega), Nat.min_eq_left (show q + 1 - b ≤ 8 by omega), ec, nI_l (by omega), show (27 : Int64) * lN (hN (dg tp b) (q - b)) = lN (27 * hN (dg tp b) (q - b)) from lN_mul 27 _, lN_add, show (96 : Int64) = lN 96 from rfl, lN_sub (by omega), show q + 1 - b = (q - b) + 1 by omega]
                show lN _ = lN (27 * hN (dg tp b) (q - b) + dg tp b (q - b))
                have ed : dg tp b (q - b) = c - 96 := by
                  show (tp (b + (q - b))).toNatClampNeg - 96 = c - 96
                  rw [hbq, ec, nI_clamp (by omega)]
                rw [ed]; exact congrArg lN (by omega)
              · rw [if_pos (show (8 : Int32) ≤ nI (q - b) from nI_le (a := 8) (by omega) (by omega)), f6, Nat.min_eq_right (show 8 ≤ q - b by omega), Nat.min_eq_right (show 8 ≤ q + 1 - b by omega)]
          · have hq0 : b < q := by
              rcases Nat.lt_or_ge b q with z | z
              · exact z
              · have z : q = b := by omega
                rw [z] at c1; rw [isL_D c1] at f4; cases f4
            rw [if_neg (show ¬ good = 0 by rw [f2]; decide), if_neg (show ¬ (1 : Int32) = F by rw [f1]; decide)]
            exact fin (nl + 1) nd 0 vl ⟨by omega, by omega, Or.inr (Or.inr ⟨rfl, by omega, by omega⟩)⟩
          · rw [if_pos f1]
            exact fin (nl + 1) nd 0 vl ⟨by omega, by omega, Or.inr (Or.inr ⟨rfl, by omega, f3⟩)⟩
        · have c2 : isD (tp q) = true := hc.resolve_left c1
          rw [if_neg c1, if_neg c1]
          rcases r3 with ⟨f1, f2, f3, f4, f5, f6⟩ | ⟨f1, f2, f3, f4, f5⟩ | ⟨f1, f2, f3⟩
          · have hq0 : b < q := by
              rcases Nat.lt_or_ge b q with z | z
              · exact z
              · have z : q = b := by omega
                rw [z] at c1; exact absurd f4 c1
            rw [if_neg (show ¬ good = 0 by rw [f2]; decide), if_neg (show ¬ (0 : Int32) = F by rw [f1]; decide)]
            exact fin nl (nd + 1) 0 _ ⟨by omega, by omega, Or.inr (Or.inr ⟨rfl, by omega, by omega⟩)⟩
          · rw [if_neg (show ¬ good = 0 by rw [f2]; decide), if_pos f1.symm]
            refine fin nl (nd + 1) 1 _ ⟨by omega, by omega, Or.inr (Or.inl ⟨f1, rfl, f3, f4, fun z => ?_⟩)⟩
            obtain ⟨g1, v, g2, g3⟩ := f5 (by omega)
            obtain ⟨c, ec, e1, e2⟩ := isD_of c2
            rw [if_neg (show ¬ (4 : Int32) ≤ nI (q - b) from nI_ge (b := 4) (by omega) (by decide)), g1, Int32.mul_comm num 10]
            refine ⟨rfl, 10 * v + (c - 48), ?_, ?_⟩
            · rw [g2, ec, show (10 : Int32) * nI v = nI (10 * v) from pk_mul 10 v, nI_add, show (48 : Int32) = nI 48 from rfl, sub_n (by omega)]
              exact congrArg nI (by omega)
            · rw [show q + 1 - b = (q - b) + 1 by omega, Nat.pow_succ]; omega
          · rw [if_pos f1]
            exact fin nl (nd + 1) 0 _ ⟨by omega, by omega, Or.inr (Or.inr ⟨rfl, f2, by omega⟩)⟩
      by_cases c1 : isL (tp q) = true
      · rw [if_pos c1, if_pos c1]; exact more (Or.inl c1)
      · rw [if_neg c1, if_neg c1]
        by_cases c2 : isD (tp q) = true
        · rw [if_pos c2, if_pos c2]; exact more (Or.inr c2)
        · rw [if_neg c2, if_neg c2]
          have hq' : b < q := by
            rcases Nat.lt_or_ge b q with z | z
            · exact z
            · have z : q = b := by omega
              rw [z] at c1 c2
              rcases r3 with ⟨-, -, -, y, -⟩ | ⟨-, -, -, y, -⟩ | ⟨-, y1, y2⟩
              · exact absurd y c1
              · exact absurd y c2
              · omega
          obtain ⟨a1, a2, a3, a4, a5, g1, g2, g3⟩ := run_end (u := u) (srt := srt) (kd := kd) (us := nI u) (tf' := tf) hq' (by omega) hR
          exact ⟨q, a1, a2, a3, a4, a5, hq', by omega, g1, g2, g3⟩
end Lex
