/-! PURE: words -/
def eW (w : Nat) : Nat → Nat := fun i => (wByt w i).toNatClampNeg - 96
def HH (w : Nat) : Int64 := lN (hN (eW w) (wLen w))
theorem w_fin : ∀ w : Fin 4, wLen w.val ≤ 7 ∧ 0 < wLen w.val ∧ ∀ i : Fin 7, i.val < wLen w.val → chr (wByt w.val i.val) = wByt w.val i.val ∧ 97 ≤ (wByt w.val i.val).toNatClampNeg ∧ (wByt w.val i.val).toNatClampNeg ≤ 122 ∧ wByt w.val i.val = nI (wByt w.val i.val).toNatClampNeg := by decide +kernel
theorem w_len {w : Nat} (hw : w < 4) : wLen w ≤ 7 := (w_fin ⟨w, hw⟩).1
theorem w_at {w i : Nat} (hw : w < 4) (hi : i < wLen w) : chr (wByt w i) = wByt w i ∧ 97 ≤ (wByt w i).toNatClampNeg ∧ (wByt w i).toNatClampNeg ≤ 122 ∧ wByt w i = nI (wByt w i).toNatClampNeg := (w_fin ⟨w, hw⟩).2.2 ⟨i, by have := w_len hw; omega⟩ hi
theorem lN_inj {a b : Nat} (ha : a < 2 ^ 63) (hb : b < 2 ^ 63) (h : lN a = lN b) : a = b := by
  have e := congrArg Int64.toInt h
  unfold lN at e
  rw [lg_ofNat_toInt ha, lg_ofNat_toInt hb] at e
  omega
theorem hN_63 {d : Nat → Nat} {n : Nat} (hn : n ≤ 8) (h : ∀ i, i < n → d i ≤ 26) : hN d n < 2 ^ 63 :=
  Nat.lt_of_lt_of_le (hN_lt n h) (Nat.le_trans (Nat.pow_le_pow_right (by decide) hn) (by decide))
section Word
variable {u : Nat} {tf tp : Nat → Int32}
theorem word_L (h : TB u tf tp) {w b : Nat} (hw : w < 4) (hq : b + wLen w ≤ u) {pt : Int32} : ∀ (k j : Nat), wLen w < k + j → j ≤ wLen w → (∀ i, i < j → tp (b + i) = chr (wByt w i)) → ∃ v, mX2_isWord_L20 k (wLen w) (wByt w) (nI b) pt (nI u) tf (nI j) = some v ∧ ((v = 1 ∧ ∀ i, i < wLen w → tp (b + i) = chr (wByt w i)) ∨ (v = 0 ∧ ¬ ∀ i, i < wLen w → tp (b + i) = chr (wByt w i))) := by
  have hu := h.1
  have hl := w_len hw
  intro k
  induction k with
  | zero => intro j h1 h2; omega
  | succ k ih =>
    intro j h1 h2 h3
    rw [mX2_isWord_L20.eq_2]
    by_cases e : j = wLen w
    · rw [if_pos (show Int32.ofNat (wLen w) ≤ nI j from nI_le (show wLen w ≤ j by omega) (by omega))]
      exact ⟨1, rfl, Or.inl ⟨rfl, fun i hi => h3 i (by omega)⟩⟩
    · have hj : j < wLen w := by omega
      rw [if_neg (show ¬ Int32.ofNat (wLen w) ≤ nI j from nI_ge hj (by omega)), nI_add, h.at (show b + j < u by omega), b1_some, inr_nI hj (by omega), ck_true, nI_clamp (by omega), nI_1]
      by_cases c : tp (b + j) = chr (wByt w j)
      · rw [if_pos c]
        refine ih (j + 1) (by omega) (by omega) (fun i hi => ?_)
        by_cases z : i = j
        · rw [z]; exact c
        · exact h3 i (by omega)
      · rw [if_neg c]
        exact ⟨0, rfl, Or.inr ⟨rfl, fun z => c (z j hj)⟩⟩
theorem dg_of {b i : Nat} (h : isL (tp (b + i)) = true) : 1 ≤ dg tp b i ∧ dg tp b i ≤ 26 ∧ tp (b + i) = nI (dg tp b i + 96) := by
  obtain ⟨c, ec, h1, h2⟩ := isL_of h
  have e : dg tp b i = c - 96 := by
    show (tp (b + i)).toNatClampNeg - 96 = c - 96
    rw [ec, nI_clamp (by omega)]
  rw [e]
  exact ⟨by omega, by omega, by rw [ec]; exact congrArg nI (by omega)⟩
theorem word_iff (h : TB u tf tp) {w b q : Nat} (hw : w < 4) (hb : b < q) (hq : q ≤ u) (hl : ∀ i, i < q - b → isL (tp (b + i)) = true) {wrd : Int64} (hwd : wrd = lN (hN (dg tp b) (min (q - b) 8))) : ∃ v, mX2_isWord (wLen w) (wByt w) (nI b) (nI q) (nI u) tf = some v ∧ ((v = 1 ∧ wrd = HH w) ∨ (v = 0 ∧ ¬ wrd = HH w)) := by
  have hu := h.1
  have hl7 := w_len hw
  -- equal numbers, equal words
  have back : wrd = HH w → q - b = wLen w ∧ ∀ i, i < wLen w → tp (b + i) = chr (wByt w i) := fun e => by
    rw [hwd] at e
    have e1 := lN_inj (hN_63 (Nat.min_le_right _ _) (fun i hi => (dg_of (hl i (Nat.lt_of_lt_of_le hi (Nat.min_le_left _ _)))).2.1)) (hN_63 (by omega) (fun i hi => by
      obtain ⟨-, a, b, -⟩ := w_at hw hi
      show (wByt w i).toNatClampNeg - 96 ≤ 26
      omega)) e
    obtain ⟨k1, k2⟩ := hN_inj _ _ (fun i hi => by
      obtain ⟨a, b, -⟩ := dg_of (hl i (Nat.lt_of_lt_of_le hi (Nat.min_le_left _ _)))
      exact ⟨a, b⟩) (fun i hi => by
      obtain ⟨-, a, b, -⟩ := w_at hw hi
      show 1 ≤ (wByt w i).toNatClampNeg - 96 ∧ (wByt w i).toNatClampNeg - 96 ≤ 26
      omega) e1
    have e3 : q - b = wLen w := by omega
    refine ⟨e3, fun i hi => ?_⟩
    obtain ⟨a1, a2, a3, a4⟩ := w_at hw hi
    have e4 : dg tp b i = (wByt w i).toNatClampNeg - 96 := k2 i (by omega)
    rw [(dg_of (hl i (by omega))).2.2, a1, a4, e4]
    exact congrArg nI (by omega)
  unfold mX2_isWord
  rw [sub_n (by omega)]
  by_cases c : q - b = wLen w
  · rw [if_pos (show nI (q - b) = Int32.ofNat (wLen w) by rw [c]; rfl)]
    obtain ⟨v, e1, e2⟩ := word_L h hw (show b + wLen w ≤ u by omega) (pt := nI q) FU 0 (by unfold FU; omega) (Nat.zero_le _) (fun i hi => by omega)
    rw [nI_0] at e1
    refine ⟨v, e1, ?_⟩
    rcases e2 with ⟨z, e2⟩ | ⟨z, e2⟩
    · refine Or.inl ⟨z, ?_⟩
      rw [hwd, Nat.min_eq_left (show q - b ≤ 8 by omega), c]
      unfold HH
      refine congrArg lN (hN_congr _ (fun i hi => ?_))
      show (tp (b + i)).toNatClampNeg - 96 = (wByt w i).toNatClampNeg - 96
      rw [e2 i hi, (w_at hw hi).1]
    · exact Or.inr ⟨z, fun y => e2 (back y).2⟩
  · rw [if_neg (show ¬ nI (q - b) = Int32.ofNat (wLen w) from fun z => c ((nI_eq (b := wLen w) (by omega) (by omega)).mp z))]
    exact ⟨0, rfl, Or.inr ⟨rfl, fun y => c (back y).1⟩⟩
theorem cmp_eq {x y : Int64} : lg_cmp x y = 0 ↔ x = y := by
  unfold lg_cmp
  by_cases a : x > y
  · rw [if_pos a]
    exact ⟨fun z => absurd z (by decide), fun z => absurd a (by rw [z]; exact Int64.lt_irrefl)⟩
  · rw [if_neg a]
    by_cases b : x = y
    · rw [if_pos b]; exact ⟨fun _ => b, fun _ => rfl⟩
    · rw [if_neg b]; exact ⟨fun z => absurd z (by decide), fun z => absurd z b⟩
theorem isW {srt : Int32} {wrd p : Int64} : mX6_isWord srt wrd p = some (if srt = 2 ∧ wrd = p then 1 else 0) := by
  unfold mX6_isWord
  by_cases a : srt = 2
  · rw [if_pos a]
    by_cases b : wrd = p
    · rw [if_pos (cmp_eq.mpr b), if_pos ⟨a, b⟩]
    · rw [if_neg (fun z => b (cmp_eq.mp z)), if_neg (fun z => b z.2)]
  · rw [if_neg a, if_neg (fun z => a z.1)]
theorem h_0 : mX6_four 115 116 101 112 = some (HH 0) := by decide +kernel
theorem h_1 : mX6_four 104 111 108 100 = some (HH 1) := by decide +kernel
theorem h_2 : mX6_six 100 101 98 116 111 114 = some (HH 2) := by decide +kernel
theorem h_3 : ∃ x, mX6_six 105 110 118 111 105 99 = some x ∧ (27 * x) + 5 = HH 3 := ⟨_, rfl, by decide +kernel⟩
theorem h_ne : HH 0 ≠ HH 1 ∧ HH 0 ≠ HH 2 ∧ HH 0 ≠ HH 3 ∧ HH 1 ≠ HH 2 ∧ HH 1 ≠ HH 3 ∧ HH 2 ≠ HH 3 := by decide +kernel
theorem bz_ite {c : Prop} [Decidable c] : bz (if c then (1 : Int32) else 0) = true := by
  split <;> rfl
theorem sort_0 {srt : Int32} {wrd : Int64} : mX6_isSort srt wrd 0 = some (if srt = 2 ∧ wrd = HH 0 then 1 else 0) := by
  unfold mX6_isSort
  rw [if_pos rfl, h_0, b1_some, isW, b1_some, bz_ite, ck_true]
theorem sort_1 {srt : Int32} {wrd : Int64} : mX6_isSort srt wrd 1 = some (if srt = 2 ∧ wrd = HH 2 then 1 else 0) := by
  unfold mX6_isSort
  rw [if_neg n10, if_pos rfl, h_2, b1_some, isW, b1_some, bz_ite, ck_true]
theorem sort_2 {srt : Int32} {wrd : Int64} : mX6_isSort srt wrd 2 = some (if srt = 2 ∧ wrd = HH 3 then 1 else 0) := by
  obtain ⟨x, e1, e2⟩ := h_3
  unfold mX6_isSort
  rw [if_neg (by decide), if_neg (by decide), e1, b1_some, e2, isW, b1_some, bz_ite, ck_true]
/-- which word: the class's answer, and the other's -/
theorem sortW (h : TB u tf tp) {b q : Nat} (hb : b < q) (hq : q ≤ u) (hl : ∀ i, i < q - b → isL (tp (b + i)) = true) {wrd : Int64} (hwd : wrd = lN (hN (dg tp b) (min (q - b) 8))) : ∃ s, mX2_sortOfWord (nI b) (nI q) (nI u) tf = some s ∧ ((s = 0 ∧ wrd = HH 0) ∨ (s = 1 ∧ wrd = HH 1) ∨ (s = 2 ∧ wrd = HH 2) ∨ (s = 3 ∧ wrd = HH 3) ∨ (s = -1 ∧ ¬ wrd = HH 0 ∧ ¬ wrd = HH 1 ∧ ¬ wrd = HH 2 ∧ ¬ wrd = HH 3)) := by
  obtain ⟨v0, a0, b0⟩ := word_iff h (w := 0) (by decide) hb hq hl hwd
  obtain ⟨v1, a1, b1'⟩ := word_iff h (w := 1) (by decide) hb hq hl hwd
  obtain ⟨v2, a2, b2'⟩ := word_iff h (w := 2) (by decide) hb hq hl hwd
  obtain ⟨v3, a3, b3'⟩ := word_iff h (w := 3) (by decide) hb hq hl hwd
  unfold mX2_sortOfWord
  rw [a0, a1, a2, a3]
  simp only [b1_some]
  rcases b0 with ⟨z0, y0⟩ | ⟨z0, y0⟩
  · rw [if_neg (show ¬ v0 = 0 by rw [z0]; decide)]; exact ⟨_, rfl, Or.inl ⟨rfl, y0⟩⟩
  rw [if_pos z0]
  rcases b1' with ⟨z1, y1⟩ | ⟨z1, y1⟩
  · rw [if_neg (show ¬ v1 = 0 by rw [z1]; decide)]; exact ⟨_, rfl, Or.inr (Or.inl ⟨rfl, y1⟩)⟩
  rw [if_pos z1]
  rcases b2' with ⟨z2, y2⟩ | ⟨z2, y2⟩
  · rw [if_neg (show ¬ v2 = 0 by rw [z2]; decide)]; exact ⟨_, rfl, Or.inr (Or.inr (Or.inl ⟨rfl, y2⟩))⟩
  rw [if_pos z2]
  rcases b3' with ⟨z3, y3⟩ | ⟨z3, y3⟩
  · rw [if_neg (show ¬ v3 = 0 by rw [z3]; decide)]; exact ⟨_, rfl, Or.inr (Or.inr (Or.inr (Or.inl ⟨rfl, y3⟩)))⟩
  rw [if_pos z3]
  exact ⟨_, rfl, Or.inr (Or.inr (Or.inr (Or.inr ⟨rfl, y0, y1, y2, y3⟩)))⟩
end Word
