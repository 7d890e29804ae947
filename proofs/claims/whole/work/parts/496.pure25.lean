/-! PURE: two books that agree about one debtor -/
section Agree
variable {ns nd np nG t d : Nat} {sf dfP jfP dfG jfG dfP' dfG' : Nat → Int32}
def AG (d np nG : Nat) (dfP jfP dfG jfG : Nat → Int32) : Prop := (∀ j, j < 13 → dfP (d * 13 + j) = dfG (d * 13 + j)) ∧ np ≤ nG ∧ (∀ i, i < np → jfP (i * 7 + 0) = jfG (i * 7 + 0)) ∧ (∀ i, i < np → jfG (i * 7 + 0) = nI d → ∀ k, k < 7 → jfP (i * 7 + k) = jfG (i * 7 + k)) ∧ ∀ i, np ≤ i → i < nG → jfG (i * 7 + 0) ≠ nI d
theorem AG.cl (h : AG d np nG dfP jfP dfG jfG) {i : Nat} (hi : i < np) : CL jfP (i * 7) (nI d) = CL jfG (i * 7) (nI d) := by
  by_cases c : jfG (i * 7 + 0) = nI d
  · unfold CL
    rw [h.2.2.2.1 i hi c 0 (by decide), h.2.2.2.1 i hi c 2 (by decide), h.2.2.2.1 i hi c 5 (by decide)]
  · unfold CL
    rw [h.2.2.1 i hi, decide_eq_false c]
    rfl
theorem cl_no {f : Nat → Int32} {b : Nat} {x : Int32} (h : f (b + 0) ≠ x) : ¬ CL f b x = true := fun z => h (cl_spec.mp z).1
theorem AG.debt (h : AG d np nG dfP jfP dfG jfG) (hn : nG ≤ 60) : mX0_debt (nI np) jfP (nI d) = mX0_debt (nI nG) jfG (nI d) := by
  have h2 := h.2.1
  rw [debt_c (show np ≤ 60 by omega), debt_c hn]
  refine congrArg some (fo_more h2 (fun j hj y => ?_) (fun j h1 h3 y => if_neg (cl_no (h.2.2.2.2 j h1 h3))))
  show (if CL jfP (j * 7) (nI d) = true then y + jfP (j * 7 + 2) else y) = (if CL jfG (j * 7) (nI d) = true then y + jfG (j * 7 + 2) else y)
  rw [h.cl hj]
  by_cases c : CL jfG (j * 7) (nI d) = true
  · rw [if_pos c, if_pos c, h.2.2.2.1 j hj (cl_spec.mp c).1 2 (by decide)]
  · rw [if_neg c, if_neg c]
theorem AG.age (h : AG d np nG dfP jfP dfG jfG) (hn : nG ≤ 60) : mX0_greatestAge (nI np) jfP (nI d) = mX0_greatestAge (nI nG) jfG (nI d) := by
  have h2 := h.2.1
  rw [age_c (show np ≤ 60 by omega), age_c hn]
  refine congrArg some (fo_more h2 (fun j hj y => ?_) (fun j h1 h3 y => if_neg (cl_no (h.2.2.2.2 j h1 h3))))
  show (if CL jfP (j * 7) (nI d) = true then mxI y (jfP (j * 7 + 4)) else y) = (if CL jfG (j * 7) (nI d) = true then mxI y (jfG (j * 7 + 4)) else y)
  rw [h.cl hj]
  by_cases c : CL jfG (j * 7) (nI d) = true
  · rw [if_pos c, if_pos c, h.2.2.2.1 j hj (cl_spec.mp c).1 4 (by decide)]
  · rw [if_neg c, if_neg c]
theorem AG.gets (h : AG d np nG dfP jfP dfG jfG) (hd : d < nd) (ld : nd ≤ 6) {k : Nat} (hk : k < 13) : mX3_get 13 78 (nI nd) dfP (nI d) (nI k) = mX3_get 13 78 (nI nd) dfG (nI d) (nI k) := by
  rw [show mX3_get 13 78 (nI nd) dfP (nI d) (nI k) = _ from get_in (w := 13) (n := 78) hk hd (by omega) (by decide), show mX3_get 13 78 (nI nd) dfG (nI d) (nI k) = _ from get_in (w := 13) (n := 78) hk hd (by omega) (by decide), h.1 k hk]
theorem AG.over (h : AG d np nG dfP jfP dfG jfG) (hd : d < nd) (ld : nd ≤ 6) (hn : nG ≤ 60) : mX0_isPlanOver (nI t) (nI nd) (nI np) dfP jfP (nI d) = mX0_isPlanOver (nI t) (nI nd) (nI nG) dfG jfG (nI d) := by
  have g8 : mX3_get 13 78 (nI nd) dfP (nI d) 8 = mX3_get 13 78 (nI nd) dfG (nI d) 8 := h.gets hd ld (k := 8) (by decide)
  have g9 : mX3_get 13 78 (nI nd) dfP (nI d) 9 = mX3_get 13 78 (nI nd) dfG (nI d) 9 := h.gets hd ld (k := 9) (by decide)
  have g10 : mX3_get 13 78 (nI nd) dfP (nI d) 10 = mX3_get 13 78 (nI nd) dfG (nI d) 10 := h.gets hd ld (k := 10) (by decide)
  have g11 : mX3_get 13 78 (nI nd) dfP (nI d) 11 = mX3_get 13 78 (nI nd) dfG (nI d) 11 := h.gets hd ld (k := 11) (by decide)
  have g12 : mX3_get 13 78 (nI nd) dfP (nI d) 12 = mX3_get 13 78 (nI nd) dfG (nI d) 12 := h.gets hd ld (k := 12) (by decide)
  have gd : ∀ x, mX0_instalmentDay (nI nd) dfP (nI d) x = mX0_instalmentDay (nI nd) dfG (nI d) x := fun x => by unfold mX0_instalmentDay; rw [g10, g11]
  have gt : ∀ x, mX0_instalmentsTogether (nI nd) dfP (nI d) x = mX0_instalmentsTogether (nI nd) dfG (nI d) x := fun x => by unfold mX0_instalmentsTogether; rw [g8, g9]
  have lp : ∀ (k : Nat) (x2 x3 : Int32), mX0_isPlanOver_L15 k (nI t) (nI nd) (nI np) dfP jfP (nI d) x2 x3 = mX0_isPlanOver_L15 k (nI t) (nI nd) (nI nG) dfG jfG (nI d) x2 x3 := by
    intro k
    induction k with
    | zero => intro x2 x3; rfl
    | succ k ih =>
      intro x2 x3
      rw [mX0_isPlanOver_L15.eq_2, mX0_isPlanOver_L15.eq_2, h.debt hn, gd, g12, gt]
      simp only [mX0_isPlanOver_b59, ih]
  unfold mX0_isPlanOver
  rw [g8]
  simp only [lp]
theorem AG.row (h : AG d np nG dfP jfP dfG jfG) {k : Nat} {v : Int32} : AG d np nG (upd dfP (d * 13 + k) v) jfP (upd dfG (d * 13 + k) v) jfG := by
  refine ⟨fun j hj => ?_, h.2⟩
  by_cases z : j = k
  · rw [z, upd_s, upd_s]
  · rw [upd_n (by omega), upd_n (by omega)]; exact h.1 j hj
theorem AG.close2 (h : AG d np nG dfP jfP dfG jfG) (hd : d < nd) (ld : nd ≤ 6) (hn : nG ≤ 60) (hP : mX0_closeAgreement_b69 (nI t) (nI nd) (nI np) jfP (nI d) dfP = some dfP') (hG : mX0_closeAgreement_b69 (nI t) (nI nd) (nI nG) jfG (nI d) dfG = some dfG') : AG d np nG dfP' jfP dfG' jfG := by
  have g8 : mX3_get 13 78 (nI nd) dfP (nI d) 8 = mX3_get 13 78 (nI nd) dfG (nI d) 8 := h.gets hd ld (k := 8) (by decide)
  unfold mX0_closeAgreement_b69 mX0_hasPlan at hP hG
  rw [g8, h.over hd ld hn, sD8 hd ld] at hP
  rw [sD8 hd ld] at hG
  obtain ⟨v, ev, hP⟩ := b1_s hP
  rw [ev, b1_some] at hG
  by_cases c : v = 0
  · rw [if_pos c] at hP hG
    rw [← Option.some.inj hP, ← Option.some.inj hG]; exact h
  · rw [if_neg c] at hP hG
    obtain ⟨w, ew, hP⟩ := b1_s hP
    rw [ew, b1_some] at hG
    by_cases c2 : w = 0
    · rw [if_pos c2] at hP hG
      rw [← Option.some.inj hP, ← Option.some.inj hG]; exact h
    · rw [if_neg c2, b1_some] at hP hG
      rw [← Option.some.inj hP, ← Option.some.inj hG]; exact h.row
theorem AG.close (h : AG d np nG dfP jfP dfG jfG) (hd : d < nd) (ld : nd ≤ 6) (hn : nG ≤ 60) (hP : mX0_closeAgreement (nI t) (nI nd) (nI np) dfP jfP (nI d) = some dfP') (hG : mX0_closeAgreement (nI t) (nI nd) (nI nG) dfG jfG (nI d) = some dfG') : AG d np nG dfP' jfP dfG' jfG := by
  have g6 : mX3_get 13 78 (nI nd) dfP (nI d) 6 = mX3_get 13 78 (nI nd) dfG (nI d) 6 := h.gets hd ld (k := 6) (by decide)
  have g7 : mX3_get 13 78 (nI nd) dfP (nI d) 7 = mX3_get 13 78 (nI nd) dfG (nI d) 7 := h.gets hd ld (k := 7) (by decide)
  have g12 : mX3_get 13 78 (nI nd) dfP (nI d) 12 = mX3_get 13 78 (nI nd) dfG (nI d) 12 := h.gets hd ld (k := 12) (by decide)
  unfold mX0_closeAgreement mX0_hasPromise mX0_closeAgreement_b58 at hP hG
  rw [g6, g7, g12, sD6 hd ld, cD5 hd ld, h.1 5 (by decide)] at hP
  rw [sD6 hd ld, cD5 hd ld] at hG
  obtain ⟨v, ev, hP⟩ := b1_s hP
  rw [ev, b1_some] at hG
  by_cases c : v = 0
  · rw [if_pos c] at hP hG; exact h.close2 hd ld hn hP hG
  · rw [if_neg c] at hP hG
    obtain ⟨w, ew, hP⟩ := b1_s hP
    rw [ew, b1_some] at hG
    by_cases c2 : nI t < w
    · rw [if_pos c2] at hP hG; exact h.close2 hd ld hn hP hG
    · rw [if_neg c2] at hP hG
      obtain ⟨x, ex, hP⟩ := b1_s hP
      rw [ex, b1_some] at hG
      obtain ⟨y, ey, hP⟩ := b1_s hP
      rw [ey, b1_some] at hG
      by_cases c3 : y ≤ x
      · rw [if_pos c3, b1_some] at hP hG
        exact h.row.close2 hd ld hn hP hG
      · rw [if_neg c3, b1_some, sD6 hd ld, b1_some] at hP hG
        exact h.row.row.close2 hd ld hn hP hG
end Agree
