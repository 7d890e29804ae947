/-! PURE: a step's decision -/
section Dec
variable {ns nd np nG t d : Nat} {sf dfP jfP dfG jfG jfP' jfG' dfP' dfG' : Nat → Int32} {vP vG irP irG : Int32}
theorem AG.step (h : AG d np nG dfP jfP dfG jfG) (hd : d < nd) (ld : nd ≤ 6) (hn : nG ≤ 60) (hP : mX0_doStep (nI t) (nI ns) (nI nd) (nI np) sf dfP jfP (nI d) = some (vP, irP, dfP', jfP')) (hG : mX0_doStep (nI t) (nI ns) (nI nd) (nI nG) sf dfG jfG (nI d) = some (vG, irG, dfG', jfG')) : vP = vG ∧ ((vG = 0 ∧ AG d np nG dfP' jfP' dfG' jfG' ∧ irP = nI np ∧ irG = nI nG) ∨ vG = 1) := by
  have h2 := h.2.1
  have g3 : mX3_get 13 78 (nI nd) dfP (nI d) 3 = mX3_get 13 78 (nI nd) dfG (nI d) 3 := h.gets hd ld (k := 3) (by decide)
  have g4 : mX3_get 13 78 (nI nd) dfP (nI d) 4 = mX3_get 13 78 (nI nd) dfG (nI d) 4 := h.gets hd ld (k := 4) (by decide)
  have gc : mX0_isAtCourt (nI ns) (nI nd) dfP (nI d) = mX0_isAtCourt (nI ns) (nI nd) dfG (nI d) := by unfold mX0_isAtCourt; rw [g3]
  have gr : ∀ a b, mX0_isStepRipe (nI t) (nI ns) (nI nd) sf dfP (nI d) a b = mX0_isStepRipe (nI t) (nI ns) (nI nd) sf dfG (nI d) a b := fun a b => by unfold mX0_isStepRipe; rw [g4]
  unfold mX0_doStep at hP hG
  rw [h.age hn, gc, g3, h.agree hd ld] at hP
  obtain ⟨ag, e, hP⟩ := b1_s hP
  rw [e, b1_some] at hG
  by_cases c0 : ag = 0
  · rw [if_pos c0] at hP hG
    obtain ⟨cv, e, hP⟩ := b1_s hP
    rw [e, b1_some] at hG
    by_cases c1 : cv = 0
    · rw [if_pos c1, sD3 hd ld, b1_some] at hP hG
      obtain ⟨rfl, rfl, rfl, rfl⟩ := pr4 hP
      obtain ⟨rfl, rfl, rfl, rfl⟩ := pr4 hG
      exact ⟨rfl, Or.inl ⟨rfl, h.row, rfl, rfl⟩⟩
    · rw [if_neg c1] at hP hG
      obtain ⟨rfl, rfl, rfl, rfl⟩ := pr4 hP
      obtain ⟨rfl, rfl, rfl, rfl⟩ := pr4 hG
      exact ⟨rfl, Or.inl ⟨rfl, h, rfl, rfl⟩⟩
  · rw [if_neg c0] at hP hG
    obtain ⟨st, e, hP⟩ := b1_s hP
    rw [e, b1_some] at hG
    obtain ⟨sv, e, hP⟩ := b1_s hP
    rw [e, b1_some] at hG
    by_cases c2 : sv = 0
    · rw [if_pos c2] at hP hG
      rw [gr] at hP
      obtain ⟨rv, e, hP⟩ := b1_s hP
      rw [e, b1_some] at hG
      by_cases c3 : rv = 0
      · rw [if_pos c3] at hP hG
        obtain ⟨rfl, rfl, rfl, rfl⟩ := pr4 hP
        obtain ⟨rfl, rfl, rfl, rfl⟩ := pr4 hG
        exact ⟨rfl, Or.inl ⟨rfl, h, rfl, rfl⟩⟩
      · rw [if_neg c3] at hP hG
        have one : ∀ {n : Nat} {a b c : Nat → Int32} {v ir : Int32} {x y : Nat → Int32}, (b1 (mX3_set 13 78 (nI nd) a (nI d) 3 (st + 1)) fun df12 => b1 (mX3_set 13 78 (nI nd) df12 (nI d) 4 (nI t)) fun df14 => b1 (mX3_get 3 18 (nI ns) sf st 2) fun v16 => (if v16 ≤ 0 then some ((1 : Int32), nI n, df14, b) else b1 (mX3_isFull 7 420 (nI n)) fun v19 => (if v19 = 0 then b3 (mX0_addInvoice (nI n) b (nI d) v16 (nI t) 1) fun v22 ir23 jf24 => b2 (mX0_placeCash (nI nd) ir23 df14 jf24 (nI d)) fun df26 jf27 => some ((1 : Int32), ir23, df26, jf27) else some ((1 : Int32), nI n, df14, b)))) = some (v, ir, x, y) → v = 1 := fun {n a b c v ir x y} q => by
          obtain ⟨_, -, q⟩ := b1_s q
          obtain ⟨_, -, q⟩ := b1_s q
          obtain ⟨fe, -, q⟩ := b1_s q
          by_cases d1 : fe ≤ 0
          · rw [if_pos d1] at q; exact (pr4 q).1.symm
          · rw [if_neg d1] at q
            obtain ⟨fu, -, q⟩ := b1_s q
            by_cases d2 : fu = 0
            · rw [if_pos d2] at q
              obtain ⟨_, _, _, -, q⟩ := b3_s q
              obtain ⟨_, _, -, q⟩ := b2_s q
              exact (pr4 q).1.symm
            · rw [if_neg d2] at q; exact (pr4 q).1.symm
        have a1 := one (c := jfP) hP
        have a2 := one (c := jfG) hG
        exact ⟨a1.trans a2.symm, Or.inr a2⟩
    · rw [if_neg c2] at hP hG
      obtain ⟨rfl, rfl, rfl, rfl⟩ := pr4 hP
      obtain ⟨rfl, rfl, rfl, rfl⟩ := pr4 hG
      exact ⟨rfl, Or.inl ⟨rfl, h, rfl, rfl⟩⟩
/-- what others do, on the other book -/
theorem AG.other {e nG' : Nat} (h : AG d np nG dfP jfP dfG jfG) (he : e ≠ d) (hs : SG e nG nG' dfG jfG dfG' jfG') (hed : e < 2 ^ 31) (hdd : d < 2 ^ 31) : AG d np nG' dfP jfP dfG' jfG' := by
  obtain ⟨s1, s2, s3, s4, s5⟩ := hs
  have ne : ∀ x, x = nI d → x ≠ nI e := fun x hx z => he ((nI_eq hed hdd).mp (z.symm.trans hx))
  have h2 := h.2.1
  refine ⟨fun j hj => (h.1 j hj).trans (s1 _ (by omega)).symm, by omega, fun i hi => (h.2.2.1 i hi).trans (s4 i (by omega)).symm, fun i hi q k hk => ?_, fun i h1 h3 => ?_⟩
  · rw [s4 i (by omega)] at q
    rw [s3 i (by omega) (ne _ q) k hk]
    exact h.2.2.2.1 i hi q k hk
  · by_cases z : i < nG
    · rw [s4 i z]; exact h.2.2.2.2 i h1 z
    · intro q
      exact ne _ q (s5 i (by omega) h3)
theorem AG.otherD {e : Nat} (h : AG d np nG dfP jfP dfG jfG) (he : e ≠ d) (hs : OD e dfG dfG') : AG d np nG dfP jfP dfG' jfG :=
  ⟨fun j hj => (h.1 j hj).trans (hs _ (by omega)).symm, h.2⟩
end Dec
