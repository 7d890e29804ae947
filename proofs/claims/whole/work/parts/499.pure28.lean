/-! PURE: a day for one debtor, and for all -/
section NextDay
variable {ho pd : Int32} {sf : Nat → Int32} {ns nd no t g d np : Nat}
theorem closeN {jf qf dfP jfP dfP' : Nat → Int32} {ni : Nat} {stp hst sfo : Int32} (hd : d < nd) (hPc : mX0_closeAgreement (nI t) (nI nd) (nI np) dfP jfP (nI d) = some dfP') : ∀ (k' i : Nat) {df nw : Nat → Int32}, RR ho pd sf df jf qf nw ns nd ni no t g → (i ≤ d → AG d np ni dfP jfP df jf) → (d < i → AG d np ni dfP' jfP df jf) → nd < k' + i → i ≤ nd →
    ∃ df' nw', mX6_ends_L79 k' sfo (nI i) stp hst nw = mX6_ends_L132 FU sfo 0 stp 0 (upd nw' 0 (nI t + 1)) ∧ RR ho pd sf df' jf qf nw' ns nd ni no t g ∧ AG d np ni dfP' jfP df' jf := by
  intro k'
  induction k' with
  | zero => intro i df nw h a1 a2 h2 h3; omega
  | succ k' ih =>
    intro i df nw h a1 a2 h2 h3
    have ld := h.ld
    have li := h.li
    rw [mX6_ends_L79.eq_2, h.h3]
    by_cases e : i = nd
    · rw [e, if_pos (nI_le (Nat.le_refl _) (by omega)), h.h0]
      exact ⟨_, _, rfl, h, a2 (by omega)⟩
    · have hi : i < nd := by omega
      obtain ⟨df', nw1, nw', v, e1, e2, e3, e4, e5⟩ := h.close hi
      rw [if_neg (nI_ge hi (by omega)), e2, b1_some, e3, b1_some, nI_1]
      have nx := ih (i + 1) e5 (fun z => (a1 (by omega)).otherD (by omega) (closeF hi ld e1)) (fun z => by
        by_cases q : i = d
        · subst q; exact (a1 (Nat.le_refl _)).close hi ld li hPc e1
        · exact (a2 (by omega)).otherD q (closeF hi ld e1)) (by omega) (by omega)
      rcases e4 with ⟨z, rfl⟩ | ⟨z, q⟩
      · rw [if_pos z]; exact nx
      · rw [if_neg z, q, b1_some]; exact nx
theorem stepN {qf dfP jfP dfP' jfP' : Nat → Int32} {vP irP : Int32} (hd : d < nd) (hPs : mX0_doStep (nI t) (nI ns) (nI nd) (nI np) sf dfP jfP (nI d) = some (vP, irP, dfP', jfP')) : ∀ (k' i ni : Nat) {df jf nw : Nat → Int32} {stp hst : Int32}, RR ho pd sf df jf qf nw ns nd ni no t g → (i ≤ d → hst = 0 ∧ AG d np ni dfP jfP df jf) → (d < i → (vP = 0 ∧ irP = nI np ∧ hst = 0 ∧ AG d np ni dfP' jfP' df jf) ∨ (vP = 1 ∧ hst = 1)) → nd < k' + i → i ≤ nd →
    ∃ ni' df' jf' nw' stp' hst', mX6_ends_L132 k' (nI d) (nI i) stp hst nw = mX6_ends_L187 FU (nI d) 0 stp' hst' nw' ∧ RR ho pd sf df' jf' qf nw' ns nd ni' no t g ∧ ((vP = 0 ∧ irP = nI np ∧ hst' = 0 ∧ AG d np ni' dfP' jfP' df' jf') ∨ (vP = 1 ∧ hst' = 1)) := by
  intro k'
  induction k' with
  | zero => intro i ni df jf nw stp hst h a1 a2 h2 h3; omega
  | succ k' ih =>
    intro i ni df jf nw stp hst h a1 a2 h2 h3
    have ld := h.ld
    have li := h.li
    rw [mX6_ends_L132.eq_2, h.h3]
    by_cases e : i = nd
    · rw [e, if_pos (nI_le (Nat.le_refl _) (by omega))]
      exact ⟨_, _, _, _, _, _, rfl, h, a2 (by omega)⟩
    · have hi : i < nd := by omega
      obtain ⟨v, ni', df', jf', nw', stp', e1, e2, e3, e4⟩ := h.step (stp := -1) hi
      rw [if_neg (nI_ge hi (by omega)), e2, b2_some, nI_1]
      unfold mX6_ends_b171
      rw [nI_1]
      by_cases q : i = d
      · subst q
        obtain ⟨hs0, hA⟩ := a1 (Nat.le_refl _)
        obtain ⟨w1, w2⟩ := hA.step hi ld li hPs e1
        rw [if_pos hs0]
        rcases w2 with ⟨z, w3, w4, w5⟩ | z
        · rcases e4 with ⟨-, y⟩ | ⟨y, -⟩
          · have en : ni' = ni := by
              have := (nI_eq (by have := e3.li; omega) (by omega)).mp w5
              exact this
            subst en
            rw [if_neg (show ¬ stp' = nI i by rw [y]; exact fun q => nI_ne (show i < 2 ^ 31 by omega) q.symm)]
            exact ih (i + 1) ni' e3 (fun y => by omega) (fun _ => Or.inl ⟨w1.trans z, w4, rfl, w3⟩) (by omega) (by omega)
          · exact absurd (z.symm.trans y) (by decide)
        · rcases e4 with ⟨y, -⟩ | ⟨-, y⟩
          · exact absurd (z.symm.trans y) (by decide)
          · rw [if_pos y]
            exact ih (i + 1) ni' e3 (fun y => by omega) (fun _ => Or.inr ⟨w1.trans z, rfl⟩) (by omega) (by omega)
      · obtain ⟨n2, q1, q0, q2, -⟩ := stepF hi ld li e1
        have sne : ¬ stp' = nI d := by
          rcases e4 with ⟨-, y⟩ | ⟨-, y⟩
          · rw [y]; exact fun z => nI_ne (show d < 2 ^ 31 by omega) z.symm
          · rw [y]; exact fun z => q ((nI_eq (by omega) (by omega)).mp z)
        have s2 : SG i ni ni' df jf df' jf' := by
          have b1 : ni' = n2 := (nI_eq (by have := e3.li; omega) (by omega)).mp q1
          rw [b1]; exact q2
        by_cases c : hst = 0
        · rw [if_pos c, if_neg sne]
          refine ih (i + 1) ni' e3 (fun y => ⟨rfl, (a1 (by omega)).2.other q s2 (by omega) (by omega)⟩) (fun y => ?_) (by omega) (by omega)
          rcases a2 (by omega) with ⟨b1, b2, b3, b4⟩ | ⟨-, b2⟩
          · exact Or.inl ⟨b1, b2, rfl, b4.other q s2 (by omega) (by omega)⟩
          · exact absurd (c.symm.trans b2) (by decide)
        · rw [if_neg c]
          refine ih (i + 1) ni' e3 (fun y => absurd (a1 (by omega)).1 c) (fun y => ?_) (by omega) (by omega)
          rcases a2 (by omega) with ⟨-, -, b3, -⟩ | ⟨b1, -⟩
          · exact absurd b3 c
          · exact Or.inr ⟨b1, rfl⟩
end NextDay
