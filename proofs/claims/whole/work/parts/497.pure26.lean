/-! PURE: ageing, row by row; a step's decision -/
section Age
variable {ns nd n np nG t d : Nat} {sf df jf' dfP jfP dfG jfG jfP' jfG' dfP' dfG' : Nat → Int32}
/-- does a row age? -/
def AC (t nd : Nat) (df jf : Nat → Int32) (j : Nat) : Bool := !decide (nI t < jf (j * 7 + 3)) && (CL jf (j * 7) (jf (j * 7 + 0)) && decide (mX0_hasAgreement (nI nd) df (jf (j * 7 + 0)) = some 0))
theorem ac_spec {jf : Nat → Int32} {j : Nat} : AC t nd df jf j = true ↔ ¬ nI t < jf (j * 7 + 3) ∧ CL jf (j * 7) (jf (j * 7 + 0)) = true ∧ mX0_hasAgreement (nI nd) df (jf (j * 7 + 0)) = some 0 := by
  unfold AC
  rw [Bool.and_eq_true, Bool.and_eq_true, Bool.not_eq_true', decide_eq_false_iff_not, decide_eq_true_iff]
theorem age_pt (hn : n ≤ 60) : ∀ (k i : Nat) {jf : Nat → Int32}, i ≤ n → mX0_ageInvoices_L2 k (nI t) (nI nd) (nI n) df (nI i) jf = some jf' → (∀ x, x < i * 7 → jf' x = jf x) ∧ ∀ j, i ≤ j → j < n → (∀ c, c < 7 → c ≠ 4 → jf' (j * 7 + c) = jf (j * 7 + c)) ∧ jf' (j * 7 + 4) = (if AC t nd df jf j = true then jf (j * 7 + 4) + 1 else jf (j * 7 + 4)) := by
  intro k
  induction k with
  | zero => intro i jf hi h; cases h
  | succ k ih =>
    intro i jf hi h
    rw [mX0_ageInvoices_L2.eq_2, size_eq, b1_some] at h
    by_cases e : i = n
    · rw [if_pos (nI_le (show n ≤ i by omega) (by omega))] at h
      rw [← Option.some.inj h]
      exact ⟨fun _ _ => rfl, fun j h1 h2 => by omega⟩
    · have hin : i < n := by omega
      rw [if_neg (nI_ge hin (by omega)), gJ0 hin hn, b1_some, gJ3 hin hn, b1_some, claim_c hin hn, b1_some, cl0, nI_1] at h
      -- no ageing here
      have stay : ¬ AC t nd df jf i = true → mX0_ageInvoices_L2 k (nI t) (nI nd) (nI n) df (nI (i + 1)) jf = some jf' → (∀ x, x < i * 7 → jf' x = jf x) ∧ ∀ j, i ≤ j → j < n → (∀ c, c < 7 → c ≠ 4 → jf' (j * 7 + c) = jf (j * 7 + c)) ∧ jf' (j * 7 + 4) = (if AC t nd df jf j = true then jf (j * 7 + 4) + 1 else jf (j * 7 + 4)) := fun na h => by
        obtain ⟨a1, a2⟩ := ih (i + 1) (by omega) h
        refine ⟨fun x hx => a1 x (by omega), fun j h1 h2 => ?_⟩
        by_cases z : j = i
        · subst z
          rw [if_neg na]
          exact ⟨fun c hc _ => a1 _ (by omega), a1 _ (by omega)⟩
        · exact a2 j (by omega) h2
      by_cases c1 : nI t < jf (i * 7 + 3)
      · rw [if_pos c1] at h
        exact stay (fun z => (ac_spec.mp z).1 c1) h
      · rw [if_neg c1] at h
        by_cases c2 : CL jf (i * 7) (jf (i * 7 + 0)) = true
        · rw [if_pos c2] at h
          obtain ⟨v, ev, h⟩ := b1_s h
          by_cases c3 : v = 0
          · rw [if_pos c3, cJ4 hin hn, b1_some] at h
            obtain ⟨a1, a2⟩ := ih (i + 1) (by omega) h
            have hac : AC t nd df jf i = true := ac_spec.mpr ⟨c1, c2, by rw [ev, c3]⟩
            refine ⟨fun x hx => (a1 x (by omega)).trans (upd_n (by omega)), fun j h1 h2 => ?_⟩
            by_cases z : j = i
            · subst z
              rw [if_pos hac]
              exact ⟨fun c hc h4 => (a1 _ (by omega)).trans (upd_n (by omega)), (a1 _ (by omega)).trans upd_s⟩
            · obtain ⟨b1', b2'⟩ := a2 j (by omega) h2
              have eq : ∀ c, c < 7 → (upd jf (i * 7 + 4) (jf (i * 7 + 4) + 1)) (j * 7 + c) = jf (j * 7 + c) := fun c hc => upd_n (by omega)
              have ea : AC t nd df (upd jf (i * 7 + 4) (jf (i * 7 + 4) + 1)) j = AC t nd df jf j := by
                unfold AC CL
                rw [eq 0 (by decide), eq 2 (by decide), eq 3 (by decide), eq 5 (by decide)]
              refine ⟨fun c hc h4 => (b1' c hc h4).trans (eq c hc), ?_⟩
              rw [b2', eq 4 (by decide), ea]
          · rw [if_neg c3] at h
            exact stay (fun z => c3 (Option.some.inj (ev.symm.trans (ac_spec.mp z).2.2))) h
        · rw [if_neg c2] at h
          exact stay (fun z => c2 (ac_spec.mp z).2.1) h
theorem AG.agree (h : AG d np nG dfP jfP dfG jfG) (hd : d < nd) (ld : nd ≤ 6) : mX0_hasAgreement (nI nd) dfP (nI d) = mX0_hasAgreement (nI nd) dfG (nI d) := by
  have g6 : mX3_get 13 78 (nI nd) dfP (nI d) 6 = mX3_get 13 78 (nI nd) dfG (nI d) 6 := h.gets hd ld (k := 6) (by decide)
  have g8 : mX3_get 13 78 (nI nd) dfP (nI d) 8 = mX3_get 13 78 (nI nd) dfG (nI d) 8 := h.gets hd ld (k := 8) (by decide)
  unfold mX0_hasAgreement mX0_hasPromise mX0_hasPlan
  rw [g6, g8]
theorem AG.aged (h : AG d np nG dfP jfP dfG jfG) (hd : d < nd) (ld : nd ≤ 6) (hn : nG ≤ 60) (hP : mX0_ageInvoices (nI t) (nI nd) (nI np) dfP jfP = some jfP') (hG : mX0_ageInvoices (nI t) (nI nd) (nI nG) dfG jfG = some jfG') : AG d np nG dfP jfP' dfG jfG' := by
  have h2 := h.2.1
  unfold mX0_ageInvoices at hP hG
  rw [← nI_0] at hP hG
  obtain ⟨-, p⟩ := age_pt (show np ≤ 60 by omega) FU 0 (Nat.zero_le _) hP
  obtain ⟨-, q⟩ := age_pt hn FU 0 (Nat.zero_le _) hG
  refine ⟨h.1, h2, fun i hi => ?_, fun i hi e k hk => ?_, fun i h1 h3 => ?_⟩
  · rw [(p i (Nat.zero_le _) hi).1 0 (by decide) (by decide), (q i (Nat.zero_le _) (by omega)).1 0 (by decide) (by decide)]; exact h.2.2.1 i hi
  · rw [(q i (Nat.zero_le _) (by omega)).1 0 (by decide) (by decide)] at e
    have ee := h.2.2.2.1 i hi e
    by_cases k4 : k = 4
    · subst k4
      rw [(p i (Nat.zero_le _) hi).2, (q i (Nat.zero_le _) (by omega)).2, ee 4 (by decide)]
      have ea : AC t nd dfP jfP i = AC t nd dfG jfG i := by
        unfold AC CL
        rw [ee 0 (by decide), ee 2 (by decide), ee 3 (by decide), ee 5 (by decide), e, h.agree hd ld]
      rw [ea]
    · rw [(p i (Nat.zero_le _) hi).1 k hk k4, (q i (Nat.zero_le _) (by omega)).1 k hk k4]; exact ee k hk
  · rw [(q i (Nat.zero_le _) h3).1 0 (by decide) (by decide)]; exact h.2.2.2.2 i h1 h3
end Age
