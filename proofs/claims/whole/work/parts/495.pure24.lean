/-! PURE: what one debtor's affairs leave alone -/
section Frame
variable {ns nd ni t d : Nat} {sf df jf df' jf' : Nat → Int32}
/-- cash of d was placed: only d's cash and the open sums of d's invoices move -/
def FR (d ni : Nat) (df jf df' jf' : Nat → Int32) : Prop := (∀ x, x ≠ d * 13 + 2 → df' x = df x) ∧ ∀ x, (∀ j, j < ni → jf (j * 7 + 0) = nI d → x ≠ j * 7 + 2) → jf' x = jf x
theorem FR.rf : FR d ni df jf df jf := ⟨fun _ _ => rfl, fun _ _ => rfl⟩
theorem FR.of0 (h : FR d ni df jf df' jf') (i : Nat) : jf' (i * 7 + 0) = jf (i * 7 + 0) := h.2 _ (fun j _ _ => by omega)
theorem FR.tr {df2 jf2 : Nat → Int32} (h : FR d ni df jf df' jf') (h2 : FR d ni df' jf' df2 jf2) : FR d ni df jf df2 jf2 :=
  ⟨fun x hx => (h2.1 x hx).trans (h.1 x hx), fun x hx => (h2.2 x (fun j hj e => hx j hj (by rw [← h.of0 j]; exact e))).trans (h.2 x hx)⟩
theorem placeF (hd : d < nd) (ld : nd ≤ 6) (li : ni ≤ 60) : ∀ (k : Nat) {x2 : Int32} {df jf : Nat → Int32}, mX0_placeCash_L2 k (nI nd) (nI ni) (nI d) x2 df jf = some (df', jf') → FR d ni df jf df' jf' := by
  intro k
  induction k with
  | zero => intro x2 df jf h; cases h
  | succ k ih =>
    intro x2 df jf h
    have fin : ∀ {a b : Nat → Int32}, some (a, b) = some (df', jf') → FR d ni a b df' jf' := fun {a b} e => by
      have e := Option.some.inj e
      simp only [Prod.mk.injEq] at e
      rw [← e.1, ← e.2]; exact FR.rf
    rw [mX0_placeCash_L2.eq_2, gD2 hd ld, b1_some] at h
    by_cases c1 : 60 ≤ x2
    · rw [if_pos c1] at h; exact fin h
    rw [if_neg c1] at h
    by_cases c2 : df (d * 13 + 2) ≤ 0
    · rw [if_pos c2] at h
      unfold mX0_placeCash_b31 at h
      rw [if_pos rfl] at h; exact fin h
    rw [if_neg c2] at h
    have e2 := eld_cL (jf := jf) (d := nI d) li FU 0 (-1) (by unfold FU; omega) (Nat.zero_le _) (Or.inl rfl)
    rw [Nat.sub_zero, nI_0] at e2
    have e2 : mX0_eldestClaim (nI ni) jf (nI d) = some (fo (gE jf (fun i => i * 7) (nI d)) ni (-1) 0) := by
      unfold mX0_eldestClaim; exact e2
    rw [e2, b1_some] at h
    unfold mX0_placeCash_b31 at h
    rcases eld_ok (n := ni) (f := jf) (B := fun i => i * 7) (d := nI d) with e | ⟨j, hj, hcl, e⟩
    · rw [e, if_pos rfl] at h; exact fin h
    · rw [e, if_neg (nI_ne (show j < 2 ^ 31 by omega)), gJ2 hj li, b1_some, cJ2 hj li, b1_some, cD2 hd ld, b1_some] at h
      refine FR.tr ⟨fun x hx => upd_n hx, fun x hx => upd_n (hx j hj (cl_spec.mp hcl).1)⟩ (ih h)
theorem placeF' (hd : d < nd) (ld : nd ≤ 6) (li : ni ≤ 60) (h : mX0_placeCash (nI nd) (nI ni) df jf (nI d) = some (df', jf')) : FR d ni df jf df' jf' := by
  unfold mX0_placeCash at h
  exact placeF hd ld li FU h
/-- outside row d -/
def OD (d : Nat) (df df' : Nat → Int32) : Prop := ∀ j, j < d * 13 ∨ d * 13 + 13 ≤ j → df' j = df j
theorem OD.rf : OD d df df := fun _ _ => rfl
theorem OD.tr {df2 : Nat → Int32} (h : OD d df df') (h2 : OD d df' df2) : OD d df df2 := fun j hj => (h2 j hj).trans (h j hj)
theorem OD.up {k : Nat} {v : Int32} (hk : k < 13) : OD d df (upd df (d * 13 + k) v) := fun j hj => upd_n (by omega)
theorem close2F (hd : d < nd) (ld : nd ≤ 6) (h : mX0_closeAgreement_b69 (nI t) (nI nd) (nI ni) jf (nI d) df = some df') : OD d df df' := by
  unfold mX0_closeAgreement_b69 at h
  obtain ⟨v, -, h⟩ := b1_s h
  by_cases c : v = 0
  · rw [if_pos c] at h; rw [← Option.some.inj h]; exact OD.rf
  · rw [if_neg c] at h
    obtain ⟨w, -, h⟩ := b1_s h
    by_cases c2 : w = 0
    · rw [if_pos c2] at h; rw [← Option.some.inj h]; exact OD.rf
    · rw [if_neg c2, sD8 hd ld, b1_some] at h
      rw [← Option.some.inj h]; exact OD.up (by decide)
theorem closeF (hd : d < nd) (ld : nd ≤ 6) (h : mX0_closeAgreement (nI t) (nI nd) (nI ni) df jf (nI d) = some df') : OD d df df' := by
  unfold mX0_closeAgreement at h
  obtain ⟨v, -, h⟩ := b1_s h
  by_cases c : v = 0
  · rw [if_pos c] at h; exact close2F hd ld h
  · rw [if_neg c, gD7 hd ld, b1_some] at h
    by_cases c1 : nI t < df (d * 13 + 7)
    · rw [if_pos c1] at h; exact close2F hd ld h
    · rw [if_neg c1, gD12 hd ld, b1_some, gD6 hd ld, b1_some] at h
      unfold mX0_closeAgreement_b58 at h
      by_cases c2 : df (d * 13 + 6) ≤ df (d * 13 + 12)
      · rw [if_pos c2, sD6 hd ld, b1_some] at h
        exact OD.tr (OD.up (by decide)) (close2F hd ld h)
      · rw [if_neg c2, cD5 hd ld, b1_some, sD6 hd ld, b1_some] at h
        exact OD.tr (OD.up (by decide)) (OD.tr (OD.up (by decide)) (close2F hd ld h))
/-- a step of d: what it leaves alone -/
def SG (d ni ni' : Nat) (df jf df' jf' : Nat → Int32) : Prop := OD d df df' ∧ ni ≤ ni' ∧ (∀ i, i < ni → jf (i * 7 + 0) ≠ nI d → ∀ k, k < 7 → jf' (i * 7 + k) = jf (i * 7 + k)) ∧ (∀ i, i < ni → jf' (i * 7 + 0) = jf (i * 7 + 0)) ∧ ∀ i, ni ≤ i → i < ni' → jf' (i * 7 + 0) = nI d
theorem SG.same (h : OD d df df') : SG d ni ni df jf df' jf := ⟨h, Nat.le_refl _, fun _ _ _ _ _ => rfl, fun _ _ => rfl, fun i h1 h2 => by omega⟩
theorem pr4 {a a' b b' : Int32} {f f' g g' : Nat → Int32} (h : some (a, b, f, g) = some (a', b', f', g')) : a = a' ∧ b = b' ∧ f = f' ∧ g = g' := by
  have h := Option.some.inj h
  simp only [Prod.mk.injEq] at h
  exact h
theorem stepF (hd : d < nd) (ld : nd ≤ 6) (li : ni ≤ 60) {v ir' : Int32} (h : mX0_doStep (nI t) (nI ns) (nI nd) (nI ni) sf df jf (nI d) = some (v, ir', df', jf')) : ∃ ni', ir' = nI ni' ∧ ni' ≤ 60 ∧ SG d ni ni' df jf df' jf' ∧ (v = 0 → ni' = ni ∧ jf' = jf) := by
  unfold mX0_doStep at h
  obtain ⟨ag, -, h⟩ := b1_s h
  by_cases c0 : ag = 0
  · rw [if_pos c0] at h
    obtain ⟨cv, -, h⟩ := b1_s h
    by_cases c1 : cv = 0
    · rw [if_pos c1, sD3 hd ld, b1_some] at h
      obtain ⟨-, rfl, rfl, rfl⟩ := pr4 h
      exact ⟨ni, rfl, li, SG.same (OD.up (by decide)), fun _ => ⟨rfl, rfl⟩⟩
    · rw [if_neg c1] at h
      obtain ⟨-, rfl, rfl, rfl⟩ := pr4 h
      exact ⟨ni, rfl, li, SG.same OD.rf, fun _ => ⟨rfl, rfl⟩⟩
  · rw [if_neg c0, gD3 hd ld, b1_some] at h
    obtain ⟨sv, -, h⟩ := b1_s h
    by_cases c2 : sv = 0
    · rw [if_pos c2] at h
      obtain ⟨rv, -, h⟩ := b1_s h
      by_cases c3 : rv = 0
      · rw [if_pos c3] at h
        obtain ⟨-, rfl, rfl, rfl⟩ := pr4 h
        exact ⟨ni, rfl, li, SG.same OD.rf, fun _ => ⟨rfl, rfl⟩⟩
      · rw [if_neg c3, sD3 hd ld, b1_some, sD4 hd ld, b1_some] at h
        obtain ⟨fe, -, h⟩ := b1_s h
        by_cases c4 : fe ≤ 0
        · rw [if_pos c4] at h
          obtain ⟨rfl, rfl, rfl, rfl⟩ := pr4 h
          exact ⟨ni, rfl, li, SG.same (OD.tr (OD.up (by decide)) (OD.up (by decide))), fun z => absurd z n10⟩
        · rw [if_neg c4] at h
          by_cases c5 : ni = 60
          · have e60 : mX3_isFull 7 420 (nI ni) = some 1 := by rw [c5]; exact fJ1
            rw [e60, b1_some, if_neg n10] at h
            obtain ⟨rfl, rfl, rfl, rfl⟩ := pr4 h
            exact ⟨ni, rfl, li, SG.same (OD.tr (OD.up (by decide)) (OD.up (by decide))), fun z => absurd z n10⟩
          · have hlt : ni < 60 := by omega
            rw [fJ0 hlt, b1_some, if_pos rfl, addInv_c hlt, b3_some] at h
            obtain ⟨df2, jf2, hp, h⟩ := b2_s h
            obtain ⟨rfl, rfl, rfl, rfl⟩ := pr4 h
            have fr := placeF' hd ld (show ni + 1 ≤ 60 by omega) hp
            have low : ∀ x, x < ni * 7 → (upd (upd (upd (upd (upd (zrow jf (ni * 7) 7) (ni * 7 + 0) (nI d)) (ni * 7 + 1) fe) (ni * 7 + 2) fe) (ni * 7 + 3) (nI t)) (ni * 7 + 6) 1) x = jf x := fun x hx => by
              rw [upd_n (by omega), upd_n (by omega), upd_n (by omega), upd_n (by omega), upd_n (by omega), zrow_at, if_neg (by omega)]
            refine ⟨ni + 1, rfl, hlt, ⟨OD.tr (OD.tr (OD.up (by decide)) (OD.up (by decide))) (fun j hj => fr.1 j (by omega)), by omega, fun i hi hne k hk => ?_, fun i hi => ?_, fun i h1 h2 => ?_⟩, fun z => absurd z n10⟩
            · rw [fr.2 _ (fun j hj e => ?_), low _ (by omega)]
              intro z
              have ej : j = i := by omega
              rw [ej, low _ (by omega)] at e
              exact hne e
            · rw [fr.of0, low _ (by omega)]
            · have ei : i = ni := by omega
              rw [ei, fr.of0, upd_n (by omega), upd_n (by omega), upd_n (by omega), upd_n (by omega), upd_s]
    · rw [if_neg c2] at h
      obtain ⟨-, rfl, rfl, rfl⟩ := pr4 h
      exact ⟨ni, rfl, li, SG.same OD.rf, fun _ => ⟨rfl, rfl⟩⟩
end Frame
