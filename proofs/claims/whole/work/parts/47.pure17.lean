/-! PURE: tokens -/
section Tok
variable {u : Nat} {tf tp : Nat → Int32}
/-- the token that stands at p, as both read it -/
def TK (u : Nat) (tf tp : Nat → Int32) (p : Nat) (too frm srt num : Int32) (wrd : Int64) : Prop := ∀ kd0 bg0 vl0, ∃ kd pt vl, mX2_advance kd0 bg0 (nI p) vl0 (nI u) tf = some (kd, frm, pt, vl) ∧
  ((kd = 0 ∧ srt = 1) ∨ (kd = 4 ∧ srt = 0) ∨ (kd = 3 ∧ srt = 4 ∧ ∃ q, q ≤ u ∧ pt = nI q ∧ too = nI q) ∨ (kd = 2 ∧ srt = 3 ∧ vl = num ∧ (∃ v, num = nI v ∧ v < 10000) ∧ ∃ q, q ≤ u ∧ pt = nI q ∧ too = nI q)
   ∨ (kd = 1 ∧ srt = 2 ∧ ∃ b q, q ≤ u ∧ b < q ∧ frm = nI b ∧ pt = nI q ∧ too = nI q ∧ (∀ i, i < q - b → isL (tp (b + i)) = true) ∧ wrd = lN (hN (dg tp b) (min (q - b) 8))))
theorem blank_c (x : Int32) : mX2_isBlank x = some (if x = 32 then 1 else if x = 10 then 1 else 0) := by
  unfold mX2_isBlank
  split
  · rfl
  · split <;> rfl
theorem skip (h : TB u tf tp) : ∀ (k k' p : Nat), p ≤ u → u < k + p → u < k' + p → ∃ b, p ≤ b ∧ b ≤ u ∧ (∀ kd pt vl, mX2_advance_L16 k (nI u) tf (nI u) kd (nI p) pt vl = mX2_advance_b54 (nI u) tf (nI u) kd (nI b) pt vl) ∧ (∀ frm srt num wrd, mX6_go_L0 k' (nI u) tp (nI p) frm srt num wrd = mX6_go_b52 (nI u) tp (nI b) frm srt num wrd) := by
  have hu := h.1
  intro k
  induction k with
  | zero => intro k' p h1 h2 h3; omega
  | succ k ih =>
    intro k' p h1 h2 h3
    obtain ⟨k', rfl⟩ : ∃ y, k' = y + 1 := ⟨k' - 1, by omega⟩
    by_cases e : p = u
    · refine ⟨p, Nat.le_refl p, h1, fun kd pt vl => ?_, fun frm srt num wrd => ?_⟩
      · rw [mX2_advance_L16.eq_2, if_pos (nI_le (by omega) (by omega))]
      · rw [mX6_go_L0.eq_2, if_pos (nI_le (by omega) (by omega))]
    · have hp : p < u := by omega
      have hcl : (nI p).toNatClampNeg = p := nI_clamp (by omega)
      by_cases c1 : tp p = 32 ∨ tp p = 10
      · obtain ⟨b, b1, b2, b3, b4⟩ := ih k' (p + 1) (by omega) (by omega) (by omega)
        refine ⟨b, by omega, b2, fun kd pt vl => ?_, fun frm srt num wrd => ?_⟩
        · rw [mX2_advance_L16.eq_2, if_neg (nI_ge hp (by omega)), h.at hp, b1_some, blank_c, b1_some, if_neg (by rcases c1 with z | z <;> rw [z] <;> decide), nI_1]
          exact b3 kd pt vl
        · unfold mX6_go_L0 mX6_go_b39
          rw [if_neg (nI_ge hp (by omega)), inr_nI (show p < 640 by omega) (by decide), ck_true, ck_true, hcl, nI_1, b4]
          rcases c1 with z | z
          · rw [if_pos z]
          · rw [if_neg (show ¬ tp p = 32 by rw [z]; decide), if_pos z]
      · have c2 : ¬ tp p = 32 := fun z => c1 (Or.inl z)
        have c3 : ¬ tp p = 10 := fun z => c1 (Or.inr z)
        refine ⟨p, Nat.le_refl p, h1, fun kd pt vl => ?_, fun frm srt num wrd => ?_⟩
        · rw [mX2_advance_L16.eq_2, if_neg (nI_ge hp (by omega)), h.at hp, b1_some, blank_c, b1_some, if_neg c2, if_neg c3, if_pos rfl]
        · rw [mX6_go_L0.eq_2, if_neg (nI_ge hp (by omega)), inr_nI (show p < 640 by omega) (by decide), ck_true, ck_true, hcl, if_neg c2, if_neg c3]
theorem lex (h : TB u tf tp) {p : Nat} (hp : p ≤ u) (frm srt num : Int32) (wrd : Int64) : ∃ too' frm' srt' num' wrd', mX6_go (nI u) (nI p) frm srt num wrd tp = some (too', frm', srt', num', wrd') ∧ TK u tf tp p too' frm' srt' num' wrd' := by
  have hu := h.1
  obtain ⟨b, p1, p2, p3, p4⟩ := skip h FU FU p hp (by unfold FU; omega) (by unfold FU; omega)
  have adv : ∀ kd0 bg0 vl0, mX2_advance kd0 bg0 (nI p) vl0 (nI u) tf = mX2_advance_b54 (nI u) tf (nI u) kd0 (nI b) (nI p) vl0 := fun kd0 bg0 vl0 => by
    unfold mX2_advance mX4_length
    rw [b1_some]; exact p3 kd0 (nI p) vl0
  unfold TK mX6_go
  rw [p4]
  simp only [adv]
  unfold mX2_advance_b54 mX6_go_b52
  have hcl : (nI b).toNatClampNeg = b := nI_clamp (by omega)
  by_cases c0 : u ≤ 600 ∨ b < 600
  · have key : ∃ too' frm' srt' num' wrd', mX6_go_b93 (nI u) tp (nI b) (nI b) srt num wrd = some (too', frm', srt', num', wrd') ∧ ∀ kd0 vl0, ∃ kd pt vl, mX2_advance_b94 (nI u) tf (nI u) kd0 (nI b) (nI b) vl0 = some (kd, frm', pt, vl) ∧
      ((kd = 0 ∧ srt' = 1) ∨ (kd = 4 ∧ srt' = 0) ∨ (kd = 3 ∧ srt' = 4 ∧ ∃ q, q ≤ u ∧ pt = nI q ∧ too' = nI q) ∨ (kd = 2 ∧ srt' = 3 ∧ vl = num' ∧ (∃ v, num' = nI v ∧ v < 10000) ∧ ∃ q, q ≤ u ∧ pt = nI q ∧ too' = nI q)
       ∨ (kd = 1 ∧ srt' = 2 ∧ ∃ b q, q ≤ u ∧ b < q ∧ frm' = nI b ∧ pt = nI q ∧ too' = nI q ∧ (∀ i, i < q - b → isL (tp (b + i)) = true) ∧ wrd' = lN (hN (dg tp b) (min (q - b) 8)))) := by
      unfold mX2_advance_b94 mX6_go_b93 mX6_go_b146 mX6_go_b160
      by_cases c1 : b = u
      · rw [if_neg (nI_nlt (show u ≤ b by omega) (by omega))]
        exact ⟨_, _, _, _, _, rfl, fun kd0 vl0 => ⟨_, _, _, by rw [if_neg (nI_nlt (show u ≤ b by omega) (by omega))], Or.inr (Or.inl ⟨rfl, rfl⟩)⟩⟩
      · have hb : b < u := by omega
        rw [if_pos (nI_lt hb (by omega)), inr_nI (show b < 640 by omega) (by decide), ck_true, hcl, let_r, dig_r]
        simp only [b1_some, cl0, if_pos (nI_lt hb (show u < 2 ^ 31 by omega)), h.at hb]
        have run : ∀ F : Int32, RUN tp b b 0 0 F 1 0 0 0 → ¬ tp b = 59 → ∃ too' frm' srt' num' wrd', mX6_go_L177 FU (nI u) tp F 1 (nI b) (nI b) srt 0 0 = some (too', frm', srt', num', wrd') ∧ ∀ (kd0 vl0 : Int32), ∃ kd pt vl, (if tp b = 59 then some ((3 : Int32), nI b, (nI b + 1), vl0) else b3 (mX2_scanRun kd0 (nI b) vl0 (nI u) tf (nI u)) fun kd15 pt16 vl17 => some (kd15, nI b, pt16, vl17)) = some (kd, frm', pt, vl) ∧
            ((kd = 0 ∧ srt' = 1) ∨ (kd = 4 ∧ srt' = 0) ∨ (kd = 3 ∧ srt' = 4 ∧ ∃ q, q ≤ u ∧ pt = nI q ∧ too' = nI q) ∨ (kd = 2 ∧ srt' = 3 ∧ vl = num' ∧ (∃ v, num' = nI v ∧ v < 10000) ∧ ∃ q, q ≤ u ∧ pt = nI q ∧ too' = nI q)
             ∨ (kd = 1 ∧ srt' = 2 ∧ ∃ b q, q ≤ u ∧ b < q ∧ frm' = nI b ∧ pt = nI q ∧ too' = nI q ∧ (∀ i, i < q - b → isL (tp (b + i)) = true) ∧ wrd' = lN (hN (dg tp b) (min (q - b) 8)))) := fun F hF h59 => by
          have r0 := fun kd0 => run_sim h hb FU FU b 0 0 F 1 0 0 kd0 srt 0 hF (by omega) (by unfold FU; omega) (by unfold FU; omega)
          obtain ⟨q, -, -, srt', num', wrd', -, -, -, e2, -⟩ := r0 0
          refine ⟨nI q, nI b, srt', num', wrd', e2, fun kd0 vl0 => ?_⟩
          obtain ⟨q', kd', vl', srt2, num2, wrd2, g1, g2, g3, g4, g5⟩ := r0 kd0
          rw [e2] at g4
          have g6 := Option.some.inj g4
          simp only [Prod.mk.injEq] at g6
          obtain ⟨k1, -, k3, k4, k5⟩ := g6
          rw [if_neg h59]
          unfold mX2_scanRun
          rw [nI_0] at g3
          rw [g3, b3_some]
          refine ⟨kd', nI q', vl', rfl, ?_⟩
          rw [k3, k4, k5]
          rcases g5 with ⟨a1, a2⟩ | ⟨a1, a2, a3, a4⟩ | ⟨a1, a2, a3, a4, a5⟩
          · exact Or.inl ⟨a1, a2⟩
          · exact Or.inr (Or.inr (Or.inr (Or.inl ⟨a1, a2, a3, a4, q', g2, rfl, k1⟩)))
          · exact Or.inr (Or.inr (Or.inr (Or.inr ⟨a1, a2, b, q', g2, a3, rfl, rfl, k1, a4, a5⟩)))
        by_cases c2 : isL (tp b) = true
        · rw [if_pos c2, if_pos c2]
          refine run 1 ⟨Nat.le_refl b, by omega, Or.inl ⟨rfl, rfl, rfl, c2, fun i hi => by omega, by rw [Nat.sub_self]; rfl⟩⟩ (fun z => ?_)
          rw [z] at c2; exact absurd c2 (by decide)
        · rw [if_neg c2, if_neg c2]
          by_cases c3 : isD (tp b) = true
          · rw [if_pos c3]
            refine run 0 ⟨Nat.le_refl b, by omega, Or.inr (Or.inl ⟨rfl, rfl, rfl, c3, fun _ => ⟨rfl, 0, rfl, by rw [Nat.sub_self]; decide⟩⟩)⟩ (fun z => ?_)
            rw [z] at c3; exact absurd c3 (by decide)
          · rw [if_neg c3]
            by_cases c4 : tp b = 59
            · rw [if_pos c4]
              refine ⟨_, _, _, _, _, rfl, fun kd0 vl0 => ⟨_, _, _, by rw [if_pos c4], Or.inr (Or.inr (Or.inl ⟨rfl, rfl, b + 1, by omega, by rw [nI_1], by rw [nI_1]⟩))⟩⟩
            · rw [if_neg c4]
              refine ⟨_, _, _, _, _, rfl, fun kd0 vl0 => ⟨0, nI b, 0, ?_, Or.inl ⟨rfl, rfl⟩⟩⟩
              rw [if_neg c4]
              unfold mX2_scanRun
              rw [show FU = 7999 + 1 from rfl, mX2_scanRun_L9.eq_2, if_neg (nI_ge hb (by omega)), h.at hb, b1_some, let_c, b1_some, cl0, if_neg c2, b1_some, dig_c, b1_some, cl0, if_neg c3]
              rfl
    rcases c0 with c | c
    · rw [if_pos (show nI u ≤ 600 from nI_le (b := 600) c (by decide))]
      obtain ⟨a1, a2, a3, a4, a5, k1, k2⟩ := key
      exact ⟨a1, a2, a3, a4, a5, k1, fun kd0 _ vl0 => by rw [if_pos (show nI u ≤ 600 from nI_le (b := 600) c (by decide))]; exact k2 kd0 vl0⟩
    · obtain ⟨a1, a2, a3, a4, a5, k1, k2⟩ := key
      have cb : nI b < 600 := nI_lt (b := 600) c (by decide)
      refine ⟨a1, a2, a3, a4, a5, ?_, fun kd0 _ vl0 => ?_⟩
      · rw [if_pos cb]; split <;> exact k1
      · rw [if_pos cb]
        by_cases z : nI u ≤ 600
        · rw [if_pos z]; exact k2 kd0 vl0
        · rw [if_neg z]; exact k2 kd0 vl0
  · have cu : ¬ nI u ≤ 600 := nI_ge (a := 600) (by omega) (by omega)
    have cb : ¬ nI b < 600 := nI_nlt (b := 600) (by omega) (by omega)
    rw [if_neg cu, if_neg cb]
    exact ⟨_, _, _, _, _, rfl, fun kd0 _ vl0 => ⟨_, _, _, by rw [if_neg cu, if_neg cb], Or.inl ⟨rfl, rfl⟩⟩⟩
end Tok
