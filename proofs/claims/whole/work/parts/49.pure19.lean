/-! PURE: numbers, semicolons, lines -/
theorem b6_some {α0 α1 α2 α3 α4 α5 ρ : Type} {a0 : α0} {a1 : α1} {a2 : α2} {a3 : α3} {a4 : α4} {a5 : α5} {f : α0 → α1 → α2 → α3 → α4 → α5 → Option ρ} : b6 (some (a0, a1, a2, a3, a4, a5)) f = f a0 a1 a2 a3 a4 a5 := rfl
theorem b7_some {α0 α1 α2 α3 α4 α5 α6 ρ : Type} {a0 : α0} {a1 : α1} {a2 : α2} {a3 : α3} {a4 : α4} {a5 : α5} {a6 : α6} {f : α0 → α1 → α2 → α3 → α4 → α5 → α6 → Option ρ} : b7 (some (a0, a1, a2, a3, a4, a5, a6)) f = f a0 a1 a2 a3 a4 a5 a6 := rfl
theorem b8_some {α0 α1 α2 α3 α4 α5 α6 α7 ρ : Type} {a0 : α0} {a1 : α1} {a2 : α2} {a3 : α3} {a4 : α4} {a5 : α5} {a6 : α6} {a7 : α7} {f : α0 → α1 → α2 → α3 → α4 → α5 → α6 → α7 → Option ρ} : b8 (some (a0, a1, a2, a3, a4, a5, a6, a7)) f = f a0 a1 a2 a3 a4 a5 a6 a7 := rfl
theorem b9_some {α0 α1 α2 α3 α4 α5 α6 α7 α8 ρ : Type} {a0 : α0} {a1 : α1} {a2 : α2} {a3 : α3} {a4 : α4} {a5 : α5} {a6 : α6} {a7 : α7} {a8 : α8} {f : α0 → α1 → α2 → α3 → α4 → α5 → α6 → α7 → α8 → Option ρ} : b9 (some (a0, a1, a2, a3, a4, a5, a6, a7, a8)) f = f a0 a1 a2 a3 a4 a5 a6 a7 a8 := rfl
theorem b10_some {α0 α1 α2 α3 α4 α5 α6 α7 α8 α9 ρ : Type} {a0 : α0} {a1 : α1} {a2 : α2} {a3 : α3} {a4 : α4} {a5 : α5} {a6 : α6} {a7 : α7} {a8 : α8} {a9 : α9} {f : α0 → α1 → α2 → α3 → α4 → α5 → α6 → α7 → α8 → α9 → Option ρ} : b10 (some (a0, a1, a2, a3, a4, a5, a6, a7, a8, a9)) f = f a0 a1 a2 a3 a4 a5 a6 a7 a8 a9 := rfl
section Parse
variable {u p : Nat} {tf tp : Nat → Int32} {too frm srt num : Int32} {wrd : Int64}
theorem bad_1 {frm srt flt plc : Int32} {w : Int32} (h : srt = 1 ∨ w = 1) : mX6_bad frm srt flt plc w = some (0, 1, frm) := by
  unfold mX6_bad mX6_bad_b14
  by_cases z : srt = 1
  · rw [if_pos z]
  · rw [if_neg z, h.resolve_left z]
theorem bad_n {frm srt flt plc : Int32} {w : Int32} (h : ¬ srt = 1) : mX6_bad frm srt flt plc w = some (0, w, frm) := by
  unfold mX6_bad mX6_bad_b14
  rw [if_neg h]
theorem num_ft {kd bg pt vl us f a b : Int32} (hf : ¬ f = 0) : mX2_takeNumber kd bg pt vl f us tf a b = some (0, kd, bg, pt, vl, f) := by
  unfold mX2_takeNumber
  rw [if_neg hf]
theorem sem_ft {kd bg pt vl us f : Int32} (hf : ¬ f = 0) : mX2_takeSemicolon kd bg pt vl f us tf = some (0, kd, bg, pt, vl, f) := by
  unfold mX2_takeSemicolon
  rw [if_neg hf]
theorem num_sim (h : TB u tf tp) (hT : TK u tf tp p too frm srt num wrd) {a : Nat} (ha : a < 785) (lo hi kd bg vl flt plc : Int32) (rd : Nat → Int32) :
    (∃ q v kd' vl' too' frm' srt' num' wrd', q ≤ u ∧ v < 10000 ∧ ¬ nI v < lo ∧ nI v ≤ hi ∧ mX2_takeNumber kd bg (nI p) vl 0 (nI u) tf lo hi = some (nI v, kd', frm, nI q, vl', 0) ∧ mX6_told (nI u) too frm srt num flt plc wrd tp rd (nI a) lo hi = some (1, too', frm', srt', num', flt, plc, wrd', upd rd a (nI v)) ∧ TK u tf tp q too' frm' srt' num' wrd')
    ∨ (∃ f r kd' pt' vl', ¬ f = 0 ∧ mX2_takeNumber kd bg (nI p) vl 0 (nI u) tf lo hi = some (r, kd', frm, pt', vl', f) ∧ mX6_told (nI u) too frm srt num flt plc wrd tp rd (nI a) lo hi = some (0, too, frm, srt, num, f, frm, wrd, rd)) := by
  obtain ⟨kd', pt, vl', e, hk⟩ := hT kd bg vl
  have fault1 : ¬ kd' = 2 → ¬ srt = 3 → (∃ f r kd' pt' vl', ¬ f = 0 ∧ mX2_takeNumber kd bg (nI p) vl 0 (nI u) tf lo hi = some (r, kd', frm, pt', vl', f) ∧ mX6_told (nI u) too frm srt num flt plc wrd tp rd (nI a) lo hi = some (0, too, frm, srt, num, f, frm, wrd, rd)) := fun k1 k2 => by
    unfold mX2_takeNumber mX6_told
    rw [if_pos rfl, e, b4_some, if_neg k1, if_neg k2, bad_1 (Or.inr rfl), b3_some]
    exact ⟨1, _, _, _, _, by decide, rfl, rfl⟩
  rcases hk with ⟨k1, k2⟩ | ⟨k1, k2⟩ | ⟨k1, k2, -⟩ | ⟨k1, k2, k3, ⟨v, k4, k5⟩, q, k6, k7, k8⟩ | ⟨k1, k2, -⟩
  · exact Or.inr (fault1 (by rw [k1]; decide) (by rw [k2]; decide))
  · exact Or.inr (fault1 (by rw [k1]; decide) (by rw [k2]; decide))
  · exact Or.inr (fault1 (by rw [k1]; decide) (by rw [k2]; decide))
  · unfold mX2_takeNumber mX6_told mX2_takeNumber_b45
    rw [if_pos rfl, e, b4_some, if_pos k1, if_pos k2, k3, k4, isIn_ite, b1_some]
    by_cases c1 : nI v < lo
    · rw [if_pos c1, if_pos c1, if_pos rfl, bad_n (show ¬ srt = 1 by rw [k2]; decide), b3_some]
      exact Or.inr ⟨2, _, _, _, _, by decide, rfl, rfl⟩
    · rw [if_neg c1, if_neg c1]
      by_cases c2 : hi < nI v
      · rw [if_neg (Int32.not_le.mpr c2), if_pos c2, if_pos rfl, bad_n (show ¬ srt = 1 by rw [k2]; decide), b3_some]
        exact Or.inr ⟨2, _, _, _, _, by decide, rfl, rfl⟩
      · obtain ⟨too', frm', srt', num', wrd', g1, g2⟩ := lex h k6 frm srt (nI v) wrd
        rw [if_pos (Int32.not_lt.mp c2), if_neg c2, if_neg n10, inr_nI ha (by decide), ck_true, k8, g1, b5_some, nI_clamp (by omega), k7]
        exact Or.inl ⟨q, v, _, _, _, _, _, _, _, k6, k5, c1, Int32.not_lt.mp c2, rfl, rfl, g2⟩
  · exact Or.inr (fault1 (by rw [k1]; decide) (by rw [k2]; decide))
theorem sem_sim (h : TB u tf tp) (hT : TK u tf tp p too frm srt num wrd) (kd bg vl flt plc : Int32) :
    (∃ q kd' vl' too' frm' srt' num' wrd', q ≤ u ∧ mX2_takeSemicolon kd bg (nI p) vl 0 (nI u) tf = some (1, kd', frm, nI q, vl', 0) ∧ mX6_readEnd (nI u) too frm srt num flt plc wrd tp = some (1, too', frm', srt', num', flt, plc, wrd') ∧ TK u tf tp q too' frm' srt' num' wrd')
    ∨ (∃ kd' pt' vl', mX2_takeSemicolon kd bg (nI p) vl 0 (nI u) tf = some (0, kd', frm, pt', vl', 1) ∧ mX6_readEnd (nI u) too frm srt num flt plc wrd tp = some (0, too, frm, srt, num, 1, frm, wrd)) := by
  obtain ⟨kd', pt, vl', e, hk⟩ := hT kd bg vl
  have fault1 : ¬ kd' = 3 → ¬ srt = 4 → (∃ kd' pt' vl', mX2_takeSemicolon kd bg (nI p) vl 0 (nI u) tf = some (0, kd', frm, pt', vl', 1) ∧ mX6_readEnd (nI u) too frm srt num flt plc wrd tp = some (0, too, frm, srt, num, 1, frm, wrd)) := fun k1 k2 => by
    unfold mX2_takeSemicolon mX6_readEnd mX2_takeSemicolon_b26
    rw [if_pos rfl, e, b4_some, if_neg k1, if_neg k2, if_neg n10, bad_1 (Or.inr rfl), b3_some]
    exact ⟨_, _, _, rfl, rfl⟩
  rcases hk with ⟨k1, k2⟩ | ⟨k1, k2⟩ | ⟨k1, k2, q, k6, k7, k8⟩ | ⟨k1, k2, -⟩ | ⟨k1, k2, -⟩
  · exact Or.inr (fault1 (by rw [k1]; decide) (by rw [k2]; decide))
  · exact Or.inr (fault1 (by rw [k1]; decide) (by rw [k2]; decide))
  · obtain ⟨too', frm', srt', num', wrd', g1, g2⟩ := lex h k6 frm srt num wrd
    unfold mX2_takeSemicolon mX6_readEnd mX2_takeSemicolon_b26
    rw [if_pos rfl, e, b4_some, if_pos k1, if_pos rfl, if_pos k2, k8, g1, b5_some, k7]
    exact Or.inl ⟨q, _, _, _, _, _, _, _, k6, rfl, rfl, g2⟩
  · exact Or.inr (fault1 (by rw [k1]; decide) (by rw [k2]; decide))
  · exact Or.inr (fault1 (by rw [k1]; decide) (by rw [k2]; decide))
end Parse
/-- what has been read, on both sides -/
def PS (ns nd ni : Nat) (sf df jf qf rd : Nat → Int32) : Prop := RR (rd 1) 0 sf df jf qf rd ns nd ni 0 0 0 ∧ (∀ x, 25 + 30 * nd ≤ x → x < 205 → rd x = 0) ∧ ∀ x, 205 + 7 * ni ≤ x → x < 625 → rd x = 0
section PSs
variable {ns nd ni : Nat} {sf df jf qf rd : Nat → Int32}
theorem PS.step {a b c : Int32} (h : PS ns nd ni sf df jf qf rd) (hn : ns < 6) : PS (ns + 1) nd ni (upd (upd (upd (zrow sf (ns * 3) 3) (ns * 3 + 0) a) (ns * 3 + 1) b) (ns * 3 + 2) c) df jf qf (upd (upd (upd (upd rd (7 + 3 * ns + 0) a) (7 + 3 * ns + 1) b) (7 + 3 * ns + 2) c) 2 (nI (ns + 1))) := by
  obtain ⟨h0, z1, z2⟩ := h
  obtain ⟨h1, h2, h3, h4, h5⟩ := h0
  obtain ⟨q0, q1, q2, q3, q4, q5, q6, b1, b2, b3, b4, b5⟩ := h1
  generalize hN : (upd (upd (upd (upd rd (7 + 3 * ns + 0) a) (7 + 3 * ns + 1) b) (7 + 3 * ns + 2) c) 2 (nI (ns + 1))) = N
  generalize hJ : (upd (upd (upd (zrow sf (ns * 3) 3) (ns * 3 + 0) a) (ns * 3 + 1) b) (ns * 3 + 2) c) = J
  have off : ∀ j, j ≠ 2 → (j < 7 + 3 * ns ∨ 7 + 3 * ns + 3 ≤ j) → N j = rd j := fun j z w => by
    rw [← hN, upd_n z, upd_n (by omega), upd_n (by omega), upd_n (by omega)]
  have joff : ∀ j, j < ns * 3 → J j = sf j := fun j w => by
    rw [← hJ, upd_n (by omega), upd_n (by omega), upd_n (by omega), zrow_at, if_neg (by omega)]
  have r2 : N (7 + 3 * ns + 2) = c := by rw [← hN, upd_n (by omega), upd_s]
  have r1 : N (7 + 3 * ns + 1) = b := by rw [← hN, upd_n (by omega), upd_n (by omega), upd_s]
  have r0 : N (7 + 3 * ns + 0) = a := by rw [← hN, upd_n (by omega), upd_n (by omega), upd_n (by omega), upd_s]
  have j2 : J (ns * 3 + 2) = c := by rw [← hJ, upd_s]
  have j1 : J (ns * 3 + 1) = b := by rw [← hJ, upd_n (by omega), upd_s]
  have j0 : J (ns * 3 + 0) = a := by rw [← hJ, upd_n (by omega), upd_n (by omega), upd_s]
  refine ⟨⟨⟨by rw [off 0 (by omega) (by omega)]; exact q0, rfl, by rw [← hN, upd_s], by rw [off 3 (by omega) (by omega)]; exact q3, by rw [off 4 (by omega) (by omega)]; exact q4, by rw [off 5 (by omega) (by omega)]; exact q5, by rw [off 6 (by omega) (by omega)]; exact q6, by omega, b2, b3, b4, b5⟩, fun i hi k hk => ?_, fun i hi => ?_, rJ_congr b3 h4 (fun j _ _ => off j (by omega) (by omega)), rQ_congr b4 h5 (fun j _ _ => off j (by omega) (by omega))⟩, fun x x1 x2 => by rw [off x (by omega) (by omega)]; exact z1 x x1 x2, fun x x1 x2 => by rw [off x (by omega) (by omega)]; exact z2 x x1 x2⟩
  · by_cases z : i = ns
    · subst z
      match k, hk with
      | 0, _ => rw [j0, r0]
      | 1, _ => rw [j1, r1]
      | 2, _ => rw [j2, r2]
      | k + 3, hk => omega
    · rw [joff _ (by omega), off _ (by omega) (by omega)]; exact h2 i (by omega) k hk
  · have g := rD1_congr (df' := df) (nw' := N) (h3 i hi) (fun _ _ => rfl) (fun j hj => off _ (by omega) (by omega))
    obtain ⟨a0, a1, a2, a3, a4, a5, a6, a7, ⟨st, a8, a8'⟩, a9⟩ := g
    exact ⟨a0, a1, a2, a3, a4, a5, a6, a7, ⟨st, by omega, a8'⟩, a9⟩
theorem PS.hold {v : Int32} (h : PS ns nd ni sf df jf qf rd) : PS ns nd ni sf df jf qf (upd rd 1 v) := by
  obtain ⟨h0, z1, z2⟩ := h
  have e : ∀ j, j ≠ 1 → upd rd 1 v j = rd j := fun j z => upd_n z
  obtain ⟨h1, h2, h3, h4, h5⟩ := h0
  obtain ⟨q0, q1, q2, q3, q4, q5, q6, b1, b2, b3, b4, b5⟩ := h1
  exact ⟨⟨⟨by rw [e 0 (by decide)]; exact q0, rfl, by rw [e 2 (by decide)]; exact q2, by rw [e 3 (by decide)]; exact q3, by rw [e 4 (by decide)]; exact q4, by rw [e 5 (by decide)]; exact q5, by rw [e 6 (by decide)]; exact q6, b1, b2, b3, b4, b5⟩, rS_congr b1 h2 (fun j _ _ => e j (by omega)), rD_congr b2 h3 (fun j _ _ => e j (by omega)), rJ_congr b3 h4 (fun j _ _ => e j (by omega)), rQ_congr b4 h5 (fun j _ _ => e j (by omega))⟩, fun x x1 x2 => by rw [e x (by omega)]; exact z1 x x1 x2, fun x x1 x2 => by rw [e x (by omega)]; exact z2 x x1 x2⟩
theorem PS.debtor {a b : Int32} (h : PS ns nd ni sf df jf qf rd) (hn : nd < 6) : PS ns (nd + 1) ni sf (upd (upd (zrow df (nd * 13) 13) (nd * 13 + 0) a) (nd * 13 + 1) b) jf qf (upd (upd (upd rd (25 + 30 * nd + 0) a) (25 + 30 * nd + 1) b) 3 (nI (nd + 1))) := by
  obtain ⟨h0, z1, z2⟩ := h
  obtain ⟨h1, h2, h3, h4, h5⟩ := h0
  obtain ⟨q0, q1, q2, q3, q4, q5, q6, b1, b2, b3, b4, b5⟩ := h1
  generalize hN : (upd (upd (upd rd (25 + 30 * nd + 0) a) (25 + 30 * nd + 1) b) 3 (nI (nd + 1))) = N
  generalize hJ : (upd (upd (zrow df (nd * 13) 13) (nd * 13 + 0) a) (nd * 13 + 1) b) = J
  have off : ∀ j, j ≠ 3 → j ≠ 25 + 30 * nd + 0 → j ≠ 25 + 30 * nd + 1 → N j = rd j := fun j z w w2 => by
    rw [← hN, upd_n z, upd_n w2, upd_n w]
  have joff : ∀ j, j < nd * 13 → J j = df j := fun j w => by
    rw [← hJ, upd_n (by omega), upd_n (by omega), zrow_at, if_neg (by omega)]
  have jz : ∀ j, 2 ≤ j → j < 13 → J (nd * 13 + j) = 0 := fun j w w2 => by
    rw [← hJ, upd_n (by omega), upd_n (by omega), zrow_at, if_pos (by omega)]
  have rz : ∀ j, 2 ≤ j → j < 30 → N (25 + 30 * nd + j) = 0 := fun j w w2 => by
    rw [off _ (by omega) (by omega) (by omega)]; exact z1 _ (by omega) (by omega)
  have r1 : N (25 + 30 * nd + 1) = b := by rw [← hN, upd_n (by omega), upd_s]
  have r0 : N (25 + 30 * nd + 0) = a := by rw [← hN, upd_n (by omega), upd_n (by omega), upd_s]
  have j1 : J (nd * 13 + 1) = b := by rw [← hJ, upd_s]
  have j0 : J (nd * 13 + 0) = a := by rw [← hJ, upd_n (by omega), upd_s]
  refine ⟨⟨⟨by rw [off 0 (by omega) (by omega) (by omega)]; exact q0, rfl, by rw [off 2 (by omega) (by omega) (by omega)]; exact q2, by rw [← hN, upd_s], by rw [off 4 (by omega) (by omega) (by omega)]; exact q4, by rw [off 5 (by omega) (by omega) (by omega)]; exact q5, by rw [off 6 (by omega) (by omega) (by omega)]; exact q6, b1, by omega, b3, b4, b5⟩, rS_congr b1 h2 (fun j _ _ => off j (by omega) (by omega) (by omega)), fun i hi => ?_, fun i hi => ?_, fun i hi => by omega⟩, fun x x1 x2 => by rw [off x (by omega) (by omega) (by omega)]; exact z1 x (by omega) x2, fun x x1 x2 => by rw [off x (by omega) (by omega) (by omega)]; exact z2 x x1 x2⟩
  · by_cases z : i = nd
    · subst z
      refine ⟨by rw [j0, r0], by rw [j1, r1], ?_, ?_, ?_, ?_, ?_, ?_, ⟨0, Nat.zero_le _, rz 3 (by decide) (by decide)⟩, by rw [rz 5 (by decide) (by decide)]; exact Int32.le_refl 0, Or.inl (rz 5 (by decide) (by decide)), fun w => absurd (rz 5 (by decide) (by decide)) w, 0, by decide, rz 9 (by decide) (by decide), fun w => absurd rfl w⟩
      · rw [jz 2 (by decide) (by decide), rz 2 (by decide) (by decide)]
      · rw [jz 3 (by decide) (by decide), rz 3 (by decide) (by decide)]
      · rw [jz 4 (by decide) (by decide), rz 4 (by decide) (by decide)]
      · rw [jz 5 (by decide) (by decide), rz 8 (by decide) (by decide)]
      · rw [jz 6 (by decide) (by decide), rz 5 (by decide) (by decide)]
      · rw [jz 8 (by decide) (by decide), rz 9 (by decide) (by decide)]
    · exact rD1_congr (h3 i (by omega)) (fun j hj => joff _ (by omega)) (fun j hj => off _ (by omega) (by omega) (by omega))
  · obtain ⟨g1, ⟨d, g2, g2'⟩, g3⟩ := rJ_congr (nw' := N) b3 h4 (fun j _ _ => off j (by omega) (by omega) (by omega)) i hi
    exact ⟨g1, ⟨d, by omega, g2'⟩, g3⟩
theorem PS.invoice {d : Nat} {b c : Int32} (h : PS ns nd ni sf df jf qf rd) (hn : ni < 60) (hd : d < nd) (hb : 0 ≤ b) : PS ns nd (ni + 1) sf df (upd (upd (upd (upd (upd (zrow jf (ni * 7) 7) (ni * 7 + 0) (nI d)) (ni * 7 + 1) b) (ni * 7 + 2) b) (ni * 7 + 3) c) (ni * 7 + 6) 0) qf (upd (upd (upd (upd (upd rd (205 + 7 * ni + 0) (nI d)) (205 + 7 * ni + 1) b) (205 + 7 * ni + 3) c) (205 + 7 * ni + 2) b) 4 (nI (ni + 1))) := by
  obtain ⟨h0, z1, z2⟩ := h
  have hm := h0.more hd hn (b := b) (c := c) (e := 0) hb
  have ld := h0.ld
  have e1 : (upd (upd (upd (upd (upd rd (205 + 7 * ni + 0) (nI d)) (205 + 7 * ni + 1) b) (205 + 7 * ni + 3) c) (205 + 7 * ni + 2) b) 4 (nI (ni + 1))) 1 = rd 1 := by
    rw [upd_n (by omega), upd_n (by omega), upd_n (by omega), upd_n (by omega), upd_n (by omega)]
  refine ⟨?_, fun x x1 x2 => ?_, fun x x1 x2 => ?_⟩
  · rw [e1]
    refine hm.congrR (fun j hj => ?_)
    unfold upd
    by_cases c4 : j = 4
    · rw [if_pos c4, if_pos c4]
    · rw [if_neg c4, if_neg c4]
      by_cases k0 : j = 205 + 7 * ni + 0
      · simp [k0]
      · by_cases k1 : j = 205 + 7 * ni + 1
        · simp [k1]
        · by_cases k2 : j = 205 + 7 * ni + 2
          · simp [k2]
          · by_cases k3 : j = 205 + 7 * ni + 3
            · simp [k3]
            · rw [if_neg k2, if_neg k3, if_neg k1, if_neg k0, if_neg k3, if_neg k2]
              by_cases k6 : j = 205 + 7 * ni + 6
              · rw [if_pos k6, k6]; exact z2 _ (by omega) (by omega)
              · rw [if_neg k6]
                by_cases k5 : j = 205 + 7 * ni + 5
                · rw [if_pos k5, k5]; exact z2 _ (by omega) (by omega)
                · rw [if_neg k5]
                  by_cases k4 : j = 205 + 7 * ni + 4
                  · rw [if_pos k4, k4]; exact z2 _ (by omega) (by omega)
                  · rw [if_neg k4]
  · rw [upd_n (by omega), upd_n (by omega), upd_n (by omega), upd_n (by omega), upd_n (by omega)]; exact z1 x x1 x2
  · rw [upd_n (by omega), upd_n (by omega), upd_n (by omega), upd_n (by omega), upd_n (by omega)]; exact z2 x (by omega) x2
end PSs
