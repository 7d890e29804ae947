/-! PURE: copies, and what is kept for undo -/
section Copy
variable {ho pd : Int32} {sf df jf qf nw sf' df' jf' qf' nw' : Nat → Int32} {ns nd ni no t g : Nat}
theorem cpy_in {w n r2 : Nat} {r : Int32} {f f2 : Nat → Int32} (h : r2 * w ≤ n) (hb : n < 2 ^ 31) : mX3_copyFrom (nI w) n r f n (nI r2) f2 = some (nI r2, va_cpy f2 f 0 0 (r2 * w)) := by
  unfold mX3_copyFrom
  have e0 : mnI (Int32.ofNat n) (Int32.ofNat n) = nI n := if_neg (fun z => Int32.lt_irrefl z)
  have e1 : mnI (nI r2 * nI w) (nI n) = nI (r2 * w) := by
    rw [pk_mul]; exact if_neg (nI_nlt h hb)
  have e2 : mxI 0 (nI (r2 * w)) = nI (r2 * w) := by
    by_cases z : (0 : Int32) < nI (r2 * w)
    · exact if_pos z
    · rw [show mxI 0 (nI (r2 * w)) = 0 from if_neg z]
      exact Int32.le_antisymm (nI_pos' (by omega)) (Int32.not_lt.mp z)
  have e3 : mxI 0 (mnI (nI r2 * nI w) (mnI (Int32.ofNat n) (Int32.ofNat n))) = nI (r2 * w) := by rw [e0, e1, e2]
  rw [e3, nI_clamp (by omega), decide_eq_true (nI_pos' (show r2 * w < 2 ^ 31 by omega)), decide_eq_true h]
  rfl
theorem RR.congrC (h : RR ho pd sf df jf qf nw ns nd ni no t g) (e1 : ∀ j, j < ns * 3 → sf' j = sf j) (e2 : ∀ j, j < nd * 13 → df' j = df j) (e3 : ∀ j, j < ni * 7 → jf' j = jf j) (e4 : ∀ j, j < no * 4 → qf' j = qf j) : RR ho pd sf' df' jf' qf' nw ns nd ni no t g := by
  obtain ⟨h1, h2, h3, h4, h5⟩ := h
  refine ⟨h1, fun i hi k hk => ?_, fun i hi => ?_, fun i hi => ?_, fun i hi => ?_⟩
  · rw [e1 _ (by omega)]; exact h2 i hi k hk
  · exact rD1_congr (h3 i hi) (fun j hj => e2 _ (by omega)) (fun _ _ => rfl)
  · obtain ⟨a1, a2⟩ := h4 i hi
    exact ⟨fun k hk => by rw [e3 _ (by omega)]; exact a1 k hk, a2⟩
  · obtain ⟨a1, a2⟩ := h5 i hi
    exact ⟨fun k hk => by rw [e4 _ (by omega)]; exact a1 k hk, a2⟩
theorem RR.congrR (h : RR ho pd sf df jf qf nw ns nd ni no t g) (e : ∀ j, j < 785 → nw' j = nw j) : RR ho pd sf df jf qf nw' ns nd ni no t g := by
  obtain ⟨h1, h2, h3, h4, h5⟩ := h
  obtain ⟨b1, b2, b3, b4⟩ := h1.2.2.2.2.2.2.2
  exact ⟨rH_congr h1 (fun j hj => e j (by omega)), rS_congr b1 h2 (fun j _ _ => e j (by omega)), rD_congr b2 h3 (fun j _ _ => e j (by omega)), rJ_congr b3 h4 (fun j _ _ => e j (by omega)), rQ_congr b4.1 h5 (fun j _ _ => e j (by omega))⟩
theorem RR.copy (h : RR ho pd sf df jf qf nw ns nd ni no t g) {oho otd opd osr odr oir oqr td : Int32} {osf odf ojf oqf : Nat → Int32} : ∃ sf' df' jf' qf', mX0_copyFrom oho otd opd osr odr oir oqr osf odf ojf oqf ho td pd (nI ns) (nI nd) (nI ni) (nI no) sf df jf qf = some (ho, td, pd, nI ns, nI nd, nI ni, nI no, sf', df', jf', qf') ∧ RR ho pd sf' df' jf' qf' nw ns nd ni no t g := by
  have ls := h.ls
  have ld := h.ld
  have li := h.li
  have lo := h.lo
  refine ⟨va_cpy sf osf 0 0 (ns * 3), va_cpy df odf 0 0 (nd * 13), va_cpy jf ojf 0 0 (ni * 7), va_cpy qf oqf 0 0 (no * 4), ?_, h.congrC (fun j hj => ?_) (fun j hj => ?_) (fun j hj => ?_) (fun j hj => ?_)⟩
  · unfold mX0_copyFrom
    have e1 := cpy_in (w := 3) (n := 18) (r2 := ns) (r := osr) (f := osf) (f2 := sf) (by omega) (by decide)
    have e2 := cpy_in (w := 13) (n := 78) (r2 := nd) (r := odr) (f := odf) (f2 := df) (by omega) (by decide)
    have e3 := cpy_in (w := 7) (n := 420) (r2 := ni) (r := oir) (f := ojf) (f2 := jf) (by omega) (by decide)
    have e4 := cpy_in (w := 4) (n := 160) (r2 := no) (r := oqr) (f := oqf) (f2 := qf) (by omega) (by decide)
    rw [show mX3_copyFrom 3 18 osr osf 18 (nI ns) sf = _ from e1, b2_some, show mX3_copyFrom 13 78 odr odf 78 (nI nd) df = _ from e2, b2_some, show mX3_copyFrom 7 420 oir ojf 420 (nI ni) jf = _ from e3, b2_some, show mX3_copyFrom 4 160 oqr oqf 160 (nI no) qf = _ from e4, b2_some]
  · rw [pk_cpy_in (Nat.zero_le _) (by omega), Nat.zero_add, Nat.sub_zero]
  · rw [pk_cpy_in (Nat.zero_le _) (by omega), Nat.zero_add, Nat.sub_zero]
  · rw [pk_cpy_in (Nat.zero_le _) (by omega), Nat.zero_add, Nat.sub_zero]
  · rw [pk_cpy_in (Nat.zero_le _) (by omega), Nat.zero_add, Nat.sub_zero]
end Copy
section Keep
variable {nw : Nat → Int32}
theorem lim785 {i : Nat} (h : i < 785) : ¬ (785 : Int32) ≤ nI i := nI_ge (b := 785) h (by decide)
theorem lim785' : (785 : Int32) ≤ nI 785 := Int32.le_refl _
theorem keeps_L : ∀ (k i : Nat) (kp : Nat → Int32), 785 < k + i → i ≤ 785 → (∀ j, j < i → kp j = nw j) → ∃ kp', mX6_keeps_L2 k nw (nI i) kp = some kp' ∧ ∀ j, j < 785 → kp' j = nw j := by
  intro k
  induction k with
  | zero => intro i kp h1 h2; omega
  | succ k ih =>
    intro i kp h1 h2 h3
    rw [mX6_keeps_L2.eq_2]
    by_cases e : i = 785
    · subst e
      rw [if_pos lim785']; exact ⟨kp, rfl, h3⟩
    · have hi : i < 785 := by omega
      rw [if_neg (lim785 hi), inr_nI hi (by decide), ck_true, ck_true, nI_clamp (by omega), nI_1]
      refine ih (i + 1) _ (by omega) (by omega) (fun j hj => ?_)
      by_cases q : j = i
      · rw [q, upd_s]
      · rw [upd_n q]; exact h3 j (by omega)
theorem keeps_ok (nw kp : Nat → Int32) : ∃ kp', mX6_keeps nw kp = some kp' ∧ ∀ j, j < 785 → kp' j = nw j := keeps_L FU 0 kp (by unfold FU; omega) (by omega) (fun j h => by omega)
theorem back_L {kp : Nat → Int32} : ∀ (k i : Nat) (nw : Nat → Int32), 785 < k + i → i ≤ 785 → (∀ j, j < i → nw j = kp j) → ∃ nw', mX6_back_L2 k kp (nI i) nw = some nw' ∧ ∀ j, j < 785 → nw' j = kp j := by
  intro k
  induction k with
  | zero => intro i kp h1 h2; omega
  | succ k ih =>
    intro i nw h1 h2 h3
    rw [mX6_back_L2.eq_2]
    by_cases e : i = 785
    · subst e
      rw [if_pos lim785']; exact ⟨nw, rfl, h3⟩
    · have hi : i < 785 := by omega
      rw [if_neg (lim785 hi), inr_nI hi (by decide), ck_true, ck_true, nI_clamp (by omega), nI_1]
      refine ih (i + 1) _ (by omega) (by omega) (fun j hj => ?_)
      by_cases q : j = i
      · rw [q, upd_s]
      · rw [upd_n q]; exact h3 j (by omega)
theorem back_ok (nw kp : Nat → Int32) : ∃ nw', mX6_back nw kp = some nw' ∧ ∀ j, j < 785 → nw' j = kp j := back_L FU 0 nw (by unfold FU; omega) (by omega) (fun j h => by omega)
theorem pos785 {m i : Nat} : (785 * nI m + nI i : Int32) = nI (785 * m + i) := by
  rw [show (785 : Int32) * nI m = nI (785 * m) from pk_mul 785 m, nI_add]
theorem snap_L {m : Nat} (hm : m < 10) {sn0 : Nat → Int32} : ∀ (k i : Nat) (sn : Nat → Int32), 785 < k + i → i ≤ 785 → (∀ j, j < i → sn (785 * m + j) = nw j) → (∀ j, j < 785 * m → sn j = sn0 j) → ∃ sn', mX6_snap_L52 k nw (nI i) (nI m) sn = some (nI (m + 1), sn') ∧ (∀ j, j < 785 → sn' (785 * m + j) = nw j) ∧ ∀ j, j < 785 * m → sn' j = sn0 j := by
  intro k
  induction k with
  | zero => intro i sn h1 h2; omega
  | succ k ih =>
    intro i sn h1 h2 h3 h4
    rw [mX6_snap_L52.eq_2]
    by_cases e : i = 785
    · subst e
      rw [if_pos lim785', nI_1]; exact ⟨sn, rfl, h3, h4⟩
    · have hi : i < 785 := by omega
      rw [if_neg (lim785 hi), inr_nI hi (by decide), ck_true, pos785, inr_nI (show 785 * m + i < 7850 by omega) (by decide), ck_true, nI_clamp (show 785 * m + i < 2 ^ 31 by omega), nI_clamp (show i < 2 ^ 31 by omega), nI_1]
      refine ih (i + 1) _ (by omega) (by omega) (fun j hj => ?_) (fun j hj => ?_)
      · by_cases q : j = i
        · rw [q, upd_s]
        · rw [upd_n (by omega)]; exact h3 j (by omega)
      · rw [upd_n (by omega)]; exact h4 j hj
theorem shift_L {sn0 : Nat → Int32} : ∀ (k i : Nat) (sn : Nat → Int32), 7065 < k + i → i ≤ 7065 → (∀ j, j < i → sn j = sn0 (j + 785)) → (∀ j, i ≤ j → sn j = sn0 j) → ∃ sn', mX6_snap_L11 k nw (nI i) (nI 10) sn = mX6_snap_L52 FU nw 0 (nI 9) sn' ∧ ∀ j, j < 7065 → sn' j = sn0 (j + 785) := by
  intro k
  induction k with
  | zero => intro i sn h1 h2; omega
  | succ k ih =>
    intro i sn h1 h2 h3 h4
    rw [mX6_snap_L11.eq_2]
    by_cases e : i = 7065
    · subst e
      rw [if_pos (show (7065 : Int32) ≤ nI 7065 from Int32.le_refl _), show nI 10 - 1 = nI 9 from nI_pred 9]; exact ⟨sn, rfl, h3⟩
    · have hi : i < 7065 := by omega
      rw [if_neg (show ¬ (7065 : Int32) ≤ nI i from nI_ge (b := 7065) hi (by decide)), show nI i + 785 = nI (i + 785) from nI_add i 785, inr_nI (show i + 785 < 7850 by omega) (by decide), ck_true, inr_nI (show i < 7850 by omega) (by decide), ck_true, nI_clamp (show i + 785 < 2 ^ 31 by omega), nI_clamp (show i < 2 ^ 31 by omega), nI_1, h4 (i + 785) (by omega)]
      refine ih (i + 1) _ (by omega) (by omega) (fun j hj => ?_) (fun j hj => ?_)
      · by_cases q : j = i
        · rw [q, upd_s]
        · rw [upd_n q]; exact h3 j (by omega)
      · rw [upd_n (by omega)]; exact h4 j (by omega)
theorem snap_ok {m : Nat} (hm : m ≤ 10) (sn : Nat → Int32) : ∃ m' sn', mX6_snap (nI m) nw sn = some (nI m', sn') ∧ m' = (if m = 10 then 10 else m + 1) ∧ (∀ j, j < 785 → sn' (785 * (m' - 1) + j) = nw j) ∧ ∀ i j, i + 1 < m' → j < 785 → sn' (785 * (m' - 1 - (i + 1)) + j) = sn (785 * (m - 1 - i) + j) := by
  unfold mX6_snap
  by_cases e : m = 10
  · subst e
    rw [if_pos (show nI 10 = 10 from rfl)]
    obtain ⟨sn1, e1, e2⟩ := shift_L (nw := nw) (sn0 := sn) FU 0 sn (by unfold FU; omega) (by omega) (fun j h => by omega) (fun j _ => rfl)
    obtain ⟨sn2, e3, e4, e5⟩ := snap_L (nw := nw) (m := 9) (by decide) (sn0 := sn1) FU 0 sn1 (by unfold FU; omega) (by omega) (fun j h => by omega) (fun j _ => rfl)
    rw [nI_0] at e1 e3
    refine ⟨10, sn2, by rw [e1, e3], by rw [if_pos rfl], e4, fun i j hi hj => ?_⟩
    rw [e5 _ (by omega), e2 _ (by omega)]
    exact congrArg sn (by omega)
  · rw [if_neg (show ¬ nI m = 10 from fun z => e ((nI_eq (b := 10) (by omega) (by decide)).mp z))]
    obtain ⟨sn2, e3, e4, e5⟩ := snap_L (nw := nw) (m := m) (by omega) (sn0 := sn) FU 0 sn (by unfold FU; omega) (by omega) (fun j h => by omega) (fun j _ => rfl)
    rw [nI_0] at e3
    refine ⟨m + 1, sn2, e3, by rw [if_neg e], fun j hj => by rw [show m + 1 - 1 = m by omega]; exact e4 j hj, fun i j hi hj => ?_⟩
    rw [e5 _ (by omega)]
    exact congrArg sn (by omega)
theorem undo_L {m : Nat} (hm : m < 10) {sn : Nat → Int32} {thr : Int32} : ∀ (k i : Nat) (nw : Nat → Int32), 785 < k + i → i ≤ 785 → (∀ j, j < i → nw j = sn (785 * m + j)) → ∃ nw', mX6_undo_L26 k sn (nI i) thr (nI m) nw = some (nI m, thr, nI m, nw') ∧ ∀ j, j < 785 → nw' j = sn (785 * m + j) := by
  intro k
  induction k with
  | zero => intro i sn h1 h2; omega
  | succ k ih =>
    intro i nw h1 h2 h3
    rw [mX6_undo_L26.eq_2]
    by_cases e : i = 785
    · subst e
      rw [if_pos lim785']; exact ⟨nw, rfl, h3⟩
    · have hi : i < 785 := by omega
      rw [if_neg (lim785 hi), pos785, inr_nI (show 785 * m + i < 7850 by omega) (by decide), ck_true, inr_nI hi (by decide), ck_true, nI_clamp (show 785 * m + i < 2 ^ 31 by omega), nI_clamp (show i < 2 ^ 31 by omega), nI_1]
      refine ih (i + 1) _ (by omega) (by omega) (fun j hj => ?_)
      by_cases q : j = i
      · rw [q, upd_s]
      · rw [upd_n q]; exact h3 j (by omega)
end Keep
/-- a kept book against a row -/
def BR (b : BV) (nw : Nat → Int32) : Prop := ∃ ns nd ni no t : Nat, t ≤ 999 ∧ b.2.1 = nI t ∧ b.2.2.2.1 = nI ns ∧ b.2.2.2.2.1 = nI nd ∧ b.2.2.2.2.2.1 = nI ni ∧ b.2.2.2.2.2.2.1 = nI no ∧ RR b.1 b.2.2.1 b.2.2.2.2.2.2.2.1 b.2.2.2.2.2.2.2.2.1 b.2.2.2.2.2.2.2.2.2.1 b.2.2.2.2.2.2.2.2.2.2 nw ns nd ni no t t
def HI (ct tpp : Int32) (kv : Nat → BV) (snm : Int32) (sn : Nat → Int32) : Prop := ∃ m τ : Nat, m ≤ 10 ∧ τ < 10 ∧ ct = nI m ∧ snm = nI m ∧ tpp = nI τ ∧ ∀ j, j < m → BR (kv ((τ + 9 - j) % 10)) (fun x => sn (785 * (m - 1 - j) + x))
section Hist
variable {ho pd : Int32} {sf df jf qf nw : Nat → Int32} {ns nd ni no t : Nat} {ct tpp snm : Int32} {kv : Nat → BV} {sn : Nat → Int32}
theorem HI.keep (h : HI ct tpp kv snm sn) (hr : RR ho pd sf df jf qf nw ns nd ni no t t) (ht : t ≤ 999) : ∃ ct' tpp' kv' snm' sn', mX1_keep ct tpp ho (nI t) pd (nI ns) (nI nd) (nI ni) (nI no) sf df jf qf kv = some (ct', tpp', kv') ∧ mX6_snap snm nw sn = some (snm', sn') ∧ HI ct' tpp' kv' snm' sn' := by
  obtain ⟨m, τ, hm, hτ, rfl, rfl, rfl, hk⟩ := h
  obtain ⟨m', sn', s1, s2, s3, s4⟩ := snap_ok (nw := nw) hm sn
  unfold mX1_keep
  rw [if_neg (nI_pos (by omega)), if_neg (show ¬ (10 : Int32) ≤ nI τ from nI_ge (b := 10) hτ (by decide)), inr_nI hτ (by decide), ck_true, ck_true, nI_clamp (show τ < 2 ^ 31 by omega)]
  obtain ⟨sf', df', jf', qf', c1, c2⟩ := hr.copy (td := nI t) (oho := (kv τ).1) (otd := (kv τ).2.1) (opd := (kv τ).2.2.1) (osr := (kv τ).2.2.2.1) (odr := (kv τ).2.2.2.2.1) (oir := (kv τ).2.2.2.2.2.1) (oqr := (kv τ).2.2.2.2.2.2.1) (osf := (kv τ).2.2.2.2.2.2.2.1) (odf := (kv τ).2.2.2.2.2.2.2.2.1) (ojf := (kv τ).2.2.2.2.2.2.2.2.2.1) (oqf := (kv τ).2.2.2.2.2.2.2.2.2.2)
  rw [c1]
  have em : mnI (nI m + 1) 10 = nI m' := by
    rw [nI_1, s2]
    by_cases z : m = 10
    · rw [if_pos z, z]; exact if_pos (show (10 : Int32) < nI 11 by decide)
    · rw [if_neg z]; exact if_neg (show ¬ (10 : Int32) < nI (m + 1) from nI_nlt (a := 10) (b := m + 1) (by omega) (by decide))
  have m0 : 0 < m' := by rw [s2]; split <;> omega
  have m1 : m' ≤ 10 := by rw [s2]; split <;> omega
  have m2 : m' ≤ m + 1 := by rw [s2]; split <;> omega
  have hh : ∀ τ' : Nat, τ' = (τ + 1) % 10 → HI (nI m') (nI τ') (va_up kv τ (ho, nI t, pd, nI ns, nI nd, nI ni, nI no, sf', df', jf', qf')) (nI m') sn' := fun τ' hτ' => by
    refine ⟨m', τ', m1, by omega, rfl, rfl, rfl, fun j hj => ?_⟩
    match j, hj with
    | 0, hj =>
      rw [show (τ' + 9 - 0) % 10 = τ by omega]
      show BR (if τ = τ then _ else _) _
      rw [if_pos rfl]
      exact ⟨ns, nd, ni, no, t, ht, rfl, rfl, rfl, rfl, rfl, c2.congrR (fun x hx => s3 x hx)⟩
    | j + 1, hj =>
      rw [show (τ' + 9 - (j + 1)) % 10 = (τ + 9 - j) % 10 by omega]
      show BR (if (τ + 9 - j) % 10 = τ then _ else _) _
      rw [if_neg (by omega)]
      obtain ⟨ns, nd, ni, no, t, q0, q1, q2, q3, q4, q5, q6⟩ := hk j (by omega)
      exact ⟨ns, nd, ni, no, t, q0, q1, q2, q3, q4, q5, q6.congrR (fun x hx => s4 j x hj hx)⟩
  show ∃ ct' tpp' kv' snm' sn', (if (10 : Int32) ≤ (nI τ + 1) then _ else _) = _ ∧ _
  unfold mX1_keep_b70
  rw [em, nI_1]
  by_cases z : τ = 9
  · rw [if_pos (show (10 : Int32) ≤ nI (τ + 1) by rw [z]; decide)]
    exact ⟨_, _, _, _, _, rfl, s1, hh 0 (by omega)⟩
  · rw [if_neg (show ¬ (10 : Int32) ≤ nI (τ + 1) from nI_ge (b := 10) (by omega) (by decide))]
    exact ⟨_, _, _, _, _, rfl, s1, hh (τ + 1) (by omega)⟩
end Hist
