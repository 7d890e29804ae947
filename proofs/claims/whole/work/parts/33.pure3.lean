/-! PURE: both sides read the same -/
section Reads
variable {ho pd : Int32} {sf df jf qf nw : Nat → Int32} {ns nd ni no t g : Nat}
theorem RR.h4 (h : RR ho pd sf df jf qf nw ns nd ni no t g) : nw 4 = nI ni := h.1.2.2.2.2.1
theorem RR.h3 (h : RR ho pd sf df jf qf nw ns nd ni no t g) : nw 3 = nI nd := h.1.2.2.2.1
theorem RR.h5 (h : RR ho pd sf df jf qf nw ns nd ni no t g) : nw 5 = nI no := h.1.2.2.2.2.2.1
theorem RR.h2 (h : RR ho pd sf df jf qf nw ns nd ni no t g) : nw 2 = nI ns := h.1.2.2.1
theorem RR.h0 (h : RR ho pd sf df jf qf nw ns nd ni no t g) : nw 0 = nI t := h.1.1
theorem RR.h1 (h : RR ho pd sf df jf qf nw ns nd ni no t g) : nw 1 = ho := h.1.2.1
theorem RR.h6 (h : RR ho pd sf df jf qf nw ns nd ni no t g) : nw 6 = pd := h.1.2.2.2.2.2.2.1
theorem RR.ls (h : RR ho pd sf df jf qf nw ns nd ni no t g) : ns ≤ 6 := h.1.2.2.2.2.2.2.2.1
theorem RR.ld (h : RR ho pd sf df jf qf nw ns nd ni no t g) : nd ≤ 6 := h.1.2.2.2.2.2.2.2.2.1
theorem RR.li (h : RR ho pd sf df jf qf nw ns nd ni no t g) : ni ≤ 60 := h.1.2.2.2.2.2.2.2.2.2.1
theorem RR.lo (h : RR ho pd sf df jf qf nw ns nd ni no t g) : no ≤ 40 := h.1.2.2.2.2.2.2.2.2.2.2.1
theorem RR.lt (h : RR ho pd sf df jf qf nw ns nd ni no t g) : t ≤ 1299 := h.1.2.2.2.2.2.2.2.2.2.2.2
theorem RR.j (h : RR ho pd sf df jf qf nw ns nd ni no t g) {i k : Nat} (hi : i < ni) (hk : k < 7) : jf (i * 7 + k) = nw (205 + 7 * i + k) := (h.2.2.2.1 i hi).1 k hk
theorem RR.q (h : RR ho pd sf df jf qf nw ns nd ni no t g) {i k : Nat} (hi : i < no) (hk : k < 4) : qf (i * 4 + k) = nw (625 + 4 * i + k) := (h.2.2.2.2 i hi).1 k hk
theorem RR.s (h : RR ho pd sf df jf qf nw ns nd ni no t g) {i k : Nat} (hi : i < ns) (hk : k < 3) : sf (i * 3 + k) = nw (7 + 3 * i + k) := h.2.1 i hi k hk
theorem RR.d (h : RR ho pd sf df jf qf nw ns nd ni no t g) {i : Nat} (hi : i < nd) : rD1 df nw (i * 13) (25 + 30 * i) ns := h.2.2.1 i hi
theorem RR.cl (h : RR ho pd sf df jf qf nw ns nd ni no t g) {i : Nat} (hi : i < ni) (d : Int32) : CL jf (i * 7) d = CL nw (205 + 7 * i) d := by
  unfold CL
  rw [h.j hi (k := 0) (by decide), h.j hi (k := 2) (by decide), h.j hi (k := 5) (by decide)]
theorem RR.owes (h : RR ho pd sf df jf qf nw ns nd ni no t g) (d : Int32) : ∃ v, mX0_owes (nI ni) jf d = some v ∧ mX6_owes nw d = some v := by
  refine ⟨_, owes_c h.li, (owes_r h.li h.h4).trans (congrArg some (fo_congr ni 0 0 (fun j _ hj y => ?_)))⟩
  rw [h.j (show j < ni by omega) (k := 0) (by decide), h.j (show j < ni by omega) (k := 2) (by decide)]
theorem RR.debt (h : RR ho pd sf df jf qf nw ns nd ni no t g) (d : Int32) : ∃ v, mX0_debt (nI ni) jf d = some v ∧ mX6_debt nw d = some v := by
  refine ⟨_, debt_c h.li, (debt_r h.li h.h4).trans (congrArg some (fo_congr ni 0 0 (fun j _ hj y => ?_)))⟩
  rw [h.cl (show j < ni by omega), h.j (show j < ni by omega) (k := 2) (by decide)]
theorem RR.age (h : RR ho pd sf df jf qf nw ns nd ni no t g) (d : Int32) : ∃ v, mX0_greatestAge (nI ni) jf d = some v ∧ mX6_eldest nw d = some v := by
  refine ⟨_, age_c h.li, (age_r h.li h.h4).trans (congrArg some (fo_congr ni 0 0 (fun j _ hj y => ?_)))⟩
  rw [h.cl (show j < ni by omega), h.j (show j < ni by omega) (k := 4) (by decide)]
theorem RR.wait (h : RR ho pd sf df jf qf nw ns nd ni no t g) : ∃ v, mX0_waiting (nI no) qf = some v ∧ mX6_waiting nw = some v := by
  refine ⟨_, wait_c h.lo, (wait_r h.lo h.h5).trans (congrArg some (fo_congr no 0 0 (fun j _ hj y => ?_)))⟩
  rw [h.q (show j < no by omega) (k := 2) (by decide)]
theorem RR.cash (h : RR ho pd sf df jf qf nw ns nd ni no t g) : ∃ v, mX0_cashOfAll (nI nd) df = some v ∧ mX6_cash nw = some v := by
  refine ⟨_, cash_c h.ld, (cash_r h.ld h.h3).trans (congrArg some (fo_congr nd 0 0 (fun j _ hj y => ?_)))⟩
  rw [(h.d (show j < nd by omega)).2.2.1]
theorem RR.risk (h : RR ho pd sf df jf qf nw ns nd ni no t g) {d : Nat} (hd : d < nd) : ∃ v, mX0_risk (nI nd) (nI ni) (nI no) df jf qf (nI d) = some v ∧ mX6_risk nw (nI d) = some v := by
  obtain ⟨v, h1, h2⟩ := h.owes (nI d)
  have ld := h.ld
  unfold mX0_risk mX6_risk
  rw [h1, h2, b1_some, b1_some, gD2 hd h.ld, it2 (show d < 6 by omega), b1_some, b1_some, (h.d hd).2.2.1]
  refine ⟨_, risk_cL h.lo FU 0 _ (by unfold FU; have := h.lo; omega) (Nat.zero_le _), (risk_rL h.lo h.h5 FU 0 _ (by unfold FU; have := h.lo; omega) (Nat.zero_le _)).trans (congrArg some (fo_congr _ 0 _ (fun j _ hj y => ?_)))⟩
  rw [h.q (show j < no by omega) (k := 0) (by decide), h.q (show j < no by omega) (k := 1) (by decide), h.q (show j < no by omega) (k := 2) (by decide)]
theorem RR.court (h : RR ho pd sf df jf qf nw ns nd ni no t g) {d : Nat} (hd : d < nd) : ∃ v, mX0_isAtCourt (nI ns) (nI nd) df (nI d) = some v ∧ mX6_isAtCourt nw (nI d) = some v ∧ (v = 0 ∨ v = 1) := by
  have ld := h.ld
  have ls := h.ls
  obtain ⟨st, hst, e⟩ := (h.d hd).2.2.2.2.2.2.2.2.1
  unfold mX0_isAtCourt mX6_isAtCourt
  rw [size_eq, b1_some, h.h2]
  by_cases h0 : ns = 0
  · subst h0
    rw [if_pos (show nI 0 ≤ 0 from Int32.le_refl 0), if_pos (show nI 0 ≤ 0 from Int32.le_refl 0)]
    exact ⟨_, rfl, rfl, Or.inl rfl⟩
  · rw [if_neg (nI_nle (by omega) (by omega)), if_neg (nI_nle (by omega) (by omega)), gD3 hd ld, it3 (show d < 6 by omega), b1_some, b1_some, b1_some, (h.d hd).2.2.2.1, e]
    by_cases h9 : st < ns
    · rw [if_pos (nI_lt h9 (by omega)), if_neg (fun z => by rw [nI_eq (by omega) (by omega)] at z; omega)]
      exact ⟨_, rfl, rfl, Or.inl rfl⟩
    · rw [if_neg (nI_nlt (by omega) (by omega)), if_pos (by rw [show st = ns by omega])]
      exact ⟨_, rfl, rfl, Or.inr rfl⟩
/-- a promise, a plan -/
theorem RR.prom (h : RR ho pd sf df jf qf nw ns nd ni no t g) {d : Nat} (hd : d < nd) : mX0_hasPromise (nI nd) df (nI d) = some (if nw (25 + 30 * d + 5) = 0 then (0 : Int32) else (1 : Int32)) := by
  unfold mX0_hasPromise
  rw [gD6 hd h.ld, b1_some, (h.d hd).2.2.2.2.2.2.1]
  have h9 := (h.d hd).2.2.2.2.2.2.2.2.2.1
  by_cases z : nw (25 + 30 * d + 5) = 0
  · rw [if_pos z, if_pos (by rw [z]; exact Int32.le_refl 0)]
  · rw [if_neg z, if_neg (fun q => z (Int32.le_antisymm q h9))]
theorem nI_le0 {n : Nat} (h : n < 2 ^ 31) : nI n ≤ 0 ↔ nI n = 0 := by
  constructor
  · intro q; exact Int32.le_antisymm q (nI_pos' h)
  · intro q; rw [q]; exact Int32.le_refl 0
theorem RR.plan9 (h : RR ho pd sf df jf qf nw ns nd ni no t g) {d : Nat} (hd : d < nd) : nw (25 + 30 * d + 9) ≤ 0 ↔ nw (25 + 30 * d + 9) = 0 := by
  obtain ⟨n, hn, e, -⟩ := (h.d hd).2.2.2.2.2.2.2.2.2.2.2.2
  rw [e]; exact nI_le0 (by omega)
theorem RR.prom5 (h : RR ho pd sf df jf qf nw ns nd ni no t g) {d : Nat} (hd : d < nd) : nw (25 + 30 * d + 5) ≤ 0 ↔ nw (25 + 30 * d + 5) = 0 := by
  have h9 := (h.d hd).2.2.2.2.2.2.2.2.2.1
  constructor
  · intro q; exact Int32.le_antisymm q h9
  · intro q; rw [q]; exact Int32.le_refl 0
theorem RR.plan (h : RR ho pd sf df jf qf nw ns nd ni no t g) {d : Nat} (hd : d < nd) : mX0_hasPlan (nI nd) df (nI d) = some (if nw (25 + 30 * d + 9) = 0 then (0 : Int32) else (1 : Int32)) := by
  unfold mX0_hasPlan
  rw [gD8 hd h.ld, b1_some, (h.d hd).2.2.2.2.2.2.2.1]
  by_cases z : nw (25 + 30 * d + 9) = 0
  · rw [if_pos z, if_pos ((h.plan9 hd).mpr z)]
  · rw [if_neg z, if_neg (fun q => z ((h.plan9 hd).mp q))]
theorem RR.stop (h : RR ho pd sf df jf qf nw ns nd ni no t g) {d : Nat} (hd : d < nd) : ∃ v, mX0_hasAgreement (nI nd) df (nI d) = some v ∧ mX6_isStopped nw (nI d) = some v ∧ (v = 0 ↔ nw (25 + 30 * d + 5) = 0 ∧ nw (25 + 30 * d + 9) = 0) := by
  have ld := h.ld
  unfold mX0_hasAgreement mX6_isStopped
  rw [h.prom hd, h.plan hd, it5 (show d < 6 by omega), it9 (show d < 6 by omega)]
  simp only [b1_some]
  by_cases z : nw (25 + 30 * d + 5) = 0
  · rw [if_pos z, if_pos rfl, if_neg (fun q => absurd ((h.prom5 hd).mpr z) (Int32.not_le.mpr q))]
    by_cases y : nw (25 + 30 * d + 9) = 0
    · rw [if_pos y, if_pos rfl, if_pos ((h.plan9 hd).mpr y)]
      exact ⟨_, rfl, rfl, fun _ => ⟨z, y⟩, fun _ => rfl⟩
    · rw [if_neg y, if_neg (by decide), if_neg (fun q => y ((h.plan9 hd).mp q))]
      exact ⟨_, rfl, rfl, fun q => absurd q (by decide), fun q => absurd q.2 y⟩
  · rw [if_neg z, if_neg (by decide), if_pos (Int32.not_le.mp (fun q => z ((h.prom5 hd).mp q)))]
    exact ⟨_, rfl, rfl, fun q => absurd q (by decide), fun q => absurd q.1 z⟩
/-- the debtor of an invoice, of an order -/
theorem RR.ofJ (h : RR ho pd sf df jf qf nw ns nd ni no t g) {i : Nat} (hi : i < ni) : ∃ d, d < nd ∧ nw (205 + 7 * i + 0) = nI d := (h.2.2.2.1 i hi).2.1
theorem RR.ofQ (h : RR ho pd sf df jf qf nw ns nd ni no t g) {i : Nat} (hi : i < no) : ∃ d, d < nd ∧ nw (625 + 4 * i + 0) = nI d := (h.2.2.2.2 i hi).2.1
end Reads
/-! all that is owed: by invoices, by debtors -/
theorem i32_ac (a b c : Int32) : a + b + c = a + c + b := by rw [Int32.add_assoc, Int32.add_comm b c, ← Int32.add_assoc]
theorem fo_one {a b : Nat → Int32} {v : Int32} {e : Nat} : ∀ (m i : Nat) (x : Int32), (∀ d, i ≤ d → d < i + m → b d = if e = d then a d + v else a d) → fo (fun d y => y + b d) m x i = (if i ≤ e ∧ e < i + m then fo (fun d y => y + a d) m x i + v else fo (fun d y => y + a d) m x i)
  | 0, i, x, _ => by rw [if_neg (by omega)]; rfl
  | m + 1, i, x, h => by
    show fo (fun d y => y + b d) m (x + b i) (i + 1) = if i ≤ e ∧ e < i + (m + 1) then fo (fun d y => y + a d) m (x + a i) (i + 1) + v else fo (fun d y => y + a d) m (x + a i) (i + 1)
    rw [fo_one m (i + 1) (x + b i) (fun d h1 h2 => h d (by omega) (by omega)), h i (Nat.le_refl i) (by omega)]
    by_cases q : e = i
    · rw [if_neg (by omega), if_pos q, if_pos (by omega), ← Int32.add_assoc]
      exact fo_out m (i + 1) (x + a i) v
    · rw [if_neg q]
      by_cases z : i + 1 ≤ e ∧ e < i + 1 + m
      · rw [if_pos z, if_pos (by omega)]
      · rw [if_neg z, if_neg (by omega)]
where
  fo_out {a : Nat → Int32} : ∀ (m i : Nat) (x v : Int32), fo (fun d y => y + a d) m (x + v) i = fo (fun d y => y + a d) m x i + v
    | 0, _, _, _ => rfl
    | m + 1, i, x, v => by
      show fo (fun d y => y + a d) m (x + v + a i) (i + 1) = fo (fun d y => y + a d) m (x + a i) (i + 1) + v
      rw [i32_ac x v (a i)]
      exact fo_out m (i + 1) (x + a i) v
theorem fo_last {g : Nat → Int32 → Int32} {m : Nat} {x : Int32} : fo g (m + 1) x 0 = g m (fo g m x 0) := by
  rw [fo_app m 1 0 x]
  show g (0 + m) _ = _
  rw [Nat.zero_add]
theorem sum_swap {f o : Nat → Int32} {nd : Nat} (hnd : nd ≤ 6) : ∀ (n : Nat), (∀ i, i < n → ∃ e, e < nd ∧ o i = nI e) → fo (fun i y => y + f i) n 0 0 = fo (fun d y => y + fo (fun i y => if o i = nI d then y + f i else y) n 0 0) nd 0 0
  | 0, _ => (fo_id nd 0 0 (fun j _ _ y => Int32.add_zero y)).symm
  | n + 1, h => by
    obtain ⟨e, he, ho⟩ := h n (by omega)
    rw [fo_last, sum_swap hnd n (fun i hi => h i (by omega))]
    have k := fo_one (a := fun d => fo (fun i y => if o i = nI d then y + f i else y) n 0 0) (b := fun d => fo (fun i y => if o i = nI d then y + f i else y) (n + 1) 0 0) (v := f n) (e := e) nd 0 0 (fun d _ hd => by
      show fo _ (n + 1) 0 0 = _
      rw [fo_last, ho]
      by_cases q : e = d
      · rw [if_pos (by rw [q]), if_pos q]
      · rw [if_neg (fun z => q ((nI_eq (by omega) (by omega)).mp z)), if_neg q])
    rw [k, if_pos (by omega)]
theorem all_rL {nw : Nat → Int32} {nd ni : Nat} (hd : nd ≤ 6) (hi : ni ≤ 60) (h3 : nw 3 = nI nd) (h4 : nw 4 = nI ni) : ∀ (k i : Nat) (x : Int32), nd < k + i → i ≤ nd → mX6_allOf_L4 k nw 2 x (nI i) = some (fo (fun d y => y + fo (fun i y => if nw (205 + 7 * i + 0) = nI d then y + nw (205 + 7 * i + 2) else y) ni 0 0) (nd - i) x i) := by
  intro k
  induction k with
  | zero => intro i x h1 h2; omega
  | succ k ih =>
    intro i x h1 h2
    rw [mX6_allOf_L4.eq_2, h3]
    by_cases h : i = nd
    · subst h
      rw [if_pos (nI_le (Nat.le_refl _) (by omega)), Nat.sub_self]; rfl
    · rw [if_neg (nI_ge (show i < nd by omega) (by omega)), if_pos rfl, owes_r hi h4, b1_some, nI_1, ih (i + 1) _ (by omega) (by omega), show nd - i = (nd - (i + 1)) + 1 by omega]
      rfl
theorem RR.all {ho pd : Int32} {sf df jf qf nw : Nat → Int32} {ns nd ni no t g : Nat} (h : RR ho pd sf df jf qf nw ns nd ni no t g) : ∃ v, mX0_owedByAll (nI ni) jf = some v ∧ mX6_allOf nw 2 = some v := by
  refine ⟨_, all_c h.li, ?_⟩
  unfold mX6_allOf
  have ld := h.ld
  have e := all_rL h.ld h.li h.h3 h.h4 FU 0 0 (by unfold FU; omega) (Nat.zero_le _)
  refine e.trans (congrArg some ?_)
  rw [Nat.sub_zero, ← sum_swap (f := fun i => nw (205 + 7 * i + 2)) (o := fun i => nw (205 + 7 * i + 0)) h.ld ni (fun i hi => h.ofJ hi)]
  exact (fo_congr ni 0 0 (fun j _ hj y => by rw [h.j (show j < ni by omega) (k := 2) (by decide)])).symm
