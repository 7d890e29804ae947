/-! PURE: cash is placed -/
theorem fo_inv {g : Nat → Int32 → Int32} {P : Int32 → Prop} : ∀ (m i : Nat) (x : Int32), P x → (∀ j y, i ≤ j → j < i + m → P y → P (g j y)) → P (fo g m x i)
  | 0, _, _, h, _ => h
  | m + 1, i, x, h, hs => fo_inv m (i + 1) (g i x) (hs i x (Nat.le_refl i) (by omega) h) (fun j y h1 h2 hp => hs j y (by omega) (by omega) hp)
theorem fo_congrP {g h : Nat → Int32 → Int32} {P : Int32 → Prop} : ∀ (m i : Nat) (x : Int32), P x → (∀ j y, i ≤ j → j < i + m → P y → P (h j y)) → (∀ j y, i ≤ j → j < i + m → P y → g j y = h j y) → fo g m x i = fo h m x i
  | 0, _, _, _, _, _ => rfl
  | m + 1, i, x, hp, hs, he => by
    show fo g m (g i x) (i + 1) = fo h m (h i x) (i + 1)
    rw [he i x (Nat.le_refl i) (by omega) hp]
    exact fo_congrP m (i + 1) (h i x) (hs i x (Nat.le_refl i) (by omega) hp) (fun j y h1 h2 => hs j y (by omega) (by omega)) (fun j y h1 h2 => he j y (by omega) (by omega))
/-- the eldest claim: rows begin at B i -/
abbrev gE (f : Nat → Int32) (B : Nat → Nat) (d : Int32) : Nat → Int32 → Int32 := fun i y => if CL f (B i) d = true then (if y = -1 then nI i else (if f (B y.toNatClampNeg + 3) ≤ f (B i + 3) then y else nI i)) else y
def okE (n : Nat) (x : Int32) : Prop := x = -1 ∨ ∃ j, j < n ∧ x = nI j
theorem nI_ne {j : Nat} (h : j < 2 ^ 31) : ¬ nI j = -1 := fun z => absurd (nI_pos' h) (by rw [z]; decide)
theorem eld_cL {n : Nat} {jf : Nat → Int32} {d : Int32} (hn : n ≤ 60) : ∀ (k i : Nat) (x : Int32), n < k + i → i ≤ n → okE n x → mX0_eldestClaim_L4 k (nI n) jf d x (nI i) = some (fo (gE jf (fun i => i * 7) d) (n - i) x i) := by
  intro k
  induction k with
  | zero => intro i x h1 h2; omega
  | succ k ih =>
    intro i x h1 h2 hx
    rw [mX0_eldestClaim_L4.eq_2, size_eq, b1_some]
    by_cases h : i = n
    · subst h
      rw [if_pos (nI_le (Nat.le_refl _) (by omega)), Nat.sub_self]; rfl
    · have hi : i < n := by omega
      have ih' : ∀ x, okE n x → mX0_eldestClaim_L4 k (nI n) jf d x (nI i + 1) = some (fo (gE jf (fun i => i * 7) d) (n - (i + 1)) x (i + 1)) := fun x hx => by
        rw [nI_1]; exact ih (i + 1) x (by omega) (by omega) hx
      have hii : okE n (nI i) := Or.inr ⟨i, hi, rfl⟩
      rw [if_neg (nI_ge hi (by omega)), show n - i = (n - (i + 1)) + 1 by omega, claim_c hi hn, b1_some, cl0, ih' x hx, ih' (nI i) hii]
      show _ = some (fo (gE jf (fun i => i * 7) d) (n - (i + 1)) (gE jf (fun i => i * 7) d i x) (i + 1))
      by_cases hc : CL jf (i * 7) d = true
      · rw [if_pos hc, show gE jf (fun i => i * 7) d i x = (if x = -1 then nI i else (if jf (x.toNatClampNeg * 7 + 3) ≤ jf (i * 7 + 3) then x else nI i)) from if_pos hc]
        rcases hx with hx | ⟨j, hj, hx⟩
        · rw [if_pos hx, if_pos hx]
        · have hne : ¬ x = -1 := by rw [hx]; exact nI_ne (by omega)
          rw [if_neg hne, if_neg hne, gJ3 hi hn, hx, gJ3 hj hn, b1_some, b1_some, nI_clamp (show j < 2 ^ 31 by omega)]
          by_cases q : jf (j * 7 + 3) ≤ jf (i * 7 + 3)
          · rw [if_pos q, if_pos q]
          · rw [if_neg q, if_neg q]
      · rw [if_neg hc, show gE jf (fun i => i * 7) d i x = x from if_neg hc]
/-- where the other's search ends -/
def tE (rec2 : Int32 → Int32 → (Nat → Int32) → Option (Nat → Int32)) (d x : Int32) (nw : Nat → Int32) : Option (Nat → Int32) :=
  if x = (-1) then some nw else b1 (mX6_its nw d 2) fun v7 => b1 (mX6_billed nw x 2) fun v9 => (if v9 ≤ v7 then b1 (mX6_billed nw x 2) fun v12 => mX6_places_b103 rec2 d x v12 nw else b1 (mX6_its nw d 2) fun v14 => mX6_places_b103 rec2 d x v14 nw)
theorem eld_rL {n : Nat} {nw : Nat → Int32} {d : Int32} {rec2 : Int32 → Int32 → (Nat → Int32) → Option (Nat → Int32)} (hn : n ≤ 60) (h4 : nw 4 = nI n) : ∀ (k i : Nat) (x : Int32), n < k + i → i ≤ n → okE n x → mX6_places_L20 k rec2 d x (nI i) nw = tE rec2 d (fo (gE nw (fun i => 205 + 7 * i) d) (n - i) x i) nw := by
  intro k
  induction k with
  | zero => intro i x h1 h2; omega
  | succ k ih =>
    intro i x h1 h2 hx
    rw [mX6_places_L20.eq_2, h4]
    by_cases h : i = n
    · subst h
      rw [if_pos (nI_le (Nat.le_refl _) (by omega)), Nat.sub_self]; rfl
    · have hi : i < n := by omega
      have hi9 : i < 60 := by omega
      have ih' : ∀ x, okE n x → mX6_places_L20 k rec2 d x (nI i + 1) nw = tE rec2 d (fo (gE nw (fun i => 205 + 7 * i) d) (n - (i + 1)) x (i + 1)) nw := fun x hx => by
        rw [nI_1]; exact ih (i + 1) x (by omega) (by omega) hx
      have hii : okE n (nI i) := Or.inr ⟨i, hi, rfl⟩
      rw [if_neg (nI_ge hi (by omega)), show n - i = (n - (i + 1)) + 1 by omega, claim_r hi9, b1_some, cl0, ih' x hx, ih' (nI i) hii]
      show _ = tE rec2 d (fo (gE nw (fun i => 205 + 7 * i) d) (n - (i + 1)) (gE nw (fun i => 205 + 7 * i) d i x) (i + 1)) nw
      by_cases hc : CL nw (205 + 7 * i) d = true
      · rw [if_pos hc, show gE nw (fun i => 205 + 7 * i) d i x = (if x = -1 then nI i else (if nw (205 + 7 * x.toNatClampNeg + 3) ≤ nw (205 + 7 * i + 3) then x else nI i)) from if_pos hc]
        rcases hx with hx | ⟨j, hj, hx⟩
        · rw [if_pos hx, if_pos hx]
        · have hne : ¬ x = -1 := by rw [hx]; exact nI_ne (by omega)
          rw [if_neg hne, if_neg hne, bi3 hi9, hx, bi3 (show j < 60 by omega), b1_some, b1_some, nI_clamp (show j < 2 ^ 31 by omega)]
          by_cases q : nw (205 + 7 * j + 3) ≤ nw (205 + 7 * i + 3)
          · rw [if_pos q, if_pos q]
          · rw [if_neg q, if_neg q]
      · rw [if_neg hc, show gE nw (fun i => 205 + 7 * i) d i x = x from if_neg hc]
/-- what is found is a claim -/
theorem eld_ok {n : Nat} {f : Nat → Int32} {B : Nat → Nat} {d : Int32} : fo (gE f B d) n (-1) 0 = -1 ∨ ∃ j, j < n ∧ CL f (B j) d = true ∧ fo (gE f B d) n (-1) 0 = nI j := by
  refine fo_inv (P := fun x => x = -1 ∨ ∃ j, j < n ∧ CL f (B j) d = true ∧ x = nI j) n 0 (-1) (Or.inl rfl) (fun j y _ hj hy => ?_)
  show (gE f B d j y = -1 ∨ ∃ i, i < n ∧ CL f (B i) d = true ∧ gE f B d j y = nI i)
  by_cases hc : CL f (B j) d = true
  · have e : gE f B d j y = (if y = -1 then nI j else (if f (B y.toNatClampNeg + 3) ≤ f (B j + 3) then y else nI j)) := if_pos hc
    rw [e]
    by_cases h1 : y = -1
    · rw [if_pos h1]; exact Or.inr ⟨j, by omega, hc, rfl⟩
    · rw [if_neg h1]
      by_cases h2 : f (B y.toNatClampNeg + 3) ≤ f (B j + 3)
      · rw [if_pos h2]; exact hy
      · rw [if_neg h2]; exact Or.inr ⟨j, by omega, hc, rfl⟩
  · rw [show gE f B d j y = y from if_neg hc]; exact hy
/-- how many -/
def cnt (p : Nat → Bool) : Nat → Nat
  | 0 => 0
  | n + 1 => cnt p n + (if p n = true then 1 else 0)
theorem cnt_le (p : Nat → Bool) : ∀ n, cnt p n ≤ n
  | 0 => Nat.le_refl 0
  | n + 1 => by
    have h := cnt_le p n
    show cnt p n + (if p n = true then 1 else 0) ≤ n + 1
    split <;> omega
theorem cnt_pos {p : Nat → Bool} {j : Nat} (hp : p j = true) : ∀ n, j < n → 0 < cnt p n
  | 0, h => by omega
  | n + 1, h => by
    show 0 < cnt p n + (if p n = true then 1 else 0)
    by_cases q : j = n
    · rw [← q, if_pos hp]; omega
    · have := cnt_pos hp n (by omega); omega
theorem cnt_congr {p q : Nat → Bool} : ∀ n, (∀ i, i < n → p i = q i) → cnt p n = cnt q n
  | 0, _ => rfl
  | n + 1, h => by
    show cnt p n + _ = cnt q n + _
    rw [cnt_congr n (fun i hi => h i (by omega)), h n (by omega)]
theorem cnt_less {p q : Nat → Bool} {j : Nat} (hp : p j = true) (hq : q j = false) : ∀ n, j < n → (∀ i, i < n → i ≠ j → q i = p i) → cnt q n + 1 = cnt p n
  | 0, h, _ => by omega
  | n + 1, h, e => by
    show cnt q n + (if q n = true then 1 else 0) + 1 = cnt p n + (if p n = true then 1 else 0)
    by_cases z : j = n
    · subst z
      rw [hq, if_pos hp, if_neg (by decide), cnt_congr j (fun i hi => e i (by omega) (by omega))]
    · have k := cnt_less hp hq n (by omega) (fun i hi => e i (by omega))
      rw [e n (by omega) (fun q => z q.symm)]
      omega
theorem cl_spec {f : Nat → Int32} {b : Nat} {d : Int32} : CL f b d = true ↔ f (b + 0) = d ∧ ¬ f (b + 2) ≤ 0 ∧ f (b + 5) = 0 := by
  unfold CL
  rw [Bool.and_eq_true, Bool.and_eq_true, Bool.not_eq_true', decide_eq_false_iff_not, decide_eq_true_iff, decide_eq_true_iff]
theorem mn_ite {x v : Int32} : (if v ≤ x then v else x) = mnI x v := by
  by_cases h : v < x
  · rw [if_pos (Int32.le_of_lt h), show mnI x v = v from if_pos h]
  · rw [show mnI x v = x from if_neg h]
    by_cases q : v ≤ x
    · rw [if_pos q]; exact Int32.le_antisymm q (Int32.not_lt.mp h)
    · rw [if_neg q]
theorem i32_lt (a b : Int32) : a < b ↔ a.toInt < b.toInt := Int32.lt_iff_toInt_lt
theorem i32_le (a b : Int32) : a ≤ b ↔ a.toInt ≤ b.toInt := Int32.le_iff_toInt_le
theorem i32_sub {a b : Int32} (h0 : 0 ≤ b) (h : b ≤ a) : (a - b).toInt = a.toInt - b.toInt := by
  rw [i32_le] at h0 h
  have h1 : a.toInt < 2 ^ 31 := a.toInt_lt
  have h2 : (0 : Int32).toInt = 0 := rfl
  rw [Int32.toInt_sub]
  rw [h2] at h0
  exact Int.bmod_eq_of_le (by omega) (by omega)
theorem sub_pos' {a b : Int32} (h0 : 0 ≤ b) (h : b ≤ a) : 0 ≤ a - b := by
  have e := i32_sub h0 h
  rw [i32_le] at h0 h ⊢
  have h2 : (0 : Int32).toInt = 0 := rfl
  rw [h2] at h0 ⊢
  omega
/-- what is left of a claim -/
theorem mn_pos {x v : Int32} (hx : 0 < x) (hv : 0 < v) : 0 ≤ v - mnI x v := by
  by_cases z : v < x
  · rw [show mnI x v = v from if_pos z, Int32.sub_self]; exact Int32.le_refl 0
  · rw [show mnI x v = x from if_neg z]; exact sub_pos' (Int32.le_of_lt hx) (Int32.not_lt.mp z)
section Place
variable {ho pd : Int32} {sf qf : Nat → Int32} {ns nd ni no t g d : Nat}
theorem okE_step {n j : Nat} {f : Nat → Int32} {B : Nat → Nat} {d y : Int32} (hj : j < n) (hy : okE n y) : okE n (gE f B d j y) := by
  by_cases hc : CL f (B j) d = true
  · have e : gE f B d j y = (if y = -1 then nI j else (if f (B y.toNatClampNeg + 3) ≤ f (B j + 3) then y else nI j)) := if_pos hc
    rw [e]
    by_cases h1 : y = -1
    · rw [if_pos h1]; exact Or.inr ⟨j, hj, rfl⟩
    · rw [if_neg h1]
      by_cases h2 : f (B y.toNatClampNeg + 3) ≤ f (B j + 3)
      · rw [if_pos h2]; exact hy
      · rw [if_neg h2]; exact Or.inr ⟨j, hj, rfl⟩
  · rw [show gE f B d j y = y from if_neg hc]; exact hy
theorem eld_eq {df jf nw : Nat → Int32} (h : RR ho pd sf df jf qf nw ns nd ni no t g) : fo (gE jf (fun i => i * 7) (nI d)) ni (-1) 0 = fo (gE nw (fun i => 205 + 7 * i) (nI d)) ni (-1) 0 := by
  have li := h.li
  refine fo_congrP (P := okE ni) ni 0 (-1) (Or.inl rfl) (fun j y _ hj hy => okE_step (by omega) hy) (fun j y _ hj hy => ?_)
  show (if CL jf (j * 7) (nI d) = true then (if y = -1 then nI j else (if jf (y.toNatClampNeg * 7 + 3) ≤ jf (j * 7 + 3) then y else nI j)) else y) = (if CL nw (205 + 7 * j) (nI d) = true then (if y = -1 then nI j else (if nw (205 + 7 * y.toNatClampNeg + 3) ≤ nw (205 + 7 * j + 3) then y else nI j)) else y)
  rw [h.cl (show j < ni by omega), h.j (show j < ni by omega) (k := 3) (by decide)]
  rcases hy with rfl | ⟨i, hi, rfl⟩
  · rw [if_pos rfl, if_pos rfl]
  · rw [nI_clamp (show i < 2 ^ 31 by omega), h.j hi (k := 3) (by decide)]
/-- no cash, or no claim: nothing moves -/
theorem place_stop {df jf nw : Nat → Int32} (h : RR ho pd sf df jf qf nw ns nd ni no t g) (hd : d < nd) {k k' : Nat} {x2 b : Int32} (hb : ¬ b = -1) (hs : nw (25 + 30 * d + 2) ≤ 0 ∨ fo (gE nw (fun i => 205 + 7 * i) (nI d)) ni (-1) 0 = -1) :
    mX0_placeCash_L2 (k + 1) (nI nd) (nI ni) (nI d) x2 df jf = some (df, jf) ∧ mX6_places_L2 (k' + 1) (nI d) b nw = some nw := by
  have ld := h.ld
  have li := h.li
  rw [mX0_placeCash_L2.eq_2, mX6_places_L2.eq_2, gD2 hd h.ld, it2 (show d < 6 by omega), b1_some, b1_some, (h.d hd).2.2.1]
  by_cases c : nw (25 + 30 * d + 2) ≤ 0
  · rw [if_pos c, if_pos c]
    refine ⟨?_, rfl⟩
    by_cases z : 60 ≤ x2
    · rw [if_pos z]
    · rw [if_neg z]; unfold mX0_placeCash_b31; rw [if_pos rfl]
  · have e := hs.resolve_left c
    rw [if_neg c, if_neg c, if_neg hb]
    have e1 := eld_rL (rec2 := mX6_places_L2 k') (d := nI d) h.li h.h4 FU 0 (-1) (by unfold FU; omega) (Nat.zero_le _) (Or.inl rfl)
    have e2 := eld_cL (jf := jf) (d := nI d) h.li FU 0 (-1) (by unfold FU; omega) (Nat.zero_le _) (Or.inl rfl)
    rw [Nat.sub_zero] at e1 e2
    refine ⟨?_, (show mX6_places_L20 FU (mX6_places_L2 k') (nI d) (-1) (nI 0) nw = some nw by rw [e1, e]; unfold tE; rw [if_pos rfl])⟩
    by_cases z : 60 ≤ x2
    · rw [if_pos z]
    · rw [if_neg z]
      have e5 : mX0_eldestClaim (nI ni) jf (nI d) = some (-1) := e2.trans (congrArg some ((eld_eq h).trans e))
      rw [e5, b1_some]
      unfold mX0_placeCash_b31; rw [if_pos rfl]
/-- the two placings keep step -/
theorem place_sim (hd : d < nd) : ∀ (c : Nat) {df jf nw : Nat → Int32} {k k' x2 : Nat} {b : Int32}, RR ho pd sf df jf qf nw ns nd ni no t g → cnt (fun i => CL nw (205 + 7 * i) (nI d)) ni ≤ c → x2 + c ≤ 60 → c + 1 < k → c + 1 < k' → ¬ b = -1 →
    ∃ df' jf' nw', mX0_placeCash_L2 k (nI nd) (nI ni) (nI d) (nI x2) df jf = some (df', jf') ∧ mX6_places_L2 k' (nI d) b nw = some nw' ∧ RR ho pd sf df' jf' qf nw' ns nd ni no t g ∧ ∀ i, nw' (205 + 7 * i + 0) = nw (205 + 7 * i + 0) := by
  intro c
  induction c with
  | zero =>
    intro df jf nw k k' x2 b h hc _ hk hk' hb
    obtain ⟨k, rfl⟩ : ∃ z, k = z + 1 := ⟨k - 1, by omega⟩
    obtain ⟨k', rfl⟩ : ∃ z, k' = z + 1 := ⟨k' - 1, by omega⟩
    have e : fo (gE nw (fun i => 205 + 7 * i) (nI d)) ni (-1) 0 = -1 := by
      rcases eld_ok (n := ni) (f := nw) (B := fun i => 205 + 7 * i) (d := nI d) with e | ⟨j, hj, hcl, -⟩
      · exact e
      · have := cnt_pos (p := fun i => CL nw (205 + 7 * i) (nI d)) hcl ni hj; omega
    obtain ⟨e1, e2⟩ := place_stop h hd (k := k) (k' := k') (x2 := nI x2) hb (Or.inr e)
    exact ⟨_, _, _, e1, e2, h, fun _ => rfl⟩
  | succ c ih =>
    intro df jf nw k k' x2 b h hc hx hk hk' hb
    obtain ⟨k, rfl⟩ : ∃ z, k = z + 1 := ⟨k - 1, by omega⟩
    obtain ⟨k', rfl⟩ : ∃ z, k' = z + 1 := ⟨k' - 1, by omega⟩
    have ld := h.ld
    have li := h.li
    by_cases c0 : nw (25 + 30 * d + 2) ≤ 0
    · obtain ⟨e1, e2⟩ := place_stop h hd (k := k) (k' := k') (x2 := nI x2) hb (Or.inl c0)
      exact ⟨_, _, _, e1, e2, h, fun _ => rfl⟩
    rcases eld_ok (n := ni) (f := nw) (B := fun i => 205 + 7 * i) (d := nI d) with e | ⟨j, hj, hcl, e⟩
    · obtain ⟨e1, e2⟩ := place_stop h hd (k := k) (k' := k') (x2 := nI x2) hb (Or.inr e)
      exact ⟨_, _, _, e1, e2, h, fun _ => rfl⟩
    have hj9 : j < 60 := by omega
    obtain ⟨q1, q2, q3⟩ := cl_spec.mp hcl
    have e1 := eld_rL (rec2 := mX6_places_L2 k') (d := nI d) h.li h.h4 FU 0 (-1) (by unfold FU; omega) (Nat.zero_le _) (Or.inl rfl)
    have e2 := eld_cL (jf := jf) (d := nI d) h.li FU 0 (-1) (by unfold FU; omega) (Nat.zero_le _) (Or.inl rfl)
    rw [Nat.sub_zero, e] at e1
    rw [Nat.sub_zero, eld_eq h, e] at e2
    have e1 : mX6_places_L20 FU (mX6_places_L2 k') (nI d) (-1) 0 nw = tE (mX6_places_L2 k') (nI d) (nI j) nw := e1
    have e2 : mX0_eldestClaim (nI ni) jf (nI d) = some (nI j) := e2
    generalize hN : mnI (nw (25 + 30 * d + 2)) (nw (205 + 7 * j + 2)) = N
    -- the state behind this step
    have hR : RR ho pd sf (upd df (d * 13 + 2) (nw (25 + 30 * d + 2) - N)) (upd jf (j * 7 + 2) (nw (205 + 7 * j + 2) - N)) qf (upd (upd nw (25 + 30 * d + 2) (nw (25 + 30 * d + 2) - N)) (205 + 7 * j + 2) (nw (205 + 7 * j + 2) - N)) ns nd ni no t g := by
      refine RR.cellJ (RR.putD h hd (fun i hi => upd_n (by omega)) (fun i hi => upd_n (by omega)) (rD1_cash (h.d hd))) hj (by decide) (by decide) (fun _ => ?_) (fun z => absurd z (by decide)) (fun z => absurd z (by decide))
      rw [← hN]; exact mn_pos (Int32.not_le.mp c0) (Int32.not_le.mp q2)
    have st : mX0_placeCash_L2 (k + 1) (nI nd) (nI ni) (nI d) (nI x2) df jf = mX0_placeCash_L2 k (nI nd) (nI ni) (nI d) (nI (x2 + 1)) (upd df (d * 13 + 2) (nw (25 + 30 * d + 2) - N)) (upd jf (j * 7 + 2) (nw (205 + 7 * j + 2) - N)) := by
      rw [mX0_placeCash_L2.eq_2, if_neg (show ¬ (60 : Int32) ≤ nI x2 from nI_ge (a := x2) (b := 60) (by omega) (by decide)), gD2 hd h.ld, b1_some, (h.d hd).2.2.1, if_neg c0, e2, b1_some]
      unfold mX0_placeCash_b31
      rw [if_neg (nI_ne (show j < 2 ^ 31 by omega)), gJ2 hj li, b1_some, h.j hj (k := 2) (by decide), hN, cJ2 hj li, b1_some, cD2 hd ld, b1_some, nI_1, h.j hj (k := 2) (by decide), (h.d hd).2.2.1, ← Int32.sub_eq_add_neg, ← Int32.sub_eq_add_neg]
    have sr : mX6_places_L2 (k' + 1) (nI d) b nw = mX6_places_L2 k' (nI d) (nI j) (upd (upd nw (25 + 30 * d + 2) (nw (25 + 30 * d + 2) - N)) (205 + 7 * j + 2) (nw (205 + 7 * j + 2) - N)) := by
      rw [mX6_places_L2.eq_2, it2 (show d < 6 by omega), b1_some, if_neg c0, if_neg hb, e1]
      unfold tE
      rw [if_neg (nI_ne (show j < 2 ^ 31 by omega)), it2 (show d < 6 by omega), b1_some, bi2 hj9, b1_some, b1_some, b1_some]
      have e9 : (if nw (205 + 7 * j + 2) ≤ nw (25 + 30 * d + 2) then mX6_places_b103 (mX6_places_L2 k') (nI d) (nI j) (nw (205 + 7 * j + 2)) nw else mX6_places_b103 (mX6_places_L2 k') (nI d) (nI j) (nw (25 + 30 * d + 2)) nw) = mX6_places_b103 (mX6_places_L2 k') (nI d) (nI j) N nw := by
        rw [← hN, ← mn_ite]
        split <;> rfl
      rw [e9]
      unfold mX6_places_b103
      rw [it2 (show d < 6 by omega), b1_some, pu2 (show d < 6 by omega), b1_some, xi2 hj9, ck_true, ck_true, ti2 hj9, upd_n (show 205 + 7 * j + 2 ≠ 25 + 30 * d + 2 by omega)]
    rw [st, sr]
    have hO : ∀ i, (upd (upd nw (25 + 30 * d + 2) (nw (25 + 30 * d + 2) - N)) (205 + 7 * j + 2) (nw (205 + 7 * j + 2) - N)) (205 + 7 * i + 0) = nw (205 + 7 * i + 0) := fun i => by
      rw [upd_n (by omega), upd_n (by omega)]
    by_cases z : nw (205 + 7 * j + 2) < nw (25 + 30 * d + 2)
    · -- the claim is paid whole
      have hN' : N = nw (205 + 7 * j + 2) := by rw [← hN]; exact if_pos z
      refine (fun q => (ih (k := k) (k' := k') (x2 := x2 + 1) (b := nI j) hR q (by omega) (by omega) (by omega) (nI_ne (by omega))).elim (fun a w => w.elim (fun b w => w.elim (fun c w => ⟨a, b, c, w.1, w.2.1, w.2.2.1, fun i => (w.2.2.2 i).trans (hO i)⟩)))) ?_
      have hl := cnt_less (p := fun i => CL nw (205 + 7 * i) (nI d)) (q := fun i => CL (upd (upd nw (25 + 30 * d + 2) (nw (25 + 30 * d + 2) - N)) (205 + 7 * j + 2) (nw (205 + 7 * j + 2) - N)) (205 + 7 * i) (nI d)) hcl (by
        show CL _ (205 + 7 * j) (nI d) = false
        rw [Bool.eq_false_iff]
        intro w
        have w2 := (cl_spec.mp w).2.1
        rw [upd_s, hN', Int32.sub_self] at w2
        exact w2 (Int32.le_refl 0)) ni hj (fun i hi hne => by
        show CL _ (205 + 7 * i) (nI d) = CL _ (205 + 7 * i) (nI d)
        unfold CL
        rw [upd_n (show 205 + 7 * i + 0 ≠ 205 + 7 * j + 2 by omega), upd_n (show 205 + 7 * i + 2 ≠ 205 + 7 * j + 2 by omega), upd_n (show 205 + 7 * i + 5 ≠ 205 + 7 * j + 2 by omega), upd_n (show 205 + 7 * i + 0 ≠ 25 + 30 * d + 2 by omega), upd_n (show 205 + 7 * i + 2 ≠ 25 + 30 * d + 2 by omega), upd_n (show 205 + 7 * i + 5 ≠ 25 + 30 * d + 2 by omega)])
      omega
    · -- the cash is spent
      have hN' : N = nw (25 + 30 * d + 2) := by rw [← hN]; exact if_neg z
      obtain ⟨k, rfl⟩ : ∃ y, k = y + 1 := ⟨k - 1, by omega⟩
      obtain ⟨k', rfl⟩ : ∃ y, k' = y + 1 := ⟨k' - 1, by omega⟩
      obtain ⟨r1, r2⟩ := place_stop hR hd (k := k) (k' := k') (x2 := nI (x2 + 1)) (b := nI j) (nI_ne (by omega)) (Or.inl (by
        rw [upd_n (show 25 + 30 * d + 2 ≠ 205 + 7 * j + 2 by omega), upd_s, hN', Int32.sub_self]
        exact Int32.le_refl 0))
      exact ⟨_, _, _, r1, r2, hR, hO⟩
theorem RR.place2 {df jf nw : Nat → Int32} (h : RR ho pd sf df jf qf nw ns nd ni no t g) (hd : d < nd) : ∃ df' jf' nw', mX0_placeCash (nI nd) (nI ni) df jf (nI d) = some (df', jf') ∧ mX6_places nw (nI d) = some nw' ∧ RR ho pd sf df' jf' qf nw' ns nd ni no t g ∧ ∀ i, nw' (205 + 7 * i + 0) = nw (205 + 7 * i + 0) := by
  have li := h.li
  have hl := cnt_le (fun i => CL nw (205 + 7 * i) (nI d)) ni
  exact place_sim hd 60 (k := FU) (k' := FU) (x2 := 0) (b := 0) h (by omega) (by omega) (by unfold FU; omega) (by unfold FU; omega) (by decide)
theorem RR.place {df jf nw : Nat → Int32} (h : RR ho pd sf df jf qf nw ns nd ni no t g) (hd : d < nd) : ∃ df' jf' nw', mX0_placeCash (nI nd) (nI ni) df jf (nI d) = some (df', jf') ∧ mX6_places nw (nI d) = some nw' ∧ RR ho pd sf df' jf' qf nw' ns nd ni no t g := by
  obtain ⟨a, b, c, e1, e2, e3, -⟩ := h.place2 hd
  exact ⟨a, b, c, e1, e2, e3⟩
end Place
