/-! PURE: folds over the tables, and what is read -/
/-- from place i on, m places -/
def fo (g : Nat → Int32 → Int32) : Nat → Int32 → Nat → Int32
  | 0, x, _ => x
  | m + 1, x, i => fo g m (g i x) (i + 1)
theorem fo_congr {g h : Nat → Int32 → Int32} : ∀ (m i : Nat) (x : Int32), (∀ j, i ≤ j → j < i + m → ∀ y, g j y = h j y) → fo g m x i = fo h m x i
  | 0, _, _, _ => rfl
  | m + 1, i, x, e => by
    show fo g m (g i x) (i + 1) = fo h m (h i x) (i + 1)
    rw [e i (Nat.le_refl i) (by omega)]
    exact fo_congr m (i + 1) _ (fun j h1 h2 => e j (by omega) (by omega))
theorem fo_id {g : Nat → Int32 → Int32} : ∀ (m i : Nat) (x : Int32), (∀ j, i ≤ j → j < i + m → ∀ y, g j y = y) → fo g m x i = x
  | 0, _, _, _ => rfl
  | m + 1, i, x, e => by
    show fo g m (g i x) (i + 1) = x
    rw [e i (Nat.le_refl i) (by omega)]
    exact fo_id m (i + 1) x (fun j h1 h2 => e j (by omega) (by omega))
theorem fo_app {g : Nat → Int32 → Int32} : ∀ (m p i : Nat) (x : Int32), fo g (m + p) x i = fo g p (fo g m x i) (i + m)
  | 0, p, i, x => by rw [Nat.zero_add]; rfl
  | m + 1, p, i, x => by
    rw [show m + 1 + p = (m + p) + 1 by omega]
    show fo g (m + p) (g i x) (i + 1) = fo g p (fo g m (g i x) (i + 1)) (i + (m + 1))
    rw [fo_app m p (i + 1) (g i x), show i + 1 + m = i + (m + 1) by omega]
/-- places behind the first n that change nothing -/
theorem fo_more {g h : Nat → Int32 → Int32} {n n' : Nat} {x : Int32} (hn : n ≤ n') (h1 : ∀ j, j < n → ∀ y, g j y = h j y) (h2 : ∀ j, n ≤ j → j < n' → ∀ y, h j y = y) : fo g n x 0 = fo h n' x 0 := by
  obtain ⟨p, rfl⟩ := Nat.exists_eq_add_of_le hn
  rw [fo_app n p 0 x, fo_congr n 0 x (fun j _ h => h1 j (by omega))]
  exact (fo_id p (0 + n) _ (fun j a b => h2 j (by omega) (by omega))).symm
/-- a claim, in a row that begins at b -/
def CL (f : Nat → Int32) (b : Nat) (d : Int32) : Bool := decide (f (b + 0) = d) && (!decide (f (b + 2) ≤ 0) && decide (f (b + 5) = 0))
theorem cl_ite {α : Type} {f : Nat → Int32} {b : Nat} {d : Int32} {X Y : α} : (if f (b + 0) = d then (if f (b + 2) ≤ 0 then Y else (if f (b + 5) = 0 then X else Y)) else Y) = if CL f b d = true then X else Y := by
  unfold CL
  by_cases h1 : f (b + 0) = d
  · by_cases h2 : f (b + 2) ≤ 0
    · simp [h1, h2]
    · by_cases h3 : f (b + 5) = 0
      · simp [h1, h2, h3]
      · simp [h1, h2, h3]
  · rw [if_neg h1, decide_eq_false h1]; rfl
theorem cl0 {α : Type} {c : Bool} {X Y : α} : (if (if c = true then (1 : Int32) else (0 : Int32)) = 0 then X else Y) = if c = true then Y else X := by
  cases c <;> rfl
theorem claim_c {n i : Nat} {jf : Nat → Int32} {d : Int32} (hi : i < n) (hn : n ≤ 60) : mX0_isClaim (nI n) jf (nI i) d = some (if CL jf (i * 7) d = true then (1 : Int32) else (0 : Int32)) := by
  unfold mX0_isClaim
  rw [gJ0 hi hn, b1_some, gJ2 hi hn, gJ5 hi hn]
  simp only [b1_some]
  rw [cl_ite (f := jf) (b := i * 7) (d := d) (X := some (1 : Int32)) (Y := some (0 : Int32))]
  split <;> rfl
theorem claim_r {nw : Nat → Int32} {i : Nat} {d : Int32} (hi : i < 60) : mX6_counts nw (nI i) d = some (if CL nw (205 + 7 * i) d = true then (1 : Int32) else (0 : Int32)) := by
  unfold mX6_counts
  rw [bi0 hi, b1_some, bi2 hi, bi5 hi]
  simp only [b1_some]
  rw [cl_ite (f := nw) (b := 205 + 7 * i) (d := d) (X := some (1 : Int32)) (Y := some (0 : Int32))]
  split <;> rfl

theorem owes_cL {jf : Nat → Int32} {d : Int32} {n : Nat} (hn : n ≤ 60)  : ∀ (k i : Nat) (x : Int32), n < k + i → i ≤ n → mX0_owes_L4 k (nI n) jf d x (nI i) = some (fo (fun i y => if jf (i * 7 + 0) = d then y + jf (i * 7 + 2) else y) (n - i) x i) := by
  intro k
  induction k with
  | zero => intro i x h1 h2; omega
  | succ k ih =>
    intro i x h1 h2
    rw [mX0_owes_L4.eq_2, size_eq, b1_some]
    by_cases h : i = n
    · subst h
      rw [if_pos (nI_le (Nat.le_refl _) (by omega)), Nat.sub_self]; rfl
    · have hi : i < n := by omega
      have hi9 : i < 60 := by omega
      have ih' : ∀ x, mX0_owes_L4 k (nI n) jf d x (nI i + 1) = some (fo (fun i y => if jf (i * 7 + 0) = d then y + jf (i * 7 + 2) else y) (n - (i + 1)) x (i + 1)) := fun x => by
        rw [nI_1]; exact ih (i + 1) x (by omega) (by omega)
      rw [if_neg (nI_ge hi (by omega)), show n - i = (n - (i + 1)) + 1 by omega]
      simp only [fo, gJ0 hi hn, gJ2 hi hn, b1_some, cl0, ih']
      repeat' (first | rfl | split)
theorem owes_rL {nw : Nat → Int32} {d : Int32} {n : Nat} (hn : n ≤ 60) (h4 : nw 4 = nI n) : ∀ (k i : Nat) (x : Int32), n < k + i → i ≤ n → mX6_owes_L4 k nw d x (nI i) = some (fo (fun i y => if nw (205 + 7 * i + 0) = d then y + nw (205 + 7 * i + 2) else y) (n - i) x i) := by
  intro k
  induction k with
  | zero => intro i x h1 h2; omega
  | succ k ih =>
    intro i x h1 h2
    rw [mX6_owes_L4.eq_2, h4]
    by_cases h : i = n
    · subst h
      rw [if_pos (nI_le (Nat.le_refl _) (by omega)), Nat.sub_self]; rfl
    · have hi : i < n := by omega
      have hi9 : i < 60 := by omega
      have ih' : ∀ x, mX6_owes_L4 k nw d x (nI i + 1) = some (fo (fun i y => if nw (205 + 7 * i + 0) = d then y + nw (205 + 7 * i + 2) else y) (n - (i + 1)) x (i + 1)) := fun x => by
        rw [nI_1]; exact ih (i + 1) x (by omega) (by omega)
      rw [if_neg (nI_ge hi (by omega)), show n - i = (n - (i + 1)) + 1 by omega]
      simp only [fo, bi0 hi9, bi2 hi9, b1_some, cl0, ih']
      repeat' (first | rfl | split)
theorem debt_cL {jf : Nat → Int32} {d : Int32} {n : Nat} (hn : n ≤ 60)  : ∀ (k i : Nat) (x : Int32), n < k + i → i ≤ n → mX0_debt_L4 k (nI n) jf d x (nI i) = some (fo (fun i y => if CL jf (i * 7) d = true then y + jf (i * 7 + 2) else y) (n - i) x i) := by
  intro k
  induction k with
  | zero => intro i x h1 h2; omega
  | succ k ih =>
    intro i x h1 h2
    rw [mX0_debt_L4.eq_2, size_eq, b1_some]
    by_cases h : i = n
    · subst h
      rw [if_pos (nI_le (Nat.le_refl _) (by omega)), Nat.sub_self]; rfl
    · have hi : i < n := by omega
      have hi9 : i < 60 := by omega
      have ih' : ∀ x, mX0_debt_L4 k (nI n) jf d x (nI i + 1) = some (fo (fun i y => if CL jf (i * 7) d = true then y + jf (i * 7 + 2) else y) (n - (i + 1)) x (i + 1)) := fun x => by
        rw [nI_1]; exact ih (i + 1) x (by omega) (by omega)
      rw [if_neg (nI_ge hi (by omega)), show n - i = (n - (i + 1)) + 1 by omega]
      simp only [fo, claim_c hi hn, gJ2 hi hn, b1_some, cl0, ih']
      repeat' (first | rfl | split)
theorem debt_rL {nw : Nat → Int32} {d : Int32} {n : Nat} (hn : n ≤ 60) (h4 : nw 4 = nI n) : ∀ (k i : Nat) (x : Int32), n < k + i → i ≤ n → mX6_debt_L4 k nw d x (nI i) = some (fo (fun i y => if CL nw (205 + 7 * i) d = true then y + nw (205 + 7 * i + 2) else y) (n - i) x i) := by
  intro k
  induction k with
  | zero => intro i x h1 h2; omega
  | succ k ih =>
    intro i x h1 h2
    rw [mX6_debt_L4.eq_2, h4]
    by_cases h : i = n
    · subst h
      rw [if_pos (nI_le (Nat.le_refl _) (by omega)), Nat.sub_self]; rfl
    · have hi : i < n := by omega
      have hi9 : i < 60 := by omega
      have ih' : ∀ x, mX6_debt_L4 k nw d x (nI i + 1) = some (fo (fun i y => if CL nw (205 + 7 * i) d = true then y + nw (205 + 7 * i + 2) else y) (n - (i + 1)) x (i + 1)) := fun x => by
        rw [nI_1]; exact ih (i + 1) x (by omega) (by omega)
      rw [if_neg (nI_ge hi (by omega)), show n - i = (n - (i + 1)) + 1 by omega]
      simp only [fo, claim_r hi9, bi2 hi9, b1_some, cl0, ih']
      repeat' (first | rfl | split)
theorem age_cL {jf : Nat → Int32} {d : Int32} {n : Nat} (hn : n ≤ 60)  : ∀ (k i : Nat) (x : Int32), n < k + i → i ≤ n → mX0_greatestAge_L4 k (nI n) jf d x (nI i) = some (fo (fun i y => if CL jf (i * 7) d = true then mxI y (jf (i * 7 + 4)) else y) (n - i) x i) := by
  intro k
  induction k with
  | zero => intro i x h1 h2; omega
  | succ k ih =>
    intro i x h1 h2
    rw [mX0_greatestAge_L4.eq_2, size_eq, b1_some]
    by_cases h : i = n
    · subst h
      rw [if_pos (nI_le (Nat.le_refl _) (by omega)), Nat.sub_self]; rfl
    · have hi : i < n := by omega
      have hi9 : i < 60 := by omega
      have ih' : ∀ x, mX0_greatestAge_L4 k (nI n) jf d x (nI i + 1) = some (fo (fun i y => if CL jf (i * 7) d = true then mxI y (jf (i * 7 + 4)) else y) (n - (i + 1)) x (i + 1)) := fun x => by
        rw [nI_1]; exact ih (i + 1) x (by omega) (by omega)
      rw [if_neg (nI_ge hi (by omega)), show n - i = (n - (i + 1)) + 1 by omega]
      simp only [fo, claim_c hi hn, gJ4 hi hn, b1_some, cl0, ih']
      repeat' (first | rfl | split)
theorem mx_ite {α : Type} {x v : Int32} {F : Int32 → α} : (if v ≤ x then F x else F v) = F (mxI x v) := by
  by_cases h : x < v
  · rw [if_neg (Int32.not_le.mpr h), show mxI x v = v from if_pos h]
  · rw [if_pos (Int32.not_lt.mp h), show mxI x v = x from if_neg h]
theorem age_rL {nw : Nat → Int32} {d : Int32} {n : Nat} (hn : n ≤ 60) (h4 : nw 4 = nI n) : ∀ (k i : Nat) (x : Int32), n < k + i → i ≤ n → mX6_eldest_L4 k nw d x (nI i) = some (fo (fun i y => if CL nw (205 + 7 * i) d = true then mxI y (nw (205 + 7 * i + 4)) else y) (n - i) x i) := by
  intro k
  induction k with
  | zero => intro i x h1 h2; omega
  | succ k ih =>
    intro i x h1 h2
    rw [mX6_eldest_L4.eq_2, h4]
    by_cases h : i = n
    · subst h
      rw [if_pos (nI_le (Nat.le_refl _) (by omega)), Nat.sub_self]; rfl
    · have hi : i < n := by omega
      have hi9 : i < 60 := by omega
      have ih' : ∀ x, mX6_eldest_L4 k nw d x (nI i + 1) = some (fo (fun i y => if CL nw (205 + 7 * i) d = true then mxI y (nw (205 + 7 * i + 4)) else y) (n - (i + 1)) x (i + 1)) := fun x => by
        rw [nI_1]; exact ih (i + 1) x (by omega) (by omega)
      rw [if_neg (nI_ge hi (by omega)), show n - i = (n - (i + 1)) + 1 by omega]
      simp only [fo, claim_r hi9, bi4 hi9, mx_ite (F := fun z => some (fo (fun i y => if CL nw (205 + 7 * i) d = true then mxI y (nw (205 + 7 * i + 4)) else y) (n - (i + 1)) z (i + 1))), b1_some, cl0, ih']
      repeat' (first | rfl | split)
theorem risk_cL {dr ir : Int32} {df jf qf : Nat → Int32} {d : Int32} {n : Nat} (hn : n ≤ 40)  : ∀ (k i : Nat) (x : Int32), n < k + i → i ≤ n → mX0_risk_L18 k dr ir (nI n) df jf qf d x (nI i) = some (fo (fun i y => if qf (i * 4 + 0) = d then (if qf (i * 4 + 2) = 1 then y + qf (i * 4 + 1) else y) else y) (n - i) x i) := by
  intro k
  induction k with
  | zero => intro i x h1 h2; omega
  | succ k ih =>
    intro i x h1 h2
    rw [mX0_risk_L18.eq_2, size_eq, b1_some]
    by_cases h : i = n
    · subst h
      rw [if_pos (nI_le (Nat.le_refl _) (by omega)), Nat.sub_self]; rfl
    · have hi : i < n := by omega
      have hi9 : i < 40 := by omega
      have ih' : ∀ x, mX0_risk_L18 k dr ir (nI n) df jf qf d x (nI i + 1) = some (fo (fun i y => if qf (i * 4 + 0) = d then (if qf (i * 4 + 2) = 1 then y + qf (i * 4 + 1) else y) else y) (n - (i + 1)) x (i + 1)) := fun x => by
        rw [nI_1]; exact ih (i + 1) x (by omega) (by omega)
      rw [if_neg (nI_ge hi (by omega)), show n - i = (n - (i + 1)) + 1 by omega]
      simp only [fo, gQ0 hi hn, gQ1 hi hn, gQ2 hi hn, b1_some, cl0, ih']
      repeat' (first | rfl | split)
theorem risk_rL {nw : Nat → Int32} {d : Int32} {n : Nat} (hn : n ≤ 40) (h4 : nw 5 = nI n) : ∀ (k i : Nat) (x : Int32), n < k + i → i ≤ n → mX6_risk_L15 k nw d x (nI i) = some (fo (fun i y => if nw (625 + 4 * i + 0) = d then (if nw (625 + 4 * i + 2) = 1 then y + nw (625 + 4 * i + 1) else y) else y) (n - i) x i) := by
  intro k
  induction k with
  | zero => intro i x h1 h2; omega
  | succ k ih =>
    intro i x h1 h2
    rw [mX6_risk_L15.eq_2, h4]
    by_cases h : i = n
    · subst h
      rw [if_pos (nI_le (Nat.le_refl _) (by omega)), Nat.sub_self]; rfl
    · have hi : i < n := by omega
      have hi9 : i < 40 := by omega
      have ih' : ∀ x, mX6_risk_L15 k nw d x (nI i + 1) = some (fo (fun i y => if nw (625 + 4 * i + 0) = d then (if nw (625 + 4 * i + 2) = 1 then y + nw (625 + 4 * i + 1) else y) else y) (n - (i + 1)) x (i + 1)) := fun x => by
        rw [nI_1]; exact ih (i + 1) x (by omega) (by omega)
      rw [if_neg (nI_ge hi (by omega)), show n - i = (n - (i + 1)) + 1 by omega]
      simp only [fo, or0 hi9, or1 hi9, or2 hi9, b1_some, cl0, ih']
      repeat' (first | rfl | split)
theorem wait_cL {qf : Nat → Int32} {n : Nat} (hn : n ≤ 40)  : ∀ (k i : Nat) (x : Int32), n < k + i → i ≤ n → mX0_waiting_L4 k (nI n) qf x (nI i) = some (fo (fun i y => if qf (i * 4 + 2) = 0 then y + 1 else y) (n - i) x i) := by
  intro k
  induction k with
  | zero => intro i x h1 h2; omega
  | succ k ih =>
    intro i x h1 h2
    rw [mX0_waiting_L4.eq_2, size_eq, b1_some]
    by_cases h : i = n
    · subst h
      rw [if_pos (nI_le (Nat.le_refl _) (by omega)), Nat.sub_self]; rfl
    · have hi : i < n := by omega
      have hi9 : i < 40 := by omega
      have ih' : ∀ x, mX0_waiting_L4 k (nI n) qf x (nI i + 1) = some (fo (fun i y => if qf (i * 4 + 2) = 0 then y + 1 else y) (n - (i + 1)) x (i + 1)) := fun x => by
        rw [nI_1]; exact ih (i + 1) x (by omega) (by omega)
      rw [if_neg (nI_ge hi (by omega)), show n - i = (n - (i + 1)) + 1 by omega]
      simp only [fo, gQ2 hi hn, b1_some, cl0, ih']
      repeat' (first | rfl | split)
theorem wait_rL {nw : Nat → Int32} {n : Nat} (hn : n ≤ 40) (h4 : nw 5 = nI n) : ∀ (k i : Nat) (x : Int32), n < k + i → i ≤ n → mX6_waiting_L4 k nw x (nI i) = some (fo (fun i y => if nw (625 + 4 * i + 2) = 0 then y + 1 else y) (n - i) x i) := by
  intro k
  induction k with
  | zero => intro i x h1 h2; omega
  | succ k ih =>
    intro i x h1 h2
    rw [mX6_waiting_L4.eq_2, h4]
    by_cases h : i = n
    · subst h
      rw [if_pos (nI_le (Nat.le_refl _) (by omega)), Nat.sub_self]; rfl
    · have hi : i < n := by omega
      have hi9 : i < 40 := by omega
      have ih' : ∀ x, mX6_waiting_L4 k nw x (nI i + 1) = some (fo (fun i y => if nw (625 + 4 * i + 2) = 0 then y + 1 else y) (n - (i + 1)) x (i + 1)) := fun x => by
        rw [nI_1]; exact ih (i + 1) x (by omega) (by omega)
      rw [if_neg (nI_ge hi (by omega)), show n - i = (n - (i + 1)) + 1 by omega]
      simp only [fo, or2 hi9, b1_some, cl0, ih']
      repeat' (first | rfl | split)
theorem cash_cL {df : Nat → Int32} {n : Nat} (hn : n ≤ 6)  : ∀ (k i : Nat) (x : Int32), n < k + i → i ≤ n → mX0_cashOfAll_L4 k (nI n) df x (nI i) = some (fo (fun i y => y + df (i * 13 + 2)) (n - i) x i) := by
  intro k
  induction k with
  | zero => intro i x h1 h2; omega
  | succ k ih =>
    intro i x h1 h2
    rw [mX0_cashOfAll_L4.eq_2, size_eq, b1_some]
    by_cases h : i = n
    · subst h
      rw [if_pos (nI_le (Nat.le_refl _) (by omega)), Nat.sub_self]; rfl
    · have hi : i < n := by omega
      have hi9 : i < 6 := by omega
      have ih' : ∀ x, mX0_cashOfAll_L4 k (nI n) df x (nI i + 1) = some (fo (fun i y => y + df (i * 13 + 2)) (n - (i + 1)) x (i + 1)) := fun x => by
        rw [nI_1]; exact ih (i + 1) x (by omega) (by omega)
      rw [if_neg (nI_ge hi (by omega)), show n - i = (n - (i + 1)) + 1 by omega]
      simp only [fo, gD2 hi hn, b1_some, cl0, ih']
      repeat' (first | rfl | split)
theorem cash_rL {nw : Nat → Int32} {n : Nat} (hn : n ≤ 6) (h4 : nw 3 = nI n) : ∀ (k i : Nat) (x : Int32), n < k + i → i ≤ n → mX6_cash_L4 k nw x (nI i) = some (fo (fun i y => y + nw (25 + 30 * i + 2)) (n - i) x i) := by
  intro k
  induction k with
  | zero => intro i x h1 h2; omega
  | succ k ih =>
    intro i x h1 h2
    rw [mX6_cash_L4.eq_2, h4]
    by_cases h : i = n
    · subst h
      rw [if_pos (nI_le (Nat.le_refl _) (by omega)), Nat.sub_self]; rfl
    · have hi : i < n := by omega
      have hi9 : i < 6 := by omega
      have ih' : ∀ x, mX6_cash_L4 k nw x (nI i + 1) = some (fo (fun i y => y + nw (25 + 30 * i + 2)) (n - (i + 1)) x (i + 1)) := fun x => by
        rw [nI_1]; exact ih (i + 1) x (by omega) (by omega)
      rw [if_neg (nI_ge hi (by omega)), show n - i = (n - (i + 1)) + 1 by omega]
      simp only [fo, it2 hi9, b1_some, cl0, ih']
      repeat' (first | rfl | split)
theorem all_cL {jf : Nat → Int32} {n : Nat} (hn : n ≤ 60)  : ∀ (k i : Nat) (x : Int32), n < k + i → i ≤ n → mX0_owedByAll_L4 k (nI n) jf x (nI i) = some (fo (fun i y => y + jf (i * 7 + 2)) (n - i) x i) := by
  intro k
  induction k with
  | zero => intro i x h1 h2; omega
  | succ k ih =>
    intro i x h1 h2
    rw [mX0_owedByAll_L4.eq_2, size_eq, b1_some]
    by_cases h : i = n
    · subst h
      rw [if_pos (nI_le (Nat.le_refl _) (by omega)), Nat.sub_self]; rfl
    · have hi : i < n := by omega
      have hi9 : i < 60 := by omega
      have ih' : ∀ x, mX0_owedByAll_L4 k (nI n) jf x (nI i + 1) = some (fo (fun i y => y + jf (i * 7 + 2)) (n - (i + 1)) x (i + 1)) := fun x => by
        rw [nI_1]; exact ih (i + 1) x (by omega) (by omega)
      rw [if_neg (nI_ge hi (by omega)), show n - i = (n - (i + 1)) + 1 by omega]
      simp only [fo, gJ2 hi hn, b1_some, cl0, ih']
      repeat' (first | rfl | split)
theorem owes_c {jf : Nat → Int32} {d : Int32} {n : Nat} (hn : n ≤ 60) : mX0_owes (nI n) jf d = some (fo (fun i y => if jf (i * 7 + 0) = d then y + jf (i * 7 + 2) else y) n 0 0) := by
  unfold mX0_owes
  exact owes_cL hn FU 0 0 (by unfold FU; omega) (Nat.zero_le _)
theorem owes_r {nw : Nat → Int32} {d : Int32} {n : Nat} (hn : n ≤ 60) (h4 : nw 4 = nI n) : mX6_owes nw d = some (fo (fun i y => if nw (205 + 7 * i + 0) = d then y + nw (205 + 7 * i + 2) else y) n 0 0) := by
  unfold mX6_owes
  exact owes_rL hn h4 FU 0 0 (by unfold FU; omega) (Nat.zero_le _)
theorem debt_c {jf : Nat → Int32} {d : Int32} {n : Nat} (hn : n ≤ 60) : mX0_debt (nI n) jf d = some (fo (fun i y => if CL jf (i * 7) d = true then y + jf (i * 7 + 2) else y) n 0 0) := by
  unfold mX0_debt
  exact debt_cL hn FU 0 0 (by unfold FU; omega) (Nat.zero_le _)
theorem debt_r {nw : Nat → Int32} {d : Int32} {n : Nat} (hn : n ≤ 60) (h4 : nw 4 = nI n) : mX6_debt nw d = some (fo (fun i y => if CL nw (205 + 7 * i) d = true then y + nw (205 + 7 * i + 2) else y) n 0 0) := by
  unfold mX6_debt
  exact debt_rL hn h4 FU 0 0 (by unfold FU; omega) (Nat.zero_le _)
theorem age_c {jf : Nat → Int32} {d : Int32} {n : Nat} (hn : n ≤ 60) : mX0_greatestAge (nI n) jf d = some (fo (fun i y => if CL jf (i * 7) d = true then mxI y (jf (i * 7 + 4)) else y) n 0 0) := by
  unfold mX0_greatestAge
  exact age_cL hn FU 0 0 (by unfold FU; omega) (Nat.zero_le _)
theorem age_r {nw : Nat → Int32} {d : Int32} {n : Nat} (hn : n ≤ 60) (h4 : nw 4 = nI n) : mX6_eldest nw d = some (fo (fun i y => if CL nw (205 + 7 * i) d = true then mxI y (nw (205 + 7 * i + 4)) else y) n 0 0) := by
  unfold mX6_eldest
  exact age_rL hn h4 FU 0 0 (by unfold FU; omega) (Nat.zero_le _)
theorem wait_c {qf : Nat → Int32} {n : Nat} (hn : n ≤ 40) : mX0_waiting (nI n) qf = some (fo (fun i y => if qf (i * 4 + 2) = 0 then y + 1 else y) n 0 0) := by
  unfold mX0_waiting
  exact wait_cL hn FU 0 0 (by unfold FU; omega) (Nat.zero_le _)
theorem wait_r {nw : Nat → Int32} {n : Nat} (hn : n ≤ 40) (h4 : nw 5 = nI n) : mX6_waiting nw = some (fo (fun i y => if nw (625 + 4 * i + 2) = 0 then y + 1 else y) n 0 0) := by
  unfold mX6_waiting
  exact wait_rL hn h4 FU 0 0 (by unfold FU; omega) (Nat.zero_le _)
theorem cash_c {df : Nat → Int32} {n : Nat} (hn : n ≤ 6) : mX0_cashOfAll (nI n) df = some (fo (fun i y => y + df (i * 13 + 2)) n 0 0) := by
  unfold mX0_cashOfAll
  exact cash_cL hn FU 0 0 (by unfold FU; omega) (Nat.zero_le _)
theorem cash_r {nw : Nat → Int32} {n : Nat} (hn : n ≤ 6) (h4 : nw 3 = nI n) : mX6_cash nw = some (fo (fun i y => y + nw (25 + 30 * i + 2)) n 0 0) := by
  unfold mX6_cash
  exact cash_rL hn h4 FU 0 0 (by unfold FU; omega) (Nat.zero_le _)
theorem all_c {jf : Nat → Int32} {n : Nat} (hn : n ≤ 60) : mX0_owedByAll (nI n) jf = some (fo (fun i y => y + jf (i * 7 + 2)) n 0 0) := by
  unfold mX0_owedByAll
  exact all_cL hn FU 0 0 (by unfold FU; omega) (Nat.zero_le _)
/-! THE RELATION of the two states -/
def rH (ho pd : Int32) (nw : Nat → Int32) (ns nd ni no t : Nat) : Prop := nw 0 = nI t ∧ nw 1 = ho ∧ nw 2 = nI ns ∧ nw 3 = nI nd ∧ nw 4 = nI ni ∧ nw 5 = nI no ∧ nw 6 = pd ∧ ns ≤ 6 ∧ nd ≤ 6 ∧ ni ≤ 60 ∧ no ≤ 40 ∧ t ≤ 1299
def rS (sf nw : Nat → Int32) (ns : Nat) : Prop := ∀ i, i < ns → ∀ k, k < 3 → sf (i * 3 + k) = nw (7 + 3 * i + k)
def rJ (jf nw : Nat → Int32) (nd ni t : Nat) : Prop := ∀ i, i < ni → (∀ k, k < 7 → jf (i * 7 + k) = nw (205 + 7 * i + k)) ∧ (∃ d, d < nd ∧ nw (205 + 7 * i + 0) = nI d) ∧ 0 ≤ nw (205 + 7 * i + 2) ∧ (∃ a, a ≤ t ∧ nw (205 + 7 * i + 4) = nI a) ∧ (nw (205 + 7 * i + 5) = 0 ∨ nw (205 + 7 * i + 5) = 1)
def rQ (qf nw : Nat → Int32) (nd no : Nat) : Prop := ∀ i, i < no → (∀ k, k < 4 → qf (i * 4 + k) = nw (625 + 4 * i + k)) ∧ (∃ d, d < nd ∧ nw (625 + 4 * i + 0) = nI d) ∧ 0 ≤ nw (625 + 4 * i + 1)
/-- one debtor: the class's row at c, the other's at r -/
def rD1 (df nw : Nat → Int32) (c r ns : Nat) : Prop := df (c + 0) = nw (r + 0) ∧ df (c + 1) = nw (r + 1) ∧ df (c + 2) = nw (r + 2) ∧ df (c + 3) = nw (r + 3) ∧ df (c + 4) = nw (r + 4) ∧ df (c + 5) = nw (r + 8) ∧ df (c + 6) = nw (r + 5) ∧ df (c + 8) = nw (r + 9)
  ∧ (∃ st, st ≤ ns ∧ nw (r + 3) = nI st) ∧ 0 ≤ nw (r + 5) ∧ (nw (r + 5) = 0 ∨ nw (r + 9) = 0)
  ∧ (nw (r + 5) ≠ 0 → df (c + 7) = nw (r + 6) ∧ df (c + 12) = nw (r + 7))
  ∧ ∃ n, n ≤ 12 ∧ nw (r + 9) = nI n ∧ (n ≠ 0 → df (c + 10) = nw (r + 10) ∧ df (c + 11) = nw (r + 11) ∧ df (c + 12) = nw (r + 12) ∧ 0 ≤ df (c + 9) ∧ ∀ k, k < n → nw (r + (13 + k)) = df (c + 9) / nI n + (if nI k < df (c + 9) - df (c + 9) / nI n * nI n then 1 else 0))
def rD (df nw : Nat → Int32) (ns nd : Nat) : Prop := ∀ i, i < nd → rD1 df nw (i * 13) (25 + 30 * i) ns
def RR (ho pd : Int32) (sf df jf qf nw : Nat → Int32) (ns nd ni no t g : Nat) : Prop := rH ho pd nw ns nd ni no t ∧ rS sf nw ns ∧ rD df nw ns nd ∧ rJ jf nw nd ni g ∧ rQ qf nw nd no

