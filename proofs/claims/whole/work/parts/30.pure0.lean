/-! PURE: numbers, tables -/
theorem b1_some {α ρ : Type} {a : α} {f : α → Option ρ} : b1 (some a) f = f a := rfl
theorem b2_some {α β ρ : Type} {a : α} {b : β} {f : α → β → Option ρ} : b2 (some (a, b)) f = f a b := rfl
theorem b3_some {α β γ ρ : Type} {a : α} {b : β} {c : γ} {f : α → β → γ → Option ρ} : b3 (some (a, b, c)) f = f a b c := rfl
theorem b4_some {α β γ δ ρ : Type} {a : α} {b : β} {c : γ} {d : δ} {f : α → β → γ → δ → Option ρ} : b4 (some (a, b, c, d)) f = f a b c d := rfl
theorem b5_some {α β γ δ ε ρ : Type} {a : α} {b : β} {c : γ} {d : δ} {e : ε} {f : α → β → γ → δ → ε → Option ρ} : b5 (some (a, b, c, d, e)) f = f a b c d e := rfl
theorem ck_true {α : Type} {x : Option α} : ck true x = x := rfl
theorem FU_s : FU = 7999 + 1 := rfl
theorem inr_nI {a n : Nat} (h : a < n) (hn : n < 2 ^ 31) : inr (nI a) n = true := by
  unfold inr
  rw [Bool.and_eq_true]
  exact ⟨decide_eq_true (nI_pos' (by omega)), decide_eq_true (by rw [nI_clamp (by omega)]; exact h)⟩
theorem nI_lin (a b c i : Nat) : (nI a + nI b * nI i) + nI c = nI (a + b * i + c) := by rw [pk_mul, nI_add, nI_add]
theorem nI_lin2 (a b i : Nat) : nI a + nI b * nI i = nI (a + b * i) := by rw [pk_mul, nI_add]
theorem upd_s {f : Nat → Int32} {k : Nat} {x : Int32} : upd f k x k = x := if_pos rfl
theorem upd_n {f : Nat → Int32} {k j : Nat} {x : Int32} (h : j ≠ k) : upd f k x j = f j := if_neg h
/-! the reference's row -/
theorem its_eq {nw : Nat → Int32} {d w : Nat} (hd : d < 6) (hw : w < 30) : mX6_its nw (nI d) (nI w) = some (nw (25 + 30 * d + w)) := by
  unfold mX6_its
  show ck (inr (nI 25 + nI 30 * nI d + nI w) 785) (some (nw (nI 25 + nI 30 * nI d + nI w).toNatClampNeg)) = _
  rw [nI_lin, inr_nI (by omega) (by decide), ck_true, nI_clamp (by omega)]
theorem puts_eq {nw : Nat → Int32} {d w : Nat} {v : Int32} (hd : d < 6) (hw : w < 30) : mX6_puts nw (nI d) (nI w) v = some (upd nw (25 + 30 * d + w) v) := by
  unfold mX6_puts
  show ck (inr (nI 25 + nI 30 * nI d + nI w) 785) (some (upd nw (nI 25 + nI 30 * nI d + nI w).toNatClampNeg v)) = _
  rw [nI_lin, inr_nI (by omega) (by decide), ck_true, nI_clamp (by omega)]
theorem billed_eq {nw : Nat → Int32} {i w : Nat} (hi : i < 60) (hw : w < 7) : mX6_billed nw (nI i) (nI w) = some (nw (205 + 7 * i + w)) := by
  unfold mX6_billed
  show ck (inr (nI 205 + nI 7 * nI i + nI w) 785) (some (nw (nI 205 + nI 7 * nI i + nI w).toNatClampNeg)) = _
  rw [nI_lin, inr_nI (by omega) (by decide), ck_true, nI_clamp (by omega)]
theorem ordered_eq {nw : Nat → Int32} {o w : Nat} (ho : o < 40) (hw : w < 4) : mX6_ordered nw (nI o) (nI w) = some (nw (625 + 4 * o + w)) := by
  unfold mX6_ordered
  show ck (inr (nI 625 + nI 4 * nI o + nI w) 785) (some (nw (nI 625 + nI 4 * nI o + nI w).toNatClampNeg)) = _
  rw [nI_lin, inr_nI (by omega) (by decide), ck_true, nI_clamp (by omega)]
theorem today_eq {nw : Nat → Int32} : mX6_today nw = some (nw 0) := rfl
/-! the class's tables -/
theorem size_eq {r : Int32} : mX3_size r = some r := rfl
theorem has_in {n i : Nat} (h : i < n) (hn : n < 2 ^ 31) : mX3_has (nI n) (nI i) = some 1 := by
  unfold mX3_has
  rw [if_neg (nI_pos (by omega)), if_neg (nI_ge h hn)]
theorem has_out {n : Nat} {x : Int32} (hn : n < 2 ^ 31) (h : x < 0 ∨ nI n ≤ x) : mX3_has (nI n) x = some 0 := by
  unfold mX3_has
  rcases h with h | h
  · rw [if_pos h]
  · by_cases h0 : x < 0
    · rw [if_pos h0]
    · rw [if_neg h0, if_pos h]
theorem get_in {w n r i c : Nat} {f : Nat → Int32} (hc : c < w) (hi : i < r) (hn : r * w ≤ n) (hb : n < 2 ^ 31) : mX3_get (nI w) n (nI r) f (nI i) (nI c) = some (f (i * w + c)) := by
  have h1 : i * w + c < n := by
    have h2 : (i + 1) * w ≤ r * w := Nat.mul_le_mul_right w hi
    rw [Nat.succ_mul] at h2
    omega
  have hr : r * w < 2 ^ 31 := by omega
  have hw0 : 0 < w := by omega
  have hr2 : r ≤ r * w := Nat.le_mul_of_pos_right r hw0
  have hw2 : w ≤ r * w := Nat.le_mul_of_pos_left w (by omega)
  unfold mX3_get
  rw [if_neg (nI_pos (by omega)), if_neg (nI_ge hi (by omega)), if_neg (nI_pos (by omega)), if_pos (nI_lt hc (by omega)), pk_mul, nI_add, if_neg (nI_pos (by omega)), if_neg (show ¬ Int32.ofNat n ≤ nI (i * w + c) from nI_ge h1 hb), inr_nI h1 hb, ck_true, nI_clamp (by omega)]
theorem get_row {w n r : Nat} {x c : Int32} {f : Nat → Int32} (hr : r < 2 ^ 31) (h : x < 0 ∨ nI r ≤ x) : mX3_get (nI w) n (nI r) f x c = some (-1) := by
  unfold mX3_get
  rcases h with h | h
  · rw [if_pos h]
  · by_cases h0 : x < 0
    · rw [if_pos h0]
    · rw [if_neg h0, if_pos h]
theorem get_col {w n r i : Nat} {c : Int32} {f : Nat → Int32} (hi : i < r) (hr : r < 2 ^ 31) (h : c < 0 ∨ ¬ c < nI w) : mX3_get (nI w) n (nI r) f (nI i) c = some (-1) := by
  unfold mX3_get
  rw [if_neg (nI_pos (by omega)), if_neg (nI_ge hi hr)]
  rcases h with h | h
  · rw [if_pos h]
  · by_cases h0 : c < 0
    · rw [if_pos h0]
    · rw [if_neg h0, if_neg h]
theorem set_in {w n r i c : Nat} {f : Nat → Int32} {v : Int32} (hc : c < w) (hi : i < r) (hn : r * w ≤ n) (hb : n < 2 ^ 31) : mX3_set (nI w) n (nI r) f (nI i) (nI c) v = some (upd f (i * w + c) v) := by
  have h1 : i * w + c < n := by
    have h2 : (i + 1) * w ≤ r * w := Nat.mul_le_mul_right w hi
    rw [Nat.succ_mul] at h2
    omega
  have hr : r * w < 2 ^ 31 := by omega
  have hw0 : 0 < w := by omega
  have hr2 : r ≤ r * w := Nat.le_mul_of_pos_right r hw0
  have hw2 : w ≤ r * w := Nat.le_mul_of_pos_left w (by omega)
  unfold mX3_set
  rw [if_neg (nI_pos (by omega)), if_neg (nI_ge hi (by omega)), if_neg (nI_pos (by omega)), if_pos (nI_lt hc (by omega)), pk_mul, nI_add, if_neg (nI_pos (by omega)), if_neg (show ¬ Int32.ofNat n ≤ nI (i * w + c) from nI_ge h1 hb), inr_nI h1 hb, ck_true, nI_clamp (by omega)]
theorem inc_in {w n r i c : Nat} {f : Nat → Int32} {v : Int32} (hc : c < w) (hi : i < r) (hn : r * w ≤ n) (hb : n < 2 ^ 31) : mX3_increase (nI w) n (nI r) f (nI i) (nI c) v = some (upd f (i * w + c) (f (i * w + c) + v)) := by
  unfold mX3_increase
  rw [get_in hc hi hn hb, b1_some, set_in hc hi hn hb, b1_some]
theorem full_no {w n r : Nat} (h : (r + 1) * w ≤ n) (hb : n < 2 ^ 31) : mX3_isFull (nI w) n (nI r) = some 0 := by
  unfold mX3_isFull
  show (if (nI r + nI 1) * nI w ≤ nI n then some (0 : Int32) else some (1 : Int32)) = _
  rw [nI_add, pk_mul, if_pos (nI_le h hb)]
theorem full_yes {w n r : Nat} (h : n < (r + 1) * w) (hb : (r + 1) * w < 2 ^ 31) : mX3_isFull (nI w) n (nI r) = some 1 := by
  unfold mX3_isFull
  show (if (nI r + nI 1) * nI w ≤ nI n then some (0 : Int32) else some (1 : Int32)) = _
  rw [nI_add, pk_mul, if_neg (nI_ge h hb)]
/-- a row of zeros -/
def zrow (f : Nat → Int32) (a : Nat) : Nat → Nat → Int32
  | 0 => f
  | c + 1 => upd (zrow f a c) (a + c) 0
theorem zrow_at {f : Nat → Int32} {a j : Nat} : ∀ {c : Nat}, zrow f a c j = if a ≤ j ∧ j < a + c then 0 else f j
  | 0 => by rw [if_neg (by omega)]; rfl
  | c + 1 => by
    show upd (zrow f a c) (a + c) 0 j = _
    by_cases h : j = a + c
    · rw [h, upd_s, if_pos (by omega)]
    · rw [upd_n h, zrow_at (c := c)]
      by_cases h2 : a ≤ j ∧ j < a + c
      · rw [if_pos h2, if_pos (by omega)]
      · rw [if_neg h2, if_neg (by omega)]
theorem add_loop {w n r : Nat} (hn : (r + 1) * w ≤ n) (hb : n < 2 ^ 30) : ∀ (k c : Nat) (f : Nat → Int32), c ≤ w → w < k + c → mX3_add_L26 k (nI w) n (nI r) (nI c) (nI (r + 1)) (zrow f (r * w) c) = some (nI r, nI (r + 1), zrow f (r * w) w) := by
  intro k
  induction k with
  | zero => intro c f h1 h2; omega
  | succ k ih =>
    intro c f h1 h2
    have hw2 : w ≤ (r + 1) * w := Nat.le_mul_of_pos_left w (by omega)
    rw [mX3_add_L26.eq_2]
    by_cases h : c = w
    · subst h
      rw [if_pos (nI_le (Nat.le_refl c) (by omega))]
    · rw [if_neg (nI_ge (by omega) (by omega))]
      have e := set_in (w := w) (n := n) (r := r + 1) (i := r) (c := c) (f := zrow f (r * w) c) (v := 0) (by omega) (by omega) hn (by omega)
      rw [e, b1_some, nI_1]
      exact ih (c + 1) f (by omega) (by omega)
theorem add_in {w n r : Nat} {f : Nat → Int32} (hw : w < 7000) (hn : (r + 1) * w ≤ n) (hb : n < 2 ^ 30) : mX3_add (nI w) n (nI r) f = some (nI r, nI (r + 1), zrow f (r * w) w) := by
  unfold mX3_add
  rw [full_no hn (by omega), b1_some, if_pos rfl, nI_1]
  exact add_loop hn hb FU 0 f (Nat.zero_le w) (by unfold FU; omega)

theorem gJ0 {n i : Nat} {f : Nat → Int32} (hi : i < n) (hn : n ≤ 60) : mX3_get 7 420 (nI n) f (nI i) 0 = some (f (i * 7 + 0)) := get_in (w := 7) (n := 420) (r := n) (i := i) (c := 0) (by decide) hi (by omega) (by decide)
theorem sJ0 {n i : Nat} {f : Nat → Int32} {v : Int32} (hi : i < n) (hn : n ≤ 60) : mX3_set 7 420 (nI n) f (nI i) 0 v = some (upd f (i * 7 + 0) v) := set_in (w := 7) (n := 420) (r := n) (i := i) (c := 0) (by decide) hi (by omega) (by decide)
theorem cJ0 {n i : Nat} {f : Nat → Int32} {v : Int32} (hi : i < n) (hn : n ≤ 60) : mX3_increase 7 420 (nI n) f (nI i) 0 v = some (upd f (i * 7 + 0) (f (i * 7 + 0) + v)) := inc_in (w := 7) (n := 420) (r := n) (i := i) (c := 0) (by decide) hi (by omega) (by decide)
theorem gJ1 {n i : Nat} {f : Nat → Int32} (hi : i < n) (hn : n ≤ 60) : mX3_get 7 420 (nI n) f (nI i) 1 = some (f (i * 7 + 1)) := get_in (w := 7) (n := 420) (r := n) (i := i) (c := 1) (by decide) hi (by omega) (by decide)
theorem sJ1 {n i : Nat} {f : Nat → Int32} {v : Int32} (hi : i < n) (hn : n ≤ 60) : mX3_set 7 420 (nI n) f (nI i) 1 v = some (upd f (i * 7 + 1) v) := set_in (w := 7) (n := 420) (r := n) (i := i) (c := 1) (by decide) hi (by omega) (by decide)
theorem cJ1 {n i : Nat} {f : Nat → Int32} {v : Int32} (hi : i < n) (hn : n ≤ 60) : mX3_increase 7 420 (nI n) f (nI i) 1 v = some (upd f (i * 7 + 1) (f (i * 7 + 1) + v)) := inc_in (w := 7) (n := 420) (r := n) (i := i) (c := 1) (by decide) hi (by omega) (by decide)
theorem gJ2 {n i : Nat} {f : Nat → Int32} (hi : i < n) (hn : n ≤ 60) : mX3_get 7 420 (nI n) f (nI i) 2 = some (f (i * 7 + 2)) := get_in (w := 7) (n := 420) (r := n) (i := i) (c := 2) (by decide) hi (by omega) (by decide)
theorem sJ2 {n i : Nat} {f : Nat → Int32} {v : Int32} (hi : i < n) (hn : n ≤ 60) : mX3_set 7 420 (nI n) f (nI i) 2 v = some (upd f (i * 7 + 2) v) := set_in (w := 7) (n := 420) (r := n) (i := i) (c := 2) (by decide) hi (by omega) (by decide)
theorem cJ2 {n i : Nat} {f : Nat → Int32} {v : Int32} (hi : i < n) (hn : n ≤ 60) : mX3_increase 7 420 (nI n) f (nI i) 2 v = some (upd f (i * 7 + 2) (f (i * 7 + 2) + v)) := inc_in (w := 7) (n := 420) (r := n) (i := i) (c := 2) (by decide) hi (by omega) (by decide)
theorem gJ3 {n i : Nat} {f : Nat → Int32} (hi : i < n) (hn : n ≤ 60) : mX3_get 7 420 (nI n) f (nI i) 3 = some (f (i * 7 + 3)) := get_in (w := 7) (n := 420) (r := n) (i := i) (c := 3) (by decide) hi (by omega) (by decide)
theorem sJ3 {n i : Nat} {f : Nat → Int32} {v : Int32} (hi : i < n) (hn : n ≤ 60) : mX3_set 7 420 (nI n) f (nI i) 3 v = some (upd f (i * 7 + 3) v) := set_in (w := 7) (n := 420) (r := n) (i := i) (c := 3) (by decide) hi (by omega) (by decide)
theorem cJ3 {n i : Nat} {f : Nat → Int32} {v : Int32} (hi : i < n) (hn : n ≤ 60) : mX3_increase 7 420 (nI n) f (nI i) 3 v = some (upd f (i * 7 + 3) (f (i * 7 + 3) + v)) := inc_in (w := 7) (n := 420) (r := n) (i := i) (c := 3) (by decide) hi (by omega) (by decide)
theorem gJ4 {n i : Nat} {f : Nat → Int32} (hi : i < n) (hn : n ≤ 60) : mX3_get 7 420 (nI n) f (nI i) 4 = some (f (i * 7 + 4)) := get_in (w := 7) (n := 420) (r := n) (i := i) (c := 4) (by decide) hi (by omega) (by decide)
theorem sJ4 {n i : Nat} {f : Nat → Int32} {v : Int32} (hi : i < n) (hn : n ≤ 60) : mX3_set 7 420 (nI n) f (nI i) 4 v = some (upd f (i * 7 + 4) v) := set_in (w := 7) (n := 420) (r := n) (i := i) (c := 4) (by decide) hi (by omega) (by decide)
theorem cJ4 {n i : Nat} {f : Nat → Int32} {v : Int32} (hi : i < n) (hn : n ≤ 60) : mX3_increase 7 420 (nI n) f (nI i) 4 v = some (upd f (i * 7 + 4) (f (i * 7 + 4) + v)) := inc_in (w := 7) (n := 420) (r := n) (i := i) (c := 4) (by decide) hi (by omega) (by decide)
theorem gJ5 {n i : Nat} {f : Nat → Int32} (hi : i < n) (hn : n ≤ 60) : mX3_get 7 420 (nI n) f (nI i) 5 = some (f (i * 7 + 5)) := get_in (w := 7) (n := 420) (r := n) (i := i) (c := 5) (by decide) hi (by omega) (by decide)
theorem sJ5 {n i : Nat} {f : Nat → Int32} {v : Int32} (hi : i < n) (hn : n ≤ 60) : mX3_set 7 420 (nI n) f (nI i) 5 v = some (upd f (i * 7 + 5) v) := set_in (w := 7) (n := 420) (r := n) (i := i) (c := 5) (by decide) hi (by omega) (by decide)
theorem cJ5 {n i : Nat} {f : Nat → Int32} {v : Int32} (hi : i < n) (hn : n ≤ 60) : mX3_increase 7 420 (nI n) f (nI i) 5 v = some (upd f (i * 7 + 5) (f (i * 7 + 5) + v)) := inc_in (w := 7) (n := 420) (r := n) (i := i) (c := 5) (by decide) hi (by omega) (by decide)
theorem gJ6 {n i : Nat} {f : Nat → Int32} (hi : i < n) (hn : n ≤ 60) : mX3_get 7 420 (nI n) f (nI i) 6 = some (f (i * 7 + 6)) := get_in (w := 7) (n := 420) (r := n) (i := i) (c := 6) (by decide) hi (by omega) (by decide)
theorem sJ6 {n i : Nat} {f : Nat → Int32} {v : Int32} (hi : i < n) (hn : n ≤ 60) : mX3_set 7 420 (nI n) f (nI i) 6 v = some (upd f (i * 7 + 6) v) := set_in (w := 7) (n := 420) (r := n) (i := i) (c := 6) (by decide) hi (by omega) (by decide)
theorem cJ6 {n i : Nat} {f : Nat → Int32} {v : Int32} (hi : i < n) (hn : n ≤ 60) : mX3_increase 7 420 (nI n) f (nI i) 6 v = some (upd f (i * 7 + 6) (f (i * 7 + 6) + v)) := inc_in (w := 7) (n := 420) (r := n) (i := i) (c := 6) (by decide) hi (by omega) (by decide)
theorem aJ {n : Nat} {f : Nat → Int32} (hn : n < 60) : mX3_add 7 420 (nI n) f = some (nI n, nI (n + 1), zrow f (n * 7) 7) := add_in (w := 7) (n := 420) (r := n) (by decide) (by omega) (by decide)
theorem fJ0 {n : Nat} (hn : n < 60) : mX3_isFull 7 420 (nI n) = some 0 := full_no (w := 7) (n := 420) (r := n) (by omega) (by decide)
theorem fJ1 : mX3_isFull 7 420 (nI 60) = some 1 := full_yes (w := 7) (n := 420) (r := 60) (by decide) (by decide)
theorem gD0 {n i : Nat} {f : Nat → Int32} (hi : i < n) (hn : n ≤ 6) : mX3_get 13 78 (nI n) f (nI i) 0 = some (f (i * 13 + 0)) := get_in (w := 13) (n := 78) (r := n) (i := i) (c := 0) (by decide) hi (by omega) (by decide)
theorem sD0 {n i : Nat} {f : Nat → Int32} {v : Int32} (hi : i < n) (hn : n ≤ 6) : mX3_set 13 78 (nI n) f (nI i) 0 v = some (upd f (i * 13 + 0) v) := set_in (w := 13) (n := 78) (r := n) (i := i) (c := 0) (by decide) hi (by omega) (by decide)
theorem cD0 {n i : Nat} {f : Nat → Int32} {v : Int32} (hi : i < n) (hn : n ≤ 6) : mX3_increase 13 78 (nI n) f (nI i) 0 v = some (upd f (i * 13 + 0) (f (i * 13 + 0) + v)) := inc_in (w := 13) (n := 78) (r := n) (i := i) (c := 0) (by decide) hi (by omega) (by decide)
theorem gD1 {n i : Nat} {f : Nat → Int32} (hi : i < n) (hn : n ≤ 6) : mX3_get 13 78 (nI n) f (nI i) 1 = some (f (i * 13 + 1)) := get_in (w := 13) (n := 78) (r := n) (i := i) (c := 1) (by decide) hi (by omega) (by decide)
theorem sD1 {n i : Nat} {f : Nat → Int32} {v : Int32} (hi : i < n) (hn : n ≤ 6) : mX3_set 13 78 (nI n) f (nI i) 1 v = some (upd f (i * 13 + 1) v) := set_in (w := 13) (n := 78) (r := n) (i := i) (c := 1) (by decide) hi (by omega) (by decide)
theorem cD1 {n i : Nat} {f : Nat → Int32} {v : Int32} (hi : i < n) (hn : n ≤ 6) : mX3_increase 13 78 (nI n) f (nI i) 1 v = some (upd f (i * 13 + 1) (f (i * 13 + 1) + v)) := inc_in (w := 13) (n := 78) (r := n) (i := i) (c := 1) (by decide) hi (by omega) (by decide)
theorem gD2 {n i : Nat} {f : Nat → Int32} (hi : i < n) (hn : n ≤ 6) : mX3_get 13 78 (nI n) f (nI i) 2 = some (f (i * 13 + 2)) := get_in (w := 13) (n := 78) (r := n) (i := i) (c := 2) (by decide) hi (by omega) (by decide)
theorem sD2 {n i : Nat} {f : Nat → Int32} {v : Int32} (hi : i < n) (hn : n ≤ 6) : mX3_set 13 78 (nI n) f (nI i) 2 v = some (upd f (i * 13 + 2) v) := set_in (w := 13) (n := 78) (r := n) (i := i) (c := 2) (by decide) hi (by omega) (by decide)
theorem cD2 {n i : Nat} {f : Nat → Int32} {v : Int32} (hi : i < n) (hn : n ≤ 6) : mX3_increase 13 78 (nI n) f (nI i) 2 v = some (upd f (i * 13 + 2) (f (i * 13 + 2) + v)) := inc_in (w := 13) (n := 78) (r := n) (i := i) (c := 2) (by decide) hi (by omega) (by decide)
theorem gD3 {n i : Nat} {f : Nat → Int32} (hi : i < n) (hn : n ≤ 6) : mX3_get 13 78 (nI n) f (nI i) 3 = some (f (i * 13 + 3)) := get_in (w := 13) (n := 78) (r := n) (i := i) (c := 3) (by decide) hi (by omega) (by decide)
theorem sD3 {n i : Nat} {f : Nat → Int32} {v : Int32} (hi : i < n) (hn : n ≤ 6) : mX3_set 13 78 (nI n) f (nI i) 3 v = some (upd f (i * 13 + 3) v) := set_in (w := 13) (n := 78) (r := n) (i := i) (c := 3) (by decide) hi (by omega) (by decide)
theorem cD3 {n i : Nat} {f : Nat → Int32} {v : Int32} (hi : i < n) (hn : n ≤ 6) : mX3_increase 13 78 (nI n) f (nI i) 3 v = some (upd f (i * 13 + 3) (f (i * 13 + 3) + v)) := inc_in (w := 13) (n := 78) (r := n) (i := i) (c := 3) (by decide) hi (by omega) (by decide)
theorem gD4 {n i : Nat} {f : Nat → Int32} (hi : i < n) (hn : n ≤ 6) : mX3_get 13 78 (nI n) f (nI i) 4 = some (f (i * 13 + 4)) := get_in (w := 13) (n := 78) (r := n) (i := i) (c := 4) (by decide) hi (by omega) (by decide)
theorem sD4 {n i : Nat} {f : Nat → Int32} {v : Int32} (hi : i < n) (hn : n ≤ 6) : mX3_set 13 78 (nI n) f (nI i) 4 v = some (upd f (i * 13 + 4) v) := set_in (w := 13) (n := 78) (r := n) (i := i) (c := 4) (by decide) hi (by omega) (by decide)
theorem cD4 {n i : Nat} {f : Nat → Int32} {v : Int32} (hi : i < n) (hn : n ≤ 6) : mX3_increase 13 78 (nI n) f (nI i) 4 v = some (upd f (i * 13 + 4) (f (i * 13 + 4) + v)) := inc_in (w := 13) (n := 78) (r := n) (i := i) (c := 4) (by decide) hi (by omega) (by decide)
theorem gD5 {n i : Nat} {f : Nat → Int32} (hi : i < n) (hn : n ≤ 6) : mX3_get 13 78 (nI n) f (nI i) 5 = some (f (i * 13 + 5)) := get_in (w := 13) (n := 78) (r := n) (i := i) (c := 5) (by decide) hi (by omega) (by decide)
theorem sD5 {n i : Nat} {f : Nat → Int32} {v : Int32} (hi : i < n) (hn : n ≤ 6) : mX3_set 13 78 (nI n) f (nI i) 5 v = some (upd f (i * 13 + 5) v) := set_in (w := 13) (n := 78) (r := n) (i := i) (c := 5) (by decide) hi (by omega) (by decide)
theorem cD5 {n i : Nat} {f : Nat → Int32} {v : Int32} (hi : i < n) (hn : n ≤ 6) : mX3_increase 13 78 (nI n) f (nI i) 5 v = some (upd f (i * 13 + 5) (f (i * 13 + 5) + v)) := inc_in (w := 13) (n := 78) (r := n) (i := i) (c := 5) (by decide) hi (by omega) (by decide)
theorem gD6 {n i : Nat} {f : Nat → Int32} (hi : i < n) (hn : n ≤ 6) : mX3_get 13 78 (nI n) f (nI i) 6 = some (f (i * 13 + 6)) := get_in (w := 13) (n := 78) (r := n) (i := i) (c := 6) (by decide) hi (by omega) (by decide)
theorem sD6 {n i : Nat} {f : Nat → Int32} {v : Int32} (hi : i < n) (hn : n ≤ 6) : mX3_set 13 78 (nI n) f (nI i) 6 v = some (upd f (i * 13 + 6) v) := set_in (w := 13) (n := 78) (r := n) (i := i) (c := 6) (by decide) hi (by omega) (by decide)
theorem cD6 {n i : Nat} {f : Nat → Int32} {v : Int32} (hi : i < n) (hn : n ≤ 6) : mX3_increase 13 78 (nI n) f (nI i) 6 v = some (upd f (i * 13 + 6) (f (i * 13 + 6) + v)) := inc_in (w := 13) (n := 78) (r := n) (i := i) (c := 6) (by decide) hi (by omega) (by decide)
theorem gD7 {n i : Nat} {f : Nat → Int32} (hi : i < n) (hn : n ≤ 6) : mX3_get 13 78 (nI n) f (nI i) 7 = some (f (i * 13 + 7)) := get_in (w := 13) (n := 78) (r := n) (i := i) (c := 7) (by decide) hi (by omega) (by decide)
theorem sD7 {n i : Nat} {f : Nat → Int32} {v : Int32} (hi : i < n) (hn : n ≤ 6) : mX3_set 13 78 (nI n) f (nI i) 7 v = some (upd f (i * 13 + 7) v) := set_in (w := 13) (n := 78) (r := n) (i := i) (c := 7) (by decide) hi (by omega) (by decide)
theorem cD7 {n i : Nat} {f : Nat → Int32} {v : Int32} (hi : i < n) (hn : n ≤ 6) : mX3_increase 13 78 (nI n) f (nI i) 7 v = some (upd f (i * 13 + 7) (f (i * 13 + 7) + v)) := inc_in (w := 13) (n := 78) (r := n) (i := i) (c := 7) (by decide) hi (by omega) (by decide)
theorem gD8 {n i : Nat} {f : Nat → Int32} (hi : i < n) (hn : n ≤ 6) : mX3_get 13 78 (nI n) f (nI i) 8 = some (f (i * 13 + 8)) := get_in (w := 13) (n := 78) (r := n) (i := i) (c := 8) (by decide) hi (by omega) (by decide)
theorem sD8 {n i : Nat} {f : Nat → Int32} {v : Int32} (hi : i < n) (hn : n ≤ 6) : mX3_set 13 78 (nI n) f (nI i) 8 v = some (upd f (i * 13 + 8) v) := set_in (w := 13) (n := 78) (r := n) (i := i) (c := 8) (by decide) hi (by omega) (by decide)
theorem cD8 {n i : Nat} {f : Nat → Int32} {v : Int32} (hi : i < n) (hn : n ≤ 6) : mX3_increase 13 78 (nI n) f (nI i) 8 v = some (upd f (i * 13 + 8) (f (i * 13 + 8) + v)) := inc_in (w := 13) (n := 78) (r := n) (i := i) (c := 8) (by decide) hi (by omega) (by decide)
theorem gD9 {n i : Nat} {f : Nat → Int32} (hi : i < n) (hn : n ≤ 6) : mX3_get 13 78 (nI n) f (nI i) 9 = some (f (i * 13 + 9)) := get_in (w := 13) (n := 78) (r := n) (i := i) (c := 9) (by decide) hi (by omega) (by decide)
theorem sD9 {n i : Nat} {f : Nat → Int32} {v : Int32} (hi : i < n) (hn : n ≤ 6) : mX3_set 13 78 (nI n) f (nI i) 9 v = some (upd f (i * 13 + 9) v) := set_in (w := 13) (n := 78) (r := n) (i := i) (c := 9) (by decide) hi (by omega) (by decide)
theorem cD9 {n i : Nat} {f : Nat → Int32} {v : Int32} (hi : i < n) (hn : n ≤ 6) : mX3_increase 13 78 (nI n) f (nI i) 9 v = some (upd f (i * 13 + 9) (f (i * 13 + 9) + v)) := inc_in (w := 13) (n := 78) (r := n) (i := i) (c := 9) (by decide) hi (by omega) (by decide)
theorem gD10 {n i : Nat} {f : Nat → Int32} (hi : i < n) (hn : n ≤ 6) : mX3_get 13 78 (nI n) f (nI i) 10 = some (f (i * 13 + 10)) := get_in (w := 13) (n := 78) (r := n) (i := i) (c := 10) (by decide) hi (by omega) (by decide)
theorem sD10 {n i : Nat} {f : Nat → Int32} {v : Int32} (hi : i < n) (hn : n ≤ 6) : mX3_set 13 78 (nI n) f (nI i) 10 v = some (upd f (i * 13 + 10) v) := set_in (w := 13) (n := 78) (r := n) (i := i) (c := 10) (by decide) hi (by omega) (by decide)
theorem cD10 {n i : Nat} {f : Nat → Int32} {v : Int32} (hi : i < n) (hn : n ≤ 6) : mX3_increase 13 78 (nI n) f (nI i) 10 v = some (upd f (i * 13 + 10) (f (i * 13 + 10) + v)) := inc_in (w := 13) (n := 78) (r := n) (i := i) (c := 10) (by decide) hi (by omega) (by decide)
theorem gD11 {n i : Nat} {f : Nat → Int32} (hi : i < n) (hn : n ≤ 6) : mX3_get 13 78 (nI n) f (nI i) 11 = some (f (i * 13 + 11)) := get_in (w := 13) (n := 78) (r := n) (i := i) (c := 11) (by decide) hi (by omega) (by decide)
theorem sD11 {n i : Nat} {f : Nat → Int32} {v : Int32} (hi : i < n) (hn : n ≤ 6) : mX3_set 13 78 (nI n) f (nI i) 11 v = some (upd f (i * 13 + 11) v) := set_in (w := 13) (n := 78) (r := n) (i := i) (c := 11) (by decide) hi (by omega) (by decide)
theorem cD11 {n i : Nat} {f : Nat → Int32} {v : Int32} (hi : i < n) (hn : n ≤ 6) : mX3_increase 13 78 (nI n) f (nI i) 11 v = some (upd f (i * 13 + 11) (f (i * 13 + 11) + v)) := inc_in (w := 13) (n := 78) (r := n) (i := i) (c := 11) (by decide) hi (by omega) (by decide)
theorem gD12 {n i : Nat} {f : Nat → Int32} (hi : i < n) (hn : n ≤ 6) : mX3_get 13 78 (nI n) f (nI i) 12 = some (f (i * 13 + 12)) := get_in (w := 13) (n := 78) (r := n) (i := i) (c := 12) (by decide) hi (by omega) (by decide)
theorem sD12 {n i : Nat} {f : Nat → Int32} {v : Int32} (hi : i < n) (hn : n ≤ 6) : mX3_set 13 78 (nI n) f (nI i) 12 v = some (upd f (i * 13 + 12) v) := set_in (w := 13) (n := 78) (r := n) (i := i) (c := 12) (by decide) hi (by omega) (by decide)
theorem cD12 {n i : Nat} {f : Nat → Int32} {v : Int32} (hi : i < n) (hn : n ≤ 6) : mX3_increase 13 78 (nI n) f (nI i) 12 v = some (upd f (i * 13 + 12) (f (i * 13 + 12) + v)) := inc_in (w := 13) (n := 78) (r := n) (i := i) (c := 12) (by decide) hi (by omega) (by decide)
theorem aD {n : Nat} {f : Nat → Int32} (hn : n < 6) : mX3_add 13 78 (nI n) f = some (nI n, nI (n + 1), zrow f (n * 13) 13) := add_in (w := 13) (n := 78) (r := n) (by decide) (by omega) (by decide)
theorem fD0 {n : Nat} (hn : n < 6) : mX3_isFull 13 78 (nI n) = some 0 := full_no (w := 13) (n := 78) (r := n) (by omega) (by decide)
theorem fD1 : mX3_isFull 13 78 (nI 6) = some 1 := full_yes (w := 13) (n := 78) (r := 6) (by decide) (by decide)
theorem gQ0 {n i : Nat} {f : Nat → Int32} (hi : i < n) (hn : n ≤ 40) : mX3_get 4 160 (nI n) f (nI i) 0 = some (f (i * 4 + 0)) := get_in (w := 4) (n := 160) (r := n) (i := i) (c := 0) (by decide) hi (by omega) (by decide)
theorem sQ0 {n i : Nat} {f : Nat → Int32} {v : Int32} (hi : i < n) (hn : n ≤ 40) : mX3_set 4 160 (nI n) f (nI i) 0 v = some (upd f (i * 4 + 0) v) := set_in (w := 4) (n := 160) (r := n) (i := i) (c := 0) (by decide) hi (by omega) (by decide)
theorem cQ0 {n i : Nat} {f : Nat → Int32} {v : Int32} (hi : i < n) (hn : n ≤ 40) : mX3_increase 4 160 (nI n) f (nI i) 0 v = some (upd f (i * 4 + 0) (f (i * 4 + 0) + v)) := inc_in (w := 4) (n := 160) (r := n) (i := i) (c := 0) (by decide) hi (by omega) (by decide)
theorem gQ1 {n i : Nat} {f : Nat → Int32} (hi : i < n) (hn : n ≤ 40) : mX3_get 4 160 (nI n) f (nI i) 1 = some (f (i * 4 + 1)) := get_in (w := 4) (n := 160) (r := n) (i := i) (c := 1) (by decide) hi (by omega) (by decide)
theorem sQ1 {n i : Nat} {f : Nat → Int32} {v : Int32} (hi : i < n) (hn : n ≤ 40) : mX3_set 4 160 (nI n) f (nI i) 1 v = some (upd f (i * 4 + 1) v) := set_in (w := 4) (n := 160) (r := n) (i := i) (c := 1) (by decide) hi (by omega) (by decide)
theorem cQ1 {n i : Nat} {f : Nat → Int32} {v : Int32} (hi : i < n) (hn : n ≤ 40) : mX3_increase 4 160 (nI n) f (nI i) 1 v = some (upd f (i * 4 + 1) (f (i * 4 + 1) + v)) := inc_in (w := 4) (n := 160) (r := n) (i := i) (c := 1) (by decide) hi (by omega) (by decide)
theorem gQ2 {n i : Nat} {f : Nat → Int32} (hi : i < n) (hn : n ≤ 40) : mX3_get 4 160 (nI n) f (nI i) 2 = some (f (i * 4 + 2)) := get_in (w := 4) (n := 160) (r := n) (i := i) (c := 2) (by decide) hi (by omega) (by decide)
theorem sQ2 {n i : Nat} {f : Nat → Int32} {v : Int32} (hi : i < n) (hn : n ≤ 40) : mX3_set 4 160 (nI n) f (nI i) 2 v = some (upd f (i * 4 + 2) v) := set_in (w := 4) (n := 160) (r := n) (i := i) (c := 2) (by decide) hi (by omega) (by decide)
theorem cQ2 {n i : Nat} {f : Nat → Int32} {v : Int32} (hi : i < n) (hn : n ≤ 40) : mX3_increase 4 160 (nI n) f (nI i) 2 v = some (upd f (i * 4 + 2) (f (i * 4 + 2) + v)) := inc_in (w := 4) (n := 160) (r := n) (i := i) (c := 2) (by decide) hi (by omega) (by decide)
theorem gQ3 {n i : Nat} {f : Nat → Int32} (hi : i < n) (hn : n ≤ 40) : mX3_get 4 160 (nI n) f (nI i) 3 = some (f (i * 4 + 3)) := get_in (w := 4) (n := 160) (r := n) (i := i) (c := 3) (by decide) hi (by omega) (by decide)
theorem sQ3 {n i : Nat} {f : Nat → Int32} {v : Int32} (hi : i < n) (hn : n ≤ 40) : mX3_set 4 160 (nI n) f (nI i) 3 v = some (upd f (i * 4 + 3) v) := set_in (w := 4) (n := 160) (r := n) (i := i) (c := 3) (by decide) hi (by omega) (by decide)
theorem cQ3 {n i : Nat} {f : Nat → Int32} {v : Int32} (hi : i < n) (hn : n ≤ 40) : mX3_increase 4 160 (nI n) f (nI i) 3 v = some (upd f (i * 4 + 3) (f (i * 4 + 3) + v)) := inc_in (w := 4) (n := 160) (r := n) (i := i) (c := 3) (by decide) hi (by omega) (by decide)
theorem aQ {n : Nat} {f : Nat → Int32} (hn : n < 40) : mX3_add 4 160 (nI n) f = some (nI n, nI (n + 1), zrow f (n * 4) 4) := add_in (w := 4) (n := 160) (r := n) (by decide) (by omega) (by decide)
theorem fQ0 {n : Nat} (hn : n < 40) : mX3_isFull 4 160 (nI n) = some 0 := full_no (w := 4) (n := 160) (r := n) (by omega) (by decide)
theorem fQ1 : mX3_isFull 4 160 (nI 40) = some 1 := full_yes (w := 4) (n := 160) (r := 40) (by decide) (by decide)
theorem gS0 {n i : Nat} {f : Nat → Int32} (hi : i < n) (hn : n ≤ 6) : mX3_get 3 18 (nI n) f (nI i) 0 = some (f (i * 3 + 0)) := get_in (w := 3) (n := 18) (r := n) (i := i) (c := 0) (by decide) hi (by omega) (by decide)
theorem sS0 {n i : Nat} {f : Nat → Int32} {v : Int32} (hi : i < n) (hn : n ≤ 6) : mX3_set 3 18 (nI n) f (nI i) 0 v = some (upd f (i * 3 + 0) v) := set_in (w := 3) (n := 18) (r := n) (i := i) (c := 0) (by decide) hi (by omega) (by decide)
theorem cS0 {n i : Nat} {f : Nat → Int32} {v : Int32} (hi : i < n) (hn : n ≤ 6) : mX3_increase 3 18 (nI n) f (nI i) 0 v = some (upd f (i * 3 + 0) (f (i * 3 + 0) + v)) := inc_in (w := 3) (n := 18) (r := n) (i := i) (c := 0) (by decide) hi (by omega) (by decide)
theorem gS1 {n i : Nat} {f : Nat → Int32} (hi : i < n) (hn : n ≤ 6) : mX3_get 3 18 (nI n) f (nI i) 1 = some (f (i * 3 + 1)) := get_in (w := 3) (n := 18) (r := n) (i := i) (c := 1) (by decide) hi (by omega) (by decide)
theorem sS1 {n i : Nat} {f : Nat → Int32} {v : Int32} (hi : i < n) (hn : n ≤ 6) : mX3_set 3 18 (nI n) f (nI i) 1 v = some (upd f (i * 3 + 1) v) := set_in (w := 3) (n := 18) (r := n) (i := i) (c := 1) (by decide) hi (by omega) (by decide)
theorem cS1 {n i : Nat} {f : Nat → Int32} {v : Int32} (hi : i < n) (hn : n ≤ 6) : mX3_increase 3 18 (nI n) f (nI i) 1 v = some (upd f (i * 3 + 1) (f (i * 3 + 1) + v)) := inc_in (w := 3) (n := 18) (r := n) (i := i) (c := 1) (by decide) hi (by omega) (by decide)
theorem gS2 {n i : Nat} {f : Nat → Int32} (hi : i < n) (hn : n ≤ 6) : mX3_get 3 18 (nI n) f (nI i) 2 = some (f (i * 3 + 2)) := get_in (w := 3) (n := 18) (r := n) (i := i) (c := 2) (by decide) hi (by omega) (by decide)
theorem sS2 {n i : Nat} {f : Nat → Int32} {v : Int32} (hi : i < n) (hn : n ≤ 6) : mX3_set 3 18 (nI n) f (nI i) 2 v = some (upd f (i * 3 + 2) v) := set_in (w := 3) (n := 18) (r := n) (i := i) (c := 2) (by decide) hi (by omega) (by decide)
theorem cS2 {n i : Nat} {f : Nat → Int32} {v : Int32} (hi : i < n) (hn : n ≤ 6) : mX3_increase 3 18 (nI n) f (nI i) 2 v = some (upd f (i * 3 + 2) (f (i * 3 + 2) + v)) := inc_in (w := 3) (n := 18) (r := n) (i := i) (c := 2) (by decide) hi (by omega) (by decide)
theorem aS {n : Nat} {f : Nat → Int32} (hn : n < 6) : mX3_add 3 18 (nI n) f = some (nI n, nI (n + 1), zrow f (n * 3) 3) := add_in (w := 3) (n := 18) (r := n) (by decide) (by omega) (by decide)
theorem fS0 {n : Nat} (hn : n < 6) : mX3_isFull 3 18 (nI n) = some 0 := full_no (w := 3) (n := 18) (r := n) (by omega) (by decide)
theorem fS1 : mX3_isFull 3 18 (nI 6) = some 1 := full_yes (w := 3) (n := 18) (r := 6) (by decide) (by decide)
theorem it0 {nw : Nat → Int32} {d : Nat} (hd : d < 6) : mX6_its nw (nI d) 0 = some (nw (25 + 30 * d + 0)) := its_eq (w := 0) hd (by decide)
theorem pu0 {nw : Nat → Int32} {d : Nat} {v : Int32} (hd : d < 6) : mX6_puts nw (nI d) 0 v = some (upd nw (25 + 30 * d + 0) v) := puts_eq (w := 0) hd (by decide)
theorem it1 {nw : Nat → Int32} {d : Nat} (hd : d < 6) : mX6_its nw (nI d) 1 = some (nw (25 + 30 * d + 1)) := its_eq (w := 1) hd (by decide)
theorem pu1 {nw : Nat → Int32} {d : Nat} {v : Int32} (hd : d < 6) : mX6_puts nw (nI d) 1 v = some (upd nw (25 + 30 * d + 1) v) := puts_eq (w := 1) hd (by decide)
theorem it2 {nw : Nat → Int32} {d : Nat} (hd : d < 6) : mX6_its nw (nI d) 2 = some (nw (25 + 30 * d + 2)) := its_eq (w := 2) hd (by decide)
theorem pu2 {nw : Nat → Int32} {d : Nat} {v : Int32} (hd : d < 6) : mX6_puts nw (nI d) 2 v = some (upd nw (25 + 30 * d + 2) v) := puts_eq (w := 2) hd (by decide)
theorem it3 {nw : Nat → Int32} {d : Nat} (hd : d < 6) : mX6_its nw (nI d) 3 = some (nw (25 + 30 * d + 3)) := its_eq (w := 3) hd (by decide)
theorem pu3 {nw : Nat → Int32} {d : Nat} {v : Int32} (hd : d < 6) : mX6_puts nw (nI d) 3 v = some (upd nw (25 + 30 * d + 3) v) := puts_eq (w := 3) hd (by decide)
theorem it4 {nw : Nat → Int32} {d : Nat} (hd : d < 6) : mX6_its nw (nI d) 4 = some (nw (25 + 30 * d + 4)) := its_eq (w := 4) hd (by decide)
theorem pu4 {nw : Nat → Int32} {d : Nat} {v : Int32} (hd : d < 6) : mX6_puts nw (nI d) 4 v = some (upd nw (25 + 30 * d + 4) v) := puts_eq (w := 4) hd (by decide)
theorem it5 {nw : Nat → Int32} {d : Nat} (hd : d < 6) : mX6_its nw (nI d) 5 = some (nw (25 + 30 * d + 5)) := its_eq (w := 5) hd (by decide)
theorem pu5 {nw : Nat → Int32} {d : Nat} {v : Int32} (hd : d < 6) : mX6_puts nw (nI d) 5 v = some (upd nw (25 + 30 * d + 5) v) := puts_eq (w := 5) hd (by decide)
theorem it6 {nw : Nat → Int32} {d : Nat} (hd : d < 6) : mX6_its nw (nI d) 6 = some (nw (25 + 30 * d + 6)) := its_eq (w := 6) hd (by decide)
theorem pu6 {nw : Nat → Int32} {d : Nat} {v : Int32} (hd : d < 6) : mX6_puts nw (nI d) 6 v = some (upd nw (25 + 30 * d + 6) v) := puts_eq (w := 6) hd (by decide)
theorem it7 {nw : Nat → Int32} {d : Nat} (hd : d < 6) : mX6_its nw (nI d) 7 = some (nw (25 + 30 * d + 7)) := its_eq (w := 7) hd (by decide)
theorem pu7 {nw : Nat → Int32} {d : Nat} {v : Int32} (hd : d < 6) : mX6_puts nw (nI d) 7 v = some (upd nw (25 + 30 * d + 7) v) := puts_eq (w := 7) hd (by decide)
theorem it8 {nw : Nat → Int32} {d : Nat} (hd : d < 6) : mX6_its nw (nI d) 8 = some (nw (25 + 30 * d + 8)) := its_eq (w := 8) hd (by decide)
theorem pu8 {nw : Nat → Int32} {d : Nat} {v : Int32} (hd : d < 6) : mX6_puts nw (nI d) 8 v = some (upd nw (25 + 30 * d + 8) v) := puts_eq (w := 8) hd (by decide)
theorem it9 {nw : Nat → Int32} {d : Nat} (hd : d < 6) : mX6_its nw (nI d) 9 = some (nw (25 + 30 * d + 9)) := its_eq (w := 9) hd (by decide)
theorem pu9 {nw : Nat → Int32} {d : Nat} {v : Int32} (hd : d < 6) : mX6_puts nw (nI d) 9 v = some (upd nw (25 + 30 * d + 9) v) := puts_eq (w := 9) hd (by decide)
theorem it10 {nw : Nat → Int32} {d : Nat} (hd : d < 6) : mX6_its nw (nI d) 10 = some (nw (25 + 30 * d + 10)) := its_eq (w := 10) hd (by decide)
theorem pu10 {nw : Nat → Int32} {d : Nat} {v : Int32} (hd : d < 6) : mX6_puts nw (nI d) 10 v = some (upd nw (25 + 30 * d + 10) v) := puts_eq (w := 10) hd (by decide)
theorem it11 {nw : Nat → Int32} {d : Nat} (hd : d < 6) : mX6_its nw (nI d) 11 = some (nw (25 + 30 * d + 11)) := its_eq (w := 11) hd (by decide)
theorem pu11 {nw : Nat → Int32} {d : Nat} {v : Int32} (hd : d < 6) : mX6_puts nw (nI d) 11 v = some (upd nw (25 + 30 * d + 11) v) := puts_eq (w := 11) hd (by decide)
theorem it12 {nw : Nat → Int32} {d : Nat} (hd : d < 6) : mX6_its nw (nI d) 12 = some (nw (25 + 30 * d + 12)) := its_eq (w := 12) hd (by decide)
theorem pu12 {nw : Nat → Int32} {d : Nat} {v : Int32} (hd : d < 6) : mX6_puts nw (nI d) 12 v = some (upd nw (25 + 30 * d + 12) v) := puts_eq (w := 12) hd (by decide)
theorem it13 {nw : Nat → Int32} {d : Nat} (hd : d < 6) : mX6_its nw (nI d) 13 = some (nw (25 + 30 * d + 13)) := its_eq (w := 13) hd (by decide)
theorem pu13 {nw : Nat → Int32} {d : Nat} {v : Int32} (hd : d < 6) : mX6_puts nw (nI d) 13 v = some (upd nw (25 + 30 * d + 13) v) := puts_eq (w := 13) hd (by decide)
theorem it14 {nw : Nat → Int32} {d : Nat} (hd : d < 6) : mX6_its nw (nI d) 14 = some (nw (25 + 30 * d + 14)) := its_eq (w := 14) hd (by decide)
theorem it15 {nw : Nat → Int32} {d : Nat} (hd : d < 6) : mX6_its nw (nI d) 15 = some (nw (25 + 30 * d + 15)) := its_eq (w := 15) hd (by decide)
theorem it16 {nw : Nat → Int32} {d : Nat} (hd : d < 6) : mX6_its nw (nI d) 16 = some (nw (25 + 30 * d + 16)) := its_eq (w := 16) hd (by decide)
theorem it17 {nw : Nat → Int32} {d : Nat} (hd : d < 6) : mX6_its nw (nI d) 17 = some (nw (25 + 30 * d + 17)) := its_eq (w := 17) hd (by decide)
theorem it18 {nw : Nat → Int32} {d : Nat} (hd : d < 6) : mX6_its nw (nI d) 18 = some (nw (25 + 30 * d + 18)) := its_eq (w := 18) hd (by decide)
theorem it19 {nw : Nat → Int32} {d : Nat} (hd : d < 6) : mX6_its nw (nI d) 19 = some (nw (25 + 30 * d + 19)) := its_eq (w := 19) hd (by decide)
theorem it20 {nw : Nat → Int32} {d : Nat} (hd : d < 6) : mX6_its nw (nI d) 20 = some (nw (25 + 30 * d + 20)) := its_eq (w := 20) hd (by decide)
theorem it21 {nw : Nat → Int32} {d : Nat} (hd : d < 6) : mX6_its nw (nI d) 21 = some (nw (25 + 30 * d + 21)) := its_eq (w := 21) hd (by decide)
theorem it22 {nw : Nat → Int32} {d : Nat} (hd : d < 6) : mX6_its nw (nI d) 22 = some (nw (25 + 30 * d + 22)) := its_eq (w := 22) hd (by decide)
theorem it23 {nw : Nat → Int32} {d : Nat} (hd : d < 6) : mX6_its nw (nI d) 23 = some (nw (25 + 30 * d + 23)) := its_eq (w := 23) hd (by decide)
theorem it24 {nw : Nat → Int32} {d : Nat} (hd : d < 6) : mX6_its nw (nI d) 24 = some (nw (25 + 30 * d + 24)) := its_eq (w := 24) hd (by decide)
theorem it25 {nw : Nat → Int32} {d : Nat} (hd : d < 6) : mX6_its nw (nI d) 25 = some (nw (25 + 30 * d + 25)) := its_eq (w := 25) hd (by decide)
theorem bi0 {nw : Nat → Int32} {i : Nat} (hi : i < 60) : mX6_billed nw (nI i) 0 = some (nw (205 + 7 * i + 0)) := billed_eq (w := 0) hi (by decide)
theorem xi0 {i : Nat} (hi : i < 60) : inr ((205 + (7 * nI i)) + 0) 785 = true := by
  show inr (nI 205 + nI 7 * nI i + nI 0) 785 = true
  rw [nI_lin]; exact inr_nI (by omega) (by decide)
theorem ti0 {i : Nat} (hi : i < 60) : (((205 + (7 * nI i)) + 0) : Int32).toNatClampNeg = 205 + 7 * i + 0 := by
  show (nI 205 + nI 7 * nI i + nI 0).toNatClampNeg = _
  rw [nI_lin, nI_clamp (by omega)]
theorem bi1 {nw : Nat → Int32} {i : Nat} (hi : i < 60) : mX6_billed nw (nI i) 1 = some (nw (205 + 7 * i + 1)) := billed_eq (w := 1) hi (by decide)
theorem xi1 {i : Nat} (hi : i < 60) : inr ((205 + (7 * nI i)) + 1) 785 = true := by
  show inr (nI 205 + nI 7 * nI i + nI 1) 785 = true
  rw [nI_lin]; exact inr_nI (by omega) (by decide)
theorem ti1 {i : Nat} (hi : i < 60) : (((205 + (7 * nI i)) + 1) : Int32).toNatClampNeg = 205 + 7 * i + 1 := by
  show (nI 205 + nI 7 * nI i + nI 1).toNatClampNeg = _
  rw [nI_lin, nI_clamp (by omega)]
theorem bi2 {nw : Nat → Int32} {i : Nat} (hi : i < 60) : mX6_billed nw (nI i) 2 = some (nw (205 + 7 * i + 2)) := billed_eq (w := 2) hi (by decide)
theorem xi2 {i : Nat} (hi : i < 60) : inr ((205 + (7 * nI i)) + 2) 785 = true := by
  show inr (nI 205 + nI 7 * nI i + nI 2) 785 = true
  rw [nI_lin]; exact inr_nI (by omega) (by decide)
theorem ti2 {i : Nat} (hi : i < 60) : (((205 + (7 * nI i)) + 2) : Int32).toNatClampNeg = 205 + 7 * i + 2 := by
  show (nI 205 + nI 7 * nI i + nI 2).toNatClampNeg = _
  rw [nI_lin, nI_clamp (by omega)]
theorem bi3 {nw : Nat → Int32} {i : Nat} (hi : i < 60) : mX6_billed nw (nI i) 3 = some (nw (205 + 7 * i + 3)) := billed_eq (w := 3) hi (by decide)
theorem xi3 {i : Nat} (hi : i < 60) : inr ((205 + (7 * nI i)) + 3) 785 = true := by
  show inr (nI 205 + nI 7 * nI i + nI 3) 785 = true
  rw [nI_lin]; exact inr_nI (by omega) (by decide)
theorem ti3 {i : Nat} (hi : i < 60) : (((205 + (7 * nI i)) + 3) : Int32).toNatClampNeg = 205 + 7 * i + 3 := by
  show (nI 205 + nI 7 * nI i + nI 3).toNatClampNeg = _
  rw [nI_lin, nI_clamp (by omega)]
theorem bi4 {nw : Nat → Int32} {i : Nat} (hi : i < 60) : mX6_billed nw (nI i) 4 = some (nw (205 + 7 * i + 4)) := billed_eq (w := 4) hi (by decide)
theorem xi4 {i : Nat} (hi : i < 60) : inr ((205 + (7 * nI i)) + 4) 785 = true := by
  show inr (nI 205 + nI 7 * nI i + nI 4) 785 = true
  rw [nI_lin]; exact inr_nI (by omega) (by decide)
theorem ti4 {i : Nat} (hi : i < 60) : (((205 + (7 * nI i)) + 4) : Int32).toNatClampNeg = 205 + 7 * i + 4 := by
  show (nI 205 + nI 7 * nI i + nI 4).toNatClampNeg = _
  rw [nI_lin, nI_clamp (by omega)]
theorem bi5 {nw : Nat → Int32} {i : Nat} (hi : i < 60) : mX6_billed nw (nI i) 5 = some (nw (205 + 7 * i + 5)) := billed_eq (w := 5) hi (by decide)
theorem xi5 {i : Nat} (hi : i < 60) : inr ((205 + (7 * nI i)) + 5) 785 = true := by
  show inr (nI 205 + nI 7 * nI i + nI 5) 785 = true
  rw [nI_lin]; exact inr_nI (by omega) (by decide)
theorem ti5 {i : Nat} (hi : i < 60) : (((205 + (7 * nI i)) + 5) : Int32).toNatClampNeg = 205 + 7 * i + 5 := by
  show (nI 205 + nI 7 * nI i + nI 5).toNatClampNeg = _
  rw [nI_lin, nI_clamp (by omega)]
theorem bi6 {nw : Nat → Int32} {i : Nat} (hi : i < 60) : mX6_billed nw (nI i) 6 = some (nw (205 + 7 * i + 6)) := billed_eq (w := 6) hi (by decide)
theorem xi6 {i : Nat} (hi : i < 60) : inr ((205 + (7 * nI i)) + 6) 785 = true := by
  show inr (nI 205 + nI 7 * nI i + nI 6) 785 = true
  rw [nI_lin]; exact inr_nI (by omega) (by decide)
theorem ti6 {i : Nat} (hi : i < 60) : (((205 + (7 * nI i)) + 6) : Int32).toNatClampNeg = 205 + 7 * i + 6 := by
  show (nI 205 + nI 7 * nI i + nI 6).toNatClampNeg = _
  rw [nI_lin, nI_clamp (by omega)]
theorem or0 {nw : Nat → Int32} {o : Nat} (ho : o < 40) : mX6_ordered nw (nI o) 0 = some (nw (625 + 4 * o + 0)) := ordered_eq (w := 0) ho (by decide)
theorem xo0 {o : Nat} (ho : o < 40) : inr ((625 + (4 * nI o)) + 0) 785 = true := by
  show inr (nI 625 + nI 4 * nI o + nI 0) 785 = true
  rw [nI_lin]; exact inr_nI (by omega) (by decide)
theorem to0 {o : Nat} (ho : o < 40) : (((625 + (4 * nI o)) + 0) : Int32).toNatClampNeg = 625 + 4 * o + 0 := by
  show (nI 625 + nI 4 * nI o + nI 0).toNatClampNeg = _
  rw [nI_lin, nI_clamp (by omega)]
theorem or1 {nw : Nat → Int32} {o : Nat} (ho : o < 40) : mX6_ordered nw (nI o) 1 = some (nw (625 + 4 * o + 1)) := ordered_eq (w := 1) ho (by decide)
theorem xo1 {o : Nat} (ho : o < 40) : inr ((625 + (4 * nI o)) + 1) 785 = true := by
  show inr (nI 625 + nI 4 * nI o + nI 1) 785 = true
  rw [nI_lin]; exact inr_nI (by omega) (by decide)
theorem to1 {o : Nat} (ho : o < 40) : (((625 + (4 * nI o)) + 1) : Int32).toNatClampNeg = 625 + 4 * o + 1 := by
  show (nI 625 + nI 4 * nI o + nI 1).toNatClampNeg = _
  rw [nI_lin, nI_clamp (by omega)]
theorem or2 {nw : Nat → Int32} {o : Nat} (ho : o < 40) : mX6_ordered nw (nI o) 2 = some (nw (625 + 4 * o + 2)) := ordered_eq (w := 2) ho (by decide)
theorem xo2 {o : Nat} (ho : o < 40) : inr ((625 + (4 * nI o)) + 2) 785 = true := by
  show inr (nI 625 + nI 4 * nI o + nI 2) 785 = true
  rw [nI_lin]; exact inr_nI (by omega) (by decide)
theorem to2 {o : Nat} (ho : o < 40) : (((625 + (4 * nI o)) + 2) : Int32).toNatClampNeg = 625 + 4 * o + 2 := by
  show (nI 625 + nI 4 * nI o + nI 2).toNatClampNeg = _
  rw [nI_lin, nI_clamp (by omega)]
theorem or3 {nw : Nat → Int32} {o : Nat} (ho : o < 40) : mX6_ordered nw (nI o) 3 = some (nw (625 + 4 * o + 3)) := ordered_eq (w := 3) ho (by decide)
theorem xo3 {o : Nat} (ho : o < 40) : inr ((625 + (4 * nI o)) + 3) 785 = true := by
  show inr (nI 625 + nI 4 * nI o + nI 3) 785 = true
  rw [nI_lin]; exact inr_nI (by omega) (by decide)
theorem to3 {o : Nat} (ho : o < 40) : (((625 + (4 * nI o)) + 3) : Int32).toNatClampNeg = 625 + 4 * o + 3 := by
  show (nI 625 + nI 4 * nI o + nI 3).toNatClampNeg = _
  rw [nI_lin, nI_clamp (by omega)]
theorem xs0 {o : Nat} (ho : o < 6) : inr ((7 + (3 * nI o)) + 0) 785 = true := by
  show inr (nI 7 + nI 3 * nI o + nI 0) 785 = true
  rw [nI_lin]; exact inr_nI (by omega) (by decide)
theorem ts0 {o : Nat} (ho : o < 6) : (((7 + (3 * nI o)) + 0) : Int32).toNatClampNeg = 7 + 3 * o + 0 := by
  show (nI 7 + nI 3 * nI o + nI 0).toNatClampNeg = _
  rw [nI_lin, nI_clamp (by omega)]
theorem xs1 {o : Nat} (ho : o < 6) : inr ((7 + (3 * nI o)) + 1) 785 = true := by
  show inr (nI 7 + nI 3 * nI o + nI 1) 785 = true
  rw [nI_lin]; exact inr_nI (by omega) (by decide)
theorem ts1 {o : Nat} (ho : o < 6) : (((7 + (3 * nI o)) + 1) : Int32).toNatClampNeg = 7 + 3 * o + 1 := by
  show (nI 7 + nI 3 * nI o + nI 1).toNatClampNeg = _
  rw [nI_lin, nI_clamp (by omega)]
theorem xs2 {o : Nat} (ho : o < 6) : inr ((7 + (3 * nI o)) + 2) 785 = true := by
  show inr (nI 7 + nI 3 * nI o + nI 2) 785 = true
  rw [nI_lin]; exact inr_nI (by omega) (by decide)
theorem ts2 {o : Nat} (ho : o < 6) : (((7 + (3 * nI o)) + 2) : Int32).toNatClampNeg = 7 + 3 * o + 2 := by
  show (nI 7 + nI 3 * nI o + nI 2).toNatClampNeg = _
  rw [nI_lin, nI_clamp (by omega)]
