/-! BASE: contracts that say 'if the model answers, the method does the same', and the calls of such contracts. -/
abbrev TYS (cI cB cL cK : ClassId) : List (ClassId × FieldType) := [(cI, .int), (cB, .byte), (cL, .long), (cK, .object "DunningHouse$Book")]
/-- the fuel of every loop of the models -/
def FU : Nat := 8000
def ck {α : Type} (b : Bool) (x : Option α) : Option α := if b = true then x else none
theorem ck_s {α : Type} {b : Bool} {x : Option α} {r : α} (h : ck b x = some r) : b = true ∧ x = some r := by
  unfold ck at h
  by_cases hb : b = true
  · rw [if_pos hb] at h; exact ⟨hb, h⟩
  · rw [if_neg hb] at h; cases h
theorem ck_t {α : Type} {b : Bool} {x : Option α} (h : b = true) : ck b x = x := by unfold ck; rw [if_pos h]
/-- an index inside a row -/
def inr (i : Int32) (n : Nat) : Bool := decide (0 ≤ i) && decide (i.toNatClampNeg < n)
theorem inr_in {i : Int32} {n : Nat} (h : inr i n = true) : vp_in i n := by
  unfold inr at h
  rw [Bool.and_eq_true] at h
  have h1 := of_decide_eq_true h.1
  have h2 := of_decide_eq_true h.2
  intro z
  rcases z with z | z
  · exact absurd z (Int32.not_lt.mpr h1)
  · omega
theorem ne_in {x : Int32} (h : (!(x == 0)) = true) : ¬ x = 0 := by
  intro z; rw [z] at h; exact absurd h (by decide)
/-- an answer that is 0 or 1 -/
def bz (x : Int32) : Bool := (x == 0) || (x == 1)
theorem bz_n {x : Int32} (h : bz x = true) : narrow .boolean (.int x) = .int x := by
  unfold bz at h
  rw [Bool.or_eq_true] at h
  rcases h with h | h
  · rw [eq_of_beq h]; rfl
  · rw [eq_of_beq h]; rfl
theorem br_p {α : Type} {c : Prop} [Decidable c] {A B : Option α} {r : α} (h : ite c A B = some r) (hc : c) : A = some r := by rw [if_pos hc] at h; exact h
theorem br_n {α : Type} {c : Prop} [Decidable c] {A B : Option α} {r : α} (h : ite c A B = some r) (hc : ¬ c) : B = some r := by rw [if_neg hc] at h; exact h
def b1 {α ρ : Type} (x : Option α) (f : α → Option ρ) : Option ρ := match x with
  | none => none
  | some a => f a
theorem b1_s {α ρ : Type} {x : Option α} {f : α → Option ρ} {r : ρ} (h : b1 x f = some r) : ∃ a, x = some a ∧ f a = some r := by
  cases x with
  | none => cases h
  | some a => exact ⟨a, rfl, h⟩
theorem b1_t {α ρ : Type} {x : Option α} {f : α → Option ρ} {a : α} (h : x = some a) : b1 x f = f a := by rw [h]; rfl
def b2 {α0 α1 ρ : Type} (x : Option (α0 × α1)) (f : α0 → α1 → Option ρ) : Option ρ := match x with
  | none => none
  | some q => f q.1 q.2
theorem b2_s {α0 α1 ρ : Type} {x : Option (α0 × α1)} {f : α0 → α1 → Option ρ} {r : ρ} (h : b2 x f = some r) : ∃ a0 a1, x = some (a0, a1) ∧ f a0 a1 = some r := by
  cases x with
  | none => cases h
  | some q => exact ⟨q.1, q.2, rfl, h⟩
theorem b2_t {α0 α1 ρ : Type} {x : Option (α0 × α1)} {f : α0 → α1 → Option ρ} {a0 : α0} {a1 : α1} (h : x = some (a0, a1)) : b2 x f = f a0 a1 := by rw [h]; rfl
def b3 {α0 α1 α2 ρ : Type} (x : Option (α0 × α1 × α2)) (f : α0 → α1 → α2 → Option ρ) : Option ρ := match x with
  | none => none
  | some q => f q.1 q.2.1 q.2.2
theorem b3_s {α0 α1 α2 ρ : Type} {x : Option (α0 × α1 × α2)} {f : α0 → α1 → α2 → Option ρ} {r : ρ} (h : b3 x f = some r) : ∃ a0 a1 a2, x = some (a0, a1, a2) ∧ f a0 a1 a2 = some r := by
  cases x with
  | none => cases h
  | some q => exact ⟨q.1, q.2.1, q.2.2, rfl, h⟩
theorem b3_t {α0 α1 α2 ρ : Type} {x : Option (α0 × α1 × α2)} {f : α0 → α1 → α2 → Option ρ} {a0 : α0} {a1 : α1} {a2 : α2} (h : x = some (a0, a1, a2)) : b3 x f = f a0 a1 a2 := by rw [h]; rfl
def b4 {α0 α1 α2 α3 ρ : Type} (x : Option (α0 × α1 × α2 × α3)) (f : α0 → α1 → α2 → α3 → Option ρ) : Option ρ := match x with
  | none => none
  | some q => f q.1 q.2.1 q.2.2.1 q.2.2.2
theorem b4_s {α0 α1 α2 α3 ρ : Type} {x : Option (α0 × α1 × α2 × α3)} {f : α0 → α1 → α2 → α3 → Option ρ} {r : ρ} (h : b4 x f = some r) : ∃ a0 a1 a2 a3, x = some (a0, a1, a2, a3) ∧ f a0 a1 a2 a3 = some r := by
  cases x with
  | none => cases h
  | some q => exact ⟨q.1, q.2.1, q.2.2.1, q.2.2.2, rfl, h⟩
theorem b4_t {α0 α1 α2 α3 ρ : Type} {x : Option (α0 × α1 × α2 × α3)} {f : α0 → α1 → α2 → α3 → Option ρ} {a0 : α0} {a1 : α1} {a2 : α2} {a3 : α3} (h : x = some (a0, a1, a2, a3)) : b4 x f = f a0 a1 a2 a3 := by rw [h]; rfl
def b5 {α0 α1 α2 α3 α4 ρ : Type} (x : Option (α0 × α1 × α2 × α3 × α4)) (f : α0 → α1 → α2 → α3 → α4 → Option ρ) : Option ρ := match x with
  | none => none
  | some q => f q.1 q.2.1 q.2.2.1 q.2.2.2.1 q.2.2.2.2
theorem b5_s {α0 α1 α2 α3 α4 ρ : Type} {x : Option (α0 × α1 × α2 × α3 × α4)} {f : α0 → α1 → α2 → α3 → α4 → Option ρ} {r : ρ} (h : b5 x f = some r) : ∃ a0 a1 a2 a3 a4, x = some (a0, a1, a2, a3, a4) ∧ f a0 a1 a2 a3 a4 = some r := by
  cases x with
  | none => cases h
  | some q => exact ⟨q.1, q.2.1, q.2.2.1, q.2.2.2.1, q.2.2.2.2, rfl, h⟩
theorem b5_t {α0 α1 α2 α3 α4 ρ : Type} {x : Option (α0 × α1 × α2 × α3 × α4)} {f : α0 → α1 → α2 → α3 → α4 → Option ρ} {a0 : α0} {a1 : α1} {a2 : α2} {a3 : α3} {a4 : α4} (h : x = some (a0, a1, a2, a3, a4)) : b5 x f = f a0 a1 a2 a3 a4 := by rw [h]; rfl
def b6 {α0 α1 α2 α3 α4 α5 ρ : Type} (x : Option (α0 × α1 × α2 × α3 × α4 × α5)) (f : α0 → α1 → α2 → α3 → α4 → α5 → Option ρ) : Option ρ := match x with
  | none => none
  | some q => f q.1 q.2.1 q.2.2.1 q.2.2.2.1 q.2.2.2.2.1 q.2.2.2.2.2
theorem b6_s {α0 α1 α2 α3 α4 α5 ρ : Type} {x : Option (α0 × α1 × α2 × α3 × α4 × α5)} {f : α0 → α1 → α2 → α3 → α4 → α5 → Option ρ} {r : ρ} (h : b6 x f = some r) : ∃ a0 a1 a2 a3 a4 a5, x = some (a0, a1, a2, a3, a4, a5) ∧ f a0 a1 a2 a3 a4 a5 = some r := by
  cases x with
  | none => cases h
  | some q => exact ⟨q.1, q.2.1, q.2.2.1, q.2.2.2.1, q.2.2.2.2.1, q.2.2.2.2.2, rfl, h⟩
theorem b6_t {α0 α1 α2 α3 α4 α5 ρ : Type} {x : Option (α0 × α1 × α2 × α3 × α4 × α5)} {f : α0 → α1 → α2 → α3 → α4 → α5 → Option ρ} {a0 : α0} {a1 : α1} {a2 : α2} {a3 : α3} {a4 : α4} {a5 : α5} (h : x = some (a0, a1, a2, a3, a4, a5)) : b6 x f = f a0 a1 a2 a3 a4 a5 := by rw [h]; rfl
def b7 {α0 α1 α2 α3 α4 α5 α6 ρ : Type} (x : Option (α0 × α1 × α2 × α3 × α4 × α5 × α6)) (f : α0 → α1 → α2 → α3 → α4 → α5 → α6 → Option ρ) : Option ρ := match x with
  | none => none
  | some q => f q.1 q.2.1 q.2.2.1 q.2.2.2.1 q.2.2.2.2.1 q.2.2.2.2.2.1 q.2.2.2.2.2.2
theorem b7_s {α0 α1 α2 α3 α4 α5 α6 ρ : Type} {x : Option (α0 × α1 × α2 × α3 × α4 × α5 × α6)} {f : α0 → α1 → α2 → α3 → α4 → α5 → α6 → Option ρ} {r : ρ} (h : b7 x f = some r) : ∃ a0 a1 a2 a3 a4 a5 a6, x = some (a0, a1, a2, a3, a4, a5, a6) ∧ f a0 a1 a2 a3 a4 a5 a6 = some r := by
  cases x with
  | none => cases h
  | some q => exact ⟨q.1, q.2.1, q.2.2.1, q.2.2.2.1, q.2.2.2.2.1, q.2.2.2.2.2.1, q.2.2.2.2.2.2, rfl, h⟩
theorem b7_t {α0 α1 α2 α3 α4 α5 α6 ρ : Type} {x : Option (α0 × α1 × α2 × α3 × α4 × α5 × α6)} {f : α0 → α1 → α2 → α3 → α4 → α5 → α6 → Option ρ} {a0 : α0} {a1 : α1} {a2 : α2} {a3 : α3} {a4 : α4} {a5 : α5} {a6 : α6} (h : x = some (a0, a1, a2, a3, a4, a5, a6)) : b7 x f = f a0 a1 a2 a3 a4 a5 a6 := by rw [h]; rfl
def b8 {α0 α1 α2 α3 α4 α5 α6 α7 ρ : Type} (x : Option (α0 × α1 × α2 × α3 × α4 × α5 × α6 × α7)) (f : α0 → α1 → α2 → α3 → α4 → α5 → α6 → α7 → Option ρ) : Option ρ := match x with
  | none => none
  | some q => f q.1 q.2.1 q.2.2.1 q.2.2.2.1 q.2.2.2.2.1 q.2.2.2.2.2.1 q.2.2.2.2.2.2.1 q.2.2.2.2.2.2.2
theorem b8_s {α0 α1 α2 α3 α4 α5 α6 α7 ρ : Type} {x : Option (α0 × α1 × α2 × α3 × α4 × α5 × α6 × α7)} {f : α0 → α1 → α2 → α3 → α4 → α5 → α6 → α7 → Option ρ} {r : ρ} (h : b8 x f = some r) : ∃ a0 a1 a2 a3 a4 a5 a6 a7, x = some (a0, a1, a2, a3, a4, a5, a6, a7) ∧ f a0 a1 a2 a3 a4 a5 a6 a7 = some r := by
  cases x with
  | none => cases h
  | some q => exact ⟨q.1, q.2.1, q.2.2.1, q.2.2.2.1, q.2.2.2.2.1, q.2.2.2.2.2.1, q.2.2.2.2.2.2.1, q.2.2.2.2.2.2.2, rfl, h⟩
theorem b8_t {α0 α1 α2 α3 α4 α5 α6 α7 ρ : Type} {x : Option (α0 × α1 × α2 × α3 × α4 × α5 × α6 × α7)} {f : α0 → α1 → α2 → α3 → α4 → α5 → α6 → α7 → Option ρ} {a0 : α0} {a1 : α1} {a2 : α2} {a3 : α3} {a4 : α4} {a5 : α5} {a6 : α6} {a7 : α7} (h : x = some (a0, a1, a2, a3, a4, a5, a6, a7)) : b8 x f = f a0 a1 a2 a3 a4 a5 a6 a7 := by rw [h]; rfl
def b9 {α0 α1 α2 α3 α4 α5 α6 α7 α8 ρ : Type} (x : Option (α0 × α1 × α2 × α3 × α4 × α5 × α6 × α7 × α8)) (f : α0 → α1 → α2 → α3 → α4 → α5 → α6 → α7 → α8 → Option ρ) : Option ρ := match x with
  | none => none
  | some q => f q.1 q.2.1 q.2.2.1 q.2.2.2.1 q.2.2.2.2.1 q.2.2.2.2.2.1 q.2.2.2.2.2.2.1 q.2.2.2.2.2.2.2.1 q.2.2.2.2.2.2.2.2
theorem b9_s {α0 α1 α2 α3 α4 α5 α6 α7 α8 ρ : Type} {x : Option (α0 × α1 × α2 × α3 × α4 × α5 × α6 × α7 × α8)} {f : α0 → α1 → α2 → α3 → α4 → α5 → α6 → α7 → α8 → Option ρ} {r : ρ} (h : b9 x f = some r) : ∃ a0 a1 a2 a3 a4 a5 a6 a7 a8, x = some (a0, a1, a2, a3, a4, a5, a6, a7, a8) ∧ f a0 a1 a2 a3 a4 a5 a6 a7 a8 = some r := by
  cases x with
  | none => cases h
  | some q => exact ⟨q.1, q.2.1, q.2.2.1, q.2.2.2.1, q.2.2.2.2.1, q.2.2.2.2.2.1, q.2.2.2.2.2.2.1, q.2.2.2.2.2.2.2.1, q.2.2.2.2.2.2.2.2, rfl, h⟩
theorem b9_t {α0 α1 α2 α3 α4 α5 α6 α7 α8 ρ : Type} {x : Option (α0 × α1 × α2 × α3 × α4 × α5 × α6 × α7 × α8)} {f : α0 → α1 → α2 → α3 → α4 → α5 → α6 → α7 → α8 → Option ρ} {a0 : α0} {a1 : α1} {a2 : α2} {a3 : α3} {a4 : α4} {a5 : α5} {a6 : α6} {a7 : α7} {a8 : α8} (h : x = some (a0, a1, a2, a3, a4, a5, a6, a7, a8)) : b9 x f = f a0 a1 a2 a3 a4 a5 a6 a7 a8 := by rw [h]; rfl
def b10 {α0 α1 α2 α3 α4 α5 α6 α7 α8 α9 ρ : Type} (x : Option (α0 × α1 × α2 × α3 × α4 × α5 × α6 × α7 × α8 × α9)) (f : α0 → α1 → α2 → α3 → α4 → α5 → α6 → α7 → α8 → α9 → Option ρ) : Option ρ := match x with
  | none => none
  | some q => f q.1 q.2.1 q.2.2.1 q.2.2.2.1 q.2.2.2.2.1 q.2.2.2.2.2.1 q.2.2.2.2.2.2.1 q.2.2.2.2.2.2.2.1 q.2.2.2.2.2.2.2.2.1 q.2.2.2.2.2.2.2.2.2
theorem b10_s {α0 α1 α2 α3 α4 α5 α6 α7 α8 α9 ρ : Type} {x : Option (α0 × α1 × α2 × α3 × α4 × α5 × α6 × α7 × α8 × α9)} {f : α0 → α1 → α2 → α3 → α4 → α5 → α6 → α7 → α8 → α9 → Option ρ} {r : ρ} (h : b10 x f = some r) : ∃ a0 a1 a2 a3 a4 a5 a6 a7 a8 a9, x = some (a0, a1, a2, a3, a4, a5, a6, a7, a8, a9) ∧ f a0 a1 a2 a3 a4 a5 a6 a7 a8 a9 = some r := by
  cases x with
  | none => cases h
  | some q => exact ⟨q.1, q.2.1, q.2.2.1, q.2.2.2.1, q.2.2.2.2.1, q.2.2.2.2.2.1, q.2.2.2.2.2.2.1, q.2.2.2.2.2.2.2.1, q.2.2.2.2.2.2.2.2.1, q.2.2.2.2.2.2.2.2.2, rfl, h⟩
theorem b10_t {α0 α1 α2 α3 α4 α5 α6 α7 α8 α9 ρ : Type} {x : Option (α0 × α1 × α2 × α3 × α4 × α5 × α6 × α7 × α8 × α9)} {f : α0 → α1 → α2 → α3 → α4 → α5 → α6 → α7 → α8 → α9 → Option ρ} {a0 : α0} {a1 : α1} {a2 : α2} {a3 : α3} {a4 : α4} {a5 : α5} {a6 : α6} {a7 : α7} {a8 : α8} {a9 : α9} (h : x = some (a0, a1, a2, a3, a4, a5, a6, a7, a8, a9)) : b10 x f = f a0 a1 a2 a3 a4 a5 a6 a7 a8 a9 := by rw [h]; rfl
def b11 {α0 α1 α2 α3 α4 α5 α6 α7 α8 α9 α10 ρ : Type} (x : Option (α0 × α1 × α2 × α3 × α4 × α5 × α6 × α7 × α8 × α9 × α10)) (f : α0 → α1 → α2 → α3 → α4 → α5 → α6 → α7 → α8 → α9 → α10 → Option ρ) : Option ρ := match x with
  | none => none
  | some q => f q.1 q.2.1 q.2.2.1 q.2.2.2.1 q.2.2.2.2.1 q.2.2.2.2.2.1 q.2.2.2.2.2.2.1 q.2.2.2.2.2.2.2.1 q.2.2.2.2.2.2.2.2.1 q.2.2.2.2.2.2.2.2.2.1 q.2.2.2.2.2.2.2.2.2.2
theorem b11_s {α0 α1 α2 α3 α4 α5 α6 α7 α8 α9 α10 ρ : Type} {x : Option (α0 × α1 × α2 × α3 × α4 × α5 × α6 × α7 × α8 × α9 × α10)} {f : α0 → α1 → α2 → α3 → α4 → α5 → α6 → α7 → α8 → α9 → α10 → Option ρ} {r : ρ} (h : b11 x f = some r) : ∃ a0 a1 a2 a3 a4 a5 a6 a7 a8 a9 a10, x = some (a0, a1, a2, a3, a4, a5, a6, a7, a8, a9, a10) ∧ f a0 a1 a2 a3 a4 a5 a6 a7 a8 a9 a10 = some r := by
  cases x with
  | none => cases h
  | some q => exact ⟨q.1, q.2.1, q.2.2.1, q.2.2.2.1, q.2.2.2.2.1, q.2.2.2.2.2.1, q.2.2.2.2.2.2.1, q.2.2.2.2.2.2.2.1, q.2.2.2.2.2.2.2.2.1, q.2.2.2.2.2.2.2.2.2.1, q.2.2.2.2.2.2.2.2.2.2, rfl, h⟩
theorem b11_t {α0 α1 α2 α3 α4 α5 α6 α7 α8 α9 α10 ρ : Type} {x : Option (α0 × α1 × α2 × α3 × α4 × α5 × α6 × α7 × α8 × α9 × α10)} {f : α0 → α1 → α2 → α3 → α4 → α5 → α6 → α7 → α8 → α9 → α10 → Option ρ} {a0 : α0} {a1 : α1} {a2 : α2} {a3 : α3} {a4 : α4} {a5 : α5} {a6 : α6} {a7 : α7} {a8 : α8} {a9 : α9} {a10 : α10} (h : x = some (a0, a1, a2, a3, a4, a5, a6, a7, a8, a9, a10)) : b11 x f = f a0 a1 a2 a3 a4 a5 a6 a7 a8 a9 a10 := by rw [h]; rfl
def b12 {α0 α1 α2 α3 α4 α5 α6 α7 α8 α9 α10 α11 ρ : Type} (x : Option (α0 × α1 × α2 × α3 × α4 × α5 × α6 × α7 × α8 × α9 × α10 × α11)) (f : α0 → α1 → α2 → α3 → α4 → α5 → α6 → α7 → α8 → α9 → α10 → α11 → Option ρ) : Option ρ := match x with
  | none => none
  | some q => f q.1 q.2.1 q.2.2.1 q.2.2.2.1 q.2.2.2.2.1 q.2.2.2.2.2.1 q.2.2.2.2.2.2.1 q.2.2.2.2.2.2.2.1 q.2.2.2.2.2.2.2.2.1 q.2.2.2.2.2.2.2.2.2.1 q.2.2.2.2.2.2.2.2.2.2.1 q.2.2.2.2.2.2.2.2.2.2.2
theorem b12_s {α0 α1 α2 α3 α4 α5 α6 α7 α8 α9 α10 α11 ρ : Type} {x : Option (α0 × α1 × α2 × α3 × α4 × α5 × α6 × α7 × α8 × α9 × α10 × α11)} {f : α0 → α1 → α2 → α3 → α4 → α5 → α6 → α7 → α8 → α9 → α10 → α11 → Option ρ} {r : ρ} (h : b12 x f = some r) : ∃ a0 a1 a2 a3 a4 a5 a6 a7 a8 a9 a10 a11, x = some (a0, a1, a2, a3, a4, a5, a6, a7, a8, a9, a10, a11) ∧ f a0 a1 a2 a3 a4 a5 a6 a7 a8 a9 a10 a11 = some r := by
  cases x with
  | none => cases h
  | some q => exact ⟨q.1, q.2.1, q.2.2.1, q.2.2.2.1, q.2.2.2.2.1, q.2.2.2.2.2.1, q.2.2.2.2.2.2.1, q.2.2.2.2.2.2.2.1, q.2.2.2.2.2.2.2.2.1, q.2.2.2.2.2.2.2.2.2.1, q.2.2.2.2.2.2.2.2.2.2.1, q.2.2.2.2.2.2.2.2.2.2.2, rfl, h⟩
theorem b12_t {α0 α1 α2 α3 α4 α5 α6 α7 α8 α9 α10 α11 ρ : Type} {x : Option (α0 × α1 × α2 × α3 × α4 × α5 × α6 × α7 × α8 × α9 × α10 × α11)} {f : α0 → α1 → α2 → α3 → α4 → α5 → α6 → α7 → α8 → α9 → α10 → α11 → Option ρ} {a0 : α0} {a1 : α1} {a2 : α2} {a3 : α3} {a4 : α4} {a5 : α5} {a6 : α6} {a7 : α7} {a8 : α8} {a9 : α9} {a10 : α10} {a11 : α11} (h : x = some (a0, a1, a2, a3, a4, a5, a6, a7, a8, a9, a10, a11)) : b12 x f = f a0 a1 a2 a3 a4 a5 a6 a7 a8 a9 a10 a11 := by rw [h]; rfl
def b13 {α0 α1 α2 α3 α4 α5 α6 α7 α8 α9 α10 α11 α12 ρ : Type} (x : Option (α0 × α1 × α2 × α3 × α4 × α5 × α6 × α7 × α8 × α9 × α10 × α11 × α12)) (f : α0 → α1 → α2 → α3 → α4 → α5 → α6 → α7 → α8 → α9 → α10 → α11 → α12 → Option ρ) : Option ρ := match x with
  | none => none
  | some q => f q.1 q.2.1 q.2.2.1 q.2.2.2.1 q.2.2.2.2.1 q.2.2.2.2.2.1 q.2.2.2.2.2.2.1 q.2.2.2.2.2.2.2.1 q.2.2.2.2.2.2.2.2.1 q.2.2.2.2.2.2.2.2.2.1 q.2.2.2.2.2.2.2.2.2.2.1 q.2.2.2.2.2.2.2.2.2.2.2.1 q.2.2.2.2.2.2.2.2.2.2.2.2
theorem b13_s {α0 α1 α2 α3 α4 α5 α6 α7 α8 α9 α10 α11 α12 ρ : Type} {x : Option (α0 × α1 × α2 × α3 × α4 × α5 × α6 × α7 × α8 × α9 × α10 × α11 × α12)} {f : α0 → α1 → α2 → α3 → α4 → α5 → α6 → α7 → α8 → α9 → α10 → α11 → α12 → Option ρ} {r : ρ} (h : b13 x f = some r) : ∃ a0 a1 a2 a3 a4 a5 a6 a7 a8 a9 a10 a11 a12, x = some (a0, a1, a2, a3, a4, a5, a6, a7, a8, a9, a10, a11, a12) ∧ f a0 a1 a2 a3 a4 a5 a6 a7 a8 a9 a10 a11 a12 = some r := by
  cases x with
  | none => cases h
  | some q => exact ⟨q.1, q.2.1, q.2.2.1, q.2.2.2.1, q.2.2.2.2.1, q.2.2.2.2.2.1, q.2.2.2.2.2.2.1, q.2.2.2.2.2.2.2.1, q.2.2.2.2.2.2.2.2.1, q.2.2.2.2.2.2.2.2.2.1, q.2.2.2.2.2.2.2.2.2.2.1, q.2.2.2.2.2.2.2.2.2.2.2.1, q.2.2.2.2.2.2.2.2.2.2.2.2, rfl, h⟩
theorem b13_t {α0 α1 α2 α3 α4 α5 α6 α7 α8 α9 α10 α11 α12 ρ : Type} {x : Option (α0 × α1 × α2 × α3 × α4 × α5 × α6 × α7 × α8 × α9 × α10 × α11 × α12)} {f : α0 → α1 → α2 → α3 → α4 → α5 → α6 → α7 → α8 → α9 → α10 → α11 → α12 → Option ρ} {a0 : α0} {a1 : α1} {a2 : α2} {a3 : α3} {a4 : α4} {a5 : α5} {a6 : α6} {a7 : α7} {a8 : α8} {a9 : α9} {a10 : α10} {a11 : α11} {a12 : α12} (h : x = some (a0, a1, a2, a3, a4, a5, a6, a7, a8, a9, a10, a11, a12)) : b13 x f = f a0 a1 a2 a3 a4 a5 a6 a7 a8 a9 a10 a11 a12 := by rw [h]; rfl
def b14 {α0 α1 α2 α3 α4 α5 α6 α7 α8 α9 α10 α11 α12 α13 ρ : Type} (x : Option (α0 × α1 × α2 × α3 × α4 × α5 × α6 × α7 × α8 × α9 × α10 × α11 × α12 × α13)) (f : α0 → α1 → α2 → α3 → α4 → α5 → α6 → α7 → α8 → α9 → α10 → α11 → α12 → α13 → Option ρ) : Option ρ := match x with
  | none => none
  | some q => f q.1 q.2.1 q.2.2.1 q.2.2.2.1 q.2.2.2.2.1 q.2.2.2.2.2.1 q.2.2.2.2.2.2.1 q.2.2.2.2.2.2.2.1 q.2.2.2.2.2.2.2.2.1 q.2.2.2.2.2.2.2.2.2.1 q.2.2.2.2.2.2.2.2.2.2.1 q.2.2.2.2.2.2.2.2.2.2.2.1 q.2.2.2.2.2.2.2.2.2.2.2.2.1 q.2.2.2.2.2.2.2.2.2.2.2.2.2
theorem b14_s {α0 α1 α2 α3 α4 α5 α6 α7 α8 α9 α10 α11 α12 α13 ρ : Type} {x : Option (α0 × α1 × α2 × α3 × α4 × α5 × α6 × α7 × α8 × α9 × α10 × α11 × α12 × α13)} {f : α0 → α1 → α2 → α3 → α4 → α5 → α6 → α7 → α8 → α9 → α10 → α11 → α12 → α13 → Option ρ} {r : ρ} (h : b14 x f = some r) : ∃ a0 a1 a2 a3 a4 a5 a6 a7 a8 a9 a10 a11 a12 a13, x = some (a0, a1, a2, a3, a4, a5, a6, a7, a8, a9, a10, a11, a12, a13) ∧ f a0 a1 a2 a3 a4 a5 a6 a7 a8 a9 a10 a11 a12 a13 = some r := by
  cases x with
  | none => cases h
  | some q => exact ⟨q.1, q.2.1, q.2.2.1, q.2.2.2.1, q.2.2.2.2.1, q.2.2.2.2.2.1, q.2.2.2.2.2.2.1, q.2.2.2.2.2.2.2.1, q.2.2.2.2.2.2.2.2.1, q.2.2.2.2.2.2.2.2.2.1, q.2.2.2.2.2.2.2.2.2.2.1, q.2.2.2.2.2.2.2.2.2.2.2.1, q.2.2.2.2.2.2.2.2.2.2.2.2.1, q.2.2.2.2.2.2.2.2.2.2.2.2.2, rfl, h⟩
theorem b14_t {α0 α1 α2 α3 α4 α5 α6 α7 α8 α9 α10 α11 α12 α13 ρ : Type} {x : Option (α0 × α1 × α2 × α3 × α4 × α5 × α6 × α7 × α8 × α9 × α10 × α11 × α12 × α13)} {f : α0 → α1 → α2 → α3 → α4 → α5 → α6 → α7 → α8 → α9 → α10 → α11 → α12 → α13 → Option ρ} {a0 : α0} {a1 : α1} {a2 : α2} {a3 : α3} {a4 : α4} {a5 : α5} {a6 : α6} {a7 : α7} {a8 : α8} {a9 : α9} {a10 : α10} {a11 : α11} {a12 : α12} {a13 : α13} (h : x = some (a0, a1, a2, a3, a4, a5, a6, a7, a8, a9, a10, a11, a12, a13)) : b14 x f = f a0 a1 a2 a3 a4 a5 a6 a7 a8 a9 a10 a11 a12 a13 := by rw [h]; rfl
def b15 {α0 α1 α2 α3 α4 α5 α6 α7 α8 α9 α10 α11 α12 α13 α14 ρ : Type} (x : Option (α0 × α1 × α2 × α3 × α4 × α5 × α6 × α7 × α8 × α9 × α10 × α11 × α12 × α13 × α14)) (f : α0 → α1 → α2 → α3 → α4 → α5 → α6 → α7 → α8 → α9 → α10 → α11 → α12 → α13 → α14 → Option ρ) : Option ρ := match x with
  | none => none
  | some q => f q.1 q.2.1 q.2.2.1 q.2.2.2.1 q.2.2.2.2.1 q.2.2.2.2.2.1 q.2.2.2.2.2.2.1 q.2.2.2.2.2.2.2.1 q.2.2.2.2.2.2.2.2.1 q.2.2.2.2.2.2.2.2.2.1 q.2.2.2.2.2.2.2.2.2.2.1 q.2.2.2.2.2.2.2.2.2.2.2.1 q.2.2.2.2.2.2.2.2.2.2.2.2.1 q.2.2.2.2.2.2.2.2.2.2.2.2.2.1 q.2.2.2.2.2.2.2.2.2.2.2.2.2.2
theorem b15_s {α0 α1 α2 α3 α4 α5 α6 α7 α8 α9 α10 α11 α12 α13 α14 ρ : Type} {x : Option (α0 × α1 × α2 × α3 × α4 × α5 × α6 × α7 × α8 × α9 × α10 × α11 × α12 × α13 × α14)} {f : α0 → α1 → α2 → α3 → α4 → α5 → α6 → α7 → α8 → α9 → α10 → α11 → α12 → α13 → α14 → Option ρ} {r : ρ} (h : b15 x f = some r) : ∃ a0 a1 a2 a3 a4 a5 a6 a7 a8 a9 a10 a11 a12 a13 a14, x = some (a0, a1, a2, a3, a4, a5, a6, a7, a8, a9, a10, a11, a12, a13, a14) ∧ f a0 a1 a2 a3 a4 a5 a6 a7 a8 a9 a10 a11 a12 a13 a14 = some r := by
  cases x with
  | none => cases h
  | some q => exact ⟨q.1, q.2.1, q.2.2.1, q.2.2.2.1, q.2.2.2.2.1, q.2.2.2.2.2.1, q.2.2.2.2.2.2.1, q.2.2.2.2.2.2.2.1, q.2.2.2.2.2.2.2.2.1, q.2.2.2.2.2.2.2.2.2.1, q.2.2.2.2.2.2.2.2.2.2.1, q.2.2.2.2.2.2.2.2.2.2.2.1, q.2.2.2.2.2.2.2.2.2.2.2.2.1, q.2.2.2.2.2.2.2.2.2.2.2.2.2.1, q.2.2.2.2.2.2.2.2.2.2.2.2.2.2, rfl, h⟩
theorem b15_t {α0 α1 α2 α3 α4 α5 α6 α7 α8 α9 α10 α11 α12 α13 α14 ρ : Type} {x : Option (α0 × α1 × α2 × α3 × α4 × α5 × α6 × α7 × α8 × α9 × α10 × α11 × α12 × α13 × α14)} {f : α0 → α1 → α2 → α3 → α4 → α5 → α6 → α7 → α8 → α9 → α10 → α11 → α12 → α13 → α14 → Option ρ} {a0 : α0} {a1 : α1} {a2 : α2} {a3 : α3} {a4 : α4} {a5 : α5} {a6 : α6} {a7 : α7} {a8 : α8} {a9 : α9} {a10 : α10} {a11 : α11} {a12 : α12} {a13 : α13} {a14 : α14} (h : x = some (a0, a1, a2, a3, a4, a5, a6, a7, a8, a9, a10, a11, a12, a13, a14)) : b15 x f = f a0 a1 a2 a3 a4 a5 a6 a7 a8 a9 a10 a11 a12 a13 a14 := by rw [h]; rfl
theorem fm_of_m {α β : Type} {f : α → Option β} : ∀ {is : List α} {w : List β}, is.map f = w.map some → is.filterMap f = w
  | [], [], _ => rfl
  | [], _ :: _, h => by cases h
  | _ :: _, [], h => by cases h
  | i :: is, b :: w, h => by
    simp only [List.map_cons, List.cons.injEq] at h
    rw [List.filterMap_cons_some h.1, fm_of_m h.2]
/-- what holds of X holds of its part wc -/
def Sb (X wc : va_W) : Prop := (∀ (D : va_G) (H : Heap), va_P D vwCl X H → va_P D vwCl wc H) ∧ ∀ A : Nat → Prop, va_D A X → va_D A wc
theorem Sb.is {X wc : va_W} (is : List Nat) (h1 : is.map (fun i => X[i]?) = wc.map some) (h2 : va_nd is = true) : Sb X wc := ⟨fun _ _ h => h.sub is (fm_of_m h1), fun _ h => h.sub is h2 h1⟩
theorem Sb.rf {X : va_W} : Sb X X := ⟨fun _ _ h => h, fun _ h => h⟩
theorem Sb.nil {X : va_W} : Sb X [] := Sb.is [] rfl rfl
theorem Sb.tr {X Y Z : va_W} (h1 : Sb X Y) (h2 : Sb Y Z) : Sb X Z := ⟨fun D H h => h2.1 D H (h1.1 D H h), fun A h => h2.2 A (h1.2 A h)⟩
theorem va_P.sb {D : va_G} {X wc : va_W} {H : Heap} (h : va_P D vwCl X H) (hs : Sb X wc) : va_P D vwCl wc H := hs.1 D H h
theorem va_D.sb {A : Nat → Prop} {X wc : va_W} (h : va_D A X) (hs : Sb X wc) : va_D A wc := hs.2 A h
/-- X with wc' in place of wc is X', whatever a call that keeps to wc does -/
def Jn (X X' wc wc' : va_W) : Prop := Sb X wc ∧ ∀ (D : va_G) (A : Nat → Prop) (H H1 : Heap), va_P D vwCl X H → va_D A X → (∀ q : Nat, q < H.size → ¬ va_A wc H.size q → H1[q]? = H[q]?) → (∀ q : Nat, va_A wc H.size q → A q) → va_P D vwCl wc' H1 → va_D (va_A wc H.size) wc' → va_P D vwCl X' H1 ∧ va_D A X'
theorem Jn.is {X X' wc wc' : va_W} (isC isR : List Nat) (wr : va_W) (isN : List Nat) (hC : isC.map (fun i => X[i]?) = wc.map some) (hCn : va_nd isC = true) (hR : isR.map (fun i => X[i]?) = wr.map some) (hRn : va_nd isR = true) (hdis : ∀ i ∈ isR, i ∉ isC) (hN : isN.map (fun i => (wr ++ wc')[i]?) = X'.map some) (hNn : va_nd isN = true) : Jn X X' wc wc' := by
  refine ⟨Sb.is isC hC hCn, fun D A H H1 hP hD hk hF hp hd => ?_⟩
  obtain ⟨hP1, hD1⟩ := va_join hP hD isC isR hC hR hRn hdis hk hF hp hd
  exact ⟨hP1.sub isN (fm_of_m hN), hD1.sub isN hNn hN⟩
theorem Jn.rf {X X' : va_W} : Jn X X' X X' := ⟨Sb.rf, fun _ _ _ _ _ _ _ hF hp hd => ⟨hp, hd.weaken (fun _ _ _ h => hF _ h)⟩⟩
theorem Jn.free {X X' wc wc' : va_W} (h : Jn X X' wc wc') {A : Nat → Prop} {H0 H : Heap} {locs : List Loc} (hD : va_D A X) (hS : va_S A H0 H locs) (hA : ∀ q : Nat, H0.size ≤ q → A q) : ∀ q, va_A wc H.size q → A q := by
  intro q hq
  rcases hq with ⟨k, e, hk⟩ | hq
  · exact (h.1.2 A hD).2 k (q, e) hk
  · exact hA q (Nat.le_trans hS.1 hq)
/-- a method that reads: if its world is there it answers res, and nothing changes -/
def Rd (l : Launch) (D : va_G) (cI cB cL cK : ClassId) (y : MethodName) (ws : List Cond) (rm : Room) (av : List Value) (wc : va_W) (res : Int32) : Prop :=
  Met l y ws rm (va_Pc av (fun U => va_P D vwCl wc U.heap ∧ va_K D vwCl (TYS cI cB cL cK) U)) (vp_Si (fun r => r = res)) 0 0 (fun _ => False)
def RdL (l : Launch) (D : va_G) (cI cB cL cK : ClassId) (y : MethodName) (ws : List Cond) (rm : Room) (av : List Value) (wc : va_W) (res : Int64) : Prop :=
  Met l y ws rm (va_Pc av (fun U => va_P D vwCl wc U.heap ∧ va_K D vwCl (TYS cI cB cL cK) U)) (vp_Sl (fun r => r = res)) 0 0 (fun _ => False)
def QM (D : va_G) (res : Option Value) (wc wc' : va_W) (sz : Nat) : Array Value → State → Outcome → State → Prop := fun _ st oc t => oc = .returned res ∧ va_P D vwCl wc' t.heap ∧ va_D (va_A wc sz) wc' ∧ va_F (va_A wc sz) st t
/-- a method that writes: its world wc becomes wc', it answers res -/
def Mu (l : Launch) (D : va_G) (cI cB cL cK : ClassId) (y : MethodName) (ws : List Cond) (rm : Room) (av : List Value) (wc wc' : va_W) (res : Option Value) (mc ms : Nat) : Prop :=
  ∀ sz : Nat, Met l y ws rm (va_Pc av (fun U => U.heap.size = sz ∧ va_P D vwCl wc U.heap ∧ va_K D vwCl (TYS cI cB cL cK) U ∧ va_D (fun _ => True) wc)) (QM D res wc wc' sz) mc ms (va_A wc sz)
/-- what stands still while a method runs -/
def Cx (p : Program) (s : State) (m : MethodId) (args : Array Value) (meth : Method) (c : Code) (cc : ByteArray) (ret : Option FieldType) (nL : Nat) (Ts : List Cond) (own : String) (D : va_G) (cI cB cL cK : ClassId) : Prop :=
  p.tables.exec = Jvm.exec ∧ c.code = cc ∧ meth.sig.returnType = ret ∧ c.maxLocals = nL ∧ s.vm.findClass own = some m.cls ∧ (∀ w ∈ Ts, w.before args s = true) ∧ meth.locks = false ∧ va_K D vwCl (TYS cI cB cL cK) s
section BaseA
variable {l : Launch} {D : va_G} {cI cB cL cK : ClassId} {y : MethodName} {ws ws' : List Cond} {rm : Room} {av : List Value} {wc wc' : va_W} {cc : ByteArray} {maxL : Nat} {own : String}
theorem Rd.of {ty : FieldType} {res : Int32} (hy : plainName y.cls = true) (hw : ws = Cond.code y cc maxL (some ty) :: ws') (ho : y.cls = own) (hle : (lg_sl av).length ≤ maxL)
    (h : ∀ (p : Program) (e : Env) (s : State) (m : MethodId) (below : List Frame) (meth : Method) (c : Code) (ls : Array Slot) (Q : State → Prop), Cx p s m av.toArray meth c cc (some ty) maxL ws own D cI cB cL cK → va_P D vwCl wc s.heap → lv_has ls maxL (lv_args 0 av) →
      (∀ (pc : Nat) (ls : Array Slot), decode cc pc = .ok (.ireturn, 1) → narrow ty (.int res) = .int res → W p l e rm s m av.toArray below meth c s.heap [] 0 0 Q (F0 m pc ls [.int res])) →
      W p l e rm s m av.toArray below meth c s.heap [] 0 0 Q (F0 m 0 ls [])) : Rd l D cI cB cL cK y ws rm av wc res := by
  refine Met.ofW (cc := cc) (maxL := maxL) (ret := some ty) hy hw ?_
  intro p e s m args below meth c s₁ B hml hv
  obtain ⟨rfl, hP, hK⟩ := hv
  have hts := atoms_spec (ws := ws) B.pre
  have hown : s.vm.findClass own = some m.cls := by rw [← ho]; exact findClass_of_methodNamed B.named
  have hl := lv_entry av (n := maxL) hle
  rw [lg_entry_eq]
  have hlk := B.notSynchronized
  refine h p e s m below meth c _ _ ⟨B.exec, B.bytes, B.returns, hml, hown, hts, hlk, hK⟩ hP hl (fun pc ls hd hn => ?_)
  exact W.zret B.exec B.bytes B.returns hn (fun t ht _ => ⟨res, rfl, rfl, ht⟩) (fun _ h => by cases h) hd hlk
theorem RdL.of {res : Int64} (hy : plainName y.cls = true) (hw : ws = Cond.code y cc maxL (some .long) :: ws') (ho : y.cls = own) (hle : (lg_sl av).length ≤ maxL)
    (h : ∀ (p : Program) (e : Env) (s : State) (m : MethodId) (below : List Frame) (meth : Method) (c : Code) (ls : Array Slot) (Q : State → Prop), Cx p s m av.toArray meth c cc (some .long) maxL ws own D cI cB cL cK → va_P D vwCl wc s.heap → lv_has ls maxL (lv_args 0 av) →
      (∀ (pc : Nat) (ls : Array Slot), decode cc pc = .ok (.lreturn, 1) → W p l e rm s m av.toArray below meth c s.heap [] 0 0 Q (F0 m pc ls [.long res])) →
      W p l e rm s m av.toArray below meth c s.heap [] 0 0 Q (F0 m 0 ls [])) : RdL l D cI cB cL cK y ws rm av wc res := by
  refine Met.ofW (cc := cc) (maxL := maxL) (ret := some .long) hy hw ?_
  intro p e s m args below meth c s₁ B hml hv
  obtain ⟨rfl, hP, hK⟩ := hv
  have hts := atoms_spec (ws := ws) B.pre
  have hown : s.vm.findClass own = some m.cls := by rw [← ho]; exact findClass_of_methodNamed B.named
  have hl := lv_entry av (n := maxL) hle
  rw [lg_entry_eq]
  have hlk := B.notSynchronized
  refine h p e s m below meth c _ _ ⟨B.exec, B.bytes, B.returns, hml, hown, hts, hlk, hK⟩ hP hl (fun pc ls hd => ?_)
  exact W.lret B.exec B.bytes B.returns (fun t ht _ => ⟨res, rfl, rfl, ht⟩) (fun _ h => by cases h) hd hlk
theorem Mu.ofi {ty : FieldType} {res : Int32} {mc ms : Nat} (hy : plainName y.cls = true) (hw : ws = Cond.code y cc maxL (some ty) :: ws') (ho : y.cls = own) (hle : (lg_sl av).length ≤ maxL)
    (h : ∀ (p : Program) (e : Env) (s : State) (m : MethodId) (below : List Frame) (meth : Method) (c : Code) (ls : Array Slot) (Q : State → Prop) (A : Nat → Prop), Cx p s m av.toArray meth c cc (some ty) maxL ws own D cI cB cL cK → (∀ q : Nat, s.heap.size ≤ q → A q) → va_P D vwCl wc s.heap → va_D A wc → va_S A s.heap s.heap [] → lv_has ls maxL (lv_args 0 av) →
      (∀ (pc : Nat) (ls : Array Slot) (H : Heap) (locs : List Loc), decode cc pc = .ok (.ireturn, 1) → narrow ty (.int res) = .int res → va_P D vwCl wc' H → va_D A wc' → va_S A s.heap H locs → W p l e rm s m av.toArray below meth c H locs mc ms Q (F0 m pc ls [.int res])) →
      W p l e rm s m av.toArray below meth c s.heap [] 0 0 Q (F0 m 0 ls [])) : Mu l D cI cB cL cK y ws rm av wc wc' (some (.int res)) mc ms := by
  intro sz
  refine Met.ofW (cc := cc) (maxL := maxL) (ret := some ty) hy hw ?_
  intro p e s m args below meth c s₁ B hml hv
  obtain ⟨rfl, hsz, hP, hK, hD0⟩ := hv
  subst hsz
  have hts := atoms_spec (ws := ws) B.pre
  have hown : s.vm.findClass own = some m.cls := by rw [← ho]; exact findClass_of_methodNamed B.named
  have hl := lv_entry av (n := maxL) hle
  rw [lg_entry_eq]
  have hlk := B.notSynchronized
  refine h p e s m below meth c _ _ (va_A wc s.heap.size) ⟨B.exec, B.bytes, B.returns, hml, hown, hts, hlk, hK⟩ (fun q h => Or.inr h) hP (hD0.self (sz := s.heap.size)) va_S.rf hl (fun pc ls H locs hd hn hP1 hD1 hS => ?_)
  exact W.zret B.exec B.bytes B.returns hn (fun t ht _ => ⟨rfl, by rw [ht]; exact hP1, hD1, hS.F ht⟩) hS.2.2 hd hlk
theorem Mu.ofv {mc ms : Nat} (hy : plainName y.cls = true) (hw : ws = Cond.code y cc maxL none :: ws') (ho : y.cls = own) (hle : (lg_sl av).length ≤ maxL)
    (h : ∀ (p : Program) (e : Env) (s : State) (m : MethodId) (below : List Frame) (meth : Method) (c : Code) (ls : Array Slot) (Q : State → Prop) (A : Nat → Prop), Cx p s m av.toArray meth c cc none maxL ws own D cI cB cL cK → meth.name = y.name → (∀ q : Nat, s.heap.size ≤ q → A q) → va_P D vwCl wc s.heap → va_D A wc → va_S A s.heap s.heap [] → lv_has ls maxL (lv_args 0 av) →
      (∀ (pc : Nat) (ls : Array Slot) (H : Heap) (locs : List Loc), decode cc pc = .ok (.return_, 1) → va_P D vwCl wc' H → va_D A wc' → va_S A s.heap H locs → W p l e rm s m av.toArray below meth c H locs mc ms Q (F0 m pc ls [])) →
      W p l e rm s m av.toArray below meth c s.heap [] 0 0 Q (F0 m 0 ls [])) : Mu l D cI cB cL cK y ws rm av wc wc' none mc ms := by
  intro sz
  refine Met.ofW (cc := cc) (maxL := maxL) (ret := none) hy hw ?_
  intro p e s m args below meth c s₁ B hml hv
  obtain ⟨rfl, hsz, hP, hK, hD0⟩ := hv
  subst hsz
  have hts := atoms_spec (ws := ws) B.pre
  have hown : s.vm.findClass own = some m.cls := by rw [← ho]; exact findClass_of_methodNamed B.named
  have hin : meth.name = y.name := (name_of_methodNamed B.named B.method).1
  have hl := lv_entry av (n := maxL) hle
  rw [lg_entry_eq]
  have hlk := B.notSynchronized
  refine h p e s m below meth c _ _ (va_A wc s.heap.size) ⟨B.exec, B.bytes, B.returns, hml, hown, hts, hlk, hK⟩ hin (fun q h => Or.inr h) hP (hD0.self (sz := s.heap.size)) va_S.rf hl (fun pc ls H locs hd hP1 hD1 hS => ?_)
  exact W.vret B.exec B.bytes B.returns (fun t ht _ => ⟨rfl, by rw [ht]; exact hP1, hD1, hS.F ht⟩) hS.2.2 hd hlk
end BaseA
section BaseB
variable {p : Program} {l : Launch} {e : Env} {R : Room} {s : State} {m : MethodId} {args : Array Value} {below : List Frame} {meth : Method} {c : Code} {H H0 : Heap} {locs : List Loc} {cells slots : Nat} {Q : State → Prop} {A : Nat → Prop} {D : va_G} {cI cB cL cK : ClassId} {pc nL : Nat} {ls : Array Slot} {rest st0 As : List Value} {cc bytes : ByteArray} {maxL n index mc ms ci q0 : Nat} {ret : Option FieldType} {ws Ts : List Cond} {rm : Room} {own C : String} {y : MethodName} {b : Nat} {X X' wc wc' : va_W} {r : Int32} {fs : List Value} {T : u_T} {N : Nat}
theorem Rd.blind {av : List Value} {wc : va_W} : FrameBlind (va_Pc av (fun U => va_P D vwCl wc U.heap ∧ va_K D vwCl (TYS cI cB cL cK) U)) :=
  fun a U g mk q => ⟨q.1, q.2.1, va_K.moved (u := U) (U := U.calling g mk a) (Vm.Alike.refl U.vm) q.2.2⟩
theorem Mu.blind {av : List Value} {wc : va_W} {sz : Nat} : FrameBlind (va_Pc av (fun U => U.heap.size = sz ∧ va_P D vwCl wc U.heap ∧ va_K D vwCl (TYS cI cB cL cK) U ∧ va_D (fun _ => True) wc)) :=
  fun a U g mk q => ⟨q.1, q.2.1, q.2.2.1, va_K.moved (u := U) (U := U.calling g mk a) (Vm.Alike.refl U.vm) q.2.2.2.1, q.2.2.2.2⟩
/-- a virtual call that reads -/
theorem rd_v (S : CallFix p m c cc nL s args Ts own) (hM : Rd l D cI cB cL cK y ws rm (.ref b :: As) wc r) (cw : CallW R s args own C index y bytes maxL ret ws rm 0 0 n) (hK : va_K D vwCl (TYS cI cB cL cK) s) (hP : va_P D vwCl X H) (hs : Sb X wc) (hc : vwCl[ci]? = some (C, T, N)) (he : X[q0]? = some (b, .inr (ci, fs)))
    (hn : As.length = n) (hsize : ls.size = nL) (hst : st0 = As.reverse ++ .ref b :: rest) (hw : (rest.map fun v => v.category).sum ≤ 8) (hdg : decode cc pc = .ok (.invokevirtual index, 3)) (hf : cells ≤ R.cells ∧ slots ≤ R.slots)
    (kk : W p l e R s m args below meth c H locs cells slots Q (F0 m (pc + 3) ls (.int r :: rest))) : W p l e R s m args below meth c H locs cells slots Q (F0 m pc ls st0) :=
  vp_callSi (post := fun z => z = r) (W.runV (rest := rest) S hM cw ⟨Rd.blind, va_recv hK hP hc he, fun U hU hW => ⟨rfl, by rw [hU]; exact hP.sb hs, va_K.moved hW.alike hK⟩⟩ rfl hn hsize hst (lv_room hw) hdg hf) (fun z hz => by rw [hz]; exact kk)
theorem rd_s (S : CallFix p m c cc nL s args Ts own) (hM : Rd l D cI cB cL cK y ws rm As wc r) (cw : CallB R s args own index y bytes maxL ret ws rm 0 0 n ∧ (Cond.static y).before args s = true) (hK : va_K D vwCl (TYS cI cB cL cK) s) (hP : va_P D vwCl X H) (hs : Sb X wc)
    (hn : As.length = n) (hsize : ls.size = nL) (hst : st0 = As.reverse ++ rest) (hw : (rest.map fun v => v.category).sum ≤ 8) (hdg : decode cc pc = .ok (.invokestatic index, 3)) (hf : cells ≤ R.cells ∧ slots ≤ R.slots)
    (kk : W p l e R s m args below meth c H locs cells slots Q (F0 m (pc + 3) ls (.int r :: rest))) : W p l e R s m args below meth c H locs cells slots Q (F0 m pc ls st0) :=
  vp_callSi (post := fun z => z = r) (W.runS (rest := rest) S hM cw ⟨Rd.blind, fun U hU hW => ⟨rfl, by rw [hU]; exact hP.sb hs, va_K.moved hW.alike hK⟩⟩ rfl hn hsize hst (lv_room hw) hdg hf) (fun z hz => by rw [hz]; exact kk)
theorem rdL_s {r : Int64} (S : CallFix p m c cc nL s args Ts own) (hM : RdL l D cI cB cL cK y ws rm As wc r) (cw : CallB R s args own index y bytes maxL ret ws rm 0 0 n ∧ (Cond.static y).before args s = true) (hK : va_K D vwCl (TYS cI cB cL cK) s) (hP : va_P D vwCl X H) (hs : Sb X wc)
    (hn : As.length = n) (hsize : ls.size = nL) (hst : st0 = As.reverse ++ rest) (hw : (rest.map fun v => v.category).sum ≤ 8) (hdg : decode cc pc = .ok (.invokestatic index, 3)) (hf : cells ≤ R.cells ∧ slots ≤ R.slots)
    (kk : W p l e R s m args below meth c H locs cells slots Q (F0 m (pc + 3) ls (.long r :: rest))) : W p l e R s m args below meth c H locs cells slots Q (F0 m pc ls st0) :=
  vp_callSl (post := fun z => z = r) (W.runS (rest := rest) S hM cw ⟨Rd.blind, fun U hU hW => ⟨rfl, by rw [hU]; exact hP.sb hs, va_K.moved hW.alike hK⟩⟩ rfl hn hsize hst (lv_room hw) hdg hf) (fun z hz => by rw [hz]; exact kk)
/-- behind a call that writes -/
theorem mu_k {res : Option Value} {a : Array Value} (hr : va_Run p l e R s m args below meth c H locs cells slots mc ms (F0 m pc ls st0) rest (QM D res wc wc' H.size a) (va_A wc H.size)) (hP : va_P D vwCl X H) (hD : va_D A X) (hS : va_S A H0 H locs) (hA : ∀ q : Nat, H0.size ≤ q → A q) (hJ : Jn X X' wc wc')
    (kk : ∀ (H1 : Heap) (locs1 : List Loc), va_P D vwCl X' H1 → va_D A X' → va_S A H0 H1 locs1 → W p l e R s m args below meth c H1 locs1 (cells + mc) (slots + ms) Q (F0 m (pc + 3) ls (res.toList ++ rest))) : W p l e R s m args below meth c H locs cells slots Q (F0 m pc ls st0) := by
  have hF := hJ.free hD hS hA
  intro T hT Xs
  obtain ⟨v, st₀, t, T', L, h0, Xs', hL, e1, e2, ⟨hv, hp, hd, hz, hk⟩, st⟩ := hr T hT Xs
  cases hv
  rw [h0] at hz hk
  rw [← e1] at hp hz
  have hk' : ∀ q : Nat, q < H.size → ¬ va_A wc H.size q → T'.heap[q]? = H[q]? := fun q h1 h2 => by rw [e1]; exact hk q h1 h2
  obtain ⟨hP1, hD1⟩ := hJ.2 D A H T'.heap hP hD hk' hF hp hd
  obtain ⟨t2, a1, b1⟩ := kk T'.heap (locs ++ L) hP1 hD1
    ⟨Nat.le_trans hS.1 hz, fun q h1 h2 => by rw [hk' q (Nat.lt_of_lt_of_le h1 hS.1) (fun z => h2 (hF q z))]; exact hS.2.1 q h1 h2, fun q hq => by
      rcases List.mem_append.mp hq with h | h
      · exact hS.2.2 q h
      · exact hF _ (hL q h)⟩ T' rfl Xs'
  exact ⟨t2, st t2 a1, b1⟩
theorem mu_pre {av : List Value} (hK : va_K D vwCl (TYS cI cB cL cK) s) (hP : va_P D vwCl X H) (hD : va_D A X) (hs : Sb X wc) (U : State) (hU : U.heap = H) (hW : s.WarmedH U.vm) : va_Pc av (fun U => U.heap.size = H.size ∧ va_P D vwCl wc U.heap ∧ va_K D vwCl (TYS cI cB cL cK) U ∧ va_D (fun _ => True) wc) av.toArray U :=
  ⟨rfl, by rw [hU], by rw [hU]; exact hP.sb hs, va_K.moved hW.alike hK, (hD.sb hs).weaken (fun _ _ _ _ => trivial)⟩
/-- a virtual call that writes and answers an int -/
theorem mu_vi (S : CallFix p m c cc nL s args Ts own) (hM : Mu l D cI cB cL cK y ws rm (.ref b :: As) wc wc' (some (.int r)) 0 0) (cw : CallW R s args own C index y bytes maxL ret ws rm 0 0 n) (hK : va_K D vwCl (TYS cI cB cL cK) s) (hP : va_P D vwCl X H) (hD : va_D A X) (hS : va_S A H0 H locs) (hA : ∀ q : Nat, H0.size ≤ q → A q) (hJ : Jn X X' wc wc') (hc : vwCl[ci]? = some (C, T, N)) (he : X[q0]? = some (b, .inr (ci, fs)))
    (hn : As.length = n) (hsize : ls.size = nL) (hst : st0 = As.reverse ++ .ref b :: rest) (hw : (rest.map fun v => v.category).sum ≤ 8) (hdg : decode cc pc = .ok (.invokevirtual index, 3)) (hf : cells ≤ R.cells ∧ slots ≤ R.slots)
    (kk : ∀ (H1 : Heap) (locs1 : List Loc), va_P D vwCl X' H1 → va_D A X' → va_S A H0 H1 locs1 → W p l e R s m args below meth c H1 locs1 cells slots Q (F0 m (pc + 3) ls (.int r :: rest))) : W p l e R s m args below meth c H locs cells slots Q (F0 m pc ls st0) :=
  mu_k (va_runV (rest := rest) S (hM H.size) cw ⟨Mu.blind, va_recv hK hP hc he, mu_pre hK hP hD hJ.1⟩ rfl hn hsize hst (lv_room hw) hdg hf) hP hD hS hA hJ kk
theorem mu_vv (S : CallFix p m c cc nL s args Ts own) (hM : Mu l D cI cB cL cK y ws rm (.ref b :: As) wc wc' none 0 0) (cw : CallW R s args own C index y bytes maxL ret ws rm 0 0 n) (hK : va_K D vwCl (TYS cI cB cL cK) s) (hP : va_P D vwCl X H) (hD : va_D A X) (hS : va_S A H0 H locs) (hA : ∀ q : Nat, H0.size ≤ q → A q) (hJ : Jn X X' wc wc') (hc : vwCl[ci]? = some (C, T, N)) (he : X[q0]? = some (b, .inr (ci, fs)))
    (hn : As.length = n) (hsize : ls.size = nL) (hst : st0 = As.reverse ++ .ref b :: rest) (hw : (rest.map fun v => v.category).sum ≤ 8) (hdg : decode cc pc = .ok (.invokevirtual index, 3)) (hf : cells ≤ R.cells ∧ slots ≤ R.slots)
    (kk : ∀ (H1 : Heap) (locs1 : List Loc), va_P D vwCl X' H1 → va_D A X' → va_S A H0 H1 locs1 → W p l e R s m args below meth c H1 locs1 cells slots Q (F0 m (pc + 3) ls rest)) : W p l e R s m args below meth c H locs cells slots Q (F0 m pc ls st0) :=
  mu_k (va_runV (rest := rest) S (hM H.size) cw ⟨Mu.blind, va_recv hK hP hc he, mu_pre hK hP hD hJ.1⟩ rfl hn hsize hst (lv_room hw) hdg hf) hP hD hS hA hJ kk
end BaseB
/-- a field that an instruction of a method names -/
def Fl (Ts : List Cond) (own : String) (index ci k : Nat) : Prop := ∃ (C : String) (T : u_T) (N : Nat), vwCl[ci]? = some (C, T, N) ∧ k < N ∧ (∀ w ∈ u_ws C T N, w ∈ Ts) ∧ Cond.fieldLink own index (T k).1 (T k).2.1 (T k).2.2.1 ∈ Ts
def Fp (Ts : List Cond) (own : String) (index ci k : Nat) (fin : Bool) (ty : FieldType) : Prop := ∃ (C : String) (T : u_T) (N : Nat) (ty0 : Nat → FieldType), vwCl[ci]? = some (C, T, N) ∧ k < N ∧ (∀ w ∈ u_ws C T N, w ∈ Ts) ∧ Cond.fieldLink own index (T k).1 (T k).2.1 (T k).2.2.1 ∈ Ts ∧ (∀ k, k < N → parseFieldDescriptor (T k).2.2.1 = some (ty0 k)) ∧ (∀ a, a < N → ∀ b, b < N → a ≠ b → (T a).2.1 ≠ (T b).2.1) ∧ (T k).2.2.2 = fin ∧ (T k).1 = own ∧ parseFieldDescriptor (T k).2.2.1 = some ty
section BaseC
variable {p : Program} {l : Launch} {e : Env} {R : Room} {s : State} {m : MethodId} {args : Array Value} {below : List Frame} {meth : Method} {c : Code} {H H0 : Heap} {locs : List Loc} {cells slots : Nat} {Q : State → Prop} {A : Nat → Prop} {D : va_G} {cI cB cL cK : ClassId} {tys : List (ClassId × FieldType)} {pc a : Nat} {ls : Array Slot} {rest : List Value} {cc : ByteArray} {index ci q0 k n : Nat} {Ts : List Cond} {own : String} {X X' : va_W} {fs : List Value} {v : Value} {ty : FieldType} {f : Nat → Int32} {i x : Int32}
theorem gf (hx : p.tables.exec = Jvm.exec) (hb : c.code = cc) (hts : ∀ w ∈ Ts, w.before args s = true) (hown : s.vm.findClass own = some m.cls) (hK : va_K D vwCl tys s) (hF : Fl Ts own index ci k) (hP : va_P D vwCl X H) (he : X[q0]? = some (a, .inr (ci, fs))) (hv : fs[k]? = some v) (hdg : decode cc pc = .ok (.getfield index, 3))
    (kk : W p l e R s m args below meth c H locs cells slots Q (F0 m (pc + 3) ls (v :: rest))) : W p l e R s m args below meth c H locs cells slots Q (F0 m pc ls (.ref a :: rest)) := by
  obtain ⟨C, T, N, h1, h2, h3, h4⟩ := hF
  exact va_get hx hb hts h3 hown hK hP q0 he h1 k h2 (hts _ h4) (fun _ h => h) hv hdg kk
theorem pf (hx : p.tables.exec = Jvm.exec) (hb : c.code = cc) (hts : ∀ w ∈ Ts, w.before args s = true) (hown : s.vm.findClass own = some m.cls) (hK : va_K D vwCl tys s) (hF : Fp Ts own index ci k false ty) (hP : va_P D vwCl X H) (hD : va_D A X) (hS : va_S A H0 H locs) (he : X[q0]? = some (a, .inr (ci, fs))) (hn : narrow ty v = v) (hfit : fits ty v = true) (hl : k < fs.length) (hX : X.set q0 (a, .inr (ci, fs.set k v)) = X') (hdg : decode cc pc = .ok (.putfield index, 3))
    (kk : ∀ (H1 : Heap) (locs1 : List Loc), va_P D vwCl X' H1 → va_D A X' → va_S A H0 H1 locs1 → W p l e R s m args below meth c H1 locs1 cells slots Q (F0 m (pc + 3) ls rest)) : W p l e R s m args below meth c H locs cells slots Q (F0 m pc ls (v :: .ref a :: rest)) := by
  obtain ⟨C, T, N, ty0, h1, h2, h3, h4, h5, h6, h7, h8, h9⟩ := hF
  subst hX
  exact va_put hx hb hts h3 ty0 h5 h6 hown hK hP hD hS q0 he h1 k h2 (hts _ h4) (fun _ h => h) h7 h9 hn hfit hl hdg kk
theorem pfF (hx : p.tables.exec = Jvm.exec) (hb : c.code = cc) (hts : ∀ w ∈ Ts, w.before args s = true) (hown : s.vm.findClass own = some m.cls) (hK : va_K D vwCl tys s) (hin : meth.name = "<init>") (hF : Fp Ts own index ci k true ty) (hP : va_P D vwCl X H) (hD : va_D A X) (hS : va_S A H0 H locs) (he : X[q0]? = some (a, .inr (ci, fs))) (hn : narrow ty v = v) (hfit : fits ty v = true) (hl : k < fs.length) (hX : X.set q0 (a, .inr (ci, fs.set k v)) = X') (hdg : decode cc pc = .ok (.putfield index, 3))
    (kk : ∀ (H1 : Heap) (locs1 : List Loc), va_P D vwCl X' H1 → va_D A X' → va_S A H0 H1 locs1 → W p l e R s m args below meth c H1 locs1 cells slots Q (F0 m (pc + 3) ls rest)) : W p l e R s m args below meth c H locs cells slots Q (F0 m pc ls (v :: .ref a :: rest)) := by
  obtain ⟨C, T, N, ty0, h1, h2, h3, h4, h5, h6, h7, h8, h9⟩ := hF
  subst hX
  exact va_putF hx hb hts h3 ty0 h5 h6 hown hK hP hD hS q0 he h1 k h2 (hts _ h4) (fun _ h => h) h7 hin h8 h9 hn hfit hl hdg kk
theorem ald (hx : p.tables.exec = Jvm.exec) (hb : c.code = cc) (hK : va_K D vwCl (TYS cI cB cL cK) s) (hP : va_P D vwCl X H) (he : X[q0]? = some (a, .inl (cI, n, .inl f))) (hin : inr i n = true) (hk : i.toNatClampNeg = k) (hdg : decode cc pc = .ok (.iaload, 1))
    (kk : W p l e R s m args below meth c H locs cells slots Q (F0 m (pc + 1) ls (.int (f k) :: rest))) : W p l e R s m args below meth c H locs cells slots Q (F0 m pc ls (.int i :: .ref a :: rest)) := by
  subst hk
  exact va_iald hx hb hK hP q0 0 he rfl (inr_in hin) hdg kk
theorem bld (hx : p.tables.exec = Jvm.exec) (hb : c.code = cc) (hK : va_K D vwCl (TYS cI cB cL cK) s) (hP : va_P D vwCl X H) (he : X[q0]? = some (a, .inl (cB, n, .inl f))) (hin : inr i n = true) (hk : i.toNatClampNeg = k) (hdg : decode cc pc = .ok (.baload, 1))
    (kk : W p l e R s m args below meth c H locs cells slots Q (F0 m (pc + 1) ls (.int (f k) :: rest))) : W p l e R s m args below meth c H locs cells slots Q (F0 m pc ls (.int i :: .ref a :: rest)) := by
  subst hk
  exact va_bald hx hb hK hP q0 1 he rfl (inr_in hin) hdg kk
theorem ast (hx : p.tables.exec = Jvm.exec) (hb : c.code = cc) (hK : va_K D vwCl (TYS cI cB cL cK) s) (hP : va_P D vwCl X H) (hD : va_D A X) (hS : va_S A H0 H locs) (he : X[q0]? = some (a, .inl (cI, n, .inl f))) (hin : inr i n = true) (hk : i.toNatClampNeg = k) (hX : X.set q0 (a, .inl (cI, n, .inl (upd f k x))) = X') (hdg : decode cc pc = .ok (.iastore, 1))
    (kk : ∀ (H1 : Heap) (locs1 : List Loc), va_P D vwCl X' H1 → va_D A X' → va_S A H0 H1 locs1 → W p l e R s m args below meth c H1 locs1 cells slots Q (F0 m (pc + 1) ls rest)) : W p l e R s m args below meth c H locs cells slots Q (F0 m pc ls (.int x :: .int i :: .ref a :: rest)) := by
  subst hk; subst hX
  exact va_iast hx hb hK hP hD hS q0 0 he rfl (inr_in hin) hdg kk
theorem bst (hx : p.tables.exec = Jvm.exec) (hb : c.code = cc) (hK : va_K D vwCl (TYS cI cB cL cK) s) (hP : va_P D vwCl X H) (hD : va_D A X) (hS : va_S A H0 H locs) (he : X[q0]? = some (a, .inl (cB, n, .inl f))) (hin : inr i n = true) (hk : i.toNatClampNeg = k) (hX : X.set q0 (a, .inl (cB, n, .inl (upd f k (vp_nar .byte x)))) = X') (hdg : decode cc pc = .ok (.bastore, 1))
    (kk : ∀ (H1 : Heap) (locs1 : List Loc), va_P D vwCl X' H1 → va_D A X' → va_S A H0 H1 locs1 → W p l e R s m args below meth c H1 locs1 cells slots Q (F0 m (pc + 1) ls rest)) : W p l e R s m args below meth c H locs cells slots Q (F0 m pc ls (.int x :: .int i :: .ref a :: rest)) := by
  subst hk; subst hX
  exact va_bast hx hb hK hP hD hS q0 1 he rfl (inr_in hin) hdg kk
theorem aln (hx : p.tables.exec = Jvm.exec) (hb : c.code = cc) (hK : va_K D vwCl (TYS cI cB cL cK) s) (hP : va_P D vwCl X H) {t0 : Nat} {cA : ClassId} {xa : vp_A} {ty : FieldType} (he : X[q0]? = some (a, .inl (cA, xa))) (ht : (TYS cI cB cL cK)[t0]? = some (cA, ty)) (hv : Int32.ofNat xa.1 = i) (hdg : decode cc pc = .ok (.arraylength, 1))
    (kk : W p l e R s m args below meth c H locs cells slots Q (F0 m (pc + 1) ls (.int i :: rest))) : W p l e R s m args below meth c H locs cells slots Q (F0 m pc ls (.ref a :: rest)) :=
  va_alen hx hb hK hP q0 t0 he ht hv hdg kk
end BaseC
theorem ne_ti {x k : Int32} {z : Int} (hz : k.toInt = z) (h : ¬ x = k) : x.toInt ≠ z := fun q => h (Int32.toInt_inj.mp (q.trans hz.symm))
abbrev mxI (x y : Int32) : Int32 := if x < y then y else x
abbrev mnI (x y : Int32) : Int32 := if y < x then y else x
