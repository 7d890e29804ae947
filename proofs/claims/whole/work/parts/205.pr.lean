theorem pr14 {α0 α1 α2 α3 α4 α5 α6 α7 α8 α9 α10 α11 α12 α13 : Type} {a0 c0 : α0} {a1 c1 : α1} {a2 c2 : α2} {a3 c3 : α3} {a4 c4 : α4} {a5 c5 : α5} {a6 c6 : α6} {a7 c7 : α7} {a8 c8 : α8} {a9 c9 : α9} {a10 c10 : α10} {a11 c11 : α11} {a12 c12 : α12} {a13 c13 : α13} (h : (some (a0, a1, a2, a3, a4, a5, a6, a7, a8, a9, a10, a11, a12, a13) : Option (α0 × α1 × α2 × α3 × α4 × α5 × α6 × α7 × α8 × α9 × α10 × α11 × α12 × α13)) = some (c0, c1, c2, c3, c4, c5, c6, c7, c8, c9, c10, c11, c12, c13)) : a0 = c0 ∧ a1 = c1 ∧ a2 = c2 ∧ a3 = c3 ∧ a4 = c4 ∧ a5 = c5 ∧ a6 = c6 ∧ a7 = c7 ∧ a8 = c8 ∧ a9 = c9 ∧ a10 = c10 ∧ a11 = c11 ∧ a12 = c12 ∧ a13 = c13 := by
  have h := Option.some.inj h
  simp only [Prod.mk.injEq] at h
  exact h
