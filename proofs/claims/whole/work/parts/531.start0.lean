/-! what holds at the law's entry -/
/-- a String constant of which the start says all -/
theorem sf_of {args : Array Value} {s : State} {tm : Term} {len : Nat} {byt : Nat → Int32} {A : Nat → Prop} (hN : len < 2 ^ 31) (hex : (Cond.exactly tm "java/lang/String").before args s = true) (hco : (Cond.eq (.field tm "java/lang/String" "coder" "B") (.int 0)).before args s = true)
    (har : (Cond.arrayOf (.field tm "java/lang/String" "value" "[B") .byte).before args s = true) (hle : (Cond.eq (.length (.field tm "java/lang/String" "value" "[B")) (.int (Int32.ofNat len))).before args s = true)
    (hel : ∀ j : Nat, j < len → (Cond.eq (.elem (.field tm "java/lang/String" "value" "[B") (.int (Int32.ofNat j))) (.int (byt j))).before args s = true) (hA : ∀ a : Nat, a < s.heap.size → ¬ A a) : ∃ q v : Nat, tm.eval args s none [] s = some (.ref q) ∧ SF q v len byt A s s.heap := by
  obtain ⟨a, c, cA, kA, q1, q2, q3, q4, q5, q6, -⟩ := Cond.exactly_spec (args := args) (first := s) (o := none) (s := s) (idx := []) (t := tm) (cls := "java/lang/String") hex
  obtain ⟨t, ht, hT⟩ := va_Tof (f := fun j => .int (byt j)) (A := A) hN har (va_eqt hle) (fun j hj => va_eqt (hel j hj)) hA
  exact ⟨a, t, q1, ⟨cA, q3, q5, by rw [q6]; exact q2, hA a (Array.getElem?_eq_some_iff.mp q3).1⟩, vk_OFof q1 (va_eqt hco) hA, vk_OFof q1 ht hA, hT⟩
theorem st_of {args : Array Value} {s : State} {tm : Term} (hex : (Cond.exactly tm "java/lang/String").before args s = true) : ∃ q : Nat, tm.eval args s none [] s = some (.ref q) := by
  obtain ⟨a, c, cA, kA, q1, -⟩ := Cond.exactly_spec (args := args) (first := s) (o := none) (s := s) (idx := []) (t := tm) (cls := "java/lang/String") hex
  exact ⟨a, q1⟩
section Start
variable {s : State} {bs : Nat}
set_option maxRecDepth 100000 in
set_option maxHeartbeats 4000000 in
theorem ls_w0 (hs : (Jvm.Cond.and given_1 narrow_1).before #[Value.ref bs] s = true) : ∃ q v : Nat, (Term.string RX2 61).eval #[Value.ref bs] s none [] s = some (.ref q) ∧ SF q v (wLen 0) (wByt 0) (LwN s) s s.heap := by
  have hs := flat_of_before _ hs
  refine sf_of (by decide) (hs _ (by decide +kernel)) (hs _ (by decide +kernel)) (hs _ (by decide +kernel)) (hs _ (by decide +kernel)) (fun j hj => ?_) (fun a ha => Nat.not_le.mpr ha)
  have hj : j < 4 := hj
  rcases (show j = 0 ∨ j = 1 ∨ j = 2 ∨ j = 3 by omega) with rfl | rfl | rfl | rfl
  · exact hs _ (by decide +kernel)
  · exact hs _ (by decide +kernel)
  · exact hs _ (by decide +kernel)
  · exact hs _ (by decide +kernel)
set_option maxRecDepth 100000 in
set_option maxHeartbeats 4000000 in
theorem ls_w1 (hs : (Jvm.Cond.and given_1 narrow_1).before #[Value.ref bs] s = true) : ∃ q v : Nat, (Term.string RX2 67).eval #[Value.ref bs] s none [] s = some (.ref q) ∧ SF q v (wLen 1) (wByt 1) (LwN s) s s.heap := by
  have hs := flat_of_before _ hs
  refine sf_of (by decide) (hs _ (by decide +kernel)) (hs _ (by decide +kernel)) (hs _ (by decide +kernel)) (hs _ (by decide +kernel)) (fun j hj => ?_) (fun a ha => Nat.not_le.mpr ha)
  have hj : j < 4 := hj
  rcases (show j = 0 ∨ j = 1 ∨ j = 2 ∨ j = 3 by omega) with rfl | rfl | rfl | rfl
  · exact hs _ (by decide +kernel)
  · exact hs _ (by decide +kernel)
  · exact hs _ (by decide +kernel)
  · exact hs _ (by decide +kernel)
set_option maxRecDepth 100000 in
set_option maxHeartbeats 4000000 in
theorem ls_w2 (hs : (Jvm.Cond.and given_1 narrow_1).before #[Value.ref bs] s = true) : ∃ q v : Nat, (Term.string RX2 69).eval #[Value.ref bs] s none [] s = some (.ref q) ∧ SF q v (wLen 2) (wByt 2) (LwN s) s s.heap := by
  have hs := flat_of_before _ hs
  refine sf_of (by decide) (hs _ (by decide +kernel)) (hs _ (by decide +kernel)) (hs _ (by decide +kernel)) (hs _ (by decide +kernel)) (fun j hj => ?_) (fun a ha => Nat.not_le.mpr ha)
  have hj : j < 6 := hj
  rcases (show j = 0 ∨ j = 1 ∨ j = 2 ∨ j = 3 ∨ j = 4 ∨ j = 5 by omega) with rfl | rfl | rfl | rfl | rfl | rfl
  · exact hs _ (by decide +kernel)
  · exact hs _ (by decide +kernel)
  · exact hs _ (by decide +kernel)
  · exact hs _ (by decide +kernel)
  · exact hs _ (by decide +kernel)
  · exact hs _ (by decide +kernel)
set_option maxRecDepth 100000 in
set_option maxHeartbeats 4000000 in
theorem ls_w3 (hs : (Jvm.Cond.and given_1 narrow_1).before #[Value.ref bs] s = true) : ∃ q v : Nat, (Term.string RX2 71).eval #[Value.ref bs] s none [] s = some (.ref q) ∧ SF q v (wLen 3) (wByt 3) (LwN s) s s.heap := by
  have hs := flat_of_before _ hs
  refine sf_of (by decide) (hs _ (by decide +kernel)) (hs _ (by decide +kernel)) (hs _ (by decide +kernel)) (hs _ (by decide +kernel)) (fun j hj => ?_) (fun a ha => Nat.not_le.mpr ha)
  have hj : j < 7 := hj
  rcases (show j = 0 ∨ j = 1 ∨ j = 2 ∨ j = 3 ∨ j = 4 ∨ j = 5 ∨ j = 6 by omega) with rfl | rfl | rfl | rfl | rfl | rfl | rfl
  · exact hs _ (by decide +kernel)
  · exact hs _ (by decide +kernel)
  · exact hs _ (by decide +kernel)
  · exact hs _ (by decide +kernel)
  · exact hs _ (by decide +kernel)
  · exact hs _ (by decide +kernel)
  · exact hs _ (by decide +kernel)
end Start
