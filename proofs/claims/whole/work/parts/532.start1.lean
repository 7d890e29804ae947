theorem arr_of {args : Array Value} {s : State} {ty : FieldType} (h : (Cond.arrayClass ty).before args s = true) : ∃ c : ClassId, ArrOfT s c ty ∧ s.vm.findClass ("[" ++ ty.toString) = some c := by
  obtain ⟨c, k, comp, f1, f2, f3⟩ := Cond.arrayClass_spec h
  exact ⟨c, fun n z => ⟨fun k h => (by cases h), k, f2, comp, f3⟩, f1⟩
theorem in9_X0 : ∀ w ∈ u_ws RX0 TX0 7, w ∈ lw_tbl := by decide +kernel
theorem ins9_X0 : Cond.instantiable RX0 7 ∈ lw_tbl := by decide +kernel
theorem in9_X1 : ∀ w ∈ u_ws RX1 TX1 3, w ∈ lw_tbl := by decide +kernel
theorem ins9_X1 : Cond.instantiable RX1 3 ∈ lw_tbl := by decide +kernel
theorem in9_X2 : ∀ w ∈ u_ws RX2 TX2 8, w ∈ lw_tbl := by decide +kernel
theorem ins9_X2 : Cond.instantiable RX2 8 ∈ lw_tbl := by decide +kernel
theorem in9_X3 : ∀ w ∈ u_ws RX3 TX3 3, w ∈ lw_tbl := by decide +kernel
theorem ins9_X3 : Cond.instantiable RX3 3 ∈ lw_tbl := by decide +kernel
theorem in9_X4 : ∀ w ∈ u_ws RX4 TX4 2, w ∈ lw_tbl := by decide +kernel
theorem ins9_X4 : Cond.instantiable RX4 2 ∈ lw_tbl := by decide +kernel
theorem in9_X5 : ∀ w ∈ u_ws RX5 TX5 5, w ∈ lw_tbl := by decide +kernel
theorem ins9_X5 : Cond.instantiable RX5 5 ∈ lw_tbl := by decide +kernel
theorem in9_X6 : ∀ w ∈ u_ws RX6 TX6 20, w ∈ lw_tbl := by decide +kernel
theorem ins9_X6 : Cond.instantiable RX6 20 ∈ lw_tbl := by decide +kernel
theorem w9_aI : (Cond.arrayClass .int) ∈ lw_tbl := by decide +kernel
theorem w9_aB : (Cond.arrayClass .byte) ∈ lw_tbl := by decide +kernel
theorem w9_aL : (Cond.arrayClass .long) ∈ lw_tbl := by decide +kernel
theorem w9_aK : (Cond.arrayOver (.object "DunningHouse$Book")) ∈ lw_tbl := by decide +kernel
set_option maxRecDepth 100000 in
set_option maxHeartbeats 4000000 in
theorem law_K {args : Array Value} {s : State} (hts : ∀ w ∈ lw_tbl, w.before args s = true) : ∃ (D : va_G) (cI cB cL cK : ClassId), va_K D vwCl (TYS cI cB cL cK) s := by
  obtain ⟨c0, i0, hk0⟩ := u_known (C := RX0) (T := TX0) (N := 7) (n := 7) hts in9_X0 (hts _ ins9_X0)
  obtain ⟨c1, i1, hk1⟩ := u_known (C := RX1) (T := TX1) (N := 3) (n := 3) hts in9_X1 (hts _ ins9_X1)
  obtain ⟨c2, i2, hk2⟩ := u_known (C := RX2) (T := TX2) (N := 8) (n := 8) hts in9_X2 (hts _ ins9_X2)
  obtain ⟨c3, i3, hk3⟩ := u_known (C := RX3) (T := TX3) (N := 3) (n := 3) hts in9_X3 (hts _ ins9_X3)
  obtain ⟨c4, i4, hk4⟩ := u_known (C := RX4) (T := TX4) (N := 2) (n := 2) hts in9_X4 (hts _ ins9_X4)
  obtain ⟨c5, i5, hk5⟩ := u_known (C := RX5) (T := TX5) (N := 5) (n := 5) hts in9_X5 (hts _ ins9_X5)
  obtain ⟨c6, i6, hk6⟩ := u_known (C := RX6) (T := TX6) (N := 20) (n := 20) hts in9_X6 (hts _ ins9_X6)
  obtain ⟨cI, hI1, hI2⟩ := arr_of (hts _ w9_aI)
  obtain ⟨cB, hB1, hB2⟩ := arr_of (hts _ w9_aB)
  obtain ⟨cL, hL1, hL2⟩ := arr_of (hts _ w9_aL)
  obtain ⟨comp, cK, kK, g1, g2, g3, g4, g5⟩ := Cond.arrayOver_spec (hts _ w9_aK)
  refine ⟨(fun k => [c0, c1, c2, c3, c4, c5, c6].getD k 0, fun k => [i0, i1, i2, i3, i4, i5, i6].getD k (fun _ => 0)), cI, cB, cL, cK, ⟨fun k q hq => ?_, fun k q hq => ?_⟩⟩
  · have hk : k < 7 := (List.getElem?_eq_some_iff.mp hq).1
    rcases (show k = 0 ∨ k = 1 ∨ k = 2 ∨ k = 3 ∨ k = 4 ∨ k = 5 ∨ k = 6 by omega) with rfl | rfl | rfl | rfl | rfl | rfl | rfl
    · cases hq; exact hk0
    · cases hq; exact hk1
    · cases hq; exact hk2
    · cases hq; exact hk3
    · cases hq; exact hk4
    · cases hq; exact hk5
    · cases hq; exact hk6
  · have hk : k < 4 := (List.getElem?_eq_some_iff.mp hq).1
    rcases (show k = 0 ∨ k = 1 ∨ k = 2 ∨ k = 3 by omega) with rfl | rfl | rfl | rfl
    · cases hq; exact ⟨hI1, hI2⟩
    · cases hq; exact ⟨hB1, hB2⟩
    · cases hq; exact ⟨hL1, hL2⟩
    · cases hq; exact ⟨fun n z => ⟨fun k h => (by cases h), kK, g3, comp, g4⟩, kK, comp, g3, g4, g1, g5⟩
theorem w9_z1 : (Cond.laysStatic "java/lang/String" "COMPACT_STRINGS" "Z") ∈ lw_tbl := by decide +kernel
theorem w9_z2 : (Cond.initialized "java/lang/String") ∈ lw_tbl := by decide +kernel
theorem w9_z3 : (Cond.laysStatic "jdk/internal/util/Preconditions" "SIOOBE_FORMATTER" "Ljava/util/function/BiFunction;") ∈ lw_tbl := by decide +kernel
theorem w9_z4 : (Cond.initialized "jdk/internal/util/Preconditions") ∈ lw_tbl := by decide +kernel
theorem w9_s61 : (Cond.stringRef RX2 61 "step") ∈ lw_tbl := by decide +kernel
theorem w9_s67 : (Cond.stringRef RX2 67 "hold") ∈ lw_tbl := by decide +kernel
theorem w9_s69 : (Cond.stringRef RX2 69 "debtor") ∈ lw_tbl := by decide +kernel
theorem w9_s71 : (Cond.stringRef RX2 71 "invoice") ∈ lw_tbl := by decide +kernel
theorem w9_s117 : (Cond.stringRef RX5 117 "no such debtor") ∈ lw_tbl := by decide +kernel
theorem w9_s138 : (Cond.stringRef RX5 138 "no such thing of a debtor") ∈ lw_tbl := by decide +kernel
theorem w9_x1 : (Cond.declares (Bundle.initS "java/lang/RuntimeException")) ∈ lw_tbl := by decide +kernel
theorem w9_x2 : (Cond.declares (Bundle.initS "java/lang/Exception")) ∈ lw_tbl := by decide +kernel
theorem w9_x3 : (Cond.declares (Bundle.initS Bundle.tN)) ∈ lw_tbl := by decide +kernel
theorem w9_x4 : (Cond.castable "java/util/NoSuchElementException" "java/util/NoSuchElementException") ∈ lw_tbl := by decide +kernel
theorem w9_x5 : (Cond.laysStatic Bundle.tN "UNASSIGNED_STACK" Bundle.steD) ∈ lw_tbl := by decide +kernel
theorem w9_x6 : (Cond.laysStatic Bundle.tN "SUPPRESSED_SENTINEL" Bundle.listD) ∈ lw_tbl := by decide +kernel
theorem w9_x7 : (Cond.initialized Bundle.tN) ∈ lw_tbl := by decide +kernel
theorem w9_c8 : (Cond.classLink RL 8 RX5) ∈ lw_tbl := by decide +kernel
theorem w9_c16 : (Cond.classLink RL 16 RX6) ∈ lw_tbl := by decide +kernel
theorem w9_n5 : (Cond.initialized RX5) ∈ lw_tbl := by decide +kernel
theorem w9_n6 : (Cond.initialized RX6) ∈ lw_tbl := by decide +kernel
theorem w9_m15 : (Cond.methodLink RL 15 yX5_init) ∈ lw_tbl := by decide +kernel
theorem w9_m18 : (Cond.methodLink RL 18 yX6_init) ∈ lw_tbl := by decide +kernel
theorem w9_j5 : (Cond.instanceMethod yX5_init) ∈ lw_tbl := by decide +kernel
theorem w9_j6 : (Cond.instanceMethod yX6_init) ∈ lw_tbl := by decide +kernel
set_option maxRecDepth 100000 in
set_option maxHeartbeats 4000000 in
theorem law_ZR {s : State} {bs : Nat} (hts : ∀ w ∈ lw_tbl, w.before #[Value.ref bs] s = true) (hs : (Jvm.Cond.and given_1 narrow_1).before #[Value.ref bs] s = true) : ∃ sq sv : Nat → Nat, ZR sq sv (LwN s) s s.heap := by
  have hA : ∀ a : Nat, a < s.heap.size → ¬ LwN s a := fun a ha => Nat.not_le.mpr ha
  obtain ⟨q0, v0, e0, h0⟩ := ls_w0 hs
  obtain ⟨q1, v1, e1, h1⟩ := ls_w1 hs
  obtain ⟨q2, v2, e2, h2⟩ := ls_w2 hs
  obtain ⟨q3, v3, e3, h3⟩ := ls_w3 hs
  have hs := flat_of_before _ hs
  refine ⟨fun k => [q0, q1, q2, q3].getD k 0, fun k => [v0, v1, v2, v3].getD k 0, fun i hi => ?_, ⟨va_Zof (hts _ w9_z1) (hts _ w9_z2) (va_eqt (hs (.eq (.static "java/lang/String" "COMPACT_STRINGS" "Z") (.int 1)) (by decide +kernel))) hA, va_Zqof (hts _ w9_z3) (hts _ w9_z4) (hs _ (by decide +kernel)) hA⟩, vk_R.of (hts _ w9_s61) e0, vk_R.of (hts _ w9_s67) e1, vk_R.of (hts _ w9_s69) e2, vk_R.of (hts _ w9_s71) e3⟩
  rcases (show i = 0 ∨ i = 1 ∨ i = 2 ∨ i = 3 by omega) with rfl | rfl | rfl | rfl
  · exact h0
  · exact h1
  · exact h2
  · exact h3
set_option maxRecDepth 100000 in
set_option maxHeartbeats 4000000 in
theorem law_XZ {s : State} {bs : Nat} (hts : ∀ w ∈ lw_tbl, w.before #[Value.ref bs] s = true) (hs : (Jvm.Cond.and given_1 narrow_1).before #[Value.ref bs] s = true) : ∃ qa qb : Nat, XZ qa qb (LwN s) s s.heap := by
  have hA : ∀ a : Nat, a < s.heap.size → ¬ LwN s a := fun a ha => Nat.not_le.mpr ha
  have hs := flat_of_before _ hs
  obtain ⟨qa, ea⟩ := st_of (tm := .string RX5 117) (hs _ (by decide +kernel))
  obtain ⟨qb, eb⟩ := st_of (tm := .string RX5 138) (hs _ (by decide +kernel))
  exact ⟨qa, qb, va_Nw.of rfl (hts _ w9_x1), va_Nw.of rfl (hts _ w9_x2), va_Nw.of rfl (hts _ w9_x3), va_Nw.of rfl (hts _ w9_x4), vx_Zqof (hts _ w9_x5) (hts _ w9_x7) (hs _ (by decide +kernel)) hA, vx_Zqof (hts _ w9_x6) (hts _ w9_x7) (hs _ (by decide +kernel)) hA, vk_R.of (hts _ w9_s117) ea, vk_R.of (hts _ w9_s138) eb⟩
theorem law_tr {l : Launch} (hf : l.flags = flags0) : l.stackTraces = false := by
  unfold Launch.stackTraces
  rw [hf]
  decide
theorem nfs5 (j : Nat) (hj : j < 5) : defaultValue (tyX5 j) = vp_V [.null, .null, .null, .null, .int 0] j := by
  rcases (show j = 0 ∨ j = 1 ∨ j = 2 ∨ j = 3 ∨ j = 4 by omega) with rfl | rfl | rfl | rfl | rfl <;> rfl
theorem nfs6 (j : Nat) (hj : j < 20) : defaultValue (tyX6 j) = vp_V [.int 0, .null, .int 0, .int 0, .int 0, .int 0, .int 0, .int 0, .int 0, .int 0, .long 0, .null, .null, .null, .null, .int 0, .int 0, .int 0, .int 0, .int 0] j := by
  rcases (show j = 0 ∨ j = 1 ∨ j = 2 ∨ j = 3 ∨ j = 4 ∨ j = 5 ∨ j = 6 ∨ j = 7 ∨ j = 8 ∨ j = 9 ∨ j = 10 ∨ j = 11 ∨ j = 12 ∨ j = 13 ∨ j = 14 ∨ j = 15 ∨ j = 16 ∨ j = 17 ∨ j = 18 ∨ j = 19 by omega) with rfl | rfl | rfl | rfl | rfl | rfl | rfl | rfl | rfl | rfl | rfl | rfl | rfl | rfl | rfl | rfl | rfl | rfl | rfl | rfl <;> rfl
theorem BK0 : BK 1 0 0 0 0 0 0 (fun _ => 0) (fun _ => 0) (fun _ => 0) (fun _ => 0) (upd (fun _ => 0) 1 1) :=
  ⟨0, 0, 0, 0, 0, by decide, rfl, rfl, rfl, rfl, rfl, ⟨⟨rfl, rfl, rfl, rfl, rfl, rfl, rfl, by decide, by decide, by decide, by decide, by decide⟩, fun i hi => by omega, fun i hi => by omega, fun i hi => by omega, fun i hi => by omega⟩⟩
theorem HI0 {kv : Nat → BV} {sn : Nat → Int32} : HI 0 0 kv 0 sn := ⟨0, 0, by decide, by decide, rfl, rfl, rfl, fun j hj => by omega⟩
theorem TP0 {tf tp : Nat → Int32} : TP 0 0 tf tp := ⟨0, by decide, rfl, rfl, fun i hi => by omega⟩
