/-! PURE: the tape -/
theorem low8 : ∀ i : Fin 32, (255#32)[i.val] = decide (i.val < 8) := by decide
theorem low8' {i : Nat} (hi : i < 32) : (255#32)[i] = decide (i < 8) := low8 ⟨i, hi⟩
theorem byte_24 (x : Int32) : vp_nar .byte ((x >>> ((24 : Int32) &&& 31)).toInt8.toInt32) &&& 255 = ((x.toUInt32 >>> ((24 : Int32).toUInt32 &&& Int32.toUInt32 31)).toInt32) &&& 255 := by
  rw [pk_vb]
  apply Int32.toBitVec_inj.mp
  ext i hi
  simp
  rw [low8' hi]
  by_cases h : i < 8
  · simp [h, BitVec.getElem_signExtend, BitVec.getElem_sshiftRight, BitVec.getLsbD_eq_getElem, show 24 + i < 32 by omega, show i < 32 by omega]
  · simp [h]
theorem byte_16 (x : Int32) : vp_nar .byte ((x >>> ((16 : Int32) &&& 31)).toInt8.toInt32) &&& 255 = ((x.toUInt32 >>> ((16 : Int32).toUInt32 &&& Int32.toUInt32 31)).toInt32) &&& 255 := by
  rw [pk_vb]
  apply Int32.toBitVec_inj.mp
  ext i hi
  simp
  rw [low8' hi]
  by_cases h : i < 8
  · simp [h, BitVec.getElem_signExtend, BitVec.getElem_sshiftRight, BitVec.getLsbD_eq_getElem, show 16 + i < 32 by omega, show i < 32 by omega]
  · simp [h]
theorem byte_8 (x : Int32) : vp_nar .byte ((x >>> ((8 : Int32) &&& 31)).toInt8.toInt32) &&& 255 = ((x.toUInt32 >>> ((8 : Int32).toUInt32 &&& Int32.toUInt32 31)).toInt32) &&& 255 := by
  rw [pk_vb]
  apply Int32.toBitVec_inj.mp
  ext i hi
  simp
  rw [low8' hi]
  by_cases h : i < 8
  · simp [h, BitVec.getElem_signExtend, BitVec.getElem_sshiftRight, BitVec.getLsbD_eq_getElem, show 8 + i < 32 by omega, show i < 32 by omega]
  · simp [h]
theorem byte_0 (x : Int32) : vp_nar .byte ((x >>> ((0 : Int32) &&& 31)).toInt8.toInt32) &&& 255 = ((x.toUInt32 >>> ((0 : Int32).toUInt32 &&& Int32.toUInt32 31)).toInt32) &&& 255 := by
  rw [pk_vb]
  apply Int32.toBitVec_inj.mp
  ext i hi
  simp
  rw [low8' hi]
  by_cases h : i < 8
  · simp [h, BitVec.getElem_signExtend, BitVec.getElem_sshiftRight, BitVec.getLsbD_eq_getElem, show 0 + i < 32 by omega, show i < 32 by omega]
  · simp [h]
/-- the tapes match -/
def TP (us tpd : Int32) (tf tp : Nat → Int32) : Prop := ∃ u : Nat, u ≤ 640 ∧ us = nI u ∧ tpd = nI u ∧ ∀ i, i < u → tf i &&& 255 = tp i
section Tape
variable {us tpd thr : Int32} {tf tp : Nat → Int32}
theorem lay1 {u : Nat} (hu : u < 640) {tf tp : Nat → Int32} (h : ∀ i, i < u → tf i &&& 255 = tp i) {a b : Int32} (e : a &&& 255 = b) : ∀ i, i < u + 1 → (upd tf u a) i &&& 255 = (upd tp u b) i := fun i hi => by
  by_cases q : i = u
  · rw [q, upd_s, upd_s]; exact e
  · rw [upd_n q, upd_n q]; exact h i (by omega)
theorem lay_sim {u : Nat} (hu : u + 4 ≤ 640) {tf tp : Nat → Int32} (h : ∀ i, i < u → tf i &&& 255 = tp i) (x : Int32) : ∃ tf' tp', mX4_append (nI u) tf x = some (nI (u + 4), tf') ∧ mX6_lays (nI u) tp x = some (nI (u + 4), tp') ∧ ∀ i, i < u + 4 → tf' i &&& 255 = tp' i := by
  unfold mX4_append mX6_lays
  have st : ∀ (v : Nat) (hv : v < 640), ¬ nI v < 0 ∧ ¬ (640 : Int32) ≤ nI v ∧ inr (nI v) 640 = true ∧ (nI v).toNatClampNeg = v := fun v hv => ⟨nI_pos (by omega), nI_ge (b := 640) hv (by decide), inr_nI hv (by decide), nI_clamp (by omega)⟩
  obtain ⟨a1, a2, a3, a4⟩ := st u (by omega)
  obtain ⟨b1, b2, b3, b4⟩ := st (u + 1) (by omega)
  obtain ⟨c1, c2, c3, c4⟩ := st (u + 2) (by omega)
  obtain ⟨d1, d2, d3, d4⟩ := st (u + 3) (by omega)
  rw [show FU = 7995 + 1 + 1 + 1 + 1 + 1 from rfl]
  rw [mX4_append_L3.eq_2, mX6_lays_L3.eq_2, if_neg (show ¬ (24 : Int32) < 0 by decide), if_neg (show ¬ (24 : Int32) < 0 by decide), if_neg a1, if_neg a2, a3, ck_true, ck_true, a4, nI_1, show (24 : Int32) + -8 = 16 by decide]
  rw [mX4_append_L3.eq_2, mX6_lays_L3.eq_2, if_neg (show ¬ (16 : Int32) < 0 by decide), if_neg (show ¬ (16 : Int32) < 0 by decide), if_neg b1, if_neg b2, b3, ck_true, ck_true, b4, nI_1, show (16 : Int32) + -8 = 8 by decide]
  rw [mX4_append_L3.eq_2, mX6_lays_L3.eq_2, if_neg (show ¬ (8 : Int32) < 0 by decide), if_neg (show ¬ (8 : Int32) < 0 by decide), if_neg c1, if_neg c2, c3, ck_true, ck_true, c4, nI_1, show (8 : Int32) + -8 = 0 by decide]
  rw [mX4_append_L3.eq_2, mX6_lays_L3.eq_2, if_neg (show ¬ (0 : Int32) < 0 by decide), if_neg (show ¬ (0 : Int32) < 0 by decide), if_neg d1, if_neg d2, d3, ck_true, ck_true, d4, nI_1, show (0 : Int32) + -8 = -8 by decide]
  rw [mX4_append_L3.eq_2, mX6_lays_L3.eq_2, if_pos (show (-8 : Int32) < 0 by decide), if_pos (show (-8 : Int32) < 0 by decide)]
  exact ⟨_, _, rfl, rfl, lay1 (by omega) (lay1 (by omega) (lay1 (by omega) (lay1 (by omega) h (byte_24 x)) (byte_16 x)) (byte_8 x)) (byte_0 x)⟩
theorem act_feed {p1 p2 p3 p4 p5 : Int32} (h : TP us tpd tf tp) : ∃ r us' tf' tpd' tp', mX5_feed us tf p1 p2 p3 p4 p5 = some (r, us', tf') ∧ mX6_feed thr tpd tp p1 p2 p3 p4 p5 = some (r, 0, tpd', tp') ∧ TP us' tpd' tf' tp' := by
  obtain ⟨u, hu, rfl, rfl, h⟩ := h
  unfold mX5_feed mX6_feed mX4_hasRoom
  rw [show nI u + 20 = nI (u + 20) from nI_add u 20]
  by_cases c : u + 20 ≤ 640
  · obtain ⟨f1, t1, a1, a2, a3⟩ := lay_sim (by omega) h p1
    obtain ⟨f2, t2, b1, b2, b3⟩ := lay_sim (by omega) a3 p2
    obtain ⟨f3, t3, c1, c2, c3⟩ := lay_sim (by omega) b3 p3
    obtain ⟨f4, t4, d1, d2, d3⟩ := lay_sim (by omega) c3 p4
    obtain ⟨f5, t5, e1, e2, e3⟩ := lay_sim (by omega) d3 p5
    rw [if_neg (show ¬ (640 : Int32) < nI (u + 20) from nI_nlt (a := 640) c (by decide)), if_pos (show nI (u + 20) ≤ 640 from nI_le (b := 640) c (by decide)), b1_some, if_neg n10, a1, b2_some, b1, b2_some, c1, b2_some, d1, b2_some, e1, b2_some, a2, b2_some, b2, b2_some, c2, b2_some, d2, b2_some, e2, b2_some]
    exact ⟨_, _, _, _, _, rfl, rfl, ⟨u + 4 + 4 + 4 + 4 + 4, by omega, rfl, rfl, e3⟩⟩
  · rw [if_pos (show (640 : Int32) < nI (u + 20) from nI_lt (a := 640) (by omega) (by omega)), if_neg (show ¬ nI (u + 20) ≤ 640 from nI_ge (a := 640) (by omega) (by omega)), b1_some, if_pos rfl]
    exact ⟨_, _, _, _, _, rfl, rfl, ⟨u, hu, rfl, rfl, h⟩⟩
theorem act_end {p1 : Int32} (h : TP us tpd tf tp) : ∃ r us' tpd', mX5_end us p1 = some (r, us') ∧ mX6_end thr tpd p1 = some (r, 0, tpd') ∧ TP us' tpd' tf tp := by
  obtain ⟨u, hu, rfl, rfl, h⟩ := h
  unfold mX5_end mX6_end mX4_cut
  by_cases c1 : p1 < 0
  · rw [if_pos c1, if_pos c1, b2_some]
    exact ⟨_, _, _, rfl, rfl, ⟨u, hu, rfl, rfl, h⟩⟩
  · rw [if_neg c1, if_neg c1]
    by_cases c2 : p1 ≤ nI u
    · obtain ⟨j, hj, rfl⟩ := nI_of c1
      rw [if_pos c2, if_pos c2, b2_some]
      have hj2 : j ≤ u := (nI_leI hj (by omega)).mp c2
      exact ⟨_, _, _, rfl, rfl, ⟨j, by omega, rfl, rfl, fun i hi => h i (by omega)⟩⟩
    · rw [if_neg c2, if_neg c2, b2_some]
      exact ⟨_, _, _, rfl, rfl, ⟨u, hu, rfl, rfl, h⟩⟩
end Tape
