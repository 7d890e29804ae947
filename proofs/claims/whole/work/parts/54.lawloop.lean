/-! THE CLAIM OUT OF ONE WALK OF THE LAW'S BODY. Your part is whole_start (and what it stands on); all else here is the same for every law, but numbers. -/
def R_law : String := "DunningHouseLaw"
def lw_P (b : Addr) (xs : List Int32) (args : Array Value) (s : State) : Prop := args = #[.ref b] ∧ s.IntsAt b xs ∧ xs.length ≤ 3072 ∧ (Jvm.Cond.and given_1 narrow_1).before args s = true
def lw_Q (_ : Array Value) (s : State) (o : Outcome) (t : State) : Prop := o = .returned (some (.int 1)) ∧ Framed s o t [] 601024 7293034
def lw_Z (below : List Frame) (a : Array Value) (s : State) : State → Prop := fun t => ∃ o, t.status = .running ∧ Ended t below o ∧ lw_Q a s o t
/-- the law's own end, with 1 on the stack, nothing written that was there before, its room as the claim has it -/
theorem lw_ret {p : Program} {l : Launch} {e : Env} {s : State} {m : MethodId} {below : List Frame} {meth : Method} {c : Code} {b : Nat} (hx : p.tables.exec = Jvm.exec) (hb : c.code = code) (hr : meth.sig.returnType = ret) (hlocks : meth.locks = false) {pc : Nat} {H : Heap} {ls : Array Slot} (hdg : decode code pc = .ok (.ireturn, 1)) : W p l e room_1 s m #[Value.ref b] below meth c H [] 601024 7293034 (lw_Z below #[Value.ref b] s) (F0 m pc ls [.int 1]) := by
  intro T hT X
  obtain ⟨fs, hret, hrun, hended, hW, hframe⟩ := X.leave (v := some (.int 1)) (hlocks := hlocks) (fun h => by rw [hr] at h; cases h)
  have hmeth' : T.vm.method? m = some meth := X.method'
  refine ⟨T.setFrames fs, ?_, .returned (some (.int 1)), hrun, hended, rfl, ⟨_, rfl⟩, hW, hframe⟩
  jvm_step X.here [X.here.top, hx, hb, hdg, hmeth', hr, ret, narrow_b1]
  (try refine ⟨rfl, ?_⟩); (try refine ⟨rfl, ?_⟩)
  first | (intro acts; rw [hret _ acts rfl rfl rfl]) | rw [hret _ _ rfl rfl rfl]
  exact Steps.refl _
/-- what holds at the law's entry: the machine, the code, the tables' words (any of lw_tbl by 'hts w (by decide +kernel)'), the script of L ints xs at the cell b, what the Statement gives of the start (any of its parts by flat_of_before) -/
def lw_At (p : Program) (s : State) (m : MethodId) (meth : Method) (c : Code) (b L : Nat) (xs : Nat → Int32) : Prop :=
  p.tables.exec = Jvm.exec ∧ c.code = code ∧ meth.sig.returnType = ret ∧ c.maxLocals = 7 ∧ s.vm.findClass R_law = some m.cls ∧ (∀ w ∈ lw_tbl, w.before #[Value.ref b] s = true) ∧ va_X b L xs s s.heap ∧ b < s.heap.size ∧ meth.locks = false ∧ (Jvm.Cond.and given_1 narrow_1).before #[Value.ref b] s = true
set_option maxRecDepth 100000 in
set_option maxHeartbeats 4000000 in
theorem law_body {p : Program} {l : Launch} {e : Env} {s : State} {m : MethodId} {below : List Frame} {meth : Method} {c : Code} {Q : State → Prop} {D : va_G} {cI cB cL cK : ClassId} {sq sv : Nat → Nat} {qa qb bs L : Nat} {xs : Nat → Int32} {md : Nat → Nat} {ha : Nat} {a : Nat} {b : Nat} {ad : Nat → Nat} {pa : Nat → Nat} {hh : Nat} {hq : Nat} {kad : Nat → Nat → Nat} {ou : Nat} {i : Int32} {H : Heap} {locs : List Loc} {ls : Array Slot} {cells slots : Nat} (C : LwC p l s m c D cI cB cL cK sq sv qa qb bs L xs) (h0 : vp_in i L) (h1 : vp_in (i + 1) L) (h2 : vp_in (i + 2) L) (h3 : vp_in (i + 3) L) (h4 : vp_in (i + 4) L) (h5 : vp_in (i + 5) L) (hr : cells + 1 ≤ room_1.cells ∧ slots + 8 ≤ room_1.slots) (hS : va_S (LwN s) s.heap H locs) (hLS : LwS D cI cB cL cK md ha a b ad pa hh hq kad ou (LwN s) H) (hl : lv_has ls 7 [(4, .int i), (0, .ref bs), (1, .ref ha), (2, .ref (md 0)), (3, .ref ou)]) (kk : ∀ (H : Heap) (locs : List Loc) (ls : Array Slot), va_S (LwN s) s.heap H locs → LwS D cI cB cL cK md ha a b ad pa hh hq kad ou (LwN s) H → lv_has ls 7 [(4, .int i), (0, .ref bs), (1, .ref ha), (2, .ref (md 0)), (3, .ref ou)] → W p l e room_1 s m #[Value.ref bs] below meth c H locs (cells + 1) (slots + 8) Q (F0 m 1028 ls [])) : W p l e room_1 s m #[Value.ref bs] below meth c H locs cells slots Q (F0 m 33 ls []) := by
  obtain ⟨hx, hb, hml, hown, hts, hX, hbl, hK, hZ, hXZ, htr⟩ := id C
  have hbA : ¬ LwN s bs := Nat.not_le.mpr hbl
  refine lv_aload_n hx hb dL_law_33 rfl (lv_at hl 1 rfl) ?_
  refine lv_iload hx hb dL_law_34 (lv_at hl 0 rfl) ?_
  refine va_sld hx hb hX hbl hbA hS h0 dL_law_36 ?_
  refine lv_bipush (v := 31) hx hb dL_law_37 (by decide) ?_
  refine lv_iand hx hb dL_law_39 ?_
  refine lv_topi (fun x9 ex9 => ?_)
  clear ex9
  by_cases hz : x9.toInt < 0 ∨ 24 < x9.toInt
  · refine lv_tableOut (tgt := 1028) hx hb dL_law_40 hz (by decide) ?_
    refine W.widen (k := cells + 1) (n := slots + 8) (by omega) (by omega) ?_
    exact kk _ _ _ hS hLS hl
  · have hc : x9 = 0 ∨ x9 = 1 ∨ x9 = 2 ∨ x9 = 3 ∨ x9 = 4 ∨ x9 = 5 ∨ x9 = 6 ∨ x9 = 7 ∨ x9 = 8 ∨ x9 = 9 ∨ x9 = 10 ∨ x9 = 11 ∨ x9 = 12 ∨ x9 = 13 ∨ x9 = 14 ∨ x9 = 15 ∨ x9 = 16 ∨ x9 = 17 ∨ x9 = 18 ∨ x9 = 19 ∨ x9 = 20 ∨ x9 = 21 ∨ x9 = 22 ∨ x9 = 23 ∨ x9 = 24 := by
      have e9 : ∀ k : Int32, x9.toInt = k.toInt → x9 = k := fun k h => Int32.toInt_inj.mp h
      have h9 : x9.toInt = 0 ∨ x9.toInt = 1 ∨ x9.toInt = 2 ∨ x9.toInt = 3 ∨ x9.toInt = 4 ∨ x9.toInt = 5 ∨ x9.toInt = 6 ∨ x9.toInt = 7 ∨ x9.toInt = 8 ∨ x9.toInt = 9 ∨ x9.toInt = 10 ∨ x9.toInt = 11 ∨ x9.toInt = 12 ∨ x9.toInt = 13 ∨ x9.toInt = 14 ∨ x9.toInt = 15 ∨ x9.toInt = 16 ∨ x9.toInt = 17 ∨ x9.toInt = 18 ∨ x9.toInt = 19 ∨ x9.toInt = 20 ∨ x9.toInt = 21 ∨ x9.toInt = 22 ∨ x9.toInt = 23 ∨ x9.toInt = 24 := by omega
      rcases h9 with h | h | h | h | h | h | h | h | h | h | h | h | h | h | h | h | h | h | h | h | h | h | h | h | h
      · exact Or.inl (e9 0 h)
      · exact Or.inr (Or.inl (e9 1 h))
      · exact Or.inr (Or.inr (Or.inl (e9 2 h)))
      · exact Or.inr (Or.inr (Or.inr (Or.inl (e9 3 h))))
      · exact Or.inr (Or.inr (Or.inr (Or.inr (Or.inl (e9 4 h)))))
      · exact Or.inr (Or.inr (Or.inr (Or.inr (Or.inr (Or.inl (e9 5 h))))))
      · exact Or.inr (Or.inr (Or.inr (Or.inr (Or.inr (Or.inr (Or.inl (e9 6 h)))))))
      · exact Or.inr (Or.inr (Or.inr (Or.inr (Or.inr (Or.inr (Or.inr (Or.inl (e9 7 h))))))))
      · exact Or.inr (Or.inr (Or.inr (Or.inr (Or.inr (Or.inr (Or.inr (Or.inr (Or.inl (e9 8 h)))))))))
      · exact Or.inr (Or.inr (Or.inr (Or.inr (Or.inr (Or.inr (Or.inr (Or.inr (Or.inr (Or.inl (e9 9 h))))))))))
      · exact Or.inr (Or.inr (Or.inr (Or.inr (Or.inr (Or.inr (Or.inr (Or.inr (Or.inr (Or.inr (Or.inl (e9 10 h)))))))))))
      · exact Or.inr (Or.inr (Or.inr (Or.inr (Or.inr (Or.inr (Or.inr (Or.inr (Or.inr (Or.inr (Or.inr (Or.inl (e9 11 h))))))))))))
      · exact Or.inr (Or.inr (Or.inr (Or.inr (Or.inr (Or.inr (Or.inr (Or.inr (Or.inr (Or.inr (Or.inr (Or.inr (Or.inl (e9 12 h)))))))))))))
      · exact Or.inr (Or.inr (Or.inr (Or.inr (Or.inr (Or.inr (Or.inr (Or.inr (Or.inr (Or.inr (Or.inr (Or.inr (Or.inr (Or.inl (e9 13 h))))))))))))))
      · exact Or.inr (Or.inr (Or.inr (Or.inr (Or.inr (Or.inr (Or.inr (Or.inr (Or.inr (Or.inr (Or.inr (Or.inr (Or.inr (Or.inr (Or.inl (e9 14 h)))))))))))))))
      · exact Or.inr (Or.inr (Or.inr (Or.inr (Or.inr (Or.inr (Or.inr (Or.inr (Or.inr (Or.inr (Or.inr (Or.inr (Or.inr (Or.inr (Or.inr (Or.inl (e9 15 h))))))))))))))))
      · exact Or.inr (Or.inr (Or.inr (Or.inr (Or.inr (Or.inr (Or.inr (Or.inr (Or.inr (Or.inr (Or.inr (Or.inr (Or.inr (Or.inr (Or.inr (Or.inr (Or.inl (e9 16 h)))))))))))))))))
      · exact Or.inr (Or.inr (Or.inr (Or.inr (Or.inr (Or.inr (Or.inr (Or.inr (Or.inr (Or.inr (Or.inr (Or.inr (Or.inr (Or.inr (Or.inr (Or.inr (Or.inr (Or.inl (e9 17 h))))))))))))))))))
      · exact Or.inr (Or.inr (Or.inr (Or.inr (Or.inr (Or.inr (Or.inr (Or.inr (Or.inr (Or.inr (Or.inr (Or.inr (Or.inr (Or.inr (Or.inr (Or.inr (Or.inr (Or.inr (Or.inl (e9 18 h)))))))))))))))))))
      · exact Or.inr (Or.inr (Or.inr (Or.inr (Or.inr (Or.inr (Or.inr (Or.inr (Or.inr (Or.inr (Or.inr (Or.inr (Or.inr (Or.inr (Or.inr (Or.inr (Or.inr (Or.inr (Or.inr (Or.inl (e9 19 h))))))))))))))))))))
      · exact Or.inr (Or.inr (Or.inr (Or.inr (Or.inr (Or.inr (Or.inr (Or.inr (Or.inr (Or.inr (Or.inr (Or.inr (Or.inr (Or.inr (Or.inr (Or.inr (Or.inr (Or.inr (Or.inr (Or.inr (Or.inl (e9 20 h)))))))))))))))))))))
      · exact Or.inr (Or.inr (Or.inr (Or.inr (Or.inr (Or.inr (Or.inr (Or.inr (Or.inr (Or.inr (Or.inr (Or.inr (Or.inr (Or.inr (Or.inr (Or.inr (Or.inr (Or.inr (Or.inr (Or.inr (Or.inr (Or.inl (e9 21 h))))))))))))))))))))))
      · exact Or.inr (Or.inr (Or.inr (Or.inr (Or.inr (Or.inr (Or.inr (Or.inr (Or.inr (Or.inr (Or.inr (Or.inr (Or.inr (Or.inr (Or.inr (Or.inr (Or.inr (Or.inr (Or.inr (Or.inr (Or.inr (Or.inr (Or.inl (e9 22 h)))))))))))))))))))))))
      · exact Or.inr (Or.inr (Or.inr (Or.inr (Or.inr (Or.inr (Or.inr (Or.inr (Or.inr (Or.inr (Or.inr (Or.inr (Or.inr (Or.inr (Or.inr (Or.inr (Or.inr (Or.inr (Or.inr (Or.inr (Or.inr (Or.inr (Or.inr (Or.inl (e9 23 h))))))))))))))))))))))))
      · exact Or.inr (Or.inr (Or.inr (Or.inr (Or.inr (Or.inr (Or.inr (Or.inr (Or.inr (Or.inr (Or.inr (Or.inr (Or.inr (Or.inr (Or.inr (Or.inr (Or.inr (Or.inr (Or.inr (Or.inr (Or.inr (Or.inr (Or.inr (Or.inr (e9 24 h))))))))))))))))))))))))
    rcases hc with rfl | rfl | rfl | rfl | rfl | rfl | rfl | rfl | rfl | rfl | rfl | rfl | rfl | rfl | rfl | rfl | rfl | rfl | rfl | rfl | rfl | rfl | rfl | rfl | rfl
    · refine lv_tableIn (tgt := 156) hx hb dL_law_40 (by decide) (by decide) (by rfl) (by decide) ?_
      exact law_feed C h1 h2 h3 h4 h5 hr hS hLS hl kk
    · refine lv_tableIn (tgt := 229) hx hb dL_law_40 (by decide) (by decide) (by rfl) (by decide) ?_
      exact law_end C h1 h2 h3 h4 h5 hr hS hLS hl kk
    · refine lv_tableIn (tgt := 254) hx hb dL_law_40 (by decide) (by decide) (by rfl) (by decide) ?_
      exact law_text C h1 h2 h3 h4 h5 hr hS hLS hl kk
    · refine lv_tableIn (tgt := 267) hx hb dL_law_40 (by decide) (by decide) (by rfl) (by decide) ?_
      exact law_fault C h1 h2 h3 h4 h5 hr hS hLS hl kk
    · refine lv_tableIn (tgt := 280) hx hb dL_law_40 (by decide) (by decide) (by rfl) (by decide) ?_
      exact law_now C h1 h2 h3 h4 h5 hr hS hLS hl kk
    · refine lv_tableIn (tgt := 305) hx hb dL_law_40 (by decide) (by decide) (by rfl) (by decide) ?_
      exact law_step C h1 h2 h3 h4 h5 hr hS hLS hl kk
    · refine lv_tableIn (tgt := 342) hx hb dL_law_40 (by decide) (by decide) (by rfl) (by decide) ?_
      exact law_debtor C h1 h2 h3 h4 h5 hr hS hLS hl kk
    · refine lv_tableIn (tgt := 410) hx hb dL_law_40 (by decide) (by decide) (by rfl) (by decide) ?_
      exact law_invoice C h1 h2 h3 h4 h5 hr hS hLS hl kk
    · refine lv_tableIn (tgt := 447) hx hb dL_law_40 (by decide) (by decide) (by rfl) (by decide) ?_
      exact law_promised C h1 h2 h3 h4 h5 hr hS hLS hl kk
    · refine lv_tableIn (tgt := 484) hx hb dL_law_40 (by decide) (by decide) (by rfl) (by decide) ?_
      exact law_planned C h1 h2 h3 h4 h5 hr hS hLS hl kk
    · refine lv_tableIn (tgt := 521) hx hb dL_law_40 (by decide) (by decide) (by rfl) (by decide) ?_
      exact law_order C h1 h2 h3 h4 h5 hr hS hLS hl kk
    · refine lv_tableIn (tgt := 558) hx hb dL_law_40 (by decide) (by decide) (by rfl) (by decide) ?_
      exact law_aged C h1 h2 h3 h4 h5 hr hS hLS hl kk
    · refine lv_tableIn (tgt := 595) hx hb dL_law_40 (by decide) (by decide) (by rfl) (by decide) ?_
      exact law_next C h1 h2 h3 h4 h5 hr hS hLS hl kk
    · refine lv_tableIn (tgt := 620) hx hb dL_law_40 (by decide) (by decide) (by rfl) (by decide) ?_
      exact law_would C h1 h2 h3 h4 h5 hr hS hLS hl kk
    · refine lv_tableIn (tgt := 657) hx hb dL_law_40 (by decide) (by decide) (by rfl) (by decide) ?_
      exact law_bill C h1 h2 h3 h4 h5 hr hS hLS hl kk
    · refine lv_tableIn (tgt := 706) hx hb dL_law_40 (by decide) (by decide) (by rfl) (by decide) ?_
      exact law_pay C h1 h2 h3 h4 h5 hr hS hLS hl kk
    · refine lv_tableIn (tgt := 743) hx hb dL_law_40 (by decide) (by decide) (by rfl) (by decide) ?_
      exact law_dispute C h1 h2 h3 h4 h5 hr hS hLS hl kk
    · refine lv_tableIn (tgt := 768) hx hb dL_law_40 (by decide) (by decide) (by rfl) (by decide) ?_
      exact law_settle C h1 h2 h3 h4 h5 hr hS hLS hl kk
    · refine lv_tableIn (tgt := 805) hx hb dL_law_40 (by decide) (by decide) (by rfl) (by decide) ?_
      exact law_promise C h1 h2 h3 h4 h5 hr hS hLS hl kk
    · refine lv_tableIn (tgt := 854) hx hb dL_law_40 (by decide) (by decide) (by rfl) (by decide) ?_
      exact law_plan C h1 h2 h3 h4 h5 hr hS hLS hl kk
    · refine lv_tableIn (tgt := 903) hx hb dL_law_40 (by decide) (by decide) (by rfl) (by decide) ?_
      exact law_asks C h1 h2 h3 h4 h5 hr hS hLS hl kk
    · refine lv_tableIn (tgt := 940) hx hb dL_law_40 (by decide) (by decide) (by rfl) (by decide) ?_
      exact law_ships C h1 h2 h3 h4 h5 hr hS hLS hl kk
    · refine lv_tableIn (tgt := 965) hx hb dL_law_40 (by decide) (by decide) (by rfl) (by decide) ?_
      exact law_cancel C h1 h2 h3 h4 h5 hr hS hLS hl kk
    · refine lv_tableIn (tgt := 990) hx hb dL_law_40 (by decide) (by decide) (by rfl) (by decide) ?_
      exact law_pass C h1 h2 h3 h4 h5 hr hS hLS hl kk
    · refine lv_tableIn (tgt := 1015) hx hb dL_law_40 (by decide) (by decide) (by rfl) (by decide) ?_
      exact law_undo C h1 h2 h3 h4 h5 hr hS hLS hl kk
set_option maxRecDepth 100000 in
set_option maxHeartbeats 4000000 in
theorem law_loop {p : Program} {l : Launch} {e : Env} {s : State} {m : MethodId} {below : List Frame} {meth : Method} {c : Code} {D : va_G} {cI cB cL cK : ClassId} {sq sv : Nat → Nat} {qa qb bs L : Nat} {xs : Nat → Int32} {md : Nat → Nat} {ha : Nat} {a : Nat} {b : Nat} {ad : Nat → Nat} {pa : Nat → Nat} {hh : Nat} {hq : Nat} {kad : Nat → Nat → Nat} {ou : Nat} (hL : L ≤ 3072) (C : LwC p l s m c D cI cB cL cK sq sv qa qb bs L xs) (hr : meth.sig.returnType = ret) (hlk : meth.locks = false) :
    ∀ (f j : Nat), 6 * j ≤ L → L + 1 ≤ 6 * j + f → ∀ (H : Heap) (locs : List Loc) (ls : Array Slot), va_S (LwN s) s.heap H locs → LwS D cI cB cL cK md ha a b ad pa hh hq kad ou (LwN s) H → lv_has ls 7 [(4, .int (nI (6 * j))), (0, .ref bs), (1, .ref ha), (2, .ref (md 0)), (3, .ref ou)] → W p l e room_1 s m #[Value.ref bs] below meth c H locs (120 + j) (19866 + 8 * j) (lw_Z below #[Value.ref bs] s) (F0 m 23 ls []) := by
  obtain ⟨hx, hb, hml, hown, hts, hX, hbl, hK, hZ, hXZ, htr⟩ := id C
  have hbA : ¬ LwN s bs := Nat.not_le.mpr hbl
  intro f
  induction f with
  | zero =>
    intro j h1 h2
    exact absurd h2 (by omega)
  | succ f ih =>
    intro j hj hin H locs ls hS hLS hl
    refine lv_iload hx hb dL_law_23 (lv_at hl 0 rfl) ?_
    refine lv_aload_n hx hb dL_law_25 rfl (lv_at hl 1 rfl) ?_
    refine va_slen hx hb hX hbl hbA hS dL_law_26 ?_
    refine lv_bipush (v := 6) hx hb dL_law_27 (by decide) ?_
    refine lv_isub hx hb dL_law_29 ?_
    refine lv_icmp_gt (tgt := 1034) hx hb dL_law_30 (by decide) (fun c9 => ?_) (fun c9 => ?_)
    · refine lv_iconst (v := 1) hx hb dL_law_1034 (by decide) ?_
      refine va_forget (fun q hq => hS.2.2 q hq) ?_
      refine W.widen (k := 601024) (n := 7293034) (by omega) (by omega) ?_
      exact lw_ret hx hb hr hlk dL_law_1035
    · have h6 : 6 * j + 6 ≤ L := by
        have h7 : ¬ (nI L - nI 6).toInt < (nI (6 * j)).toInt := fun z => c9 (Int32.lt_iff_toInt_lt.mpr z)
        rw [pk_sub_toInt (by omega) (by omega), nI_toInt (by omega)] at h7
        omega
      have hi : ∀ k : Nat, k < 6 → vp_in (nI (6 * j) + nI k) L := fun k hk => by
        rw [nI_add]
        exact vp_in_nI (by omega) (by omega)
      refine law_body C (vp_in_nI (by omega) (by omega)) (hi 1 (by decide)) (hi 2 (by decide)) (hi 3 (by decide)) (hi 4 (by decide)) (hi 5 (by decide)) ⟨by show 120 + j + 1 ≤ 601024; omega, by show 19866 + 8 * j + 8 ≤ 7293034; omega⟩ hS hLS hl (fun H locs ls hS hLS hl => ?_)
      refine lv_iinc (v := nI (6 * (j + 1))) (lv' := [(4, .int (nI (6 * (j + 1)))), (0, .ref bs), (1, .ref ha), (2, .ref (md 0)), (3, .ref ou)]) hx hb dL_law_1028 hl (k := 0) rfl (nI_add (6 * j) 6) (by decide) rfl (fun ls hl => ?_)
      refine lv_goto (tgt := 23) hx hb dL_law_1031 (by decide) ?_
      exact ih (j + 1) (by omega) (by omega) H locs ls hS hLS hl
