set_option maxRecDepth 100000 in
set_option maxHeartbeats 4000000 in
theorem law_ships {p : Program} {l : Launch} {e : Env} {s : State} {m : MethodId} {below : List Frame} {meth : Method} {c : Code} {Q : State → Prop} {D : va_G} {cI cB cL cK : ClassId} {sq sv : Nat → Nat} {qa qb bs L : Nat} {xs : Nat → Int32} {md : Nat → Nat} {ha : Nat} {a : Nat} {b : Nat} {ad : Nat → Nat} {pa : Nat → Nat} {hh : Nat} {hq : Nat} {kad : Nat → Nat → Nat} {ou : Nat} {i : Int32} {H : Heap} {locs : List Loc} {ls : Array Slot} {cells slots : Nat} (C : LwC p l s m c D cI cB cL cK sq sv qa qb bs L xs) (h1 : vp_in (i + 1) L) (h2 : vp_in (i + 2) L) (h3 : vp_in (i + 3) L) (h4 : vp_in (i + 4) L) (h5 : vp_in (i + 5) L) (hr : cells + 1 ≤ room_1.cells ∧ slots + 8 ≤ room_1.slots) (hS : va_S (LwN s) s.heap H locs) (hLS : LwS D cI cB cL cK md ha a b ad pa hh hq kad ou (LwN s) H) (hl : lv_has ls 7 [(4, .int i), (0, .ref bs), (1, .ref ha), (2, .ref (md 0)), (3, .ref ou)]) (kk : ∀ (H : Heap) (locs : List Loc) (ls : Array Slot), va_S (LwN s) s.heap H locs → LwS D cI cB cL cK md ha a b ad pa hh hq kad ou (LwN s) H → lv_has ls 7 [(4, .int i), (0, .ref bs), (1, .ref ha), (2, .ref (md 0)), (3, .ref ou)] → W p l e room_1 s m #[Value.ref bs] below meth c H locs (cells + 1) (slots + 8) Q (F0 m 1028 ls [])) : W p l e room_1 s m #[Value.ref bs] below meth c H locs cells slots Q (F0 m 940 ls []) := by
  obtain ⟨hx, hb, hml, hown, hts, hX, hbl, hK, hZ, hXZ, htr⟩ := id C
  have hA : ∀ q : Nat, s.heap.size ≤ q → LwN s q := fun _ h => h
  have hbA : ¬ LwN s bs := Nat.not_le.mpr hbl
  have hcf : CallFix p m c cL_law 7 s _ wsL_lawN RL := ⟨hx, hb, hml, hown, hts⟩
  have hr0 : cells ≤ room_1.cells ∧ slots ≤ room_1.slots := ⟨Nat.le_trans (Nat.le_add_right _ _) hr.1, Nat.le_trans (Nat.le_add_right _ _) hr.2⟩
  obtain ⟨thr, tpd, siz, too, frm, srt, num, flt, plc, wrd, snm, lin, stp, sfo, hst, tp, nw, rd, kp, sn, lf, us, tf, ho, td, pd, sr, dr, ir, qr, sf, df, jf, qf, oho, otd, opd, osr, odr, oir, oqr, osf, odf, ojf, oqf, ct, tpp, kv, ofn, hP, hD, hB, hH, hT, hf⟩ := hLS
  obtain ⟨r, ir', df', jf', qf', ct', tpp', kv', snm', nw', sn', e1, e2, hB9, hH9⟩ := act_ships (thr := thr) (p1 := (xs (i + 1).toNatClampNeg)) hB hH
  refine lv_aload_n hx hb dL_law_940 rfl (lv_at hl 2 rfl) ?_
  refine lv_aload_n hx hb dL_law_941 rfl (lv_at hl 1 rfl) ?_
  refine lv_iload hx hb dL_law_942 (lv_at hl 0 rfl) ?_
  refine lv_iconst (v := 1) hx hb dL_law_944 (by decide) ?_
  refine lv_iadd hx hb dL_law_945 ?_
  refine va_sld hx hb hX hbl hbA hS h1 dL_law_946 ?_
  refine mu_vi hcf (kX5_ships e1) (cwL_X5_ships hts) hK hP hD hS hA jL_h (ci := 5) (q0 := 6) rfl rfl rfl hl.1 rfl (Nat.le_of_ble_eq_true rfl) dL_law_947 hr0 (fun H locs hP hD hS => ?_)
  refine lv_aload_n hx hb dL_law_950 rfl (lv_at hl 3 rfl) ?_
  refine lv_aload_n hx hb dL_law_951 rfl (lv_at hl 1 rfl) ?_
  refine lv_iload hx hb dL_law_952 (lv_at hl 0 rfl) ?_
  refine lv_iconst (v := 1) hx hb dL_law_954 (by decide) ?_
  refine lv_iadd hx hb dL_law_955 ?_
  refine va_sld hx hb hX hbl hbA hS h1 dL_law_956 ?_
  refine mu_vi hcf (kX6_ships e2) (cwL_X6_ships hts) hK hP hD hS hA jL_m (ci := 6) (q0 := 0) rfl rfl rfl hl.1 rfl (Nat.le_of_ble_eq_true rfl) dL_law_957 hr0 (fun H locs hP hD hS => ?_)
  refine lv_icmp_eq (tgt := 1028) hx hb dL_law_960 (by decide) (fun _ => ?_) (fun c9 => absurd rfl c9)
  refine W.widen (k := cells + 1) (n := slots + 8) (by omega) (by omega) ?_
  exact kk _ _ _ hS ⟨_, _, _, _, _, _, _, _, _, _, _, _, _, _, _, _, _, _, _, _, _, _, _, _, _, _, _, _, _, _, _, _, _, _, _, _, _, _, _, _, _, _, _, _, _, _, _, _, _, hP, hD, hB9, hH9, hT, hf⟩ hl

set_option maxRecDepth 100000 in
set_option maxHeartbeats 4000000 in
theorem law_cancel {p : Program} {l : Launch} {e : Env} {s : State} {m : MethodId} {below : List Frame} {meth : Method} {c : Code} {Q : State → Prop} {D : va_G} {cI cB cL cK : ClassId} {sq sv : Nat → Nat} {qa qb bs L : Nat} {xs : Nat → Int32} {md : Nat → Nat} {ha : Nat} {a : Nat} {b : Nat} {ad : Nat → Nat} {pa : Nat → Nat} {hh : Nat} {hq : Nat} {kad : Nat → Nat → Nat} {ou : Nat} {i : Int32} {H : Heap} {locs : List Loc} {ls : Array Slot} {cells slots : Nat} (C : LwC p l s m c D cI cB cL cK sq sv qa qb bs L xs) (h1 : vp_in (i + 1) L) (h2 : vp_in (i + 2) L) (h3 : vp_in (i + 3) L) (h4 : vp_in (i + 4) L) (h5 : vp_in (i + 5) L) (hr : cells + 1 ≤ room_1.cells ∧ slots + 8 ≤ room_1.slots) (hS : va_S (LwN s) s.heap H locs) (hLS : LwS D cI cB cL cK md ha a b ad pa hh hq kad ou (LwN s) H) (hl : lv_has ls 7 [(4, .int i), (0, .ref bs), (1, .ref ha), (2, .ref (md 0)), (3, .ref ou)]) (kk : ∀ (H : Heap) (locs : List Loc) (ls : Array Slot), va_S (LwN s) s.heap H locs → LwS D cI cB cL cK md ha a b ad pa hh hq kad ou (LwN s) H → lv_has ls 7 [(4, .int i), (0, .ref bs), (1, .ref ha), (2, .ref (md 0)), (3, .ref ou)] → W p l e room_1 s m #[Value.ref bs] below meth c H locs (cells + 1) (slots + 8) Q (F0 m 1028 ls [])) : W p l e room_1 s m #[Value.ref bs] below meth c H locs cells slots Q (F0 m 965 ls []) := by
  obtain ⟨hx, hb, hml, hown, hts, hX, hbl, hK, hZ, hXZ, htr⟩ := id C
  have hA : ∀ q : Nat, s.heap.size ≤ q → LwN s q := fun _ h => h
  have hbA : ¬ LwN s bs := Nat.not_le.mpr hbl
  have hcf : CallFix p m c cL_law 7 s _ wsL_lawN RL := ⟨hx, hb, hml, hown, hts⟩
  have hr0 : cells ≤ room_1.cells ∧ slots ≤ room_1.slots := ⟨Nat.le_trans (Nat.le_add_right _ _) hr.1, Nat.le_trans (Nat.le_add_right _ _) hr.2⟩
  obtain ⟨thr, tpd, siz, too, frm, srt, num, flt, plc, wrd, snm, lin, stp, sfo, hst, tp, nw, rd, kp, sn, lf, us, tf, ho, td, pd, sr, dr, ir, qr, sf, df, jf, qf, oho, otd, opd, osr, odr, oir, oqr, osf, odf, ojf, oqf, ct, tpp, kv, ofn, hP, hD, hB, hH, hT, hf⟩ := hLS
  obtain ⟨r, qf', ct', tpp', kv', snm', nw', sn', e1, e2, hB9, hH9⟩ := act_cancel (thr := thr) (p1 := (xs (i + 1).toNatClampNeg)) hB hH
  refine lv_aload_n hx hb dL_law_965 rfl (lv_at hl 2 rfl) ?_
  refine lv_aload_n hx hb dL_law_966 rfl (lv_at hl 1 rfl) ?_
  refine lv_iload hx hb dL_law_967 (lv_at hl 0 rfl) ?_
  refine lv_iconst (v := 1) hx hb dL_law_969 (by decide) ?_
  refine lv_iadd hx hb dL_law_970 ?_
  refine va_sld hx hb hX hbl hbA hS h1 dL_law_971 ?_
  refine mu_vi hcf (kX5_cancel e1) (cwL_X5_cancel hts) hK hP hD hS hA jL_h (ci := 5) (q0 := 6) rfl rfl rfl hl.1 rfl (Nat.le_of_ble_eq_true rfl) dL_law_972 hr0 (fun H locs hP hD hS => ?_)
  refine lv_aload_n hx hb dL_law_975 rfl (lv_at hl 3 rfl) ?_
  refine lv_aload_n hx hb dL_law_976 rfl (lv_at hl 1 rfl) ?_
  refine lv_iload hx hb dL_law_977 (lv_at hl 0 rfl) ?_
  refine lv_iconst (v := 1) hx hb dL_law_979 (by decide) ?_
  refine lv_iadd hx hb dL_law_980 ?_
  refine va_sld hx hb hX hbl hbA hS h1 dL_law_981 ?_
  refine mu_vi hcf (kX6_cancel e2) (cwL_X6_cancel hts) hK hP hD hS hA jL_m (ci := 6) (q0 := 0) rfl rfl rfl hl.1 rfl (Nat.le_of_ble_eq_true rfl) dL_law_982 hr0 (fun H locs hP hD hS => ?_)
  refine lv_icmp_eq (tgt := 1028) hx hb dL_law_985 (by decide) (fun _ => ?_) (fun c9 => absurd rfl c9)
  refine W.widen (k := cells + 1) (n := slots + 8) (by omega) (by omega) ?_
  exact kk _ _ _ hS ⟨_, _, _, _, _, _, _, _, _, _, _, _, _, _, _, _, _, _, _, _, _, _, _, _, _, _, _, _, _, _, _, _, _, _, _, _, _, _, _, _, _, _, _, _, _, _, _, _, _, hP, hD, hB9, hH9, hT, hf⟩ hl

set_option maxRecDepth 100000 in
set_option maxHeartbeats 4000000 in
theorem law_pass {p : Program} {l : Launch} {e : Env} {s : State} {m : MethodId} {below : List Frame} {meth : Method} {c : Code} {Q : State → Prop} {D : va_G} {cI cB cL cK : ClassId} {sq sv : Nat → Nat} {qa qb bs L : Nat} {xs : Nat → Int32} {md : Nat → Nat} {ha : Nat} {a : Nat} {b : Nat} {ad : Nat → Nat} {pa : Nat → Nat} {hh : Nat} {hq : Nat} {kad : Nat → Nat → Nat} {ou : Nat} {i : Int32} {H : Heap} {locs : List Loc} {ls : Array Slot} {cells slots : Nat} (C : LwC p l s m c D cI cB cL cK sq sv qa qb bs L xs) (h1 : vp_in (i + 1) L) (h2 : vp_in (i + 2) L) (h3 : vp_in (i + 3) L) (h4 : vp_in (i + 4) L) (h5 : vp_in (i + 5) L) (hr : cells + 1 ≤ room_1.cells ∧ slots + 8 ≤ room_1.slots) (hS : va_S (LwN s) s.heap H locs) (hLS : LwS D cI cB cL cK md ha a b ad pa hh hq kad ou (LwN s) H) (hl : lv_has ls 7 [(4, .int i), (0, .ref bs), (1, .ref ha), (2, .ref (md 0)), (3, .ref ou)]) (kk : ∀ (H : Heap) (locs : List Loc) (ls : Array Slot), va_S (LwN s) s.heap H locs → LwS D cI cB cL cK md ha a b ad pa hh hq kad ou (LwN s) H → lv_has ls 7 [(4, .int i), (0, .ref bs), (1, .ref ha), (2, .ref (md 0)), (3, .ref ou)] → W p l e room_1 s m #[Value.ref bs] below meth c H locs (cells + 1) (slots + 8) Q (F0 m 1028 ls [])) : W p l e room_1 s m #[Value.ref bs] below meth c H locs cells slots Q (F0 m 990 ls []) := by
  obtain ⟨hx, hb, hml, hown, hts, hX, hbl, hK, hZ, hXZ, htr⟩ := id C
  have hA : ∀ q : Nat, s.heap.size ≤ q → LwN s q := fun _ h => h
  have hbA : ¬ LwN s bs := Nat.not_le.mpr hbl
  have hcf : CallFix p m c cL_law 7 s _ wsL_lawN RL := ⟨hx, hb, hml, hown, hts⟩
  have hr0 : cells ≤ room_1.cells ∧ slots ≤ room_1.slots := ⟨Nat.le_trans (Nat.le_add_right _ _) hr.1, Nat.le_trans (Nat.le_add_right _ _) hr.2⟩
  obtain ⟨thr, tpd, siz, too, frm, srt, num, flt, plc, wrd, snm, lin, stp, sfo, hst, tp, nw, rd, kp, sn, lf, us, tf, ho, td, pd, sr, dr, ir, qr, sf, df, jf, qf, oho, otd, opd, osr, odr, oir, oqr, osf, odf, ojf, oqf, ct, tpp, kv, ofn, hP, hD, hB, hH, hT, hf⟩ := hLS
  obtain ⟨r, td', ir', df', jf', qf', ct', tpp', kv', snm', stp', hst', nw', sn', e1, e2, hB9, hH9⟩ := act_pass (thr := thr) (stp := stp) (sfo := sfo) (hst := hst) (p1 := (xs (i + 1).toNatClampNeg)) hB hH
  refine lv_aload_n hx hb dL_law_990 rfl (lv_at hl 2 rfl) ?_
  refine lv_aload_n hx hb dL_law_991 rfl (lv_at hl 1 rfl) ?_
  refine lv_iload hx hb dL_law_992 (lv_at hl 0 rfl) ?_
  refine lv_iconst (v := 1) hx hb dL_law_994 (by decide) ?_
  refine lv_iadd hx hb dL_law_995 ?_
  refine va_sld hx hb hX hbl hbA hS h1 dL_law_996 ?_
  refine mu_vi hcf (kX5_pass e1) (cwL_X5_pass hts) hK hP hD hS hA jL_h (ci := 5) (q0 := 6) rfl rfl rfl hl.1 rfl (Nat.le_of_ble_eq_true rfl) dL_law_997 hr0 (fun H locs hP hD hS => ?_)
  refine lv_aload_n hx hb dL_law_1000 rfl (lv_at hl 3 rfl) ?_
  refine lv_aload_n hx hb dL_law_1001 rfl (lv_at hl 1 rfl) ?_
  refine lv_iload hx hb dL_law_1002 (lv_at hl 0 rfl) ?_
  refine lv_iconst (v := 1) hx hb dL_law_1004 (by decide) ?_
  refine lv_iadd hx hb dL_law_1005 ?_
  refine va_sld hx hb hX hbl hbA hS h1 dL_law_1006 ?_
  refine mu_vi hcf (kX6_pass e2) (cwL_X6_pass hts) hK hP hD hS hA jL_m (ci := 6) (q0 := 0) rfl rfl rfl hl.1 rfl (Nat.le_of_ble_eq_true rfl) dL_law_1007 hr0 (fun H locs hP hD hS => ?_)
  refine lv_icmp_eq (tgt := 1028) hx hb dL_law_1010 (by decide) (fun _ => ?_) (fun c9 => absurd rfl c9)
  refine W.widen (k := cells + 1) (n := slots + 8) (by omega) (by omega) ?_
  exact kk _ _ _ hS ⟨_, _, _, _, _, _, _, _, _, _, _, _, _, _, _, _, _, _, _, _, _, _, _, _, _, _, _, _, _, _, _, _, _, _, _, _, _, _, _, _, _, _, _, _, _, _, _, _, _, hP, hD, hB9, hH9, hT, hf⟩ hl

set_option maxRecDepth 100000 in
set_option maxHeartbeats 4000000 in
theorem law_undo {p : Program} {l : Launch} {e : Env} {s : State} {m : MethodId} {below : List Frame} {meth : Method} {c : Code} {Q : State → Prop} {D : va_G} {cI cB cL cK : ClassId} {sq sv : Nat → Nat} {qa qb bs L : Nat} {xs : Nat → Int32} {md : Nat → Nat} {ha : Nat} {a : Nat} {b : Nat} {ad : Nat → Nat} {pa : Nat → Nat} {hh : Nat} {hq : Nat} {kad : Nat → Nat → Nat} {ou : Nat} {i : Int32} {H : Heap} {locs : List Loc} {ls : Array Slot} {cells slots : Nat} (C : LwC p l s m c D cI cB cL cK sq sv qa qb bs L xs) (h1 : vp_in (i + 1) L) (h2 : vp_in (i + 2) L) (h3 : vp_in (i + 3) L) (h4 : vp_in (i + 4) L) (h5 : vp_in (i + 5) L) (hr : cells + 1 ≤ room_1.cells ∧ slots + 8 ≤ room_1.slots) (hS : va_S (LwN s) s.heap H locs) (hLS : LwS D cI cB cL cK md ha a b ad pa hh hq kad ou (LwN s) H) (hl : lv_has ls 7 [(4, .int i), (0, .ref bs), (1, .ref ha), (2, .ref (md 0)), (3, .ref ou)]) (kk : ∀ (H : Heap) (locs : List Loc) (ls : Array Slot), va_S (LwN s) s.heap H locs → LwS D cI cB cL cK md ha a b ad pa hh hq kad ou (LwN s) H → lv_has ls 7 [(4, .int i), (0, .ref bs), (1, .ref ha), (2, .ref (md 0)), (3, .ref ou)] → W p l e room_1 s m #[Value.ref bs] below meth c H locs (cells + 1) (slots + 8) Q (F0 m 1028 ls [])) : W p l e room_1 s m #[Value.ref bs] below meth c H locs cells slots Q (F0 m 1015 ls []) := by
  obtain ⟨hx, hb, hml, hown, hts, hX, hbl, hK, hZ, hXZ, htr⟩ := id C
  have hA : ∀ q : Nat, s.heap.size ≤ q → LwN s q := fun _ h => h
  have hbA : ¬ LwN s bs := Nat.not_le.mpr hbl
  have hcf : CallFix p m c cL_law 7 s _ wsL_lawN RL := ⟨hx, hb, hml, hown, hts⟩
  have hr0 : cells ≤ room_1.cells ∧ slots ≤ room_1.slots := ⟨Nat.le_trans (Nat.le_add_right _ _) hr.1, Nat.le_trans (Nat.le_add_right _ _) hr.2⟩
  obtain ⟨thr, tpd, siz, too, frm, srt, num, flt, plc, wrd, snm, lin, stp, sfo, hst, tp, nw, rd, kp, sn, lf, us, tf, ho, td, pd, sr, dr, ir, qr, sf, df, jf, qf, oho, otd, opd, osr, odr, oir, oqr, osf, odf, ojf, oqf, ct, tpp, kv, ofn, hP, hD, hB, hH, hT, hf⟩ := hLS
  obtain ⟨r, ho', td', pd', sr', dr', ir', qr', sf', df', jf', qf', ct', tpp', snm', nw', e1, e2, hB9, hH9⟩ := act_undo (thr := thr)  hB hH
  refine lv_aload_n hx hb dL_law_1015 rfl (lv_at hl 2 rfl) ?_
  refine mu_vi hcf (kX5_undo e1) (cwL_X5_undo hts) hK hP hD hS hA jL_h (ci := 5) (q0 := 6) rfl rfl rfl hl.1 rfl (Nat.le_of_ble_eq_true rfl) dL_law_1016 hr0 (fun H locs hP hD hS => ?_)
  refine lv_aload_n hx hb dL_law_1019 rfl (lv_at hl 3 rfl) ?_
  refine mu_vi hcf (kX6_undo e2) (cwL_X6_undo hts) hK hP hD hS hA jL_m (ci := 6) (q0 := 0) rfl rfl rfl hl.1 rfl (Nat.le_of_ble_eq_true rfl) dL_law_1020 hr0 (fun H locs hP hD hS => ?_)
  refine lv_icmp_eq (tgt := 1028) hx hb dL_law_1023 (by decide) (fun _ => ?_) (fun c9 => absurd rfl c9)
  refine W.widen (k := cells + 1) (n := slots + 8) (by omega) (by omega) ?_
  exact kk _ _ _ hS ⟨_, _, _, _, _, _, _, _, _, _, _, _, _, _, _, _, _, _, _, _, _, _, _, _, _, _, _, _, _, _, _, _, _, _, _, _, _, _, _, _, _, _, _, _, _, _, _, _, _, hP, hD, hB9, hH9, hT, hf⟩ hl
