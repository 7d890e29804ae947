set_option maxRecDepth 100000 in
set_option maxHeartbeats 4000000 in
theorem law_bill {p : Program} {l : Launch} {e : Env} {s : State} {m : MethodId} {below : List Frame} {meth : Method} {c : Code} {Q : State → Prop} {D : va_G} {cI cB cL cK : ClassId} {sq sv : Nat → Nat} {qa qb bs L : Nat} {xs : Nat → Int32} {md : Nat → Nat} {ha : Nat} {a : Nat} {b : Nat} {ad : Nat → Nat} {pa : Nat → Nat} {hh : Nat} {hq : Nat} {kad : Nat → Nat → Nat} {ou : Nat} {i : Int32} {H : Heap} {locs : List Loc} {ls : Array Slot} {cells slots : Nat} (C : LwC p l s m c D cI cB cL cK sq sv qa qb bs L xs) (h1 : vp_in (i + 1) L) (h2 : vp_in (i + 2) L) (h3 : vp_in (i + 3) L) (h4 : vp_in (i + 4) L) (h5 : vp_in (i + 5) L) (hr : cells + 1 ≤ room_1.cells ∧ slots + 8 ≤ room_1.slots) (hS : va_S (LwN s) s.heap H locs) (hLS : LwS D cI cB cL cK md ha a b ad pa hh hq kad ou (LwN s) H) (hl : lv_has ls 7 [(4, .int i), (0, .ref bs), (1, .ref ha), (2, .ref (md 0)), (3, .ref ou)]) (kk : ∀ (H : Heap) (locs : List Loc) (ls : Array Slot), va_S (LwN s) s.heap H locs → LwS D cI cB cL cK md ha a b ad pa hh hq kad ou (LwN s) H → lv_has ls 7 [(4, .int i), (0, .ref bs), (1, .ref ha), (2, .ref (md 0)), (3, .ref ou)] → W p l e room_1 s m #[Value.ref bs] below meth c H locs (cells + 1) (slots + 8) Q (F0 m 1028 ls [])) : W p l e room_1 s m #[Value.ref bs] below meth c H locs cells slots Q (F0 m 657 ls []) := by
  obtain ⟨hx, hb, hml, hown, hts, hX, hbl, hK, hZ, hXZ, htr⟩ := id C
  have hA : ∀ q : Nat, s.heap.size ≤ q → LwN s q := fun _ h => h
  have hbA : ¬ LwN s bs := Nat.not_le.mpr hbl
  have hcf : CallFix p m c cL_law 7 s _ wsL_lawN RL := ⟨hx, hb, hml, hown, hts⟩
  have hr0 : cells ≤ room_1.cells ∧ slots ≤ room_1.slots := ⟨Nat.le_trans (Nat.le_add_right _ _) hr.1, Nat.le_trans (Nat.le_add_right _ _) hr.2⟩
  obtain ⟨thr, tpd, siz, too, frm, srt, num, flt, plc, wrd, snm, lin, stp, sfo, hst, tp, nw, rd, kp, sn, lf, us, tf, ho, td, pd, sr, dr, ir, qr, sf, df, jf, qf, oho, otd, opd, osr, odr, oir, oqr, osf, odf, ojf, oqf, ct, tpp, kv, ofn, hP, hD, hB, hH, hT, hf⟩ := hLS
  obtain ⟨r, ir', df', jf', ct', tpp', kv', snm', nw', sn', e1, e2, hB9, hH9⟩ := act_bill (thr := thr) (p1 := (xs (i + 1).toNatClampNeg)) (p2 := (xs (i + 2).toNatClampNeg)) (p3 := (xs (i + 3).toNatClampNeg)) hB hH
  refine lv_aload_n hx hb dL_law_657 rfl (lv_at hl 2 rfl) ?_
  refine lv_aload_n hx hb dL_law_658 rfl (lv_at hl 1 rfl) ?_
  refine lv_iload hx hb dL_law_659 (lv_at hl 0 rfl) ?_
  refine lv_iconst (v := 1) hx hb dL_law_661 (by decide) ?_
  refine lv_iadd hx hb dL_law_662 ?_
  refine va_sld hx hb hX hbl hbA hS h1 dL_law_663 ?_
  refine lv_aload_n hx hb dL_law_664 rfl (lv_at hl 1 rfl) ?_
  refine lv_iload hx hb dL_law_665 (lv_at hl 0 rfl) ?_
  refine lv_iconst (v := 2) hx hb dL_law_667 (by decide) ?_
  refine lv_iadd hx hb dL_law_668 ?_
  refine va_sld hx hb hX hbl hbA hS h2 dL_law_669 ?_
  refine lv_aload_n hx hb dL_law_670 rfl (lv_at hl 1 rfl) ?_
  refine lv_iload hx hb dL_law_671 (lv_at hl 0 rfl) ?_
  refine lv_iconst (v := 3) hx hb dL_law_673 (by decide) ?_
  refine lv_iadd hx hb dL_law_674 ?_
  refine va_sld hx hb hX hbl hbA hS h3 dL_law_675 ?_
  refine mu_vi hcf (kX5_bill e1) (cwL_X5_bill hts) hK hP hD hS hA jL_h (ci := 5) (q0 := 6) rfl rfl rfl hl.1 rfl (Nat.le_of_ble_eq_true rfl) dL_law_676 hr0 (fun H locs hP hD hS => ?_)
  refine lv_aload_n hx hb dL_law_679 rfl (lv_at hl 3 rfl) ?_
  refine lv_aload_n hx hb dL_law_680 rfl (lv_at hl 1 rfl) ?_
  refine lv_iload hx hb dL_law_681 (lv_at hl 0 rfl) ?_
  refine lv_iconst (v := 1) hx hb dL_law_683 (by decide) ?_
  refine lv_iadd hx hb dL_law_684 ?_
  refine va_sld hx hb hX hbl hbA hS h1 dL_law_685 ?_
  refine lv_aload_n hx hb dL_law_686 rfl (lv_at hl 1 rfl) ?_
  refine lv_iload hx hb dL_law_687 (lv_at hl 0 rfl) ?_
  refine lv_iconst (v := 2) hx hb dL_law_689 (by decide) ?_
  refine lv_iadd hx hb dL_law_690 ?_
  refine va_sld hx hb hX hbl hbA hS h2 dL_law_691 ?_
  refine lv_aload_n hx hb dL_law_692 rfl (lv_at hl 1 rfl) ?_
  refine lv_iload hx hb dL_law_693 (lv_at hl 0 rfl) ?_
  refine lv_iconst (v := 3) hx hb dL_law_695 (by decide) ?_
  refine lv_iadd hx hb dL_law_696 ?_
  refine va_sld hx hb hX hbl hbA hS h3 dL_law_697 ?_
  refine mu_vi hcf (kX6_bill e2) (cwL_X6_bill hts) hK hP hD hS hA jL_m (ci := 6) (q0 := 0) rfl rfl rfl hl.1 rfl (Nat.le_of_ble_eq_true rfl) dL_law_698 hr0 (fun H locs hP hD hS => ?_)
  refine lv_icmp_eq (tgt := 1028) hx hb dL_law_701 (by decide) (fun _ => ?_) (fun c9 => absurd rfl c9)
  refine W.widen (k := cells + 1) (n := slots + 8) (by omega) (by omega) ?_
  exact kk _ _ _ hS ⟨_, _, _, _, _, _, _, _, _, _, _, _, _, _, _, _, _, _, _, _, _, _, _, _, _, _, _, _, _, _, _, _, _, _, _, _, _, _, _, _, _, _, _, _, _, _, _, _, _, hP, hD, hB9, hH9, hT, hf⟩ hl

set_option maxRecDepth 100000 in
set_option maxHeartbeats 4000000 in
theorem law_pay {p : Program} {l : Launch} {e : Env} {s : State} {m : MethodId} {below : List Frame} {meth : Method} {c : Code} {Q : State → Prop} {D : va_G} {cI cB cL cK : ClassId} {sq sv : Nat → Nat} {qa qb bs L : Nat} {xs : Nat → Int32} {md : Nat → Nat} {ha : Nat} {a : Nat} {b : Nat} {ad : Nat → Nat} {pa : Nat → Nat} {hh : Nat} {hq : Nat} {kad : Nat → Nat → Nat} {ou : Nat} {i : Int32} {H : Heap} {locs : List Loc} {ls : Array Slot} {cells slots : Nat} (C : LwC p l s m c D cI cB cL cK sq sv qa qb bs L xs) (h1 : vp_in (i + 1) L) (h2 : vp_in (i + 2) L) (h3 : vp_in (i + 3) L) (h4 : vp_in (i + 4) L) (h5 : vp_in (i + 5) L) (hr : cells + 1 ≤ room_1.cells ∧ slots + 8 ≤ room_1.slots) (hS : va_S (LwN s) s.heap H locs) (hLS : LwS D cI cB cL cK md ha a b ad pa hh hq kad ou (LwN s) H) (hl : lv_has ls 7 [(4, .int i), (0, .ref bs), (1, .ref ha), (2, .ref (md 0)), (3, .ref ou)]) (kk : ∀ (H : Heap) (locs : List Loc) (ls : Array Slot), va_S (LwN s) s.heap H locs → LwS D cI cB cL cK md ha a b ad pa hh hq kad ou (LwN s) H → lv_has ls 7 [(4, .int i), (0, .ref bs), (1, .ref ha), (2, .ref (md 0)), (3, .ref ou)] → W p l e room_1 s m #[Value.ref bs] below meth c H locs (cells + 1) (slots + 8) Q (F0 m 1028 ls [])) : W p l e room_1 s m #[Value.ref bs] below meth c H locs cells slots Q (F0 m 706 ls []) := by
  obtain ⟨hx, hb, hml, hown, hts, hX, hbl, hK, hZ, hXZ, htr⟩ := id C
  have hA : ∀ q : Nat, s.heap.size ≤ q → LwN s q := fun _ h => h
  have hbA : ¬ LwN s bs := Nat.not_le.mpr hbl
  have hcf : CallFix p m c cL_law 7 s _ wsL_lawN RL := ⟨hx, hb, hml, hown, hts⟩
  have hr0 : cells ≤ room_1.cells ∧ slots ≤ room_1.slots := ⟨Nat.le_trans (Nat.le_add_right _ _) hr.1, Nat.le_trans (Nat.le_add_right _ _) hr.2⟩
  obtain ⟨thr, tpd, siz, too, frm, srt, num, flt, plc, wrd, snm, lin, stp, sfo, hst, tp, nw, rd, kp, sn, lf, us, tf, ho, td, pd, sr, dr, ir, qr, sf, df, jf, qf, oho, otd, opd, osr, odr, oir, oqr, osf, odf, ojf, oqf, ct, tpp, kv, ofn, hP, hD, hB, hH, hT, hf⟩ := hLS
  obtain ⟨r, pd', df', jf', qf', ct', tpp', kv', snm', nw', sn', e1, e2, hB9, hH9⟩ := act_pay (thr := thr) (p1 := (xs (i + 1).toNatClampNeg)) (p2 := (xs (i + 2).toNatClampNeg)) hB hH
  refine lv_aload_n hx hb dL_law_706 rfl (lv_at hl 2 rfl) ?_
  refine lv_aload_n hx hb dL_law_707 rfl (lv_at hl 1 rfl) ?_
  refine lv_iload hx hb dL_law_708 (lv_at hl 0 rfl) ?_
  refine lv_iconst (v := 1) hx hb dL_law_710 (by decide) ?_
  refine lv_iadd hx hb dL_law_711 ?_
  refine va_sld hx hb hX hbl hbA hS h1 dL_law_712 ?_
  refine lv_aload_n hx hb dL_law_713 rfl (lv_at hl 1 rfl) ?_
  refine lv_iload hx hb dL_law_714 (lv_at hl 0 rfl) ?_
  refine lv_iconst (v := 2) hx hb dL_law_716 (by decide) ?_
  refine lv_iadd hx hb dL_law_717 ?_
  refine va_sld hx hb hX hbl hbA hS h2 dL_law_718 ?_
  refine mu_vi hcf (kX5_pay e1) (cwL_X5_pay hts) hK hP hD hS hA jL_h (ci := 5) (q0 := 6) rfl rfl rfl hl.1 rfl (Nat.le_of_ble_eq_true rfl) dL_law_719 hr0 (fun H locs hP hD hS => ?_)
  refine lv_aload_n hx hb dL_law_722 rfl (lv_at hl 3 rfl) ?_
  refine lv_aload_n hx hb dL_law_723 rfl (lv_at hl 1 rfl) ?_
  refine lv_iload hx hb dL_law_724 (lv_at hl 0 rfl) ?_
  refine lv_iconst (v := 1) hx hb dL_law_726 (by decide) ?_
  refine lv_iadd hx hb dL_law_727 ?_
  refine va_sld hx hb hX hbl hbA hS h1 dL_law_728 ?_
  refine lv_aload_n hx hb dL_law_729 rfl (lv_at hl 1 rfl) ?_
  refine lv_iload hx hb dL_law_730 (lv_at hl 0 rfl) ?_
  refine lv_iconst (v := 2) hx hb dL_law_732 (by decide) ?_
  refine lv_iadd hx hb dL_law_733 ?_
  refine va_sld hx hb hX hbl hbA hS h2 dL_law_734 ?_
  refine mu_vi hcf (kX6_pay e2) (cwL_X6_pay hts) hK hP hD hS hA jL_m (ci := 6) (q0 := 0) rfl rfl rfl hl.1 rfl (Nat.le_of_ble_eq_true rfl) dL_law_735 hr0 (fun H locs hP hD hS => ?_)
  refine lv_icmp_eq (tgt := 1028) hx hb dL_law_738 (by decide) (fun _ => ?_) (fun c9 => absurd rfl c9)
  refine W.widen (k := cells + 1) (n := slots + 8) (by omega) (by omega) ?_
  exact kk _ _ _ hS ⟨_, _, _, _, _, _, _, _, _, _, _, _, _, _, _, _, _, _, _, _, _, _, _, _, _, _, _, _, _, _, _, _, _, _, _, _, _, _, _, _, _, _, _, _, _, _, _, _, _, hP, hD, hB9, hH9, hT, hf⟩ hl

set_option maxRecDepth 100000 in
set_option maxHeartbeats 4000000 in
theorem law_dispute {p : Program} {l : Launch} {e : Env} {s : State} {m : MethodId} {below : List Frame} {meth : Method} {c : Code} {Q : State → Prop} {D : va_G} {cI cB cL cK : ClassId} {sq sv : Nat → Nat} {qa qb bs L : Nat} {xs : Nat → Int32} {md : Nat → Nat} {ha : Nat} {a : Nat} {b : Nat} {ad : Nat → Nat} {pa : Nat → Nat} {hh : Nat} {hq : Nat} {kad : Nat → Nat → Nat} {ou : Nat} {i : Int32} {H : Heap} {locs : List Loc} {ls : Array Slot} {cells slots : Nat} (C : LwC p l s m c D cI cB cL cK sq sv qa qb bs L xs) (h1 : vp_in (i + 1) L) (h2 : vp_in (i + 2) L) (h3 : vp_in (i + 3) L) (h4 : vp_in (i + 4) L) (h5 : vp_in (i + 5) L) (hr : cells + 1 ≤ room_1.cells ∧ slots + 8 ≤ room_1.slots) (hS : va_S (LwN s) s.heap H locs) (hLS : LwS D cI cB cL cK md ha a b ad pa hh hq kad ou (LwN s) H) (hl : lv_has ls 7 [(4, .int i), (0, .ref bs), (1, .ref ha), (2, .ref (md 0)), (3, .ref ou)]) (kk : ∀ (H : Heap) (locs : List Loc) (ls : Array Slot), va_S (LwN s) s.heap H locs → LwS D cI cB cL cK md ha a b ad pa hh hq kad ou (LwN s) H → lv_has ls 7 [(4, .int i), (0, .ref bs), (1, .ref ha), (2, .ref (md 0)), (3, .ref ou)] → W p l e room_1 s m #[Value.ref bs] below meth c H locs (cells + 1) (slots + 8) Q (F0 m 1028 ls [])) : W p l e room_1 s m #[Value.ref bs] below meth c H locs cells slots Q (F0 m 743 ls []) := by
  obtain ⟨hx, hb, hml, hown, hts, hX, hbl, hK, hZ, hXZ, htr⟩ := id C
  have hA : ∀ q : Nat, s.heap.size ≤ q → LwN s q := fun _ h => h
  have hbA : ¬ LwN s bs := Nat.not_le.mpr hbl
  have hcf : CallFix p m c cL_law 7 s _ wsL_lawN RL := ⟨hx, hb, hml, hown, hts⟩
  have hr0 : cells ≤ room_1.cells ∧ slots ≤ room_1.slots := ⟨Nat.le_trans (Nat.le_add_right _ _) hr.1, Nat.le_trans (Nat.le_add_right _ _) hr.2⟩
  obtain ⟨thr, tpd, siz, too, frm, srt, num, flt, plc, wrd, snm, lin, stp, sfo, hst, tp, nw, rd, kp, sn, lf, us, tf, ho, td, pd, sr, dr, ir, qr, sf, df, jf, qf, oho, otd, opd, osr, odr, oir, oqr, osf, odf, ojf, oqf, ct, tpp, kv, ofn, hP, hD, hB, hH, hT, hf⟩ := hLS
  obtain ⟨r, jf', ct', tpp', kv', snm', nw', sn', e1, e2, hB9, hH9⟩ := act_dispute (thr := thr) (p1 := (xs (i + 1).toNatClampNeg)) hB hH
  refine lv_aload_n hx hb dL_law_743 rfl (lv_at hl 2 rfl) ?_
  refine lv_aload_n hx hb dL_law_744 rfl (lv_at hl 1 rfl) ?_
  refine lv_iload hx hb dL_law_745 (lv_at hl 0 rfl) ?_
  refine lv_iconst (v := 1) hx hb dL_law_747 (by decide) ?_
  refine lv_iadd hx hb dL_law_748 ?_
  refine va_sld hx hb hX hbl hbA hS h1 dL_law_749 ?_
  refine mu_vi hcf (kX5_dispute e1) (cwL_X5_dispute hts) hK hP hD hS hA jL_h (ci := 5) (q0 := 6) rfl rfl rfl hl.1 rfl (Nat.le_of_ble_eq_true rfl) dL_law_750 hr0 (fun H locs hP hD hS => ?_)
  refine lv_aload_n hx hb dL_law_753 rfl (lv_at hl 3 rfl) ?_
  refine lv_aload_n hx hb dL_law_754 rfl (lv_at hl 1 rfl) ?_
  refine lv_iload hx hb dL_law_755 (lv_at hl 0 rfl) ?_
  refine lv_iconst (v := 1) hx hb dL_law_757 (by decide) ?_
  refine lv_iadd hx hb dL_law_758 ?_
  refine va_sld hx hb hX hbl hbA hS h1 dL_law_759 ?_
  refine mu_vi hcf (kX6_dispute e2) (cwL_X6_dispute hts) hK hP hD hS hA jL_m (ci := 6) (q0 := 0) rfl rfl rfl hl.1 rfl (Nat.le_of_ble_eq_true rfl) dL_law_760 hr0 (fun H locs hP hD hS => ?_)
  refine lv_icmp_eq (tgt := 1028) hx hb dL_law_763 (by decide) (fun _ => ?_) (fun c9 => absurd rfl c9)
  refine W.widen (k := cells + 1) (n := slots + 8) (by omega) (by omega) ?_
  exact kk _ _ _ hS ⟨_, _, _, _, _, _, _, _, _, _, _, _, _, _, _, _, _, _, _, _, _, _, _, _, _, _, _, _, _, _, _, _, _, _, _, _, _, _, _, _, _, _, _, _, _, _, _, _, _, hP, hD, hB9, hH9, hT, hf⟩ hl

set_option maxRecDepth 100000 in
set_option maxHeartbeats 4000000 in
theorem law_settle {p : Program} {l : Launch} {e : Env} {s : State} {m : MethodId} {below : List Frame} {meth : Method} {c : Code} {Q : State → Prop} {D : va_G} {cI cB cL cK : ClassId} {sq sv : Nat → Nat} {qa qb bs L : Nat} {xs : Nat → Int32} {md : Nat → Nat} {ha : Nat} {a : Nat} {b : Nat} {ad : Nat → Nat} {pa : Nat → Nat} {hh : Nat} {hq : Nat} {kad : Nat → Nat → Nat} {ou : Nat} {i : Int32} {H : Heap} {locs : List Loc} {ls : Array Slot} {cells slots : Nat} (C : LwC p l s m c D cI cB cL cK sq sv qa qb bs L xs) (h1 : vp_in (i + 1) L) (h2 : vp_in (i + 2) L) (h3 : vp_in (i + 3) L) (h4 : vp_in (i + 4) L) (h5 : vp_in (i + 5) L) (hr : cells + 1 ≤ room_1.cells ∧ slots + 8 ≤ room_1.slots) (hS : va_S (LwN s) s.heap H locs) (hLS : LwS D cI cB cL cK md ha a b ad pa hh hq kad ou (LwN s) H) (hl : lv_has ls 7 [(4, .int i), (0, .ref bs), (1, .ref ha), (2, .ref (md 0)), (3, .ref ou)]) (kk : ∀ (H : Heap) (locs : List Loc) (ls : Array Slot), va_S (LwN s) s.heap H locs → LwS D cI cB cL cK md ha a b ad pa hh hq kad ou (LwN s) H → lv_has ls 7 [(4, .int i), (0, .ref bs), (1, .ref ha), (2, .ref (md 0)), (3, .ref ou)] → W p l e room_1 s m #[Value.ref bs] below meth c H locs (cells + 1) (slots + 8) Q (F0 m 1028 ls [])) : W p l e room_1 s m #[Value.ref bs] below meth c H locs cells slots Q (F0 m 768 ls []) := by
  obtain ⟨hx, hb, hml, hown, hts, hX, hbl, hK, hZ, hXZ, htr⟩ := id C
  have hA : ∀ q : Nat, s.heap.size ≤ q → LwN s q := fun _ h => h
  have hbA : ¬ LwN s bs := Nat.not_le.mpr hbl
  have hcf : CallFix p m c cL_law 7 s _ wsL_lawN RL := ⟨hx, hb, hml, hown, hts⟩
  have hr0 : cells ≤ room_1.cells ∧ slots ≤ room_1.slots := ⟨Nat.le_trans (Nat.le_add_right _ _) hr.1, Nat.le_trans (Nat.le_add_right _ _) hr.2⟩
  obtain ⟨thr, tpd, siz, too, frm, srt, num, flt, plc, wrd, snm, lin, stp, sfo, hst, tp, nw, rd, kp, sn, lf, us, tf, ho, td, pd, sr, dr, ir, qr, sf, df, jf, qf, oho, otd, opd, osr, odr, oir, oqr, osf, odf, ojf, oqf, ct, tpp, kv, ofn, hP, hD, hB, hH, hT, hf⟩ := hLS
  obtain ⟨r, df', jf', qf', ct', tpp', kv', snm', nw', sn', e1, e2, hB9, hH9⟩ := act_settle (thr := thr) (p1 := (xs (i + 1).toNatClampNeg)) (p2 := (xs (i + 2).toNatClampNeg)) hB hH
  refine lv_aload_n hx hb dL_law_768 rfl (lv_at hl 2 rfl) ?_
  refine lv_aload_n hx hb dL_law_769 rfl (lv_at hl 1 rfl) ?_
  refine lv_iload hx hb dL_law_770 (lv_at hl 0 rfl) ?_
  refine lv_iconst (v := 1) hx hb dL_law_772 (by decide) ?_
  refine lv_iadd hx hb dL_law_773 ?_
  refine va_sld hx hb hX hbl hbA hS h1 dL_law_774 ?_
  refine lv_aload_n hx hb dL_law_775 rfl (lv_at hl 1 rfl) ?_
  refine lv_iload hx hb dL_law_776 (lv_at hl 0 rfl) ?_
  refine lv_iconst (v := 2) hx hb dL_law_778 (by decide) ?_
  refine lv_iadd hx hb dL_law_779 ?_
  refine va_sld hx hb hX hbl hbA hS h2 dL_law_780 ?_
  refine mu_vi hcf (kX5_settle e1) (cwL_X5_settle hts) hK hP hD hS hA jL_h (ci := 5) (q0 := 6) rfl rfl rfl hl.1 rfl (Nat.le_of_ble_eq_true rfl) dL_law_781 hr0 (fun H locs hP hD hS => ?_)
  refine lv_aload_n hx hb dL_law_784 rfl (lv_at hl 3 rfl) ?_
  refine lv_aload_n hx hb dL_law_785 rfl (lv_at hl 1 rfl) ?_
  refine lv_iload hx hb dL_law_786 (lv_at hl 0 rfl) ?_
  refine lv_iconst (v := 1) hx hb dL_law_788 (by decide) ?_
  refine lv_iadd hx hb dL_law_789 ?_
  refine va_sld hx hb hX hbl hbA hS h1 dL_law_790 ?_
  refine lv_aload_n hx hb dL_law_791 rfl (lv_at hl 1 rfl) ?_
  refine lv_iload hx hb dL_law_792 (lv_at hl 0 rfl) ?_
  refine lv_iconst (v := 2) hx hb dL_law_794 (by decide) ?_
  refine lv_iadd hx hb dL_law_795 ?_
  refine va_sld hx hb hX hbl hbA hS h2 dL_law_796 ?_
  refine mu_vi hcf (kX6_settle e2) (cwL_X6_settle hts) hK hP hD hS hA jL_m (ci := 6) (q0 := 0) rfl rfl rfl hl.1 rfl (Nat.le_of_ble_eq_true rfl) dL_law_797 hr0 (fun H locs hP hD hS => ?_)
  refine lv_icmp_eq (tgt := 1028) hx hb dL_law_800 (by decide) (fun _ => ?_) (fun c9 => absurd rfl c9)
  refine W.widen (k := cells + 1) (n := slots + 8) (by omega) (by omega) ?_
  exact kk _ _ _ hS ⟨_, _, _, _, _, _, _, _, _, _, _, _, _, _, _, _, _, _, _, _, _, _, _, _, _, _, _, _, _, _, _, _, _, _, _, _, _, _, _, _, _, _, _, _, _, _, _, _, _, hP, hD, hB9, hH9, hT, hf⟩ hl

set_option maxRecDepth 100000 in
set_option maxHeartbeats 4000000 in
theorem law_promise {p : Program} {l : Launch} {e : Env} {s : State} {m : MethodId} {below : List Frame} {meth : Method} {c : Code} {Q : State → Prop} {D : va_G} {cI cB cL cK : ClassId} {sq sv : Nat → Nat} {qa qb bs L : Nat} {xs : Nat → Int32} {md : Nat → Nat} {ha : Nat} {a : Nat} {b : Nat} {ad : Nat → Nat} {pa : Nat → Nat} {hh : Nat} {hq : Nat} {kad : Nat → Nat → Nat} {ou : Nat} {i : Int32} {H : Heap} {locs : List Loc} {ls : Array Slot} {cells slots : Nat} (C : LwC p l s m c D cI cB cL cK sq sv qa qb bs L xs) (h1 : vp_in (i + 1) L) (h2 : vp_in (i + 2) L) (h3 : vp_in (i + 3) L) (h4 : vp_in (i + 4) L) (h5 : vp_in (i + 5) L) (hr : cells + 1 ≤ room_1.cells ∧ slots + 8 ≤ room_1.slots) (hS : va_S (LwN s) s.heap H locs) (hLS : LwS D cI cB cL cK md ha a b ad pa hh hq kad ou (LwN s) H) (hl : lv_has ls 7 [(4, .int i), (0, .ref bs), (1, .ref ha), (2, .ref (md 0)), (3, .ref ou)]) (kk : ∀ (H : Heap) (locs : List Loc) (ls : Array Slot), va_S (LwN s) s.heap H locs → LwS D cI cB cL cK md ha a b ad pa hh hq kad ou (LwN s) H → lv_has ls 7 [(4, .int i), (0, .ref bs), (1, .ref ha), (2, .ref (md 0)), (3, .ref ou)] → W p l e room_1 s m #[Value.ref bs] below meth c H locs (cells + 1) (slots + 8) Q (F0 m 1028 ls [])) : W p l e room_1 s m #[Value.ref bs] below meth c H locs cells slots Q (F0 m 805 ls []) := by
  obtain ⟨hx, hb, hml, hown, hts, hX, hbl, hK, hZ, hXZ, htr⟩ := id C
  have hA : ∀ q : Nat, s.heap.size ≤ q → LwN s q := fun _ h => h
  have hbA : ¬ LwN s bs := Nat.not_le.mpr hbl
  have hcf : CallFix p m c cL_law 7 s _ wsL_lawN RL := ⟨hx, hb, hml, hown, hts⟩
  have hr0 : cells ≤ room_1.cells ∧ slots ≤ room_1.slots := ⟨Nat.le_trans (Nat.le_add_right _ _) hr.1, Nat.le_trans (Nat.le_add_right _ _) hr.2⟩
  obtain ⟨thr, tpd, siz, too, frm, srt, num, flt, plc, wrd, snm, lin, stp, sfo, hst, tp, nw, rd, kp, sn, lf, us, tf, ho, td, pd, sr, dr, ir, qr, sf, df, jf, qf, oho, otd, opd, osr, odr, oir, oqr, osf, odf, ojf, oqf, ct, tpp, kv, ofn, hP, hD, hB, hH, hT, hf⟩ := hLS
  obtain ⟨r, df', ct', tpp', kv', snm', nw', sn', e1, e2, hB9, hH9⟩ := act_promise (thr := thr) (p1 := (xs (i + 1).toNatClampNeg)) (p2 := (xs (i + 2).toNatClampNeg)) (p3 := (xs (i + 3).toNatClampNeg)) hB hH
  refine lv_aload_n hx hb dL_law_805 rfl (lv_at hl 2 rfl) ?_
  refine lv_aload_n hx hb dL_law_806 rfl (lv_at hl 1 rfl) ?_
  refine lv_iload hx hb dL_law_807 (lv_at hl 0 rfl) ?_
  refine lv_iconst (v := 1) hx hb dL_law_809 (by decide) ?_
  refine lv_iadd hx hb dL_law_810 ?_
  refine va_sld hx hb hX hbl hbA hS h1 dL_law_811 ?_
  refine lv_aload_n hx hb dL_law_812 rfl (lv_at hl 1 rfl) ?_
  refine lv_iload hx hb dL_law_813 (lv_at hl 0 rfl) ?_
  refine lv_iconst (v := 2) hx hb dL_law_815 (by decide) ?_
  refine lv_iadd hx hb dL_law_816 ?_
  refine va_sld hx hb hX hbl hbA hS h2 dL_law_817 ?_
  refine lv_aload_n hx hb dL_law_818 rfl (lv_at hl 1 rfl) ?_
  refine lv_iload hx hb dL_law_819 (lv_at hl 0 rfl) ?_
  refine lv_iconst (v := 3) hx hb dL_law_821 (by decide) ?_
  refine lv_iadd hx hb dL_law_822 ?_
  refine va_sld hx hb hX hbl hbA hS h3 dL_law_823 ?_
  refine mu_vi hcf (kX5_promise e1) (cwL_X5_promise hts) hK hP hD hS hA jL_h (ci := 5) (q0 := 6) rfl rfl rfl hl.1 rfl (Nat.le_of_ble_eq_true rfl) dL_law_824 hr0 (fun H locs hP hD hS => ?_)
  refine lv_aload_n hx hb dL_law_827 rfl (lv_at hl 3 rfl) ?_
  refine lv_aload_n hx hb dL_law_828 rfl (lv_at hl 1 rfl) ?_
  refine lv_iload hx hb dL_law_829 (lv_at hl 0 rfl) ?_
  refine lv_iconst (v := 1) hx hb dL_law_831 (by decide) ?_
  refine lv_iadd hx hb dL_law_832 ?_
  refine va_sld hx hb hX hbl hbA hS h1 dL_law_833 ?_
  refine lv_aload_n hx hb dL_law_834 rfl (lv_at hl 1 rfl) ?_
  refine lv_iload hx hb dL_law_835 (lv_at hl 0 rfl) ?_
  refine lv_iconst (v := 2) hx hb dL_law_837 (by decide) ?_
  refine lv_iadd hx hb dL_law_838 ?_
  refine va_sld hx hb hX hbl hbA hS h2 dL_law_839 ?_
  refine lv_aload_n hx hb dL_law_840 rfl (lv_at hl 1 rfl) ?_
  refine lv_iload hx hb dL_law_841 (lv_at hl 0 rfl) ?_
  refine lv_iconst (v := 3) hx hb dL_law_843 (by decide) ?_
  refine lv_iadd hx hb dL_law_844 ?_
  refine va_sld hx hb hX hbl hbA hS h3 dL_law_845 ?_
  refine mu_vi hcf (kX6_promise e2) (cwL_X6_promise hts) hK hP hD hS hA jL_m (ci := 6) (q0 := 0) rfl rfl rfl hl.1 rfl (Nat.le_of_ble_eq_true rfl) dL_law_846 hr0 (fun H locs hP hD hS => ?_)
  refine lv_icmp_eq (tgt := 1028) hx hb dL_law_849 (by decide) (fun _ => ?_) (fun c9 => absurd rfl c9)
  refine W.widen (k := cells + 1) (n := slots + 8) (by omega) (by omega) ?_
  exact kk _ _ _ hS ⟨_, _, _, _, _, _, _, _, _, _, _, _, _, _, _, _, _, _, _, _, _, _, _, _, _, _, _, _, _, _, _, _, _, _, _, _, _, _, _, _, _, _, _, _, _, _, _, _, _, hP, hD, hB9, hH9, hT, hf⟩ hl

set_option maxRecDepth 100000 in
set_option maxHeartbeats 4000000 in
theorem law_plan {p : Program} {l : Launch} {e : Env} {s : State} {m : MethodId} {below : List Frame} {meth : Method} {c : Code} {Q : State → Prop} {D : va_G} {cI cB cL cK : ClassId} {sq sv : Nat → Nat} {qa qb bs L : Nat} {xs : Nat → Int32} {md : Nat → Nat} {ha : Nat} {a : Nat} {b : Nat} {ad : Nat → Nat} {pa : Nat → Nat} {hh : Nat} {hq : Nat} {kad : Nat → Nat → Nat} {ou : Nat} {i : Int32} {H : Heap} {locs : List Loc} {ls : Array Slot} {cells slots : Nat} (C : LwC p l s m c D cI cB cL cK sq sv qa qb bs L xs) (h1 : vp_in (i + 1) L) (h2 : vp_in (i + 2) L) (h3 : vp_in (i + 3) L) (h4 : vp_in (i + 4) L) (h5 : vp_in (i + 5) L) (hr : cells + 1 ≤ room_1.cells ∧ slots + 8 ≤ room_1.slots) (hS : va_S (LwN s) s.heap H locs) (hLS : LwS D cI cB cL cK md ha a b ad pa hh hq kad ou (LwN s) H) (hl : lv_has ls 7 [(4, .int i), (0, .ref bs), (1, .ref ha), (2, .ref (md 0)), (3, .ref ou)]) (kk : ∀ (H : Heap) (locs : List Loc) (ls : Array Slot), va_S (LwN s) s.heap H locs → LwS D cI cB cL cK md ha a b ad pa hh hq kad ou (LwN s) H → lv_has ls 7 [(4, .int i), (0, .ref bs), (1, .ref ha), (2, .ref (md 0)), (3, .ref ou)] → W p l e room_1 s m #[Value.ref bs] below meth c H locs (cells + 1) (slots + 8) Q (F0 m 1028 ls [])) : W p l e room_1 s m #[Value.ref bs] below meth c H locs cells slots Q (F0 m 854 ls []) := by
  obtain ⟨hx, hb, hml, hown, hts, hX, hbl, hK, hZ, hXZ, htr⟩ := id C
  have hA : ∀ q : Nat, s.heap.size ≤ q → LwN s q := fun _ h => h
  have hbA : ¬ LwN s bs := Nat.not_le.mpr hbl
  have hcf : CallFix p m c cL_law 7 s _ wsL_lawN RL := ⟨hx, hb, hml, hown, hts⟩
  have hr0 : cells ≤ room_1.cells ∧ slots ≤ room_1.slots := ⟨Nat.le_trans (Nat.le_add_right _ _) hr.1, Nat.le_trans (Nat.le_add_right _ _) hr.2⟩
  obtain ⟨thr, tpd, siz, too, frm, srt, num, flt, plc, wrd, snm, lin, stp, sfo, hst, tp, nw, rd, kp, sn, lf, us, tf, ho, td, pd, sr, dr, ir, qr, sf, df, jf, qf, oho, otd, opd, osr, odr, oir, oqr, osf, odf, ojf, oqf, ct, tpp, kv, ofn, hP, hD, hB, hH, hT, hf⟩ := hLS
  obtain ⟨r, df', ct', tpp', kv', snm', nw', sn', e1, e2, hB9, hH9⟩ := act_plan (thr := thr) (p1 := (xs (i + 1).toNatClampNeg)) (p2 := (xs (i + 2).toNatClampNeg)) (p3 := (xs (i + 3).toNatClampNeg)) hB hH
  refine lv_aload_n hx hb dL_law_854 rfl (lv_at hl 2 rfl) ?_
  refine lv_aload_n hx hb dL_law_855 rfl (lv_at hl 1 rfl) ?_
  refine lv_iload hx hb dL_law_856 (lv_at hl 0 rfl) ?_
  refine lv_iconst (v := 1) hx hb dL_law_858 (by decide) ?_
  refine lv_iadd hx hb dL_law_859 ?_
  refine va_sld hx hb hX hbl hbA hS h1 dL_law_860 ?_
  refine lv_aload_n hx hb dL_law_861 rfl (lv_at hl 1 rfl) ?_
  refine lv_iload hx hb dL_law_862 (lv_at hl 0 rfl) ?_
  refine lv_iconst (v := 2) hx hb dL_law_864 (by decide) ?_
  refine lv_iadd hx hb dL_law_865 ?_
  refine va_sld hx hb hX hbl hbA hS h2 dL_law_866 ?_
  refine lv_aload_n hx hb dL_law_867 rfl (lv_at hl 1 rfl) ?_
  refine lv_iload hx hb dL_law_868 (lv_at hl 0 rfl) ?_
  refine lv_iconst (v := 3) hx hb dL_law_870 (by decide) ?_
  refine lv_iadd hx hb dL_law_871 ?_
  refine va_sld hx hb hX hbl hbA hS h3 dL_law_872 ?_
  refine mu_vi hcf (kX5_plan e1) (cwL_X5_plan hts) hK hP hD hS hA jL_h (ci := 5) (q0 := 6) rfl rfl rfl hl.1 rfl (Nat.le_of_ble_eq_true rfl) dL_law_873 hr0 (fun H locs hP hD hS => ?_)
  refine lv_aload_n hx hb dL_law_876 rfl (lv_at hl 3 rfl) ?_
  refine lv_aload_n hx hb dL_law_877 rfl (lv_at hl 1 rfl) ?_
  refine lv_iload hx hb dL_law_878 (lv_at hl 0 rfl) ?_
  refine lv_iconst (v := 1) hx hb dL_law_880 (by decide) ?_
  refine lv_iadd hx hb dL_law_881 ?_
  refine va_sld hx hb hX hbl hbA hS h1 dL_law_882 ?_
  refine lv_aload_n hx hb dL_law_883 rfl (lv_at hl 1 rfl) ?_
  refine lv_iload hx hb dL_law_884 (lv_at hl 0 rfl) ?_
  refine lv_iconst (v := 2) hx hb dL_law_886 (by decide) ?_
  refine lv_iadd hx hb dL_law_887 ?_
  refine va_sld hx hb hX hbl hbA hS h2 dL_law_888 ?_
  refine lv_aload_n hx hb dL_law_889 rfl (lv_at hl 1 rfl) ?_
  refine lv_iload hx hb dL_law_890 (lv_at hl 0 rfl) ?_
  refine lv_iconst (v := 3) hx hb dL_law_892 (by decide) ?_
  refine lv_iadd hx hb dL_law_893 ?_
  refine va_sld hx hb hX hbl hbA hS h3 dL_law_894 ?_
  refine mu_vi hcf (kX6_plan e2) (cwL_X6_plan hts) hK hP hD hS hA jL_m (ci := 6) (q0 := 0) rfl rfl rfl hl.1 rfl (Nat.le_of_ble_eq_true rfl) dL_law_895 hr0 (fun H locs hP hD hS => ?_)
  refine lv_icmp_eq (tgt := 1028) hx hb dL_law_898 (by decide) (fun _ => ?_) (fun c9 => absurd rfl c9)
  refine W.widen (k := cells + 1) (n := slots + 8) (by omega) (by omega) ?_
  exact kk _ _ _ hS ⟨_, _, _, _, _, _, _, _, _, _, _, _, _, _, _, _, _, _, _, _, _, _, _, _, _, _, _, _, _, _, _, _, _, _, _, _, _, _, _, _, _, _, _, _, _, _, _, _, _, hP, hD, hB9, hH9, hT, hf⟩ hl

set_option maxRecDepth 100000 in
set_option maxHeartbeats 4000000 in
theorem law_asks {p : Program} {l : Launch} {e : Env} {s : State} {m : MethodId} {below : List Frame} {meth : Method} {c : Code} {Q : State → Prop} {D : va_G} {cI cB cL cK : ClassId} {sq sv : Nat → Nat} {qa qb bs L : Nat} {xs : Nat → Int32} {md : Nat → Nat} {ha : Nat} {a : Nat} {b : Nat} {ad : Nat → Nat} {pa : Nat → Nat} {hh : Nat} {hq : Nat} {kad : Nat → Nat → Nat} {ou : Nat} {i : Int32} {H : Heap} {locs : List Loc} {ls : Array Slot} {cells slots : Nat} (C : LwC p l s m c D cI cB cL cK sq sv qa qb bs L xs) (h1 : vp_in (i + 1) L) (h2 : vp_in (i + 2) L) (h3 : vp_in (i + 3) L) (h4 : vp_in (i + 4) L) (h5 : vp_in (i + 5) L) (hr : cells + 1 ≤ room_1.cells ∧ slots + 8 ≤ room_1.slots) (hS : va_S (LwN s) s.heap H locs) (hLS : LwS D cI cB cL cK md ha a b ad pa hh hq kad ou (LwN s) H) (hl : lv_has ls 7 [(4, .int i), (0, .ref bs), (1, .ref ha), (2, .ref (md 0)), (3, .ref ou)]) (kk : ∀ (H : Heap) (locs : List Loc) (ls : Array Slot), va_S (LwN s) s.heap H locs → LwS D cI cB cL cK md ha a b ad pa hh hq kad ou (LwN s) H → lv_has ls 7 [(4, .int i), (0, .ref bs), (1, .ref ha), (2, .ref (md 0)), (3, .ref ou)] → W p l e room_1 s m #[Value.ref bs] below meth c H locs (cells + 1) (slots + 8) Q (F0 m 1028 ls [])) : W p l e room_1 s m #[Value.ref bs] below meth c H locs cells slots Q (F0 m 903 ls []) := by
  obtain ⟨hx, hb, hml, hown, hts, hX, hbl, hK, hZ, hXZ, htr⟩ := id C
  have hA : ∀ q : Nat, s.heap.size ≤ q → LwN s q := fun _ h => h
  have hbA : ¬ LwN s bs := Nat.not_le.mpr hbl
  have hcf : CallFix p m c cL_law 7 s _ wsL_lawN RL := ⟨hx, hb, hml, hown, hts⟩
  have hr0 : cells ≤ room_1.cells ∧ slots ≤ room_1.slots := ⟨Nat.le_trans (Nat.le_add_right _ _) hr.1, Nat.le_trans (Nat.le_add_right _ _) hr.2⟩
  obtain ⟨thr, tpd, siz, too, frm, srt, num, flt, plc, wrd, snm, lin, stp, sfo, hst, tp, nw, rd, kp, sn, lf, us, tf, ho, td, pd, sr, dr, ir, qr, sf, df, jf, qf, oho, otd, opd, osr, odr, oir, oqr, osf, odf, ojf, oqf, ct, tpp, kv, ofn, hP, hD, hB, hH, hT, hf⟩ := hLS
  obtain ⟨r, qr', qf', ct', tpp', kv', snm', nw', sn', e1, e2, hB9, hH9⟩ := act_asks (thr := thr) (p1 := (xs (i + 1).toNatClampNeg)) (p2 := (xs (i + 2).toNatClampNeg)) hB hH
  refine lv_aload_n hx hb dL_law_903 rfl (lv_at hl 2 rfl) ?_
  refine lv_aload_n hx hb dL_law_904 rfl (lv_at hl 1 rfl) ?_
  refine lv_iload hx hb dL_law_905 (lv_at hl 0 rfl) ?_
  refine lv_iconst (v := 1) hx hb dL_law_907 (by decide) ?_
  refine lv_iadd hx hb dL_law_908 ?_
  refine va_sld hx hb hX hbl hbA hS h1 dL_law_909 ?_
  refine lv_aload_n hx hb dL_law_910 rfl (lv_at hl 1 rfl) ?_
  refine lv_iload hx hb dL_law_911 (lv_at hl 0 rfl) ?_
  refine lv_iconst (v := 2) hx hb dL_law_913 (by decide) ?_
  refine lv_iadd hx hb dL_law_914 ?_
  refine va_sld hx hb hX hbl hbA hS h2 dL_law_915 ?_
  refine mu_vi hcf (kX5_asks e1) (cwL_X5_asks hts) hK hP hD hS hA jL_h (ci := 5) (q0 := 6) rfl rfl rfl hl.1 rfl (Nat.le_of_ble_eq_true rfl) dL_law_916 hr0 (fun H locs hP hD hS => ?_)
  refine lv_aload_n hx hb dL_law_919 rfl (lv_at hl 3 rfl) ?_
  refine lv_aload_n hx hb dL_law_920 rfl (lv_at hl 1 rfl) ?_
  refine lv_iload hx hb dL_law_921 (lv_at hl 0 rfl) ?_
  refine lv_iconst (v := 1) hx hb dL_law_923 (by decide) ?_
  refine lv_iadd hx hb dL_law_924 ?_
  refine va_sld hx hb hX hbl hbA hS h1 dL_law_925 ?_
  refine lv_aload_n hx hb dL_law_926 rfl (lv_at hl 1 rfl) ?_
  refine lv_iload hx hb dL_law_927 (lv_at hl 0 rfl) ?_
  refine lv_iconst (v := 2) hx hb dL_law_929 (by decide) ?_
  refine lv_iadd hx hb dL_law_930 ?_
  refine va_sld hx hb hX hbl hbA hS h2 dL_law_931 ?_
  refine mu_vi hcf (kX6_asks e2) (cwL_X6_asks hts) hK hP hD hS hA jL_m (ci := 6) (q0 := 0) rfl rfl rfl hl.1 rfl (Nat.le_of_ble_eq_true rfl) dL_law_932 hr0 (fun H locs hP hD hS => ?_)
  refine lv_icmp_eq (tgt := 1028) hx hb dL_law_935 (by decide) (fun _ => ?_) (fun c9 => absurd rfl c9)
  refine W.widen (k := cells + 1) (n := slots + 8) (by omega) (by omega) ?_
  exact kk _ _ _ hS ⟨_, _, _, _, _, _, _, _, _, _, _, _, _, _, _, _, _, _, _, _, _, _, _, _, _, _, _, _, _, _, _, _, _, _, _, _, _, _, _, _, _, _, _, _, _, _, _, _, _, hP, hD, hB9, hH9, hT, hf⟩ hl
