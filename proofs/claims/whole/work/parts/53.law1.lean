set_option maxRecDepth 100000 in
set_option maxHeartbeats 4000000 in
theorem law_invoice {p : Program} {l : Launch} {e : Env} {s : State} {m : MethodId} {below : List Frame} {meth : Method} {c : Code} {Q : State → Prop} {D : va_G} {cI cB cL cK : ClassId} {sq sv : Nat → Nat} {qa qb bs L : Nat} {xs : Nat → Int32} {md : Nat → Nat} {ha : Nat} {a : Nat} {b : Nat} {ad : Nat → Nat} {pa : Nat → Nat} {hh : Nat} {hq : Nat} {kad : Nat → Nat → Nat} {ou : Nat} {i : Int32} {H : Heap} {locs : List Loc} {ls : Array Slot} {cells slots : Nat} (C : LwC p l s m c D cI cB cL cK sq sv qa qb bs L xs) (h1 : vp_in (i + 1) L) (h2 : vp_in (i + 2) L) (h3 : vp_in (i + 3) L) (h4 : vp_in (i + 4) L) (h5 : vp_in (i + 5) L) (hr : cells + 1 ≤ room_1.cells ∧ slots + 8 ≤ room_1.slots) (hS : va_S (LwN s) s.heap H locs) (hLS : LwS D cI cB cL cK md ha a b ad pa hh hq kad ou (LwN s) H) (hl : lv_has ls 7 [(4, .int i), (0, .ref bs), (1, .ref ha), (2, .ref (md 0)), (3, .ref ou)]) (kk : ∀ (H : Heap) (locs : List Loc) (ls : Array Slot), va_S (LwN s) s.heap H locs → LwS D cI cB cL cK md ha a b ad pa hh hq kad ou (LwN s) H → lv_has ls 7 [(4, .int i), (0, .ref bs), (1, .ref ha), (2, .ref (md 0)), (3, .ref ou)] → W p l e room_1 s m #[Value.ref bs] below meth c H locs (cells + 1) (slots + 8) Q (F0 m 1028 ls [])) : W p l e room_1 s m #[Value.ref bs] below meth c H locs cells slots Q (F0 m 410 ls []) := by
  obtain ⟨hx, hb, hml, hown, hts, hX, hbl, hK, hZ, hXZ, htr⟩ := id C
  have hA : ∀ q : Nat, s.heap.size ≤ q → LwN s q := fun _ h => h
  have hbA : ¬ LwN s bs := Nat.not_le.mpr hbl
  have hcf : CallFix p m c cL_law 7 s _ wsL_lawN RL := ⟨hx, hb, hml, hown, hts⟩
  have hr0 : cells ≤ room_1.cells ∧ slots ≤ room_1.slots := ⟨Nat.le_trans (Nat.le_add_right _ _) hr.1, Nat.le_trans (Nat.le_add_right _ _) hr.2⟩
  obtain ⟨thr, tpd, siz, too, frm, srt, num, flt, plc, wrd, snm, lin, stp, sfo, hst, tp, nw, rd, kp, sn, lf, us, tf, ho, td, pd, sr, dr, ir, qr, sf, df, jf, qf, oho, otd, opd, osr, odr, oir, oqr, osf, odf, ojf, oqf, ct, tpp, kv, ofn, hP, hD, hB, hH, hT, hf⟩ := hLS
  obtain ⟨ns, nd, ni, no, t, ht9, rfl, rfl, rfl, rfl, rfl, hR⟩ := id hB
  obtain ⟨r, e1, e2⟩ := ask_invoice (thr := thr) (p1 := (xs (i + 1).toNatClampNeg)) (p2 := (xs (i + 2).toNatClampNeg)) hR
  refine lv_aload_n hx hb dL_law_410 rfl (lv_at hl 2 rfl) ?_
  refine lv_aload_n hx hb dL_law_411 rfl (lv_at hl 1 rfl) ?_
  refine lv_iload hx hb dL_law_412 (lv_at hl 0 rfl) ?_
  refine lv_iconst (v := 1) hx hb dL_law_414 (by decide) ?_
  refine lv_iadd hx hb dL_law_415 ?_
  refine va_sld hx hb hX hbl hbA hS h1 dL_law_416 ?_
  refine lv_aload_n hx hb dL_law_417 rfl (lv_at hl 1 rfl) ?_
  refine lv_iload hx hb dL_law_418 (lv_at hl 0 rfl) ?_
  refine lv_iconst (v := 2) hx hb dL_law_420 (by decide) ?_
  refine lv_iadd hx hb dL_law_421 ?_
  refine va_sld hx hb hX hbl hbA hS h2 dL_law_422 ?_
  refine rd_v hcf (kX5_invoice e1) (cwL_X5_invoice hts) hK hP sL_h (ci := 5) (q0 := 6) rfl rfl rfl hl.1 rfl (Nat.le_of_ble_eq_true rfl) dL_law_423 hr0 ?_
  refine lv_aload_n hx hb dL_law_426 rfl (lv_at hl 3 rfl) ?_
  refine lv_aload_n hx hb dL_law_427 rfl (lv_at hl 1 rfl) ?_
  refine lv_iload hx hb dL_law_428 (lv_at hl 0 rfl) ?_
  refine lv_iconst (v := 1) hx hb dL_law_430 (by decide) ?_
  refine lv_iadd hx hb dL_law_431 ?_
  refine va_sld hx hb hX hbl hbA hS h1 dL_law_432 ?_
  refine lv_aload_n hx hb dL_law_433 rfl (lv_at hl 1 rfl) ?_
  refine lv_iload hx hb dL_law_434 (lv_at hl 0 rfl) ?_
  refine lv_iconst (v := 2) hx hb dL_law_436 (by decide) ?_
  refine lv_iadd hx hb dL_law_437 ?_
  refine va_sld hx hb hX hbl hbA hS h2 dL_law_438 ?_
  refine mu_vi hcf (kX6_invoice e2) (cwL_X6_invoice hts) hK hP hD hS hA jL_m (ci := 6) (q0 := 0) rfl rfl rfl hl.1 rfl (Nat.le_of_ble_eq_true rfl) dL_law_439 hr0 (fun H locs hP hD hS => ?_)
  refine lv_icmp_eq (tgt := 1028) hx hb dL_law_442 (by decide) (fun _ => ?_) (fun c9 => absurd rfl c9)
  refine W.widen (k := cells + 1) (n := slots + 8) (by omega) (by omega) ?_
  exact kk _ _ _ hS ⟨_, _, _, _, _, _, _, _, _, _, _, _, _, _, _, _, _, _, _, _, _, _, _, _, _, _, _, _, _, _, _, _, _, _, _, _, _, _, _, _, _, _, _, _, _, _, _, _, _, hP, hD, hB, hH, hT, hf⟩ hl

set_option maxRecDepth 100000 in
set_option maxHeartbeats 4000000 in
theorem law_promised {p : Program} {l : Launch} {e : Env} {s : State} {m : MethodId} {below : List Frame} {meth : Method} {c : Code} {Q : State → Prop} {D : va_G} {cI cB cL cK : ClassId} {sq sv : Nat → Nat} {qa qb bs L : Nat} {xs : Nat → Int32} {md : Nat → Nat} {ha : Nat} {a : Nat} {b : Nat} {ad : Nat → Nat} {pa : Nat → Nat} {hh : Nat} {hq : Nat} {kad : Nat → Nat → Nat} {ou : Nat} {i : Int32} {H : Heap} {locs : List Loc} {ls : Array Slot} {cells slots : Nat} (C : LwC p l s m c D cI cB cL cK sq sv qa qb bs L xs) (h1 : vp_in (i + 1) L) (h2 : vp_in (i + 2) L) (h3 : vp_in (i + 3) L) (h4 : vp_in (i + 4) L) (h5 : vp_in (i + 5) L) (hr : cells + 1 ≤ room_1.cells ∧ slots + 8 ≤ room_1.slots) (hS : va_S (LwN s) s.heap H locs) (hLS : LwS D cI cB cL cK md ha a b ad pa hh hq kad ou (LwN s) H) (hl : lv_has ls 7 [(4, .int i), (0, .ref bs), (1, .ref ha), (2, .ref (md 0)), (3, .ref ou)]) (kk : ∀ (H : Heap) (locs : List Loc) (ls : Array Slot), va_S (LwN s) s.heap H locs → LwS D cI cB cL cK md ha a b ad pa hh hq kad ou (LwN s) H → lv_has ls 7 [(4, .int i), (0, .ref bs), (1, .ref ha), (2, .ref (md 0)), (3, .ref ou)] → W p l e room_1 s m #[Value.ref bs] below meth c H locs (cells + 1) (slots + 8) Q (F0 m 1028 ls [])) : W p l e room_1 s m #[Value.ref bs] below meth c H locs cells slots Q (F0 m 447 ls []) := by
  obtain ⟨hx, hb, hml, hown, hts, hX, hbl, hK, hZ, hXZ, htr⟩ := id C
  have hA : ∀ q : Nat, s.heap.size ≤ q → LwN s q := fun _ h => h
  have hbA : ¬ LwN s bs := Nat.not_le.mpr hbl
  have hcf : CallFix p m c cL_law 7 s _ wsL_lawN RL := ⟨hx, hb, hml, hown, hts⟩
  have hr0 : cells ≤ room_1.cells ∧ slots ≤ room_1.slots := ⟨Nat.le_trans (Nat.le_add_right _ _) hr.1, Nat.le_trans (Nat.le_add_right _ _) hr.2⟩
  obtain ⟨thr, tpd, siz, too, frm, srt, num, flt, plc, wrd, snm, lin, stp, sfo, hst, tp, nw, rd, kp, sn, lf, us, tf, ho, td, pd, sr, dr, ir, qr, sf, df, jf, qf, oho, otd, opd, osr, odr, oir, oqr, osf, odf, ojf, oqf, ct, tpp, kv, ofn, hP, hD, hB, hH, hT, hf⟩ := hLS
  obtain ⟨ns, nd, ni, no, t, ht9, rfl, rfl, rfl, rfl, rfl, hR⟩ := id hB
  obtain ⟨r, e1, e2⟩ := ask_promised (thr := thr) (p1 := (xs (i + 1).toNatClampNeg)) (p2 := (xs (i + 2).toNatClampNeg)) hR
  refine lv_aload_n hx hb dL_law_447 rfl (lv_at hl 2 rfl) ?_
  refine lv_aload_n hx hb dL_law_448 rfl (lv_at hl 1 rfl) ?_
  refine lv_iload hx hb dL_law_449 (lv_at hl 0 rfl) ?_
  refine lv_iconst (v := 1) hx hb dL_law_451 (by decide) ?_
  refine lv_iadd hx hb dL_law_452 ?_
  refine va_sld hx hb hX hbl hbA hS h1 dL_law_453 ?_
  refine lv_aload_n hx hb dL_law_454 rfl (lv_at hl 1 rfl) ?_
  refine lv_iload hx hb dL_law_455 (lv_at hl 0 rfl) ?_
  refine lv_iconst (v := 2) hx hb dL_law_457 (by decide) ?_
  refine lv_iadd hx hb dL_law_458 ?_
  refine va_sld hx hb hX hbl hbA hS h2 dL_law_459 ?_
  refine rd_v hcf (kX5_promised e1) (cwL_X5_promised hts) hK hP sL_h (ci := 5) (q0 := 6) rfl rfl rfl hl.1 rfl (Nat.le_of_ble_eq_true rfl) dL_law_460 hr0 ?_
  refine lv_aload_n hx hb dL_law_463 rfl (lv_at hl 3 rfl) ?_
  refine lv_aload_n hx hb dL_law_464 rfl (lv_at hl 1 rfl) ?_
  refine lv_iload hx hb dL_law_465 (lv_at hl 0 rfl) ?_
  refine lv_iconst (v := 1) hx hb dL_law_467 (by decide) ?_
  refine lv_iadd hx hb dL_law_468 ?_
  refine va_sld hx hb hX hbl hbA hS h1 dL_law_469 ?_
  refine lv_aload_n hx hb dL_law_470 rfl (lv_at hl 1 rfl) ?_
  refine lv_iload hx hb dL_law_471 (lv_at hl 0 rfl) ?_
  refine lv_iconst (v := 2) hx hb dL_law_473 (by decide) ?_
  refine lv_iadd hx hb dL_law_474 ?_
  refine va_sld hx hb hX hbl hbA hS h2 dL_law_475 ?_
  refine mu_vi hcf (kX6_promised e2) (cwL_X6_promised hts) hK hP hD hS hA jL_m (ci := 6) (q0 := 0) rfl rfl rfl hl.1 rfl (Nat.le_of_ble_eq_true rfl) dL_law_476 hr0 (fun H locs hP hD hS => ?_)
  refine lv_icmp_eq (tgt := 1028) hx hb dL_law_479 (by decide) (fun _ => ?_) (fun c9 => absurd rfl c9)
  refine W.widen (k := cells + 1) (n := slots + 8) (by omega) (by omega) ?_
  exact kk _ _ _ hS ⟨_, _, _, _, _, _, _, _, _, _, _, _, _, _, _, _, _, _, _, _, _, _, _, _, _, _, _, _, _, _, _, _, _, _, _, _, _, _, _, _, _, _, _, _, _, _, _, _, _, hP, hD, hB, hH, hT, hf⟩ hl

set_option maxRecDepth 100000 in
set_option maxHeartbeats 4000000 in
theorem law_planned {p : Program} {l : Launch} {e : Env} {s : State} {m : MethodId} {below : List Frame} {meth : Method} {c : Code} {Q : State → Prop} {D : va_G} {cI cB cL cK : ClassId} {sq sv : Nat → Nat} {qa qb bs L : Nat} {xs : Nat → Int32} {md : Nat → Nat} {ha : Nat} {a : Nat} {b : Nat} {ad : Nat → Nat} {pa : Nat → Nat} {hh : Nat} {hq : Nat} {kad : Nat → Nat → Nat} {ou : Nat} {i : Int32} {H : Heap} {locs : List Loc} {ls : Array Slot} {cells slots : Nat} (C : LwC p l s m c D cI cB cL cK sq sv qa qb bs L xs) (h1 : vp_in (i + 1) L) (h2 : vp_in (i + 2) L) (h3 : vp_in (i + 3) L) (h4 : vp_in (i + 4) L) (h5 : vp_in (i + 5) L) (hr : cells + 1 ≤ room_1.cells ∧ slots + 8 ≤ room_1.slots) (hS : va_S (LwN s) s.heap H locs) (hLS : LwS D cI cB cL cK md ha a b ad pa hh hq kad ou (LwN s) H) (hl : lv_has ls 7 [(4, .int i), (0, .ref bs), (1, .ref ha), (2, .ref (md 0)), (3, .ref ou)]) (kk : ∀ (H : Heap) (locs : List Loc) (ls : Array Slot), va_S (LwN s) s.heap H locs → LwS D cI cB cL cK md ha a b ad pa hh hq kad ou (LwN s) H → lv_has ls 7 [(4, .int i), (0, .ref bs), (1, .ref ha), (2, .ref (md 0)), (3, .ref ou)] → W p l e room_1 s m #[Value.ref bs] below meth c H locs (cells + 1) (slots + 8) Q (F0 m 1028 ls [])) : W p l e room_1 s m #[Value.ref bs] below meth c H locs cells slots Q (F0 m 484 ls []) := by
  obtain ⟨hx, hb, hml, hown, hts, hX, hbl, hK, hZ, hXZ, htr⟩ := id C
  have hA : ∀ q : Nat, s.heap.size ≤ q → LwN s q := fun _ h => h
  have hbA : ¬ LwN s bs := Nat.not_le.mpr hbl
  have hcf : CallFix p m c cL_law 7 s _ wsL_lawN RL := ⟨hx, hb, hml, hown, hts⟩
  have hr0 : cells ≤ room_1.cells ∧ slots ≤ room_1.slots := ⟨Nat.le_trans (Nat.le_add_right _ _) hr.1, Nat.le_trans (Nat.le_add_right _ _) hr.2⟩
  obtain ⟨thr, tpd, siz, too, frm, srt, num, flt, plc, wrd, snm, lin, stp, sfo, hst, tp, nw, rd, kp, sn, lf, us, tf, ho, td, pd, sr, dr, ir, qr, sf, df, jf, qf, oho, otd, opd, osr, odr, oir, oqr, osf, odf, ojf, oqf, ct, tpp, kv, ofn, hP, hD, hB, hH, hT, hf⟩ := hLS
  obtain ⟨ns, nd, ni, no, t, ht9, rfl, rfl, rfl, rfl, rfl, hR⟩ := id hB
  obtain ⟨r, e1, e2⟩ := ask_planned (thr := thr) (p1 := (xs (i + 1).toNatClampNeg)) (p2 := (xs (i + 2).toNatClampNeg)) hR
  refine lv_aload_n hx hb dL_law_484 rfl (lv_at hl 2 rfl) ?_
  refine lv_aload_n hx hb dL_law_485 rfl (lv_at hl 1 rfl) ?_
  refine lv_iload hx hb dL_law_486 (lv_at hl 0 rfl) ?_
  refine lv_iconst (v := 1) hx hb dL_law_488 (by decide) ?_
  refine lv_iadd hx hb dL_law_489 ?_
  refine va_sld hx hb hX hbl hbA hS h1 dL_law_490 ?_
  refine lv_aload_n hx hb dL_law_491 rfl (lv_at hl 1 rfl) ?_
  refine lv_iload hx hb dL_law_492 (lv_at hl 0 rfl) ?_
  refine lv_iconst (v := 2) hx hb dL_law_494 (by decide) ?_
  refine lv_iadd hx hb dL_law_495 ?_
  refine va_sld hx hb hX hbl hbA hS h2 dL_law_496 ?_
  refine rd_v hcf (kX5_planned e1) (cwL_X5_planned hts) hK hP sL_h (ci := 5) (q0 := 6) rfl rfl rfl hl.1 rfl (Nat.le_of_ble_eq_true rfl) dL_law_497 hr0 ?_
  refine lv_aload_n hx hb dL_law_500 rfl (lv_at hl 3 rfl) ?_
  refine lv_aload_n hx hb dL_law_501 rfl (lv_at hl 1 rfl) ?_
  refine lv_iload hx hb dL_law_502 (lv_at hl 0 rfl) ?_
  refine lv_iconst (v := 1) hx hb dL_law_504 (by decide) ?_
  refine lv_iadd hx hb dL_law_505 ?_
  refine va_sld hx hb hX hbl hbA hS h1 dL_law_506 ?_
  refine lv_aload_n hx hb dL_law_507 rfl (lv_at hl 1 rfl) ?_
  refine lv_iload hx hb dL_law_508 (lv_at hl 0 rfl) ?_
  refine lv_iconst (v := 2) hx hb dL_law_510 (by decide) ?_
  refine lv_iadd hx hb dL_law_511 ?_
  refine va_sld hx hb hX hbl hbA hS h2 dL_law_512 ?_
  refine mu_vi hcf (kX6_planned e2) (cwL_X6_planned hts) hK hP hD hS hA jL_m (ci := 6) (q0 := 0) rfl rfl rfl hl.1 rfl (Nat.le_of_ble_eq_true rfl) dL_law_513 hr0 (fun H locs hP hD hS => ?_)
  refine lv_icmp_eq (tgt := 1028) hx hb dL_law_516 (by decide) (fun _ => ?_) (fun c9 => absurd rfl c9)
  refine W.widen (k := cells + 1) (n := slots + 8) (by omega) (by omega) ?_
  exact kk _ _ _ hS ⟨_, _, _, _, _, _, _, _, _, _, _, _, _, _, _, _, _, _, _, _, _, _, _, _, _, _, _, _, _, _, _, _, _, _, _, _, _, _, _, _, _, _, _, _, _, _, _, _, _, hP, hD, hB, hH, hT, hf⟩ hl

set_option maxRecDepth 100000 in
set_option maxHeartbeats 4000000 in
theorem law_order {p : Program} {l : Launch} {e : Env} {s : State} {m : MethodId} {below : List Frame} {meth : Method} {c : Code} {Q : State → Prop} {D : va_G} {cI cB cL cK : ClassId} {sq sv : Nat → Nat} {qa qb bs L : Nat} {xs : Nat → Int32} {md : Nat → Nat} {ha : Nat} {a : Nat} {b : Nat} {ad : Nat → Nat} {pa : Nat → Nat} {hh : Nat} {hq : Nat} {kad : Nat → Nat → Nat} {ou : Nat} {i : Int32} {H : Heap} {locs : List Loc} {ls : Array Slot} {cells slots : Nat} (C : LwC p l s m c D cI cB cL cK sq sv qa qb bs L xs) (h1 : vp_in (i + 1) L) (h2 : vp_in (i + 2) L) (h3 : vp_in (i + 3) L) (h4 : vp_in (i + 4) L) (h5 : vp_in (i + 5) L) (hr : cells + 1 ≤ room_1.cells ∧ slots + 8 ≤ room_1.slots) (hS : va_S (LwN s) s.heap H locs) (hLS : LwS D cI cB cL cK md ha a b ad pa hh hq kad ou (LwN s) H) (hl : lv_has ls 7 [(4, .int i), (0, .ref bs), (1, .ref ha), (2, .ref (md 0)), (3, .ref ou)]) (kk : ∀ (H : Heap) (locs : List Loc) (ls : Array Slot), va_S (LwN s) s.heap H locs → LwS D cI cB cL cK md ha a b ad pa hh hq kad ou (LwN s) H → lv_has ls 7 [(4, .int i), (0, .ref bs), (1, .ref ha), (2, .ref (md 0)), (3, .ref ou)] → W p l e room_1 s m #[Value.ref bs] below meth c H locs (cells + 1) (slots + 8) Q (F0 m 1028 ls [])) : W p l e room_1 s m #[Value.ref bs] below meth c H locs cells slots Q (F0 m 521 ls []) := by
  obtain ⟨hx, hb, hml, hown, hts, hX, hbl, hK, hZ, hXZ, htr⟩ := id C
  have hA : ∀ q : Nat, s.heap.size ≤ q → LwN s q := fun _ h => h
  have hbA : ¬ LwN s bs := Nat.not_le.mpr hbl
  have hcf : CallFix p m c cL_law 7 s _ wsL_lawN RL := ⟨hx, hb, hml, hown, hts⟩
  have hr0 : cells ≤ room_1.cells ∧ slots ≤ room_1.slots := ⟨Nat.le_trans (Nat.le_add_right _ _) hr.1, Nat.le_trans (Nat.le_add_right _ _) hr.2⟩
  obtain ⟨thr, tpd, siz, too, frm, srt, num, flt, plc, wrd, snm, lin, stp, sfo, hst, tp, nw, rd, kp, sn, lf, us, tf, ho, td, pd, sr, dr, ir, qr, sf, df, jf, qf, oho, otd, opd, osr, odr, oir, oqr, osf, odf, ojf, oqf, ct, tpp, kv, ofn, hP, hD, hB, hH, hT, hf⟩ := hLS
  obtain ⟨ns, nd, ni, no, t, ht9, rfl, rfl, rfl, rfl, rfl, hR⟩ := id hB
  obtain ⟨r, e1, e2⟩ := ask_order (thr := thr) (p1 := (xs (i + 1).toNatClampNeg)) (p2 := (xs (i + 2).toNatClampNeg)) hR
  refine lv_aload_n hx hb dL_law_521 rfl (lv_at hl 2 rfl) ?_
  refine lv_aload_n hx hb dL_law_522 rfl (lv_at hl 1 rfl) ?_
  refine lv_iload hx hb dL_law_523 (lv_at hl 0 rfl) ?_
  refine lv_iconst (v := 1) hx hb dL_law_525 (by decide) ?_
  refine lv_iadd hx hb dL_law_526 ?_
  refine va_sld hx hb hX hbl hbA hS h1 dL_law_527 ?_
  refine lv_aload_n hx hb dL_law_528 rfl (lv_at hl 1 rfl) ?_
  refine lv_iload hx hb dL_law_529 (lv_at hl 0 rfl) ?_
  refine lv_iconst (v := 2) hx hb dL_law_531 (by decide) ?_
  refine lv_iadd hx hb dL_law_532 ?_
  refine va_sld hx hb hX hbl hbA hS h2 dL_law_533 ?_
  refine rd_v hcf (kX5_order e1) (cwL_X5_order hts) hK hP sL_h (ci := 5) (q0 := 6) rfl rfl rfl hl.1 rfl (Nat.le_of_ble_eq_true rfl) dL_law_534 hr0 ?_
  refine lv_aload_n hx hb dL_law_537 rfl (lv_at hl 3 rfl) ?_
  refine lv_aload_n hx hb dL_law_538 rfl (lv_at hl 1 rfl) ?_
  refine lv_iload hx hb dL_law_539 (lv_at hl 0 rfl) ?_
  refine lv_iconst (v := 1) hx hb dL_law_541 (by decide) ?_
  refine lv_iadd hx hb dL_law_542 ?_
  refine va_sld hx hb hX hbl hbA hS h1 dL_law_543 ?_
  refine lv_aload_n hx hb dL_law_544 rfl (lv_at hl 1 rfl) ?_
  refine lv_iload hx hb dL_law_545 (lv_at hl 0 rfl) ?_
  refine lv_iconst (v := 2) hx hb dL_law_547 (by decide) ?_
  refine lv_iadd hx hb dL_law_548 ?_
  refine va_sld hx hb hX hbl hbA hS h2 dL_law_549 ?_
  refine mu_vi hcf (kX6_order e2) (cwL_X6_order hts) hK hP hD hS hA jL_m (ci := 6) (q0 := 0) rfl rfl rfl hl.1 rfl (Nat.le_of_ble_eq_true rfl) dL_law_550 hr0 (fun H locs hP hD hS => ?_)
  refine lv_icmp_eq (tgt := 1028) hx hb dL_law_553 (by decide) (fun _ => ?_) (fun c9 => absurd rfl c9)
  refine W.widen (k := cells + 1) (n := slots + 8) (by omega) (by omega) ?_
  exact kk _ _ _ hS ⟨_, _, _, _, _, _, _, _, _, _, _, _, _, _, _, _, _, _, _, _, _, _, _, _, _, _, _, _, _, _, _, _, _, _, _, _, _, _, _, _, _, _, _, _, _, _, _, _, _, hP, hD, hB, hH, hT, hf⟩ hl

set_option maxRecDepth 100000 in
set_option maxHeartbeats 4000000 in
theorem law_aged {p : Program} {l : Launch} {e : Env} {s : State} {m : MethodId} {below : List Frame} {meth : Method} {c : Code} {Q : State → Prop} {D : va_G} {cI cB cL cK : ClassId} {sq sv : Nat → Nat} {qa qb bs L : Nat} {xs : Nat → Int32} {md : Nat → Nat} {ha : Nat} {a : Nat} {b : Nat} {ad : Nat → Nat} {pa : Nat → Nat} {hh : Nat} {hq : Nat} {kad : Nat → Nat → Nat} {ou : Nat} {i : Int32} {H : Heap} {locs : List Loc} {ls : Array Slot} {cells slots : Nat} (C : LwC p l s m c D cI cB cL cK sq sv qa qb bs L xs) (h1 : vp_in (i + 1) L) (h2 : vp_in (i + 2) L) (h3 : vp_in (i + 3) L) (h4 : vp_in (i + 4) L) (h5 : vp_in (i + 5) L) (hr : cells + 1 ≤ room_1.cells ∧ slots + 8 ≤ room_1.slots) (hS : va_S (LwN s) s.heap H locs) (hLS : LwS D cI cB cL cK md ha a b ad pa hh hq kad ou (LwN s) H) (hl : lv_has ls 7 [(4, .int i), (0, .ref bs), (1, .ref ha), (2, .ref (md 0)), (3, .ref ou)]) (kk : ∀ (H : Heap) (locs : List Loc) (ls : Array Slot), va_S (LwN s) s.heap H locs → LwS D cI cB cL cK md ha a b ad pa hh hq kad ou (LwN s) H → lv_has ls 7 [(4, .int i), (0, .ref bs), (1, .ref ha), (2, .ref (md 0)), (3, .ref ou)] → W p l e room_1 s m #[Value.ref bs] below meth c H locs (cells + 1) (slots + 8) Q (F0 m 1028 ls [])) : W p l e room_1 s m #[Value.ref bs] below meth c H locs cells slots Q (F0 m 558 ls []) := by
  obtain ⟨hx, hb, hml, hown, hts, hX, hbl, hK, hZ, hXZ, htr⟩ := id C
  have hA : ∀ q : Nat, s.heap.size ≤ q → LwN s q := fun _ h => h
  have hbA : ¬ LwN s bs := Nat.not_le.mpr hbl
  have hcf : CallFix p m c cL_law 7 s _ wsL_lawN RL := ⟨hx, hb, hml, hown, hts⟩
  have hr0 : cells ≤ room_1.cells ∧ slots ≤ room_1.slots := ⟨Nat.le_trans (Nat.le_add_right _ _) hr.1, Nat.le_trans (Nat.le_add_right _ _) hr.2⟩
  obtain ⟨thr, tpd, siz, too, frm, srt, num, flt, plc, wrd, snm, lin, stp, sfo, hst, tp, nw, rd, kp, sn, lf, us, tf, ho, td, pd, sr, dr, ir, qr, sf, df, jf, qf, oho, otd, opd, osr, odr, oir, oqr, osf, odf, ojf, oqf, ct, tpp, kv, ofn, hP, hD, hB, hH, hT, hf⟩ := hLS
  obtain ⟨ns, nd, ni, no, t, ht9, rfl, rfl, rfl, rfl, rfl, hR⟩ := id hB
  obtain ⟨r, e1, e2⟩ := ask_aged (thr := thr) (p1 := (xs (i + 1).toNatClampNeg)) (p2 := (xs (i + 2).toNatClampNeg)) hR (by omega)
  refine lv_aload_n hx hb dL_law_558 rfl (lv_at hl 2 rfl) ?_
  refine lv_aload_n hx hb dL_law_559 rfl (lv_at hl 1 rfl) ?_
  refine lv_iload hx hb dL_law_560 (lv_at hl 0 rfl) ?_
  refine lv_iconst (v := 1) hx hb dL_law_562 (by decide) ?_
  refine lv_iadd hx hb dL_law_563 ?_
  refine va_sld hx hb hX hbl hbA hS h1 dL_law_564 ?_
  refine lv_aload_n hx hb dL_law_565 rfl (lv_at hl 1 rfl) ?_
  refine lv_iload hx hb dL_law_566 (lv_at hl 0 rfl) ?_
  refine lv_iconst (v := 2) hx hb dL_law_568 (by decide) ?_
  refine lv_iadd hx hb dL_law_569 ?_
  refine va_sld hx hb hX hbl hbA hS h2 dL_law_570 ?_
  refine rd_v hcf (kX5_aged e1) (cwL_X5_aged hts) hK hP sL_h (ci := 5) (q0 := 6) rfl rfl rfl hl.1 rfl (Nat.le_of_ble_eq_true rfl) dL_law_571 hr0 ?_
  refine lv_aload_n hx hb dL_law_574 rfl (lv_at hl 3 rfl) ?_
  refine lv_aload_n hx hb dL_law_575 rfl (lv_at hl 1 rfl) ?_
  refine lv_iload hx hb dL_law_576 (lv_at hl 0 rfl) ?_
  refine lv_iconst (v := 1) hx hb dL_law_578 (by decide) ?_
  refine lv_iadd hx hb dL_law_579 ?_
  refine va_sld hx hb hX hbl hbA hS h1 dL_law_580 ?_
  refine lv_aload_n hx hb dL_law_581 rfl (lv_at hl 1 rfl) ?_
  refine lv_iload hx hb dL_law_582 (lv_at hl 0 rfl) ?_
  refine lv_iconst (v := 2) hx hb dL_law_584 (by decide) ?_
  refine lv_iadd hx hb dL_law_585 ?_
  refine va_sld hx hb hX hbl hbA hS h2 dL_law_586 ?_
  refine mu_vi hcf (kX6_aged e2) (cwL_X6_aged hts) hK hP hD hS hA jL_m (ci := 6) (q0 := 0) rfl rfl rfl hl.1 rfl (Nat.le_of_ble_eq_true rfl) dL_law_587 hr0 (fun H locs hP hD hS => ?_)
  refine lv_icmp_eq (tgt := 1028) hx hb dL_law_590 (by decide) (fun _ => ?_) (fun c9 => absurd rfl c9)
  refine W.widen (k := cells + 1) (n := slots + 8) (by omega) (by omega) ?_
  exact kk _ _ _ hS ⟨_, _, _, _, _, _, _, _, _, _, _, _, _, _, _, _, _, _, _, _, _, _, _, _, _, _, _, _, _, _, _, _, _, _, _, _, _, _, _, _, _, _, _, _, _, _, _, _, _, hP, hD, hB, hH, hT, hf⟩ hl

set_option maxRecDepth 100000 in
set_option maxHeartbeats 4000000 in
theorem law_next {p : Program} {l : Launch} {e : Env} {s : State} {m : MethodId} {below : List Frame} {meth : Method} {c : Code} {Q : State → Prop} {D : va_G} {cI cB cL cK : ClassId} {sq sv : Nat → Nat} {qa qb bs L : Nat} {xs : Nat → Int32} {md : Nat → Nat} {ha : Nat} {a : Nat} {b : Nat} {ad : Nat → Nat} {pa : Nat → Nat} {hh : Nat} {hq : Nat} {kad : Nat → Nat → Nat} {ou : Nat} {i : Int32} {H : Heap} {locs : List Loc} {ls : Array Slot} {cells slots : Nat} (C : LwC p l s m c D cI cB cL cK sq sv qa qb bs L xs) (h1 : vp_in (i + 1) L) (h2 : vp_in (i + 2) L) (h3 : vp_in (i + 3) L) (h4 : vp_in (i + 4) L) (h5 : vp_in (i + 5) L) (hr : cells + 1 ≤ room_1.cells ∧ slots + 8 ≤ room_1.slots) (hS : va_S (LwN s) s.heap H locs) (hLS : LwS D cI cB cL cK md ha a b ad pa hh hq kad ou (LwN s) H) (hl : lv_has ls 7 [(4, .int i), (0, .ref bs), (1, .ref ha), (2, .ref (md 0)), (3, .ref ou)]) (kk : ∀ (H : Heap) (locs : List Loc) (ls : Array Slot), va_S (LwN s) s.heap H locs → LwS D cI cB cL cK md ha a b ad pa hh hq kad ou (LwN s) H → lv_has ls 7 [(4, .int i), (0, .ref bs), (1, .ref ha), (2, .ref (md 0)), (3, .ref ou)] → W p l e room_1 s m #[Value.ref bs] below meth c H locs (cells + 1) (slots + 8) Q (F0 m 1028 ls [])) : W p l e room_1 s m #[Value.ref bs] below meth c H locs cells slots Q (F0 m 595 ls []) := by
  obtain ⟨hx, hb, hml, hown, hts, hX, hbl, hK, hZ, hXZ, htr⟩ := id C
  have hA : ∀ q : Nat, s.heap.size ≤ q → LwN s q := fun _ h => h
  have hbA : ¬ LwN s bs := Nat.not_le.mpr hbl
  have hcf : CallFix p m c cL_law 7 s _ wsL_lawN RL := ⟨hx, hb, hml, hown, hts⟩
  have hr0 : cells ≤ room_1.cells ∧ slots ≤ room_1.slots := ⟨Nat.le_trans (Nat.le_add_right _ _) hr.1, Nat.le_trans (Nat.le_add_right _ _) hr.2⟩
  obtain ⟨thr, tpd, siz, too, frm, srt, num, flt, plc, wrd, snm, lin, stp, sfo, hst, tp, nw, rd, kp, sn, lf, us, tf, ho, td, pd, sr, dr, ir, qr, sf, df, jf, qf, oho, otd, opd, osr, odr, oir, oqr, osf, odf, ojf, oqf, ct, tpp, kv, ofn, hP, hD, hB, hH, hT, hf⟩ := hLS
  obtain ⟨r, oho', otd', opd', osr', odr', oir', oqr', osf', odf', ojf', oqf', stp', sfo', hst', nw', kp', e1, e2, hB9⟩ := act_next (thr := thr) (oho := oho) (otd := otd) (opd := opd) (osr := osr) (odr := odr) (oir := oir) (oqr := oqr) (stp := stp) (sfo := sfo) (hst := hst) (osf := osf) (odf := odf) (ojf := ojf) (oqf := oqf) (kp := kp) (p1 := (xs (i + 1).toNatClampNeg)) hB
  refine lv_aload_n hx hb dL_law_595 rfl (lv_at hl 2 rfl) ?_
  refine lv_aload_n hx hb dL_law_596 rfl (lv_at hl 1 rfl) ?_
  refine lv_iload hx hb dL_law_597 (lv_at hl 0 rfl) ?_
  refine lv_iconst (v := 1) hx hb dL_law_599 (by decide) ?_
  refine lv_iadd hx hb dL_law_600 ?_
  refine va_sld hx hb hX hbl hbA hS h1 dL_law_601 ?_
  refine mu_vi hcf (kX5_next e1) (cwL_X5_next hts) hK hP hD hS hA jL_h (ci := 5) (q0 := 6) rfl rfl rfl hl.1 rfl (Nat.le_of_ble_eq_true rfl) dL_law_602 hr0 (fun H locs hP hD hS => ?_)
  refine lv_aload_n hx hb dL_law_605 rfl (lv_at hl 3 rfl) ?_
  refine lv_aload_n hx hb dL_law_606 rfl (lv_at hl 1 rfl) ?_
  refine lv_iload hx hb dL_law_607 (lv_at hl 0 rfl) ?_
  refine lv_iconst (v := 1) hx hb dL_law_609 (by decide) ?_
  refine lv_iadd hx hb dL_law_610 ?_
  refine va_sld hx hb hX hbl hbA hS h1 dL_law_611 ?_
  refine mu_vi hcf (kX6_next e2) (cwL_X6_next hts) hK hP hD hS hA jL_m (ci := 6) (q0 := 0) rfl rfl rfl hl.1 rfl (Nat.le_of_ble_eq_true rfl) dL_law_612 hr0 (fun H locs hP hD hS => ?_)
  refine lv_icmp_eq (tgt := 1028) hx hb dL_law_615 (by decide) (fun _ => ?_) (fun c9 => absurd rfl c9)
  refine W.widen (k := cells + 1) (n := slots + 8) (by omega) (by omega) ?_
  exact kk _ _ _ hS ⟨_, _, _, _, _, _, _, _, _, _, _, _, _, _, _, _, _, _, _, _, _, _, _, _, _, _, _, _, _, _, _, _, _, _, _, _, _, _, _, _, _, _, _, _, _, _, _, _, _, hP, hD, hB9, hH, hT, hf⟩ hl

set_option maxRecDepth 100000 in
set_option maxHeartbeats 4000000 in
theorem law_would {p : Program} {l : Launch} {e : Env} {s : State} {m : MethodId} {below : List Frame} {meth : Method} {c : Code} {Q : State → Prop} {D : va_G} {cI cB cL cK : ClassId} {sq sv : Nat → Nat} {qa qb bs L : Nat} {xs : Nat → Int32} {md : Nat → Nat} {ha : Nat} {a : Nat} {b : Nat} {ad : Nat → Nat} {pa : Nat → Nat} {hh : Nat} {hq : Nat} {kad : Nat → Nat → Nat} {ou : Nat} {i : Int32} {H : Heap} {locs : List Loc} {ls : Array Slot} {cells slots : Nat} (C : LwC p l s m c D cI cB cL cK sq sv qa qb bs L xs) (h1 : vp_in (i + 1) L) (h2 : vp_in (i + 2) L) (h3 : vp_in (i + 3) L) (h4 : vp_in (i + 4) L) (h5 : vp_in (i + 5) L) (hr : cells + 1 ≤ room_1.cells ∧ slots + 8 ≤ room_1.slots) (hS : va_S (LwN s) s.heap H locs) (hLS : LwS D cI cB cL cK md ha a b ad pa hh hq kad ou (LwN s) H) (hl : lv_has ls 7 [(4, .int i), (0, .ref bs), (1, .ref ha), (2, .ref (md 0)), (3, .ref ou)]) (kk : ∀ (H : Heap) (locs : List Loc) (ls : Array Slot), va_S (LwN s) s.heap H locs → LwS D cI cB cL cK md ha a b ad pa hh hq kad ou (LwN s) H → lv_has ls 7 [(4, .int i), (0, .ref bs), (1, .ref ha), (2, .ref (md 0)), (3, .ref ou)] → W p l e room_1 s m #[Value.ref bs] below meth c H locs (cells + 1) (slots + 8) Q (F0 m 1028 ls [])) : W p l e room_1 s m #[Value.ref bs] below meth c H locs cells slots Q (F0 m 620 ls []) := by
  obtain ⟨hx, hb, hml, hown, hts, hX, hbl, hK, hZ, hXZ, htr⟩ := id C
  have hA : ∀ q : Nat, s.heap.size ≤ q → LwN s q := fun _ h => h
  have hbA : ¬ LwN s bs := Nat.not_le.mpr hbl
  have hcf : CallFix p m c cL_law 7 s _ wsL_lawN RL := ⟨hx, hb, hml, hown, hts⟩
  have hr0 : cells ≤ room_1.cells ∧ slots ≤ room_1.slots := ⟨Nat.le_trans (Nat.le_add_right _ _) hr.1, Nat.le_trans (Nat.le_add_right _ _) hr.2⟩
  obtain ⟨thr, tpd, siz, too, frm, srt, num, flt, plc, wrd, snm, lin, stp, sfo, hst, tp, nw, rd, kp, sn, lf, us, tf, ho, td, pd, sr, dr, ir, qr, sf, df, jf, qf, oho, otd, opd, osr, odr, oir, oqr, osf, odf, ojf, oqf, ct, tpp, kv, ofn, hP, hD, hB, hH, hT, hf⟩ := hLS
  obtain ⟨r, oho', otd', opd', osr', odr', oir', oqr', osf', odf', ojf', oqf', nw', kp', e1, e2, hB9⟩ := act_would (thr := thr) (oho := oho) (otd := otd) (opd := opd) (osr := osr) (odr := odr) (oir := oir) (oqr := oqr) (osf := osf) (odf := odf) (ojf := ojf) (oqf := oqf) (kp := kp) (p1 := (xs (i + 1).toNatClampNeg)) (p2 := (xs (i + 2).toNatClampNeg)) hB
  refine lv_aload_n hx hb dL_law_620 rfl (lv_at hl 2 rfl) ?_
  refine lv_aload_n hx hb dL_law_621 rfl (lv_at hl 1 rfl) ?_
  refine lv_iload hx hb dL_law_622 (lv_at hl 0 rfl) ?_
  refine lv_iconst (v := 1) hx hb dL_law_624 (by decide) ?_
  refine lv_iadd hx hb dL_law_625 ?_
  refine va_sld hx hb hX hbl hbA hS h1 dL_law_626 ?_
  refine lv_aload_n hx hb dL_law_627 rfl (lv_at hl 1 rfl) ?_
  refine lv_iload hx hb dL_law_628 (lv_at hl 0 rfl) ?_
  refine lv_iconst (v := 2) hx hb dL_law_630 (by decide) ?_
  refine lv_iadd hx hb dL_law_631 ?_
  refine va_sld hx hb hX hbl hbA hS h2 dL_law_632 ?_
  refine mu_vi hcf (kX5_would e1) (cwL_X5_would hts) hK hP hD hS hA jL_h (ci := 5) (q0 := 6) rfl rfl rfl hl.1 rfl (Nat.le_of_ble_eq_true rfl) dL_law_633 hr0 (fun H locs hP hD hS => ?_)
  refine lv_aload_n hx hb dL_law_636 rfl (lv_at hl 3 rfl) ?_
  refine lv_aload_n hx hb dL_law_637 rfl (lv_at hl 1 rfl) ?_
  refine lv_iload hx hb dL_law_638 (lv_at hl 0 rfl) ?_
  refine lv_iconst (v := 1) hx hb dL_law_640 (by decide) ?_
  refine lv_iadd hx hb dL_law_641 ?_
  refine va_sld hx hb hX hbl hbA hS h1 dL_law_642 ?_
  refine lv_aload_n hx hb dL_law_643 rfl (lv_at hl 1 rfl) ?_
  refine lv_iload hx hb dL_law_644 (lv_at hl 0 rfl) ?_
  refine lv_iconst (v := 2) hx hb dL_law_646 (by decide) ?_
  refine lv_iadd hx hb dL_law_647 ?_
  refine va_sld hx hb hX hbl hbA hS h2 dL_law_648 ?_
  refine mu_vi hcf (kX6_would e2) (cwL_X6_would hts) hK hP hD hS hA jL_m (ci := 6) (q0 := 0) rfl rfl rfl hl.1 rfl (Nat.le_of_ble_eq_true rfl) dL_law_649 hr0 (fun H locs hP hD hS => ?_)
  refine lv_icmp_eq (tgt := 1028) hx hb dL_law_652 (by decide) (fun _ => ?_) (fun c9 => absurd rfl c9)
  refine W.widen (k := cells + 1) (n := slots + 8) (by omega) (by omega) ?_
  exact kk _ _ _ hS ⟨_, _, _, _, _, _, _, _, _, _, _, _, _, _, _, _, _, _, _, _, _, _, _, _, _, _, _, _, _, _, _, _, _, _, _, _, _, _, _, _, _, _, _, _, _, _, _, _, _, hP, hD, hB9, hH, hT, hf⟩ hl
