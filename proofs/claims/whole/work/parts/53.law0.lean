set_option maxRecDepth 100000 in
set_option maxHeartbeats 4000000 in
theorem law_feed {p : Program} {l : Launch} {e : Env} {s : State} {m : MethodId} {below : List Frame} {meth : Method} {c : Code} {Q : State → Prop} {D : va_G} {cI cB cL cK : ClassId} {sq sv : Nat → Nat} {qa qb bs L : Nat} {xs : Nat → Int32} {md : Nat → Nat} {ha : Nat} {a : Nat} {b : Nat} {ad : Nat → Nat} {pa : Nat → Nat} {hh : Nat} {hq : Nat} {kad : Nat → Nat → Nat} {ou : Nat} {i : Int32} {H : Heap} {locs : List Loc} {ls : Array Slot} {cells slots : Nat} (C : LwC p l s m c D cI cB cL cK sq sv qa qb bs L xs) (h1 : vp_in (i + 1) L) (h2 : vp_in (i + 2) L) (h3 : vp_in (i + 3) L) (h4 : vp_in (i + 4) L) (h5 : vp_in (i + 5) L) (hr : cells + 1 ≤ room_1.cells ∧ slots + 8 ≤ room_1.slots) (hS : va_S (LwN s) s.heap H locs) (hLS : LwS D cI cB cL cK md ha a b ad pa hh hq kad ou (LwN s) H) (hl : lv_has ls 7 [(4, .int i), (0, .ref bs), (1, .ref ha), (2, .ref (md 0)), (3, .ref ou)]) (kk : ∀ (H : Heap) (locs : List Loc) (ls : Array Slot), va_S (LwN s) s.heap H locs → LwS D cI cB cL cK md ha a b ad pa hh hq kad ou (LwN s) H → lv_has ls 7 [(4, .int i), (0, .ref bs), (1, .ref ha), (2, .ref (md 0)), (3, .ref ou)] → W p l e room_1 s m #[Value.ref bs] below meth c H locs (cells + 1) (slots + 8) Q (F0 m 1028 ls [])) : W p l e room_1 s m #[Value.ref bs] below meth c H locs cells slots Q (F0 m 156 ls []) := by
  obtain ⟨hx, hb, hml, hown, hts, hX, hbl, hK, hZ, hXZ, htr⟩ := id C
  have hA : ∀ q : Nat, s.heap.size ≤ q → LwN s q := fun _ h => h
  have hbA : ¬ LwN s bs := Nat.not_le.mpr hbl
  have hcf : CallFix p m c cL_law 7 s _ wsL_lawN RL := ⟨hx, hb, hml, hown, hts⟩
  have hr0 : cells ≤ room_1.cells ∧ slots ≤ room_1.slots := ⟨Nat.le_trans (Nat.le_add_right _ _) hr.1, Nat.le_trans (Nat.le_add_right _ _) hr.2⟩
  obtain ⟨thr, tpd, siz, too, frm, srt, num, flt, plc, wrd, snm, lin, stp, sfo, hst, tp, nw, rd, kp, sn, lf, us, tf, ho, td, pd, sr, dr, ir, qr, sf, df, jf, qf, oho, otd, opd, osr, odr, oir, oqr, osf, odf, ojf, oqf, ct, tpp, kv, ofn, hP, hD, hB, hH, hT, hf⟩ := hLS
  obtain ⟨r, us', tf', tpd', tp', e1, e2, hT9⟩ := act_feed (thr := thr) (p1 := (xs (i + 1).toNatClampNeg)) (p2 := (xs (i + 2).toNatClampNeg)) (p3 := (xs (i + 3).toNatClampNeg)) (p4 := (xs (i + 4).toNatClampNeg)) (p5 := (xs (i + 5).toNatClampNeg)) hT
  refine lv_aload_n hx hb dL_law_156 rfl (lv_at hl 2 rfl) ?_
  refine lv_aload_n hx hb dL_law_157 rfl (lv_at hl 1 rfl) ?_
  refine lv_iload hx hb dL_law_158 (lv_at hl 0 rfl) ?_
  refine lv_iconst (v := 1) hx hb dL_law_160 (by decide) ?_
  refine lv_iadd hx hb dL_law_161 ?_
  refine va_sld hx hb hX hbl hbA hS h1 dL_law_162 ?_
  refine lv_aload_n hx hb dL_law_163 rfl (lv_at hl 1 rfl) ?_
  refine lv_iload hx hb dL_law_164 (lv_at hl 0 rfl) ?_
  refine lv_iconst (v := 2) hx hb dL_law_166 (by decide) ?_
  refine lv_iadd hx hb dL_law_167 ?_
  refine va_sld hx hb hX hbl hbA hS h2 dL_law_168 ?_
  refine lv_aload_n hx hb dL_law_169 rfl (lv_at hl 1 rfl) ?_
  refine lv_iload hx hb dL_law_170 (lv_at hl 0 rfl) ?_
  refine lv_iconst (v := 3) hx hb dL_law_172 (by decide) ?_
  refine lv_iadd hx hb dL_law_173 ?_
  refine va_sld hx hb hX hbl hbA hS h3 dL_law_174 ?_
  refine lv_aload_n hx hb dL_law_175 rfl (lv_at hl 1 rfl) ?_
  refine lv_iload hx hb dL_law_176 (lv_at hl 0 rfl) ?_
  refine lv_iconst (v := 4) hx hb dL_law_178 (by decide) ?_
  refine lv_iadd hx hb dL_law_179 ?_
  refine va_sld hx hb hX hbl hbA hS h4 dL_law_180 ?_
  refine lv_aload_n hx hb dL_law_181 rfl (lv_at hl 1 rfl) ?_
  refine lv_iload hx hb dL_law_182 (lv_at hl 0 rfl) ?_
  refine lv_iconst (v := 5) hx hb dL_law_184 (by decide) ?_
  refine lv_iadd hx hb dL_law_185 ?_
  refine va_sld hx hb hX hbl hbA hS h5 dL_law_186 ?_
  refine mu_vi hcf (kX5_feed e1) (cwL_X5_feed hts) hK hP hD hS hA jL_h (ci := 5) (q0 := 6) rfl rfl rfl hl.1 rfl (Nat.le_of_ble_eq_true rfl) dL_law_187 hr0 (fun H locs hP hD hS => ?_)
  refine lv_aload_n hx hb dL_law_190 rfl (lv_at hl 3 rfl) ?_
  refine lv_aload_n hx hb dL_law_191 rfl (lv_at hl 1 rfl) ?_
  refine lv_iload hx hb dL_law_192 (lv_at hl 0 rfl) ?_
  refine lv_iconst (v := 1) hx hb dL_law_194 (by decide) ?_
  refine lv_iadd hx hb dL_law_195 ?_
  refine va_sld hx hb hX hbl hbA hS h1 dL_law_196 ?_
  refine lv_aload_n hx hb dL_law_197 rfl (lv_at hl 1 rfl) ?_
  refine lv_iload hx hb dL_law_198 (lv_at hl 0 rfl) ?_
  refine lv_iconst (v := 2) hx hb dL_law_200 (by decide) ?_
  refine lv_iadd hx hb dL_law_201 ?_
  refine va_sld hx hb hX hbl hbA hS h2 dL_law_202 ?_
  refine lv_aload_n hx hb dL_law_203 rfl (lv_at hl 1 rfl) ?_
  refine lv_iload hx hb dL_law_204 (lv_at hl 0 rfl) ?_
  refine lv_iconst (v := 3) hx hb dL_law_206 (by decide) ?_
  refine lv_iadd hx hb dL_law_207 ?_
  refine va_sld hx hb hX hbl hbA hS h3 dL_law_208 ?_
  refine lv_aload_n hx hb dL_law_209 rfl (lv_at hl 1 rfl) ?_
  refine lv_iload hx hb dL_law_210 (lv_at hl 0 rfl) ?_
  refine lv_iconst (v := 4) hx hb dL_law_212 (by decide) ?_
  refine lv_iadd hx hb dL_law_213 ?_
  refine va_sld hx hb hX hbl hbA hS h4 dL_law_214 ?_
  refine lv_aload_n hx hb dL_law_215 rfl (lv_at hl 1 rfl) ?_
  refine lv_iload hx hb dL_law_216 (lv_at hl 0 rfl) ?_
  refine lv_iconst (v := 5) hx hb dL_law_218 (by decide) ?_
  refine lv_iadd hx hb dL_law_219 ?_
  refine va_sld hx hb hX hbl hbA hS h5 dL_law_220 ?_
  refine mu_vi hcf (kX6_feed e2) (cwL_X6_feed hts) hK hP hD hS hA jL_m (ci := 6) (q0 := 0) rfl rfl rfl hl.1 rfl (Nat.le_of_ble_eq_true rfl) dL_law_221 hr0 (fun H locs hP hD hS => ?_)
  refine lv_icmp_eq (tgt := 1028) hx hb dL_law_224 (by decide) (fun _ => ?_) (fun c9 => absurd rfl c9)
  refine W.widen (k := cells + 1) (n := slots + 8) (by omega) (by omega) ?_
  exact kk _ _ _ hS ⟨_, _, _, _, _, _, _, _, _, _, _, _, _, _, _, _, _, _, _, _, _, _, _, _, _, _, _, _, _, _, _, _, _, _, _, _, _, _, _, _, _, _, _, _, _, _, _, _, _, hP, hD, hB, hH, hT9, hf⟩ hl

set_option maxRecDepth 100000 in
set_option maxHeartbeats 4000000 in
theorem law_end {p : Program} {l : Launch} {e : Env} {s : State} {m : MethodId} {below : List Frame} {meth : Method} {c : Code} {Q : State → Prop} {D : va_G} {cI cB cL cK : ClassId} {sq sv : Nat → Nat} {qa qb bs L : Nat} {xs : Nat → Int32} {md : Nat → Nat} {ha : Nat} {a : Nat} {b : Nat} {ad : Nat → Nat} {pa : Nat → Nat} {hh : Nat} {hq : Nat} {kad : Nat → Nat → Nat} {ou : Nat} {i : Int32} {H : Heap} {locs : List Loc} {ls : Array Slot} {cells slots : Nat} (C : LwC p l s m c D cI cB cL cK sq sv qa qb bs L xs) (h1 : vp_in (i + 1) L) (h2 : vp_in (i + 2) L) (h3 : vp_in (i + 3) L) (h4 : vp_in (i + 4) L) (h5 : vp_in (i + 5) L) (hr : cells + 1 ≤ room_1.cells ∧ slots + 8 ≤ room_1.slots) (hS : va_S (LwN s) s.heap H locs) (hLS : LwS D cI cB cL cK md ha a b ad pa hh hq kad ou (LwN s) H) (hl : lv_has ls 7 [(4, .int i), (0, .ref bs), (1, .ref ha), (2, .ref (md 0)), (3, .ref ou)]) (kk : ∀ (H : Heap) (locs : List Loc) (ls : Array Slot), va_S (LwN s) s.heap H locs → LwS D cI cB cL cK md ha a b ad pa hh hq kad ou (LwN s) H → lv_has ls 7 [(4, .int i), (0, .ref bs), (1, .ref ha), (2, .ref (md 0)), (3, .ref ou)] → W p l e room_1 s m #[Value.ref bs] below meth c H locs (cells + 1) (slots + 8) Q (F0 m 1028 ls [])) : W p l e room_1 s m #[Value.ref bs] below meth c H locs cells slots Q (F0 m 229 ls []) := by
  obtain ⟨hx, hb, hml, hown, hts, hX, hbl, hK, hZ, hXZ, htr⟩ := id C
  have hA : ∀ q : Nat, s.heap.size ≤ q → LwN s q := fun _ h => h
  have hbA : ¬ LwN s bs := Nat.not_le.mpr hbl
  have hcf : CallFix p m c cL_law 7 s _ wsL_lawN RL := ⟨hx, hb, hml, hown, hts⟩
  have hr0 : cells ≤ room_1.cells ∧ slots ≤ room_1.slots := ⟨Nat.le_trans (Nat.le_add_right _ _) hr.1, Nat.le_trans (Nat.le_add_right _ _) hr.2⟩
  obtain ⟨thr, tpd, siz, too, frm, srt, num, flt, plc, wrd, snm, lin, stp, sfo, hst, tp, nw, rd, kp, sn, lf, us, tf, ho, td, pd, sr, dr, ir, qr, sf, df, jf, qf, oho, otd, opd, osr, odr, oir, oqr, osf, odf, ojf, oqf, ct, tpp, kv, ofn, hP, hD, hB, hH, hT, hf⟩ := hLS
  obtain ⟨r, us', tpd', e1, e2, hT9⟩ := act_end (thr := thr) (p1 := (xs (i + 1).toNatClampNeg)) hT
  refine lv_aload_n hx hb dL_law_229 rfl (lv_at hl 2 rfl) ?_
  refine lv_aload_n hx hb dL_law_230 rfl (lv_at hl 1 rfl) ?_
  refine lv_iload hx hb dL_law_231 (lv_at hl 0 rfl) ?_
  refine lv_iconst (v := 1) hx hb dL_law_233 (by decide) ?_
  refine lv_iadd hx hb dL_law_234 ?_
  refine va_sld hx hb hX hbl hbA hS h1 dL_law_235 ?_
  refine mu_vi hcf (kX5_end e1) (cwL_X5_end hts) hK hP hD hS hA jL_h (ci := 5) (q0 := 6) rfl rfl rfl hl.1 rfl (Nat.le_of_ble_eq_true rfl) dL_law_236 hr0 (fun H locs hP hD hS => ?_)
  refine lv_aload_n hx hb dL_law_239 rfl (lv_at hl 3 rfl) ?_
  refine lv_aload_n hx hb dL_law_240 rfl (lv_at hl 1 rfl) ?_
  refine lv_iload hx hb dL_law_241 (lv_at hl 0 rfl) ?_
  refine lv_iconst (v := 1) hx hb dL_law_243 (by decide) ?_
  refine lv_iadd hx hb dL_law_244 ?_
  refine va_sld hx hb hX hbl hbA hS h1 dL_law_245 ?_
  refine mu_vi hcf (kX6_end e2) (cwL_X6_end hts) hK hP hD hS hA jL_m (ci := 6) (q0 := 0) rfl rfl rfl hl.1 rfl (Nat.le_of_ble_eq_true rfl) dL_law_246 hr0 (fun H locs hP hD hS => ?_)
  refine lv_icmp_eq (tgt := 1028) hx hb dL_law_249 (by decide) (fun _ => ?_) (fun c9 => absurd rfl c9)
  refine W.widen (k := cells + 1) (n := slots + 8) (by omega) (by omega) ?_
  exact kk _ _ _ hS ⟨_, _, _, _, _, _, _, _, _, _, _, _, _, _, _, _, _, _, _, _, _, _, _, _, _, _, _, _, _, _, _, _, _, _, _, _, _, _, _, _, _, _, _, _, _, _, _, _, _, hP, hD, hB, hH, hT9, hf⟩ hl

set_option maxRecDepth 100000 in
set_option maxHeartbeats 4000000 in
theorem law_text {p : Program} {l : Launch} {e : Env} {s : State} {m : MethodId} {below : List Frame} {meth : Method} {c : Code} {Q : State → Prop} {D : va_G} {cI cB cL cK : ClassId} {sq sv : Nat → Nat} {qa qb bs L : Nat} {xs : Nat → Int32} {md : Nat → Nat} {ha : Nat} {a : Nat} {b : Nat} {ad : Nat → Nat} {pa : Nat → Nat} {hh : Nat} {hq : Nat} {kad : Nat → Nat → Nat} {ou : Nat} {i : Int32} {H : Heap} {locs : List Loc} {ls : Array Slot} {cells slots : Nat} (C : LwC p l s m c D cI cB cL cK sq sv qa qb bs L xs) (h1 : vp_in (i + 1) L) (h2 : vp_in (i + 2) L) (h3 : vp_in (i + 3) L) (h4 : vp_in (i + 4) L) (h5 : vp_in (i + 5) L) (hr : cells + 1 ≤ room_1.cells ∧ slots + 8 ≤ room_1.slots) (hS : va_S (LwN s) s.heap H locs) (hLS : LwS D cI cB cL cK md ha a b ad pa hh hq kad ou (LwN s) H) (hl : lv_has ls 7 [(4, .int i), (0, .ref bs), (1, .ref ha), (2, .ref (md 0)), (3, .ref ou)]) (kk : ∀ (H : Heap) (locs : List Loc) (ls : Array Slot), va_S (LwN s) s.heap H locs → LwS D cI cB cL cK md ha a b ad pa hh hq kad ou (LwN s) H → lv_has ls 7 [(4, .int i), (0, .ref bs), (1, .ref ha), (2, .ref (md 0)), (3, .ref ou)] → W p l e room_1 s m #[Value.ref bs] below meth c H locs (cells + 1) (slots + 8) Q (F0 m 1028 ls [])) : W p l e room_1 s m #[Value.ref bs] below meth c H locs cells slots Q (F0 m 254 ls []) := by
  obtain ⟨hx, hb, hml, hown, hts, hX, hbl, hK, hZ, hXZ, htr⟩ := id C
  have hA : ∀ q : Nat, s.heap.size ≤ q → LwN s q := fun _ h => h
  have hbA : ¬ LwN s bs := Nat.not_le.mpr hbl
  have hcf : CallFix p m c cL_law 7 s _ wsL_lawN RL := ⟨hx, hb, hml, hown, hts⟩
  have hr0 : cells ≤ room_1.cells ∧ slots ≤ room_1.slots := ⟨Nat.le_trans (Nat.le_add_right _ _) hr.1, Nat.le_trans (Nat.le_add_right _ _) hr.2⟩
  obtain ⟨thr, tpd, siz, too, frm, srt, num, flt, plc, wrd, snm, lin, stp, sfo, hst, tp, nw, rd, kp, sn, lf, us, tf, ho, td, pd, sr, dr, ir, qr, sf, df, jf, qf, oho, otd, opd, osr, odr, oir, oqr, osf, odf, ojf, oqf, ct, tpp, kv, ofn, hP, hD, hB, hH, hT, hf⟩ := hLS
  obtain ⟨oho1, otd1, opd1, osr1, odr1, oir1, oqr1, res, kd2, bg2, pt2, vl2, lt2, ft2, oho2, osr2, odr2, oir2, osf2, odf2, ojf2, cr, us', ho', td', pd', sr', dr', ir', qr', sf', df', jf', qf', ct', tpd', siz', too', frm', srt', num', plc', wrd', snm', lin', nw', rd', e1, e2, e3, e4, e5, hT9, hB9, hH9⟩ := act_text (thr := thr) (siz := siz) (too := too) (frm := frm) (srt := srt) (num := num) (flt := flt) (plc := plc) (lin := lin) (oho := oho) (otd := otd) (opd := opd) (osr := osr) (odr := odr) (oir := oir) (oqr := oqr) (wrd := wrd) (rd := rd) (osf := osf) (odf := odf) (ojf := ojf) (oqf := oqf) hT hB hH
  refine lv_aload_n hx hb dL_law_254 rfl (lv_at hl 2 rfl) ?_
  refine muz_g hcf (kX5_text e1 e2 e3 e4) (cwL_X5_text hts) hK hZ hP hD hS hA jL_h (ci := 5) (q0 := 6) rfl rfl rfl hl.1 rfl (Nat.le_of_ble_eq_true rfl) dL_law_255 hr (fun H locs hP hD hS => ?_)
  refine lv_aload_n hx hb dL_law_258 rfl (lv_at hl 3 rfl) ?_
  refine mu_vi hcf (kX6_text e5) (cwL_X6_text hts) hK hP hD hS hA jL_m (ci := 6) (q0 := 0) rfl rfl rfl hl.1 rfl (Nat.le_of_ble_eq_true rfl) dL_law_259 hr (fun H locs hP hD hS => ?_)
  refine lv_icmp_eq (tgt := 1028) hx hb dL_law_262 (by decide) (fun _ => ?_) (fun c9 => absurd rfl c9)
  exact kk _ _ _ hS ⟨_, _, _, _, _, _, _, _, _, _, _, _, _, _, _, _, _, _, _, _, _, _, _, _, _, _, _, _, _, _, _, _, _, _, _, _, _, _, _, _, _, _, _, _, _, _, _, _, _, hP, hD, hB9, hH9, hT9, rfl⟩ hl

set_option maxRecDepth 100000 in
set_option maxHeartbeats 4000000 in
theorem law_fault {p : Program} {l : Launch} {e : Env} {s : State} {m : MethodId} {below : List Frame} {meth : Method} {c : Code} {Q : State → Prop} {D : va_G} {cI cB cL cK : ClassId} {sq sv : Nat → Nat} {qa qb bs L : Nat} {xs : Nat → Int32} {md : Nat → Nat} {ha : Nat} {a : Nat} {b : Nat} {ad : Nat → Nat} {pa : Nat → Nat} {hh : Nat} {hq : Nat} {kad : Nat → Nat → Nat} {ou : Nat} {i : Int32} {H : Heap} {locs : List Loc} {ls : Array Slot} {cells slots : Nat} (C : LwC p l s m c D cI cB cL cK sq sv qa qb bs L xs) (h1 : vp_in (i + 1) L) (h2 : vp_in (i + 2) L) (h3 : vp_in (i + 3) L) (h4 : vp_in (i + 4) L) (h5 : vp_in (i + 5) L) (hr : cells + 1 ≤ room_1.cells ∧ slots + 8 ≤ room_1.slots) (hS : va_S (LwN s) s.heap H locs) (hLS : LwS D cI cB cL cK md ha a b ad pa hh hq kad ou (LwN s) H) (hl : lv_has ls 7 [(4, .int i), (0, .ref bs), (1, .ref ha), (2, .ref (md 0)), (3, .ref ou)]) (kk : ∀ (H : Heap) (locs : List Loc) (ls : Array Slot), va_S (LwN s) s.heap H locs → LwS D cI cB cL cK md ha a b ad pa hh hq kad ou (LwN s) H → lv_has ls 7 [(4, .int i), (0, .ref bs), (1, .ref ha), (2, .ref (md 0)), (3, .ref ou)] → W p l e room_1 s m #[Value.ref bs] below meth c H locs (cells + 1) (slots + 8) Q (F0 m 1028 ls [])) : W p l e room_1 s m #[Value.ref bs] below meth c H locs cells slots Q (F0 m 267 ls []) := by
  obtain ⟨hx, hb, hml, hown, hts, hX, hbl, hK, hZ, hXZ, htr⟩ := id C
  have hA : ∀ q : Nat, s.heap.size ≤ q → LwN s q := fun _ h => h
  have hbA : ¬ LwN s bs := Nat.not_le.mpr hbl
  have hcf : CallFix p m c cL_law 7 s _ wsL_lawN RL := ⟨hx, hb, hml, hown, hts⟩
  have hr0 : cells ≤ room_1.cells ∧ slots ≤ room_1.slots := ⟨Nat.le_trans (Nat.le_add_right _ _) hr.1, Nat.le_trans (Nat.le_add_right _ _) hr.2⟩
  obtain ⟨thr, tpd, siz, too, frm, srt, num, flt, plc, wrd, snm, lin, stp, sfo, hst, tp, nw, rd, kp, sn, lf, us, tf, ho, td, pd, sr, dr, ir, qr, sf, df, jf, qf, oho, otd, opd, osr, odr, oir, oqr, osf, odf, ojf, oqf, ct, tpp, kv, ofn, hP, hD, hB, hH, hT, hf⟩ := hLS
  subst hf
  refine lv_aload_n hx hb dL_law_267 rfl (lv_at hl 2 rfl) ?_
  refine rd_v hcf (kX5_fault (res := lf) rfl) (cwL_X5_fault hts) hK hP sL_h (ci := 5) (q0 := 6) rfl rfl rfl hl.1 rfl (Nat.le_of_ble_eq_true rfl) dL_law_268 hr0 ?_
  refine lv_aload_n hx hb dL_law_271 rfl (lv_at hl 3 rfl) ?_
  refine mu_vi hcf (kX6_fault (res := lf) (thr' := 0) rfl) (cwL_X6_fault hts) hK hP hD hS hA jL_m (ci := 6) (q0 := 0) rfl rfl rfl hl.1 rfl (Nat.le_of_ble_eq_true rfl) dL_law_272 hr0 (fun H locs hP hD hS => ?_)
  refine lv_icmp_eq (tgt := 1028) hx hb dL_law_275 (by decide) (fun _ => ?_) (fun c9 => absurd rfl c9)
  refine W.widen (k := cells + 1) (n := slots + 8) (by omega) (by omega) ?_
  exact kk _ _ _ hS ⟨_, _, _, _, _, _, _, _, _, _, _, _, _, _, _, _, _, _, _, _, _, _, _, _, _, _, _, _, _, _, _, _, _, _, _, _, _, _, _, _, _, _, _, _, _, _, _, _, _, hP, hD, hB, hH, hT, rfl⟩ hl

set_option maxRecDepth 100000 in
set_option maxHeartbeats 4000000 in
theorem law_now {p : Program} {l : Launch} {e : Env} {s : State} {m : MethodId} {below : List Frame} {meth : Method} {c : Code} {Q : State → Prop} {D : va_G} {cI cB cL cK : ClassId} {sq sv : Nat → Nat} {qa qb bs L : Nat} {xs : Nat → Int32} {md : Nat → Nat} {ha : Nat} {a : Nat} {b : Nat} {ad : Nat → Nat} {pa : Nat → Nat} {hh : Nat} {hq : Nat} {kad : Nat → Nat → Nat} {ou : Nat} {i : Int32} {H : Heap} {locs : List Loc} {ls : Array Slot} {cells slots : Nat} (C : LwC p l s m c D cI cB cL cK sq sv qa qb bs L xs) (h1 : vp_in (i + 1) L) (h2 : vp_in (i + 2) L) (h3 : vp_in (i + 3) L) (h4 : vp_in (i + 4) L) (h5 : vp_in (i + 5) L) (hr : cells + 1 ≤ room_1.cells ∧ slots + 8 ≤ room_1.slots) (hS : va_S (LwN s) s.heap H locs) (hLS : LwS D cI cB cL cK md ha a b ad pa hh hq kad ou (LwN s) H) (hl : lv_has ls 7 [(4, .int i), (0, .ref bs), (1, .ref ha), (2, .ref (md 0)), (3, .ref ou)]) (kk : ∀ (H : Heap) (locs : List Loc) (ls : Array Slot), va_S (LwN s) s.heap H locs → LwS D cI cB cL cK md ha a b ad pa hh hq kad ou (LwN s) H → lv_has ls 7 [(4, .int i), (0, .ref bs), (1, .ref ha), (2, .ref (md 0)), (3, .ref ou)] → W p l e room_1 s m #[Value.ref bs] below meth c H locs (cells + 1) (slots + 8) Q (F0 m 1028 ls [])) : W p l e room_1 s m #[Value.ref bs] below meth c H locs cells slots Q (F0 m 280 ls []) := by
  obtain ⟨hx, hb, hml, hown, hts, hX, hbl, hK, hZ, hXZ, htr⟩ := id C
  have hA : ∀ q : Nat, s.heap.size ≤ q → LwN s q := fun _ h => h
  have hbA : ¬ LwN s bs := Nat.not_le.mpr hbl
  have hcf : CallFix p m c cL_law 7 s _ wsL_lawN RL := ⟨hx, hb, hml, hown, hts⟩
  have hr0 : cells ≤ room_1.cells ∧ slots ≤ room_1.slots := ⟨Nat.le_trans (Nat.le_add_right _ _) hr.1, Nat.le_trans (Nat.le_add_right _ _) hr.2⟩
  obtain ⟨thr, tpd, siz, too, frm, srt, num, flt, plc, wrd, snm, lin, stp, sfo, hst, tp, nw, rd, kp, sn, lf, us, tf, ho, td, pd, sr, dr, ir, qr, sf, df, jf, qf, oho, otd, opd, osr, odr, oir, oqr, osf, odf, ojf, oqf, ct, tpp, kv, ofn, hP, hD, hB, hH, hT, hf⟩ := hLS
  obtain ⟨ns, nd, ni, no, t, ht9, rfl, rfl, rfl, rfl, rfl, hR⟩ := id hB
  obtain ⟨u9, hu1, hu2, hu3, hu4⟩ := id hT
  obtain ⟨m9, τ9, hm1, hm2, hm3, hm4, hm5, hm6⟩ := id hH
  obtain ⟨r, e1, e2⟩ := ask_now (thr := thr) (us := us) (ct := ct) (p1 := (xs (i + 1).toNatClampNeg)) hR
  rw [show us = tpd from hu2.trans hu3.symm, show ct = snm from hm3.trans hm4.symm] at e2
  refine lv_aload_n hx hb dL_law_280 rfl (lv_at hl 2 rfl) ?_
  refine lv_aload_n hx hb dL_law_281 rfl (lv_at hl 1 rfl) ?_
  refine lv_iload hx hb dL_law_282 (lv_at hl 0 rfl) ?_
  refine lv_iconst (v := 1) hx hb dL_law_284 (by decide) ?_
  refine lv_iadd hx hb dL_law_285 ?_
  refine va_sld hx hb hX hbl hbA hS h1 dL_law_286 ?_
  refine rd_v hcf (kX5_now e1) (cwL_X5_now hts) hK hP sL_h (ci := 5) (q0 := 6) rfl rfl rfl hl.1 rfl (Nat.le_of_ble_eq_true rfl) dL_law_287 hr0 ?_
  refine lv_aload_n hx hb dL_law_290 rfl (lv_at hl 3 rfl) ?_
  refine lv_aload_n hx hb dL_law_291 rfl (lv_at hl 1 rfl) ?_
  refine lv_iload hx hb dL_law_292 (lv_at hl 0 rfl) ?_
  refine lv_iconst (v := 1) hx hb dL_law_294 (by decide) ?_
  refine lv_iadd hx hb dL_law_295 ?_
  refine va_sld hx hb hX hbl hbA hS h1 dL_law_296 ?_
  refine mu_vi hcf (kX6_now e2) (cwL_X6_now hts) hK hP hD hS hA jL_m (ci := 6) (q0 := 0) rfl rfl rfl hl.1 rfl (Nat.le_of_ble_eq_true rfl) dL_law_297 hr0 (fun H locs hP hD hS => ?_)
  refine lv_icmp_eq (tgt := 1028) hx hb dL_law_300 (by decide) (fun _ => ?_) (fun c9 => absurd rfl c9)
  refine W.widen (k := cells + 1) (n := slots + 8) (by omega) (by omega) ?_
  exact kk _ _ _ hS ⟨_, _, _, _, _, _, _, _, _, _, _, _, _, _, _, _, _, _, _, _, _, _, _, _, _, _, _, _, _, _, _, _, _, _, _, _, _, _, _, _, _, _, _, _, _, _, _, _, _, hP, hD, hB, hH, hT, hf⟩ hl

set_option maxRecDepth 100000 in
set_option maxHeartbeats 4000000 in
theorem law_step {p : Program} {l : Launch} {e : Env} {s : State} {m : MethodId} {below : List Frame} {meth : Method} {c : Code} {Q : State → Prop} {D : va_G} {cI cB cL cK : ClassId} {sq sv : Nat → Nat} {qa qb bs L : Nat} {xs : Nat → Int32} {md : Nat → Nat} {ha : Nat} {a : Nat} {b : Nat} {ad : Nat → Nat} {pa : Nat → Nat} {hh : Nat} {hq : Nat} {kad : Nat → Nat → Nat} {ou : Nat} {i : Int32} {H : Heap} {locs : List Loc} {ls : Array Slot} {cells slots : Nat} (C : LwC p l s m c D cI cB cL cK sq sv qa qb bs L xs) (h1 : vp_in (i + 1) L) (h2 : vp_in (i + 2) L) (h3 : vp_in (i + 3) L) (h4 : vp_in (i + 4) L) (h5 : vp_in (i + 5) L) (hr : cells + 1 ≤ room_1.cells ∧ slots + 8 ≤ room_1.slots) (hS : va_S (LwN s) s.heap H locs) (hLS : LwS D cI cB cL cK md ha a b ad pa hh hq kad ou (LwN s) H) (hl : lv_has ls 7 [(4, .int i), (0, .ref bs), (1, .ref ha), (2, .ref (md 0)), (3, .ref ou)]) (kk : ∀ (H : Heap) (locs : List Loc) (ls : Array Slot), va_S (LwN s) s.heap H locs → LwS D cI cB cL cK md ha a b ad pa hh hq kad ou (LwN s) H → lv_has ls 7 [(4, .int i), (0, .ref bs), (1, .ref ha), (2, .ref (md 0)), (3, .ref ou)] → W p l e room_1 s m #[Value.ref bs] below meth c H locs (cells + 1) (slots + 8) Q (F0 m 1028 ls [])) : W p l e room_1 s m #[Value.ref bs] below meth c H locs cells slots Q (F0 m 305 ls []) := by
  obtain ⟨hx, hb, hml, hown, hts, hX, hbl, hK, hZ, hXZ, htr⟩ := id C
  have hA : ∀ q : Nat, s.heap.size ≤ q → LwN s q := fun _ h => h
  have hbA : ¬ LwN s bs := Nat.not_le.mpr hbl
  have hcf : CallFix p m c cL_law 7 s _ wsL_lawN RL := ⟨hx, hb, hml, hown, hts⟩
  have hr0 : cells ≤ room_1.cells ∧ slots ≤ room_1.slots := ⟨Nat.le_trans (Nat.le_add_right _ _) hr.1, Nat.le_trans (Nat.le_add_right _ _) hr.2⟩
  obtain ⟨thr, tpd, siz, too, frm, srt, num, flt, plc, wrd, snm, lin, stp, sfo, hst, tp, nw, rd, kp, sn, lf, us, tf, ho, td, pd, sr, dr, ir, qr, sf, df, jf, qf, oho, otd, opd, osr, odr, oir, oqr, osf, odf, ojf, oqf, ct, tpp, kv, ofn, hP, hD, hB, hH, hT, hf⟩ := hLS
  obtain ⟨ns, nd, ni, no, t, ht9, rfl, rfl, rfl, rfl, rfl, hR⟩ := id hB
  obtain ⟨r, e1, e2⟩ := ask_step (thr := thr) (p1 := (xs (i + 1).toNatClampNeg)) (p2 := (xs (i + 2).toNatClampNeg)) hR
  refine lv_aload_n hx hb dL_law_305 rfl (lv_at hl 2 rfl) ?_
  refine lv_aload_n hx hb dL_law_306 rfl (lv_at hl 1 rfl) ?_
  refine lv_iload hx hb dL_law_307 (lv_at hl 0 rfl) ?_
  refine lv_iconst (v := 1) hx hb dL_law_309 (by decide) ?_
  refine lv_iadd hx hb dL_law_310 ?_
  refine va_sld hx hb hX hbl hbA hS h1 dL_law_311 ?_
  refine lv_aload_n hx hb dL_law_312 rfl (lv_at hl 1 rfl) ?_
  refine lv_iload hx hb dL_law_313 (lv_at hl 0 rfl) ?_
  refine lv_iconst (v := 2) hx hb dL_law_315 (by decide) ?_
  refine lv_iadd hx hb dL_law_316 ?_
  refine va_sld hx hb hX hbl hbA hS h2 dL_law_317 ?_
  refine rd_v hcf (kX5_step e1) (cwL_X5_step hts) hK hP sL_h (ci := 5) (q0 := 6) rfl rfl rfl hl.1 rfl (Nat.le_of_ble_eq_true rfl) dL_law_318 hr0 ?_
  refine lv_aload_n hx hb dL_law_321 rfl (lv_at hl 3 rfl) ?_
  refine lv_aload_n hx hb dL_law_322 rfl (lv_at hl 1 rfl) ?_
  refine lv_iload hx hb dL_law_323 (lv_at hl 0 rfl) ?_
  refine lv_iconst (v := 1) hx hb dL_law_325 (by decide) ?_
  refine lv_iadd hx hb dL_law_326 ?_
  refine va_sld hx hb hX hbl hbA hS h1 dL_law_327 ?_
  refine lv_aload_n hx hb dL_law_328 rfl (lv_at hl 1 rfl) ?_
  refine lv_iload hx hb dL_law_329 (lv_at hl 0 rfl) ?_
  refine lv_iconst (v := 2) hx hb dL_law_331 (by decide) ?_
  refine lv_iadd hx hb dL_law_332 ?_
  refine va_sld hx hb hX hbl hbA hS h2 dL_law_333 ?_
  refine mu_vi hcf (kX6_step e2) (cwL_X6_step hts) hK hP hD hS hA jL_m (ci := 6) (q0 := 0) rfl rfl rfl hl.1 rfl (Nat.le_of_ble_eq_true rfl) dL_law_334 hr0 (fun H locs hP hD hS => ?_)
  refine lv_icmp_eq (tgt := 1028) hx hb dL_law_337 (by decide) (fun _ => ?_) (fun c9 => absurd rfl c9)
  refine W.widen (k := cells + 1) (n := slots + 8) (by omega) (by omega) ?_
  exact kk _ _ _ hS ⟨_, _, _, _, _, _, _, _, _, _, _, _, _, _, _, _, _, _, _, _, _, _, _, _, _, _, _, _, _, _, _, _, _, _, _, _, _, _, _, _, _, _, _, _, _, _, _, _, _, hP, hD, hB, hH, hT, hf⟩ hl

set_option maxRecDepth 100000 in
set_option maxHeartbeats 4000000 in
theorem law_debtor {p : Program} {l : Launch} {e : Env} {s : State} {m : MethodId} {below : List Frame} {meth : Method} {c : Code} {Q : State → Prop} {D : va_G} {cI cB cL cK : ClassId} {sq sv : Nat → Nat} {qa qb bs L : Nat} {xs : Nat → Int32} {md : Nat → Nat} {ha : Nat} {a : Nat} {b : Nat} {ad : Nat → Nat} {pa : Nat → Nat} {hh : Nat} {hq : Nat} {kad : Nat → Nat → Nat} {ou : Nat} {i : Int32} {H : Heap} {locs : List Loc} {ls : Array Slot} {cells slots : Nat} (C : LwC p l s m c D cI cB cL cK sq sv qa qb bs L xs) (h1 : vp_in (i + 1) L) (h2 : vp_in (i + 2) L) (h3 : vp_in (i + 3) L) (h4 : vp_in (i + 4) L) (h5 : vp_in (i + 5) L) (hr : cells + 1 ≤ room_1.cells ∧ slots + 8 ≤ room_1.slots) (hS : va_S (LwN s) s.heap H locs) (hLS : LwS D cI cB cL cK md ha a b ad pa hh hq kad ou (LwN s) H) (hl : lv_has ls 7 [(4, .int i), (0, .ref bs), (1, .ref ha), (2, .ref (md 0)), (3, .ref ou)]) (kk : ∀ (H : Heap) (locs : List Loc) (ls : Array Slot), va_S (LwN s) s.heap H locs → LwS D cI cB cL cK md ha a b ad pa hh hq kad ou (LwN s) H → lv_has ls 7 [(4, .int i), (0, .ref bs), (1, .ref ha), (2, .ref (md 0)), (3, .ref ou)] → W p l e room_1 s m #[Value.ref bs] below meth c H locs (cells + 1) (slots + 8) Q (F0 m 1028 ls [])) : W p l e room_1 s m #[Value.ref bs] below meth c H locs cells slots Q (F0 m 342 ls []) := by
  obtain ⟨hx, hb, hml, hown, hts, hX, hbl, hK, hZ, hXZ, htr⟩ := id C
  have hA : ∀ q : Nat, s.heap.size ≤ q → LwN s q := fun _ h => h
  have hbA : ¬ LwN s bs := Nat.not_le.mpr hbl
  have hcf : CallFix p m c cL_law 7 s _ wsL_lawN RL := ⟨hx, hb, hml, hown, hts⟩
  have hr0 : cells ≤ room_1.cells ∧ slots ≤ room_1.slots := ⟨Nat.le_trans (Nat.le_add_right _ _) hr.1, Nat.le_trans (Nat.le_add_right _ _) hr.2⟩
  obtain ⟨thr, tpd, siz, too, frm, srt, num, flt, plc, wrd, snm, lin, stp, sfo, hst, tp, nw, rd, kp, sn, lf, us, tf, ho, td, pd, sr, dr, ir, qr, sf, df, jf, qf, oho, otd, opd, osr, odr, oir, oqr, osf, odf, ojf, oqf, ct, tpp, kv, ofn, hP, hD, hB, hH, hT, hf⟩ := hLS
  obtain ⟨ns, nd, ni, no, t, ht9, rfl, rfl, rfl, rfl, rfl, hR⟩ := id hB
  refine lv_aload_n hx hb dL_law_342 rfl (lv_at hl 2 rfl) ?_
  refine lv_aload_n hx hb dL_law_343 rfl (lv_at hl 1 rfl) ?_
  refine lv_iload hx hb dL_law_344 (lv_at hl 0 rfl) ?_
  refine lv_iconst (v := 1) hx hb dL_law_346 (by decide) ?_
  refine lv_iadd hx hb dL_law_347 ?_
  refine va_sld hx hb hX hbl hbA hS h1 dL_law_348 ?_
  refine lv_aload_n hx hb dL_law_349 rfl (lv_at hl 1 rfl) ?_
  refine lv_iload hx hb dL_law_350 (lv_at hl 0 rfl) ?_
  refine lv_iconst (v := 2) hx hb dL_law_352 (by decide) ?_
  refine lv_iadd hx hb dL_law_353 ?_
  refine va_sld hx hb hX hbl hbA hS h2 dL_law_354 ?_
  refine lv_aload_n hx hb dL_law_355 rfl (lv_at hl 4 rfl) ?_
  rcases ask_debtor (thr := thr) (p1 := (xs (i + 1).toNatClampNeg)) (p2 := (xs (i + 2).toNatClampNeg)) hR with ⟨r, e1, e2⟩ | ⟨v, r, e1, e0, e2⟩
  · refine mug_si (Z := fun _ => True) hcf (kL_debtorA e1) (cwL_L_debtorA hts) (fun _ _ _ _ _ => trivial) (fun _ _ _ => trivial) hK hP hD hS hA Jn.last rfl hl.1 rfl (Nat.le_of_ble_eq_true rfl) dL_law_356 hr0 (fun H locs hP hD hS => ?_)
    refine lv_istore (lv' := [(5, .int 0), (4, .int i), (0, .ref bs), (1, .ref ha), (2, .ref (md 0)), (3, .ref ou)]) hx hb dL_law_359 hl (by decide) rfl (fun ls hl => ?_)
    refine lv_aload_n hx hb dL_law_361 rfl (lv_at hl 4 rfl) ?_
    refine lv_aload_n hx hb dL_law_362 rfl (lv_at hl 2 rfl) ?_
    refine lv_iload hx hb dL_law_363 (lv_at hl 1 rfl) ?_
    refine lv_iconst (v := 1) hx hb dL_law_365 (by decide) ?_
    refine lv_iadd hx hb dL_law_366 ?_
    refine va_sld hx hb hX hbl hbA hS h1 dL_law_367 ?_
    refine lv_aload_n hx hb dL_law_368 rfl (lv_at hl 2 rfl) ?_
    refine lv_iload hx hb dL_law_369 (lv_at hl 1 rfl) ?_
    refine lv_iconst (v := 2) hx hb dL_law_371 (by decide) ?_
    refine lv_iadd hx hb dL_law_372 ?_
    refine va_sld hx hb hX hbl hbA hS h2 dL_law_373 ?_
    refine mu_vi hcf (kX6_debtor e2) (cwL_X6_debtor hts) hK hP hD hS hA jL_m (ci := 6) (q0 := 0) rfl rfl rfl hl.1 rfl (Nat.le_of_ble_eq_true rfl) dL_law_374 hr0 (fun H locs hP hD hS => ?_)
    refine lv_istore (lv' := [(6, .int r), (5, .int 0), (4, .int i), (0, .ref bs), (1, .ref ha), (2, .ref (md 0)), (3, .ref ou)]) hx hb dL_law_377 hl (by decide) rfl (fun ls hl => ?_)
    refine lv_aload_n hx hb dL_law_379 rfl (lv_at hl 5 rfl) ?_
    refine rd_v hcf (kX6_thrown (thr := 0) (res := 0) rfl) (cwL_X6_thrown hts) hK hP sL_m (ci := 6) (q0 := 0) rfl rfl rfl hl.1 rfl (Nat.le_of_ble_eq_true rfl) dL_law_380 hr0 ?_
    refine lv_iload hx hb dL_law_383 (lv_at hl 1 rfl) ?_
    refine lv_icmp_eq (tgt := 390) hx hb dL_law_385 (by decide) (fun _ => ?_) (fun c9 => absurd rfl c9)
    refine lv_iload hx hb dL_law_390 (lv_at hl 1 rfl) ?_
    refine lv_if_ne (tgt := 407) hx hb dL_law_392 (by decide) (fun c9 => absurd rfl c9) (fun _ => ?_)
    refine lv_aload_n hx hb dL_law_395 rfl (lv_at hl 6 rfl) ?_
    refine lv_iconst (v := 0) hx hb dL_law_396 (by decide) ?_
    refine va_lald (n := 1) hx hb hK hP 29 2 rfl rfl (inr_in (i := 0) (n := 1) (by decide)) dL_law_397 ?_
    refine lv_iload hx hb dL_law_398 (lv_at hl 0 rfl) ?_
    refine lv_i2l (v := r.toInt64) hx hb dL_law_400 rfl ?_
    refine W.lcmp hx hb dL_law_401 ?_
    refine lv_if_eq (tgt := 407) hx hb dL_law_402 (by decide) (fun _ => ?_) (fun c9 => absurd (cmp_eq.mpr pk_uLs) c9)
    refine lv_goto (tgt := 1028) hx hb dL_law_407 (by decide) ?_
    refine W.widen (k := cells + 1) (n := slots + 8) (by omega) (by omega) ?_
    exact kk _ _ _ hS ⟨_, _, _, _, _, _, _, _, _, _, _, _, _, _, _, _, _, _, _, _, _, _, _, _, _, _, _, _, _, _, _, _, _, _, _, _, _, _, _, _, _, _, _, _, _, _, _, _, _, hP, hD, hB, hH, hT, hf⟩ (lv_sub hl [2, 3, 4, 5, 6] rfl)
  · refine mug_si (Z := fun U => XZ qa qb NoA U U.heap) hcf (kL_debtorB htr e1 e0) (cwL_L_debtorB hts) (fun a U g mk h => XZ.same (u := U) (U := U.calling g mk a) rfl h) (fun U hU hW => by rw [hU]; exact ((hXZ.warm hW).kept hS.2.1).narrow (fun _ h => h.elim)) hK hP hD hS hA Jn.last rfl hl.1 rfl (Nat.le_of_ble_eq_true rfl) dL_law_356 ⟨hr.1, Nat.le_trans (Nat.add_le_add_left (by decide) _) hr.2⟩ (fun H locs hP hD hS => ?_)
    refine lv_istore (lv' := [(5, .int 1), (4, .int i), (0, .ref bs), (1, .ref ha), (2, .ref (md 0)), (3, .ref ou)]) hx hb dL_law_359 hl (by decide) rfl (fun ls hl => ?_)
    refine lv_aload_n hx hb dL_law_361 rfl (lv_at hl 4 rfl) ?_
    refine lv_aload_n hx hb dL_law_362 rfl (lv_at hl 2 rfl) ?_
    refine lv_iload hx hb dL_law_363 (lv_at hl 1 rfl) ?_
    refine lv_iconst (v := 1) hx hb dL_law_365 (by decide) ?_
    refine lv_iadd hx hb dL_law_366 ?_
    refine va_sld hx hb hX hbl hbA hS h1 dL_law_367 ?_
    refine lv_aload_n hx hb dL_law_368 rfl (lv_at hl 2 rfl) ?_
    refine lv_iload hx hb dL_law_369 (lv_at hl 1 rfl) ?_
    refine lv_iconst (v := 2) hx hb dL_law_371 (by decide) ?_
    refine lv_iadd hx hb dL_law_372 ?_
    refine va_sld hx hb hX hbl hbA hS h2 dL_law_373 ?_
    refine mu_vi hcf (kX6_debtor e2) (cwL_X6_debtor hts) hK hP hD hS hA jL_m (ci := 6) (q0 := 0) rfl rfl rfl hl.1 rfl (Nat.le_of_ble_eq_true rfl) dL_law_374 ⟨hr.1, Nat.le_trans (Nat.add_le_add_left (by decide) _) hr.2⟩ (fun H locs hP hD hS => ?_)
    refine lv_istore (lv' := [(6, .int r), (5, .int 1), (4, .int i), (0, .ref bs), (1, .ref ha), (2, .ref (md 0)), (3, .ref ou)]) hx hb dL_law_377 hl (by decide) rfl (fun ls hl => ?_)
    refine lv_aload_n hx hb dL_law_379 rfl (lv_at hl 5 rfl) ?_
    refine rd_v hcf (kX6_thrown (thr := 1) (res := 1) rfl) (cwL_X6_thrown hts) hK hP sL_m (ci := 6) (q0 := 0) rfl rfl rfl hl.1 rfl (Nat.le_of_ble_eq_true rfl) dL_law_380 ⟨hr.1, Nat.le_trans (Nat.add_le_add_left (by decide) _) hr.2⟩ ?_
    refine lv_iload hx hb dL_law_383 (lv_at hl 1 rfl) ?_
    refine lv_icmp_eq (tgt := 390) hx hb dL_law_385 (by decide) (fun _ => ?_) (fun c9 => absurd rfl c9)
    refine lv_iload hx hb dL_law_390 (lv_at hl 1 rfl) ?_
    refine lv_if_ne (tgt := 407) hx hb dL_law_392 (by decide) (fun _ => ?_) (fun c9 => absurd c9 (by decide))
    refine lv_goto (tgt := 1028) hx hb dL_law_407 (by decide) ?_
    refine W.widen (k := cells + 1) (n := slots + 8) (by omega) (by omega) ?_
    exact kk _ _ _ hS ⟨_, _, _, _, _, _, _, _, _, _, _, _, _, _, _, _, _, _, _, _, _, _, _, _, _, _, _, _, _, _, _, _, _, _, _, _, _, _, _, _, _, _, _, _, _, _, _, _, _, hP, hD, hB, hH, hT, hf⟩ (lv_sub hl [2, 3, 4, 5, 6] rfl)
