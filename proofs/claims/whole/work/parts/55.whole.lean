abbrev h23 (cI cB cK : ClassId) (ha : Nat) (w : Nat × Nat × (Nat → Nat) × (Nat → Nat) × Nat × Nat × (Nat → Nat → Nat)) : va_W := (fun (a b : Nat) (ad pa : Nat → Nat) (hh hq : Nat) (kad : Nat → Nat → Nat) => ([(ha, .inr (5, [.ref a, .ref (ad 0), .ref (pa 0), .ref hh, .int 0])), (a, .inr (4, [.ref b, .int 0])), (b, .inl (cB, 640, .inl (fun _ => 0))), (ad 0, .inr (0, [.ref (ad 1), .ref (ad 3), .ref (ad 5), .ref (ad 7), .int 1, .int 0, .int 0])), (ad 1, .inr (3, [.ref (ad 2), .int 3, .int 0])), (ad 2, .inl (cI, 18, .inl (fun _ => 0))), (ad 3, .inr (3, [.ref (ad 4), .int 13, .int 0])), (ad 4, .inl (cI, 78, .inl (fun _ => 0))), (ad 5, .inr (3, [.ref (ad 6), .int 7, .int 0])), (ad 6, .inl (cI, 420, .inl (fun _ => 0))), (ad 7, .inr (3, [.ref (ad 8), .int 4, .int 0])), (ad 8, .inl (cI, 160, .inl (fun _ => 0))), (pa 0, .inr (0, [.ref (pa 1), .ref (pa 3), .ref (pa 5), .ref (pa 7), .int 1, .int 0, .int 0])), (pa 1, .inr (3, [.ref (pa 2), .int 3, .int 0])), (pa 2, .inl (cI, 18, .inl (fun _ => 0))), (pa 3, .inr (3, [.ref (pa 4), .int 13, .int 0])), (pa 4, .inl (cI, 78, .inl (fun _ => 0))), (pa 5, .inr (3, [.ref (pa 6), .int 7, .int 0])), (pa 6, .inl (cI, 420, .inl (fun _ => 0))), (pa 7, .inr (3, [.ref (pa 8), .int 4, .int 0])), (pa 8, .inl (cI, 160, .inl (fun _ => 0))), (hh, .inr (1, [.ref hq, .int 0, .int 0])), (hq, .inl (cK, 10, .inr (.inr (.inr (.inr (fun k => some (kad k 0)))))))] : va_W)) w.1 w.2.1 w.2.2.1 w.2.2.2.1 w.2.2.2.2.1 w.2.2.2.2.2.1 w.2.2.2.2.2.2
theorem st_perm {A B C : va_W} : ((A ++ B) ++ C).Perm ((A ++ C) ++ B) := by
  rw [List.append_assoc, List.append_assoc]
  exact List.perm_append_comm.append_left A
set_option maxRecDepth 100000 in
theorem start_sb {cI cB cL cK : ClassId} {ha ou q2 : Nat} {f2 : Nat → Nat} {w : Nat × Nat × (Nat → Nat) × (Nat → Nat) × Nat × Nat × (Nat → Nat → Nat)} : Sb (((wH cI cB cK ha w.1 w.2.1 w.2.2.1 w.2.2.2.1 w.2.2.2.2.1 w.2.2.2.2.2.1 w.2.2.2.2.2.2 0 0 (fun _ => 0) 1 0 0 0 0 0 0 (fun _ => 0) (fun _ => 0) (fun _ => 0) (fun _ => 0) 1 0 0 0 0 0 0 (fun _ => 0) (fun _ => 0) (fun _ => 0) (fun _ => 0) 0 0 (fun _ => bv0)) ++ (wM cI (bk q2 f2) 0 0 0 0 0 0 0 0 0 0 0 0 0 0 0 (fun _ => 0) (upd (fun _ => 0) 1 1) (fun _ => 0) (fun _ => 0) (fun _ => 0))) ++ [(ou, .inl (cL, 1, .inr (.inl (fun _ => 0))))]) ((wM cI (bk q2 f2) 0 0 0 0 0 0 0 0 0 0 0 0 0 0 0 (fun _ => 0) (upd (fun _ => 0) 1 1) (fun _ => 0) (fun _ => 0) (fun _ => 0)) ++ (wHO cI cB cL cK ha w.1 w.2.1 w.2.2.1 w.2.2.2.1 w.2.2.2.2.1 w.2.2.2.2.2.1 w.2.2.2.2.2.2 ou 0 0 (fun _ => 0) 1 0 0 0 0 0 0 (fun _ => 0) (fun _ => 0) (fun _ => 0) (fun _ => 0) 1 0 0 0 0 0 0 (fun _ => 0) (fun _ => 0) (fun _ => 0) (fun _ => 0) 0 0 (fun _ => bv0) (fun _ => 0))) := by
  refine Sb.perm ?_
  rw [List.append_assoc]
  refine (List.perm_append_comm_assoc _ _ _).trans (List.Perm.append_left _ ?_)
  exact st_perm (A := h23 cI cB cK ha w) (B := wHB cI w.2.2.2.2.2.2 (fun _ => bv0)) (C := [(ou, .inl (cL, 1, .inr (.inl (fun _ => 0))))])
set_option maxRecDepth 100000 in
set_option maxHeartbeats 4000000 in
theorem whole_start {p : Program} {e : Env} {s : State} {m : MethodId} {below : List Frame} {meth : Method} {c : Code} (l : Launch) (hflags : l.flags = flags0) {b L : Nat} {xs : Nat → Int32} (hL : L ≤ 3072) (C0 : lw_At p s m meth c b L xs) : W p l e room_1 s m #[Value.ref b] below meth c s.heap [] 0 0 (lw_Z below #[Value.ref b] s) (entryFrame m ([Value.ref b] : List Value).toArray 7) := by
  obtain ⟨hx, hb, hr, hml, hown, hts0, hX, hbl, hlocks, hgv⟩ := C0
  have hts : ∀ w ∈ wsL_lawN, w.before #[Value.ref b] s = true := fun w hw => hts0 w (wsL_lawN_in w hw)
  obtain ⟨D, cI, cB, cL, cK, hK⟩ := law_K hts0
  obtain ⟨sq, sv, hZ⟩ := law_ZR hts0 hgv
  obtain ⟨qa, qb, hXZ⟩ := law_XZ hts0 hgv
  have hO : va_AO "DunningHouse$Book" s := va_AO.of (hts0 _ w9_aK)
  have C : LwC p l s m c D cI cB cL cK sq sv qa qb b L xs := ⟨hx, hb, hml, hown, hts, hX, hbl, hK, hZ, hXZ, law_tr hflags⟩
  have hcf : CallFix p m c cL_law 7 s _ wsL_lawN RL := ⟨hx, hb, hml, hown, hts⟩
  have hA : ∀ q : Nat, s.heap.size ≤ q → LwN s q := fun _ h => h
  have hS : va_S (LwN s) s.heap s.heap [] := va_S.rf
  have hP : va_P D vwCl [] s.heap := fun k q h => by simp at h
  have hD : va_D (LwN s) [] := ⟨fun i j p q h => by simp at h, fun k q h => by simp at h⟩
  have hl := lv_entry ([.ref b]) (n := 7) (Nat.le_of_ble_eq_true rfl)
  rw [lg_entry_eq]
  generalize (lg_sl ([.ref b]) ++ List.replicate (7 - (lg_sl ([.ref b])).length) Slot.unset).toArray = ls at hl ⊢
  have hl : lv_has ls 7 [(0, .ref b)] := hl
  refine va_new (ci := 5) (fs := [.null, .null, .null, .null, .int 0]) (C := RX5) (T := TX5) (N := 5) hx hb hts0 in9_X5 tyX5 tyX5_ok hown (hts0 _ w9_c8) (hts0 _ ins9_X5) (hts0 _ w9_n5) hK hP hD hS hA rfl nfs5 (Nat.le_of_ble_eq_true rfl) (Nat.le_of_ble_eq_true rfl) dL_law_0 (fun ha H hP hD hS => ?_)
  refine lv_dup hx hb dL_law_3 rfl ?_
  refine mk_iO (rest := [.ref ha]) hcf (kX5_init (ha := ha)) (cwI 0 hts gL_law_X5_init rfl rfl rfl (hts0 _ w9_n5) (hts0 _ w9_m15) (hts0 _ w9_j5) rfl (by decide +kernel) ⟨(Nat.le_of_ble_eq_true rfl), (Nat.le_of_ble_eq_true rfl)⟩) hK hO hP hD hS hA Sb.right (fun _ => Jn.last) rfl hl.1 rfl (Nat.le_of_ble_eq_true rfl) dL_law_4 ⟨(Nat.le_of_ble_eq_true rfl), (Nat.le_of_ble_eq_true rfl)⟩ (fun w H locs hP hD hS => ?_)
  have hP : va_P D vwCl (wH cI cB cK ha w.1 w.2.1 w.2.2.1 w.2.2.2.1 w.2.2.2.2.1 w.2.2.2.2.2.1 w.2.2.2.2.2.2 0 0 (fun _ => 0) 1 0 0 0 0 0 0 (fun _ => 0) (fun _ => 0) (fun _ => 0) (fun _ => 0) 1 0 0 0 0 0 0 (fun _ => 0) (fun _ => 0) (fun _ => 0) (fun _ => 0) 0 0 (fun _ => bv0)) H := hP
  have hD : va_D (LwN s) (wH cI cB cK ha w.1 w.2.1 w.2.2.1 w.2.2.2.1 w.2.2.2.2.1 w.2.2.2.2.2.1 w.2.2.2.2.2.2 0 0 (fun _ => 0) 1 0 0 0 0 0 0 (fun _ => 0) (fun _ => 0) (fun _ => 0) (fun _ => 0) 1 0 0 0 0 0 0 (fun _ => 0) (fun _ => 0) (fun _ => 0) (fun _ => 0) 0 0 (fun _ => bv0)) := hD
  refine lv_astore_n (lv' := [(1, .ref ha), (0, .ref b)]) hx hb dL_law_7 rfl hl (by decide) rfl (fun ls hl => ?_)
  refine va_new (ci := 6) (fs := [.int 0, .null, .int 0, .int 0, .int 0, .int 0, .int 0, .int 0, .int 0, .int 0, .long 0, .null, .null, .null, .null, .int 0, .int 0, .int 0, .int 0, .int 0]) (C := RX6) (T := TX6) (N := 20) hx hb hts0 in9_X6 tyX6 tyX6_ok hown (hts0 _ w9_c16) (hts0 _ ins9_X6) (hts0 _ w9_n6) hK hP hD hS hA rfl nfs6 (Nat.le_of_ble_eq_true rfl) (Nat.le_of_ble_eq_true rfl) dL_law_8 (fun q2 H hP hD hS => ?_)
  refine lv_dup hx hb dL_law_11 rfl ?_
  refine mk_i (rest := [.ref q2]) hcf (kX6_init (a := q2)) (cwI 0 hts gL_law_X6_init rfl rfl rfl (hts0 _ w9_n6) (hts0 _ w9_m18) (hts0 _ w9_j6) rfl (by decide +kernel) ⟨(Nat.le_of_ble_eq_true rfl), (Nat.le_of_ble_eq_true rfl)⟩) hK hP hD hS hA Sb.right (fun _ => Jn.last) rfl hl.1 rfl (Nat.le_of_ble_eq_true rfl) dL_law_12 ⟨(Nat.le_of_ble_eq_true rfl), (Nat.le_of_ble_eq_true rfl)⟩ (fun f2 H locs hP hD hS => ?_)
  refine lv_astore_n (lv' := [(2, .ref q2), (1, .ref ha), (0, .ref b)]) hx hb dL_law_15 rfl hl (by decide) rfl (fun ls hl => ?_)
  refine lv_iconst (v := 1) hx hb dL_law_16 (by decide) ?_
  refine va_newa (atype := .long) (ty := .long) (N' := 1) (a0 := (1, .inr (.inl (fun _ => 0)))) hx hb (hts0 _ w9_aL) rfl hK hP hD hS hA (fun cA => rfl) (by decide) (by decide) (by decide) (Nat.le_of_ble_eq_true rfl) (Nat.le_of_ble_eq_true rfl) dL_law_17 (fun ou cA H hK1 hP hD hS => ?_)
  have e9 : cA = cL := Option.some.inj ((hK1.2 4 _ rfl).2.symm.trans (hK1.2 2 _ rfl).2)
  subst e9
  refine lv_astore_n (lv' := [(3, .ref ou), (2, .ref q2), (1, .ref ha), (0, .ref b)]) hx hb dL_law_19 rfl hl (by decide) rfl (fun ls hl => ?_)
  refine lv_iconst (v := 0) hx hb dL_law_20 (by decide) ?_
  refine lv_istore (lv' := [(4, .int 0), (3, .ref ou), (2, .ref q2), (1, .ref ha), (0, .ref b)]) hx hb dL_law_21 hl (by decide) rfl (fun ls hl => ?_)
  have hsb := start_sb (cI := cI) (cB := cB) (cL := cA) (cK := cK) (ha := ha) (ou := ou) (q2 := q2) (f2 := f2) (w := w)
  refine W.widen (k := 120 + 0) (n := 19866 + 8 * 0) (Nat.le_of_ble_eq_true rfl) (Nat.le_of_ble_eq_true rfl) ?_
  exact law_loop (md := bk q2 f2) hL C hr hlocks (L + 1) 0 (by omega) (by omega) _ _ ls hS ⟨_, _, _, _, _, _, _, _, _, _, _, _, _, _, _, _, _, _, _, _, _, _, _, _, _, _, _, _, _, _, _, _, _, _, _, _, _, _, _, _, _, _, _, _, _, _, _, _, _, hP.sb hsb, hD.sb hsb, BK0, HI0, TP0, rfl⟩ (lv_sub hl [0, 4, 3, 2, 1] rfl)
-- ===== YOUR PART ENDS =====
set_option maxHeartbeats 4000000 in
theorem lw_walk (l : Launch) (hflags : l.flags = flags0) (b : Addr) (xs : List Int32) : MetFree l x (headSpec (Jvm.Cond.code x code maxLocals ret :: tables_1) room_1) (lw_P b xs) (fun _ _ _ _ _ => True) lw_Q := by
  refine MetFree.of_bodyS (code := code) (maxLocals := maxLocals) (ret := ret) (by decide) ?_ ?_
  · intro args s m h hn
    obtain ⟨meth, c, h1, h2, h3, h4, h5, h6, -, -⟩ := Cond.code_spec hn (atoms_spec (ws := Jvm.Cond.code x code maxLocals ret :: tables_1) h _ List.mem_cons_self)
    exact ⟨meth, c, h1, h2, h3, h4, h5, h6⟩
  · intro p e s m args below meth c s₁ B hml0 hP _
    obtain ⟨rfl, hx, hbd, hgv⟩ := hP
    obtain ⟨scr, harrAt, hlist, hof, hsmall⟩ := hx
    obtain ⟨hcb, hkn, -, -⟩ := State.arrayAt?_spec harrAt
    have hown : s.vm.findClass R_law = some m.cls := findClass_of_methodNamed B.named
    have hts0 : ∀ c ∈ (Jvm.Cond.code x code maxLocals ret :: tables_1), c.before #[Value.ref b] s = true := atoms_spec (ws := Jvm.Cond.code x code maxLocals ret :: tables_1) B.pre
    have hts : ∀ w ∈ lw_tbl, w.before #[Value.ref b] s = true := k2_hts_sels lw_privs (fun w hw => hts0 w (List.mem_cons_of_mem _ hw)) lw_privs_ok
    have hml : c.maxLocals = 7 := B.maxLocals_eq (hts0 _ List.mem_cons_self)
    have X₀ : Stand p l e room_1 s m #[Value.ref b] below meth c s₁ [] 0 0 := Stand.of_body B
    have hh0 : s₁.heap = s.heap := by rw [B.state]; rfl
    have hsz : scr.slots.size = xs.length := by rw [← Array.length_toList, hlist, List.length_map]
    have hval : ∀ j : Nat, j < xs.length → scr.slots[j]? = some (.int (xs.getD j 0)) := fun j hj => by
      rw [← Array.getElem?_toList, hlist]
      simp [hj]
    have hbl : b < s.heap.size := (Array.getElem?_eq_some_iff.mp hcb).1
    have hX : va_X b xs.length (fun j => xs.getD j 0) s s.heap := ⟨scr, hcb, hof, hkn, hsz, hval⟩
    have K : W p l e room_1 s m #[Value.ref b] below meth c s₁.heap [] 0 0 (lw_Z below #[Value.ref b] s) (entryFrame m ([Value.ref b] : List Value).toArray 7) := by
      rw [hh0]
      exact whole_start l hflags hbd ⟨B.exec, B.bytes, B.returns, hml, hown, hts, hX, hbl, B.notSynchronized, hgv⟩
    obtain ⟨t, a1, o, b1, b2, b3⟩ := K s₁ rfl X₀
    exact ⟨t, o, a1, b1, b2, b3⟩
theorem lw_pre_spec {args : Array Value} {s : State} (h : (Jvm.Cond.and given_1 narrow_1).before args s = true) (hr : rest_1_c.before args s = true) : ∃ (b : Addr) (xs : List Int32), lw_P b xs args s := by
  have hs := flat_of_before _ h
  have hq := flat_of_before _ hr
  have hc : (Cond.count 1).before args s = true := hs _ (by decide +kernel)
  have harr : (Cond.arrayOf (.arg 0) .int).before args s = true := hs _ (by decide +kernel)
  have hle : (Cond.le (.length (.arg 0)) (.int 3072)).before args s = true := hs _ (by decide +kernel)
  have hlen : (Cond.isInt (.length (.arg 0))).before args s = true := hq _ (by decide +kernel)
  have hall : (Cond.all (.arg 0) (.isInt (.elem (.arg 0) (.index 0)))).before args s = true := hq _ (by decide +kernel)
  obtain ⟨b, xs, hb, hx⟩ := State.ints_of_pre rfl harr hlen hall
  have hsm : xs.length < 2 ^ 31 := hx.choose_spec.2.2.2
  have hev : (Term.length (.arg 0)).eval args s none [] s = some (.int xs.length.toInt32) := hx.length_eval hb
  have hv := Cond.le_ints hev (show (Term.int 3072).eval args s none [] s = some (.int 3072) from rfl)
  have hd : xs.length.toInt32 ≤ 3072 := by
    simpa [Cond.before, Cond.holds, hv] using hle
  have hN : xs.length ≤ 3072 := (Int32.ofNat_le_ofNat hsm (by decide)).mp (show Int32.ofNat xs.length ≤ Int32.ofNat 3072 from hd)
  exact ⟨b, xs, Cond.one_arg hc (show args[0]? = some (.ref b) from hb), hx, hN, h⟩
theorem lw_comes (l : Launch) (hflags : l.flags = flags0) : Comes l x (Jvm.Cond.code x code maxLocals ret :: tables_1) room_1 (fun tb e args s => Calls_1 tb e args s ∧ rest_1 tb e args s ∧ Pre_1 tb e args s)
    (fun _ _ args s o t => lw_Q args s o t) := by
  intro p e ha hc hk s m args below hf hfit hheap happ hpre
  obtain ⟨b, xs, hP⟩ := lw_pre_spec hpre.2.2 hpre.2.1
  obtain ⟨k, o, h1, h2, h3, hQ⟩ := lw_walk l hflags b xs p e ha hc hk s m args below hf ((Spec.applies_iff_loose hf).mp happ).1 hP trivial
  exact ⟨k, o, h1, h2, h3, hQ⟩
theorem lw_frame {s t : State} {o : Outcome} {args : Array Value} (h : Framed s o t [] 601024 7293034) :
    Framed s o t (fieldLocs frame_1_writes args s ++ arrayLocs frame_1_arrays args s ++ staticLocs frame_1_statics s) 601024 7293034 := h
theorem lw_limb (L : Cond) (hL : ∀ (args : Array Value) (s t : State), L.after args s (.returned (some (.int 1))) t = true) :
    ArmFor flags0 classFile x code maxLocals ret World_1 tables_1 room_1 Calls_1 rest_1 Pre_1
      (fun tb e a s o t => postC L tb e a s o t ∧ Framed s o t (fieldLocs frame_1_writes a s ++ arrayLocs frame_1_arrays a s ++ staticLocs frame_1_statics s) 601024 7293034) := by
  intro l hflags _ _ p e ha hc hk s m args below hf hfit hheap happ hpre
  obtain ⟨k, o, h1, h2, h3, rfl, hF⟩ := lw_comes l hflags p e ha hc hk s m args below hf hfit hheap happ hpre
  exact ⟨k, _, h1, h2, h3, hL args s _, lw_frame hF⟩
theorem i_vc : Claimed_1_1 ∧ Claimed_1_2 := ⟨lw_limb limb_1_1 (fun args s t => by simp [limb_1_1, Cond.after, Cond.holds, Cond.value]), lw_limb limb_1_2 (fun args s t => Cond.after_iff.mpr (by
  first | (rw [show limb_1_2 = Cond.eq .result (.int 1) from rfl, Cond.eq_ints (x := 1) (y := 1) rfl rfl]; simp; done) | (simp [limb_1_2, Cond.value, Term.eval]; done)))⟩
