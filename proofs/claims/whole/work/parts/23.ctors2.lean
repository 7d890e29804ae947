/-! the history's and the house's constructors -/
def MkO {β : Type} (l : Launch) (D : va_G) (cI cB cL cK : ClassId) (y : MethodName) (ws : List Cond) (rm : Room) (av : List Value) (wc : va_W) (wc' : β → va_W) (mc ms : Nat) : Prop :=
  ∀ sz : Nat, Met l y ws rm (va_Pc av (fun U => U.heap.size = sz ∧ va_P D vwCl wc U.heap ∧ va_K D vwCl (TYS cI cB cL cK) U ∧ va_D (fun _ => True) wc ∧ va_AO "DunningHouse$Book" U)) (QE D wc wc' sz) mc ms (va_A wc sz)
section MkOA
variable {β : Type} {l : Launch} {D : va_G} {cI cB cL cK : ClassId} {y : MethodName} {ws ws' : List Cond} {rm : Room} {av : List Value} {wc : va_W} {wc' : β → va_W} {cc : ByteArray} {maxL mc ms : Nat} {own : String}
theorem MkO.of (hy : plainName y.cls = true) (hw : ws = Cond.code y cc maxL none :: ws') (ho : y.cls = own) (hle : (lg_sl av).length ≤ maxL)
    (h : ∀ (p : Program) (e : Env) (s : State) (m : MethodId) (below : List Frame) (meth : Method) (c : Code) (ls : Array Slot) (Q : State → Prop) (A : Nat → Prop), Cx p s m av.toArray meth c cc none maxL ws own D cI cB cL cK → va_AO "DunningHouse$Book" s → meth.name = y.name → (∀ q : Nat, s.heap.size ≤ q → A q) → va_P D vwCl wc s.heap → va_D A wc → va_S A s.heap s.heap [] → lv_has ls maxL (lv_args 0 av) →
      (∀ (b : β) (pc : Nat) (ls : Array Slot) (H : Heap) (locs : List Loc), decode cc pc = .ok (.return_, 1) → va_P D vwCl (wc' b) H → va_D A (wc' b) → va_S A s.heap H locs → W p l e rm s m av.toArray below meth c H locs mc ms Q (F0 m pc ls [])) →
      W p l e rm s m av.toArray below meth c s.heap [] 0 0 Q (F0 m 0 ls [])) : MkO l D cI cB cL cK y ws rm av wc wc' mc ms := by
  intro sz
  refine Met.ofW (cc := cc) (maxL := maxL) (ret := none) hy hw ?_
  intro p e s m args below meth c s₁ B hml hv
  obtain ⟨rfl, hsz, hP, hK, hD0, hO⟩ := hv
  subst hsz
  have hts := atoms_spec (ws := ws) B.pre
  have hown : s.vm.findClass own = some m.cls := by rw [← ho]; exact findClass_of_methodNamed B.named
  have hin : meth.name = y.name := (name_of_methodNamed B.named B.method).1
  have hl := lv_entry av (n := maxL) hle
  rw [lg_entry_eq]
  have hlk := B.notSynchronized
  refine h p e s m below meth c _ _ (va_A wc s.heap.size) ⟨B.exec, B.bytes, B.returns, hml, hown, hts, hlk, hK⟩ hO hin (fun q h => Or.inr h) hP (hD0.self (sz := s.heap.size)) va_S.rf hl (fun b pc ls H locs hd hP1 hD1 hS => ?_)
  exact W.vret B.exec B.bytes B.returns (fun t ht _ => ⟨rfl, b, by rw [ht]; exact hP1, hD1, hS.F ht⟩) hS.2.2 hd hlk
end MkOA
section MkOB
variable {β : Type} {p : Program} {l : Launch} {e : Env} {R : Room} {s : State} {m : MethodId} {args : Array Value} {below : List Frame} {meth : Method} {c : Code} {H H0 : Heap} {locs : List Loc} {cells slots : Nat} {Q : State → Prop} {A : Nat → Prop} {D : va_G} {cI cB cL cK : ClassId} {pc nL : Nat} {ls : Array Slot} {rest st0 As : List Value} {cc bytes : ByteArray} {maxL n index mc ms ci k : Nat} {ws Ts : List Cond} {rm : Room} {own C : String} {y : MethodName} {b : Nat} {X wc : va_W} {wc' X' : β → va_W}
theorem mk_iO (S : CallFix p m c cc nL s args Ts own) (hM : MkO l D cI cB cL cK y ws rm (.ref b :: As) wc wc' mc ms) (cw : CallB R s args own index y bytes maxL none ws rm mc ms n ∧ y.name = "<init>" ∧ (Cond.instanceMethod y).before args s = true) (hK : va_K D vwCl (TYS cI cB cL cK) s) (hO : va_AO "DunningHouse$Book" s) (hP : va_P D vwCl X H) (hD : va_D A X) (hS : va_S A H0 H locs) (hA : ∀ q : Nat, H0.size ≤ q → A q) (hs : Sb X wc) (hJ : ∀ z : β, Jn X (X' z) wc (wc' z))
    (hn : As.length = n) (hsize : ls.size = nL) (hst : st0 = As.reverse ++ .ref b :: rest) (hw : (rest.map fun v => v.category).sum ≤ 8) (hdg : decode cc pc = .ok (.invokespecial index, 3)) (hf : cells + mc ≤ R.cells ∧ slots + ms ≤ R.slots)
    (kk : ∀ (z : β) (H1 : Heap) (locs1 : List Loc), va_P D vwCl (X' z) H1 → va_D A (X' z) → va_S A H0 H1 locs1 → W p l e R s m args below meth c H1 locs1 (cells + mc) (slots + ms) Q (F0 m (pc + 3) ls rest)) : W p l e R s m args below meth c H locs cells slots Q (F0 m pc ls st0) := by
  have hr := va_runI (rest := rest) (e := e) (below := below) (meth := meth) (locs := locs) (cells := cells) (slots := slots) (g := F0 m pc ls st0) S (hM H.size) cw ⟨fun a U g mk q => ⟨q.1, q.2.1, q.2.2.1, va_K.moved (u := U) (U := U.calling g mk a) (Vm.Alike.refl U.vm) q.2.2.2.1, q.2.2.2.2.1, va_AO.moved (u := U) (U := U.calling g mk a) (Vm.Alike.refl U.vm) q.2.2.2.2.2⟩, fun U hU hW => ⟨rfl, by rw [hU], by rw [hU]; exact hP.sb hs, va_K.moved hW.alike hK, (hD.sb hs).weaken (fun _ _ _ _ => trivial), hO.moved hW.alike⟩⟩ rfl hn hsize hst (lv_room hw) hdg hf
  intro T hT Xs
  obtain ⟨v, st₀, t, T', L, h0, Xs', hL, e1, e2, ⟨hv, z, hp, hd, hz, hk⟩, st⟩ := hr T hT Xs
  cases hv
  have hF := (hJ z).free hD hS hA
  rw [h0] at hz hk
  rw [← e1] at hp hz
  have hk' : ∀ q : Nat, q < H.size → ¬ va_A wc H.size q → T'.heap[q]? = H[q]? := fun q h1 h2 => by rw [e1]; exact hk q h1 h2
  obtain ⟨hP1, hD1⟩ := (hJ z).2 D A H T'.heap hP hD hk' hF hp hd
  obtain ⟨t2, a1, b1⟩ := kk z T'.heap (locs ++ L) hP1 hD1
    ⟨Nat.le_trans hS.1 hz, fun q h1 h2 => by rw [hk' q (Nat.lt_of_lt_of_le h1 hS.1) (fun z => h2 (hF q z))]; exact hS.2.1 q h1 h2, fun q hq => by
      rcases List.mem_append.mp hq with h | h
      · exact hS.2.2 q h
      · exact hF _ (hL q h)⟩ T' rfl Xs'
  exact ⟨t2, st t2 a1, b1⟩
theorem arr_K {cA : ClassId} (hK : va_K D vwCl (TYS cI cB cL cK ++ [(cA, .object "DunningHouse$Book")]) s) : cA = cK := by
  obtain ⟨-, -, -, -, -, h1⟩ := (hK.2 4 _ rfl).2
  obtain ⟨-, -, -, -, -, h2⟩ := (hK.2 3 _ rfl).2
  exact Option.some.inj (h1.symm.trans h2)
theorem va_P.conv {q : Nat} {cA : ClassId} {x y : vp_A} {pre post : va_W} (h : vp_cell cA x = vp_cell cA y) (hP : va_P D vwCl (pre ++ (q, .inl (cA, x)) :: post) H) : va_P D vwCl (pre ++ (q, .inl (cA, y)) :: post) H := by
  rw [va_P_mem] at hP ⊢
  intro z hz
  rcases List.mem_append.mp hz with w | w
  · exact hP z (List.mem_append_left _ w)
  · rcases List.mem_cons.mp w with w | w
    · subst w
      have h1 := hP (q, .inl (cA, x)) (List.mem_append_right _ List.mem_cons_self)
      show H[q]? = some (vp_cell cA y)
      rw [← h]
      exact h1
    · exact hP z (List.mem_append_right _ (List.mem_cons_of_mem _ w))
theorem va_D.conv {q : Nat} {e1 e2 : va_E} {pre post : va_W} (hD : va_D A (pre ++ (q, e1) :: post)) : va_D A (pre ++ (q, e2) :: post) := by
  rw [va_D_nd] at hD ⊢
  refine ⟨?_, fun z hz => ?_⟩
  · have e : (pre ++ (q, e2) :: post).map Prod.fst = (pre ++ (q, e1) :: post).map Prod.fst := by simp
    rw [e]; exact hD.1
  · rcases List.mem_append.mp hz with w | w
    · exact hD.2 z (List.mem_append_left _ w)
    · rcases List.mem_cons.mp w with w | w
      · subst w
        exact hD.2 (q, e1) (List.mem_append_right _ List.mem_cons_self)
      · exact hD.2 z (List.mem_append_right _ (List.mem_cons_of_mem _ w))
end MkOB
abbrev bv0 : BV := (1, 0, 0, 0, 0, 0, 0, fun _ => 0, fun _ => 0, fun _ => 0, fun _ => 0)
def wHi (cI : ClassId) (kad : Nat → Nat → Nat) (i : Nat) : va_W := (List.range i).flatMap (fun k => wBv cI (kad k) bv0)
def fHi (kad : Nat → Nat → Nat) (i : Nat) : Nat → Option Nat := fun k => if k < i then some (kad k 0) else none
theorem wHi_s {cI : ClassId} {kad : Nat → Nat → Nat} {i : Nat} {ad : Nat → Nat} : wHi cI (va_up kad i ad) (i + 1) = wHi cI kad i ++ wBv cI ad bv0 := by
  unfold wHi
  rw [List.range_succ, List.flatMap_append]
  have h : (List.range i).flatMap (fun k => wBv cI (va_up kad i ad k) bv0) = (List.range i).flatMap (fun k => wBv cI (kad k) bv0) := by
    rw [List.flatMap_def, List.flatMap_def]
    exact congrArg List.flatten (List.map_congr_left (fun j hj => by rw [va_up_ne _ _ (Nat.ne_of_lt (List.mem_range.mp hj))]))
  have h2 : [i].flatMap (fun k => wBv cI (va_up kad i ad k) bv0) = wBv cI ad bv0 := by
    rw [List.flatMap_cons, List.flatMap_nil, List.append_nil, va_up_self]
  rw [h, h2]
theorem fHi_s {kad : Nat → Nat → Nat} {i q : Nat} {f : Nat → Nat} : va_up (fHi kad i) i (some q) = fHi (va_up kad i (bk q f)) (i + 1) := by
  funext k
  unfold fHi
  by_cases h : k = i
  · subst h
    rw [va_up_self, va_up_self, if_pos (Nat.lt_succ_self k)]
    rfl
  · rw [va_up_ne _ _ h, va_up_ne _ _ h]
    by_cases h2 : k < i
    · rw [if_pos h2, if_pos (Nat.lt_succ_of_lt h2)]
    · rw [if_neg h2, if_neg (by omega)]
theorem permL {A B C : va_W} : ((A ++ B) ++ C).Perm ((A ++ C) ++ B) := by
  rw [List.append_assoc, List.append_assoc]
  exact List.perm_append_comm.append_left A
theorem nfs0 (j : Nat) (hj : j < 7) : defaultValue (tyX0 j) = vp_V [.null, .null, .null, .null, .int 0, .int 0, .int 0] j := by
  rcases (show j = 0 ∨ j = 1 ∨ j = 2 ∨ j = 3 ∨ j = 4 ∨ j = 5 ∨ j = 6 by omega) with rfl | rfl | rfl | rfl | rfl | rfl | rfl <;> rfl
theorem hdX0_init : yX0_init.cls = RX0 ∧ yX0_init.cls ≠ "java/lang/invoke/MethodHandle" ∧ yX0_init.cls ≠ "java/lang/invoke/VarHandle" ∧ (parseMethodDescriptor yX0_init.desc).map (fun d => d.parameters.length) = some 0 := by decide +kernel

theorem oiX1_init_1 : Cond.methodLink RX1 3 objectInit ∈ wsX1_init := by decide +kernel
theorem oiX1_init_2 : Cond.instanceMethod objectInit ∈ wsX1_init := by decide +kernel
theorem oiX1_init_3 : Cond.code objectInit ⟨#[0xb1]⟩ 1 none ∈ wsX1_init := List.mem_of_getElem? (i := 3) rfl
theorem inX1_init_X1 : ∀ w ∈ u_ws RX1 TX1 3, w ∈ wsX1_init := by decide +kernel
theorem inX1_init_X0 : ∀ w ∈ u_ws RX0 TX0 7, w ∈ wsX1_init := by decide +kernel
theorem fpX1_init_11 : Fp wsX1_init RX1 11 1 0 true (.array (.object "DunningHouse$Book")) := ⟨_, _, _, tyX1, rfl, by decide, inX1_init_X1, by decide +kernel, tyX1_ok, nmX1, rfl, rfl, by decide +kernel⟩
theorem fpX1_init_18 : Fp wsX1_init RX1 18 1 1 false .int := ⟨_, _, _, tyX1, rfl, by decide, inX1_init_X1, by decide +kernel, tyX1_ok, nmX1, rfl, rfl, by decide +kernel⟩
theorem fpX1_init_22 : Fp wsX1_init RX1 22 1 2 false .int := ⟨_, _, _, tyX1, rfl, by decide, inX1_init_X1, by decide +kernel, tyX1_ok, nmX1, rfl, rfl, by decide +kernel⟩
theorem flX1_init_11 : Fl wsX1_init RX1 11 1 0 := ⟨_, _, _, rfl, by decide, inX1_init_X1, by decide +kernel⟩
theorem nf_X1_1 : Cond.classLink RX1 9 RX0 ∈ wsX1_init := by decide +kernel
theorem nf_X1_2 : Cond.instantiable RX0 7 ∈ wsX1_init := by decide +kernel
theorem nf_X1_3 : Cond.initialized RX0 ∈ wsX1_init := by decide +kernel
theorem nf_X1_4 : Cond.methodLink RX1 17 yX0_init ∈ wsX1_init := by decide +kernel
theorem nf_X1_5 : Cond.instanceMethod yX0_init ∈ wsX1_init := by decide +kernel
abbrev rmX1_init : Room := { frames := 3, cells := 91, slots := 6960, locals := 63 }
set_option maxRecDepth 100000 in
set_option maxHeartbeats 4000000 in
theorem tX1_init_L15 {p : Program} {l : Launch} {e : Env} {s : State} {m : MethodId} {args : Array Value} {below : List Frame} {meth : Method} {c : Code} {Q : State → Prop} {A : Nat → Prop} {D : va_G} {cI cB cL cK : ClassId} {a hq : Nat} (C : Cx p s m args meth c cX1_init none 2 wsX1_init RX1 D cI cB cL cK) (hA : ∀ q : Nat, s.heap.size ≤ q → A q)
    (hret : ∀ (kad : Nat → Nat → Nat) (pc : Nat) (ls : Array Slot) (H : Heap) (locs : List Loc), decode cX1_init pc = .ok (.return_, 1) → va_P D vwCl ([(a, .inr (1, [.ref hq, .int 0, .int 0])), (hq, .inl (cK, 10, .inr (.inr (.inr (.inr (fHi kad 10))))))] ++ wHi cI kad 10) H → va_D A ([(a, .inr (1, [.ref hq, .int 0, .int 0])), (hq, .inl (cK, 10, .inr (.inr (.inr (.inr (fHi kad 10))))))] ++ wHi cI kad 10) → va_S A s.heap H locs → W p l e rmX1_init s m args below meth c H locs 91 6960 Q (F0 m pc ls [])) :
    ∀ (n i : Nat), i + n = 10 → ∀ (kad : Nat → Nat → Nat) (H : Heap) (locs : List Loc) (ls : Array Slot), va_P D vwCl ([(a, .inr (1, [.ref hq, .int 0, .int 0])), (hq, .inl (cK, 10, .inr (.inr (.inr (.inr (fHi kad i))))))] ++ wHi cI kad i) H → va_D A ([(a, .inr (1, [.ref hq, .int 0, .int 0])), (hq, .inl (cK, 10, .inr (.inr (.inr (.inr (fHi kad i))))))] ++ wHi cI kad i) → va_S A s.heap H locs → lv_has ls 2 [(0, .ref a), (1, .int (nI i))] → W p l e rmX1_init s m args below meth c H locs (1 + 9 * i) (10 + 695 * i) Q (F0 m 15 ls []) := by
  obtain ⟨hx, hb, hr, hml, hown, hts, hlk, hK⟩ := id C
  have hcf : CallFix p m c cX1_init 2 s args wsX1_init RX1 := ⟨hx, hb, hml, hown, hts⟩
  intro n
  induction n with
  | zero =>
    intro i hi kad H locs ls hP hD hS hl
    have hi : i = 10 := by omega
    subst hi
    refine lv_iload_n hx hb dX1_init_15 rfl (lv_at hl 1 rfl) ?_
    refine lv_aload_n hx hb dX1_init_16 rfl (lv_at hl 0 rfl) ?_
    refine gf (q0 := 0) hx hb hts hown hK flX1_init_11 hP rfl rfl dX1_init_17 ?_
    refine aln (q0 := 1) (t0 := 3) (i := 10) hx hb hK hP rfl rfl rfl dX1_init_20 ?_
    refine lv_icmp_ge (tgt := 43) hx hb dX1_init_21 (by decide) (fun c_1 => ?_) (fun c_1 => absurd (by decide) c_1)
    refine lv_aload_n hx hb dX1_init_43 rfl (lv_at hl 0 rfl) ?_
    refine lv_iconst (v := 0) hx hb dX1_init_44 (by decide) ?_
    refine pf (q0 := 0) (X' := [(a, .inr (1, [.ref hq, .int 0, .int 0])), (hq, .inl (cK, 10, .inr (.inr (.inr (.inr (fHi kad 10))))))] ++ wHi cI kad 10) hx hb hts hown hK fpX1_init_18 hP hD hS rfl rfl rfl (Nat.le_of_ble_eq_true rfl) rfl dX1_init_45 (fun H locs hP hD hS => ?_)
    refine lv_aload_n hx hb dX1_init_48 rfl (lv_at hl 0 rfl) ?_
    refine lv_iconst (v := 0) hx hb dX1_init_49 (by decide) ?_
    refine pf (q0 := 0) (X' := [(a, .inr (1, [.ref hq, .int 0, .int 0])), (hq, .inl (cK, 10, .inr (.inr (.inr (.inr (fHi kad 10))))))] ++ wHi cI kad 10) hx hb hts hown hK fpX1_init_22 hP hD hS rfl rfl rfl (Nat.le_of_ble_eq_true rfl) rfl dX1_init_50 (fun H locs hP hD hS => ?_)
    exact hret kad _ _ _ _ dX1_init_53 hP hD hS
  | succ n ih =>
    intro i hi kad H locs ls hP hD hS hl
    have hi9 : i < 10 := by omega
    refine lv_iload_n hx hb dX1_init_15 rfl (lv_at hl 1 rfl) ?_
    refine lv_aload_n hx hb dX1_init_16 rfl (lv_at hl 0 rfl) ?_
    refine gf (q0 := 0) hx hb hts hown hK flX1_init_11 hP rfl rfl dX1_init_17 ?_
    refine aln (q0 := 1) (t0 := 3) (i := 10) hx hb hK hP rfl rfl rfl dX1_init_20 ?_
    refine lv_icmp_ge (tgt := 43) hx hb dX1_init_21 (by decide) (fun c_1 => absurd c_1 (nI_ge (b := 10) hi9 (by decide))) (fun c_1 => ?_)
    refine lv_aload_n hx hb dX1_init_24 rfl (lv_at hl 0 rfl) ?_
    refine gf (q0 := 0) hx hb hts hown hK flX1_init_11 hP rfl rfl dX1_init_25 ?_
    refine lv_iload_n hx hb dX1_init_28 rfl (lv_at hl 1 rfl) ?_
    refine va_new (ci := 0) (fs := [.null, .null, .null, .null, .int 0, .int 0, .int 0]) (C := RX0) (T := TX0) (N := 7) hx hb hts inX1_init_X0 tyX0 tyX0_ok hown (hts _ nf_X1_1) (hts _ nf_X1_2) (hts _ nf_X1_3) hK hP hD hS hA rfl nfs0 (by show 1 + 9 * i + 1 ≤ 91; omega) (by show 10 + 695 * i + 7 ≤ 6960; omega) dX1_init_29 (fun q H hP hD hS => ?_)
    refine lv_dup hx hb dX1_init_32 rfl ?_
    refine mk_i (rest := [.ref q, .int (nI i), .ref hq]) hcf (kX0_init (a := q)) (cwI 0 hts gX1_init_X0_init rfl rfl rfl (hts _ nf_X1_3) (hts _ nf_X1_4) (hts _ nf_X1_5) rfl hdX0_init.2 ⟨(Nat.le_of_ble_eq_true rfl), (Nat.le_of_ble_eq_true rfl)⟩) hK hP hD hS hA Sb.right (fun _ => Jn.last) rfl hl.1 rfl (Nat.le_of_ble_eq_true rfl) dX1_init_33 ⟨by show 1 + 9 * i + 1 + 8 ≤ 91; omega, by show 10 + 695 * i + 7 + 688 ≤ 6960; omega⟩ (fun f H locs hP hD hS => ?_)
    have hP := hP.sb (Sb.perm permL)
    have hD := hD.sb (Sb.perm permL)
    refine va_astq (n := 10) hx hb hK hP hD hS 1 3 2 0 (r := (RX0, TX0, 7)) rfl rfl rfl rfl (vp_in_nI hi9 (by decide)) dX1_init_36 (fun H locs hP hD hS => ?_)
    have hP : va_P D vwCl (([(a, .inr (1, [.ref hq, .int 0, .int 0])), (hq, .inl (cK, 10, .inr (.inr (.inr (.inr (va_up (fHi kad i) (nI i).toNatClampNeg (some q)))))))] ++ wBv cI (bk q f) bv0) ++ wHi cI kad i) H := hP
    have hD : va_D A (([(a, .inr (1, [.ref hq, .int 0, .int 0])), (hq, .inl (cK, 10, .inr (.inr (.inr (.inr (va_up (fHi kad i) (nI i).toNatClampNeg (some q)))))))] ++ wBv cI (bk q f) bv0) ++ wHi cI kad i) := hD
    have hP := hP.sb (Sb.perm permL)
    have hD := hD.sb (Sb.perm permL)
    rw [List.append_assoc, ← wHi_s, nI_clamp (by omega), fHi_s (f := f)] at hP hD
    refine lv_iinc (v := nI (i + 1)) (lv' := [(1, .int (nI (i + 1))), (0, .ref a)]) hx hb dX1_init_37 hl (k := 1) rfl (nI_1 i) (by decide) rfl (fun ls hl => ?_)
    refine lv_goto (tgt := 15) hx hb dX1_init_40 (by decide) ?_
    refine W.widen (k := 1 + 9 * (i + 1)) (n := 10 + 695 * (i + 1)) (by omega) (by omega) ?_
    exact ih (i + 1) (by omega) _ _ _ _ hP hD hS (lv_sub hl [1, 0] rfl)
set_option maxRecDepth 100000 in
set_option maxHeartbeats 4000000 in
theorem kX1_init {l : Launch} {D : va_G} {cI cB cL cK : ClassId} {a : Nat} : MkO l D cI cB cL cK yX1_init wsX1_init rmX1_init [.ref a] [(a, .inr (1, [.null, .int 0, .int 0]))] (fun z : Nat × (Nat → Nat → Nat) => [(a, .inr (1, [.ref z.1, .int 0, .int 0])), (z.1, .inl (cK, 10, .inr (.inr (.inr (.inr (fun k => some (z.2 k 0)))))))] ++ wHB cI z.2 (fun _ => bv0)) 91 6960 := by
  refine MkO.of (cc := cX1_init) (own := RX1) (by decide) rfl rfl (Nat.le_of_ble_eq_true rfl) (fun p e s m below meth c ls Q A C hO hin hA hP hD hS hl hret => ?_)
  obtain ⟨hx, hb, hr, hml, hown, hts, hlk, hK⟩ := id C
  have hcf : CallFix p m c cX1_init 2 s _ wsX1_init RX1 := ⟨hx, hb, hml, hown, hts⟩
  have hl : lv_has ls 2 [(0, .ref a)] := hl
  refine lv_aload_n hx hb dX1_init_0 rfl (lv_at hl 0 rfl) ?_
  refine oin hx hb hts hown oiX1_init_1 oiX1_init_2 oiX1_init_3 hml hl.1 dX1_init_1 (Nat.le_of_ble_eq_true rfl) (Nat.le_of_ble_eq_true rfl) ?_
  refine lv_aload_n hx hb dX1_init_4 rfl (lv_at hl 0 rfl) ?_
  refine lv_bipush (v := 10) hx hb dX1_init_5 (by decide) ?_
  refine va_newq (N' := 10) (C := "DunningHouse$Book") hx hb hown (hts _ nf_X1_1) hO hK hP hD hS hA (by decide) (by decide) (by decide) (Nat.le_of_ble_eq_true rfl) (Nat.le_of_ble_eq_true rfl) dX1_init_7 (fun hq cA H hK1 hP hD hS => ?_)
  have e9 := arr_K hK1
  subst e9
  refine pfF (q0 := 0) (ty := .array (.object "DunningHouse$Book")) (X' := [(a, .inr (1, [.ref hq, .int 0, .int 0])), (hq, .inl (cA, 10, .inr (.inr (.inr (.inr (fun _ => none))))))]) hx hb hts hown hK hin fpX1_init_11 hP hD hS rfl rfl rfl (Nat.le_of_ble_eq_true rfl) rfl dX1_init_10 (fun H locs hP hD hS => ?_)
  refine lv_iconst (v := 0) hx hb dX1_init_13 (by decide) ?_
  refine lv_istore_n (lv' := [(1, .int 0), (0, .ref a)]) hx hb dX1_init_14 rfl hl (by decide) rfl (fun ls hl => ?_)
  refine tX1_init_L15 (a := a) (hq := hq) C hA (fun kad pc ls H locs hd hP hD hS => ?_) 10 0 rfl (fun _ _ => 0) H locs ls ?_ ?_ hS (lv_sub hl [1, 0] rfl)
  · have hc : vp_cell cA (10, .inr (.inr (.inr (.inr (fHi kad 10))))) = vp_cell cA (10, .inr (.inr (.inr (.inr (fun k => some (kad k 0)))))) := by
      show arrV cA 10 (fun j => va_rf (fHi kad 10 j)) = arrV cA 10 (fun j => va_rf (some (kad j 0)))
      unfold arrV
      congr 2
      funext j
      show va_rf (if j.1 < 10 then some (kad j.1 0) else none) = va_rf (some (kad j.1 0))
      rw [if_pos j.2]
    exact hret (hq, kad) _ _ _ _ hd (va_P.conv (pre := [(a, .inr (1, [.ref hq, .int 0, .int 0]))]) hc hP) (va_D.conv (pre := [(a, .inr (1, [.ref hq, .int 0, .int 0]))]) hD) hS
  · have e0 : fHi (fun _ _ => 0) 0 = fun _ => none := by funext k; unfold fHi; rw [if_neg (Nat.not_lt_zero k)]
    rw [e0]; exact hP
  · have e0 : fHi (fun _ _ => 0) 0 = fun _ => none := by funext k; unfold fHi; rw [if_neg (Nat.not_lt_zero k)]
    rw [e0]; exact hD

theorem oiX5_init_1 : Cond.methodLink RX5 3 objectInit ∈ wsX5_init := by decide +kernel
theorem oiX5_init_2 : Cond.instanceMethod objectInit ∈ wsX5_init := by decide +kernel
theorem oiX5_init_3 : Cond.code objectInit ⟨#[0xb1]⟩ 1 none ∈ wsX5_init := List.mem_of_getElem? (i := 3) rfl
theorem inX5_init_X5 : ∀ w ∈ u_ws RX5 TX5 5, w ∈ wsX5_init := by decide +kernel
theorem inX5_init_X0 : ∀ w ∈ u_ws RX0 TX0 7, w ∈ wsX5_init := by decide +kernel
theorem inX5_init_X1 : ∀ w ∈ u_ws RX1 TX1 3, w ∈ wsX5_init := by decide +kernel
theorem inX5_init_X4 : ∀ w ∈ u_ws RX4 TX4 2, w ∈ wsX5_init := by decide +kernel
theorem fpX5_init_12 : Fp wsX5_init RX5 12 5 0 true (.object "DunningHouse$Tape") := ⟨_, _, _, tyX5, rfl, by decide, inX5_init_X5, by decide +kernel, tyX5_ok, nmX5, rfl, rfl, by decide +kernel⟩
theorem fpX5_init_19 : Fp wsX5_init RX5 19 5 1 true (.object "DunningHouse$Book") := ⟨_, _, _, tyX5, rfl, by decide, inX5_init_X5, by decide +kernel, tyX5_ok, nmX5, rfl, rfl, by decide +kernel⟩
theorem fpX5_init_23 : Fp wsX5_init RX5 23 5 2 true (.object "DunningHouse$Book") := ⟨_, _, _, tyX5, rfl, by decide, inX5_init_X5, by decide +kernel, tyX5_ok, nmX5, rfl, rfl, by decide +kernel⟩
theorem fpX5_init_29 : Fp wsX5_init RX5 29 5 3 true (.object "DunningHouse$History") := ⟨_, _, _, tyX5, rfl, by decide, inX5_init_X5, by decide +kernel, tyX5_ok, nmX5, rfl, rfl, by decide +kernel⟩
theorem fpX5_init_33 : Fp wsX5_init RX5 33 5 4 false .int := ⟨_, _, _, tyX5, rfl, by decide, inX5_init_X5, by decide +kernel, tyX5_ok, nmX5, rfl, rfl, by decide +kernel⟩
theorem nf_X5_01 : Cond.classLink RX5 9 RX4 ∈ wsX5_init := by decide +kernel
theorem nf_X5_02 : Cond.instantiable RX4 2 ∈ wsX5_init := by decide +kernel
theorem nf_X5_03 : Cond.initialized RX4 ∈ wsX5_init := by decide +kernel
theorem nf_X5_04 : Cond.methodLink RX5 11 yX4_init ∈ wsX5_init := by decide +kernel
theorem nf_X5_05 : Cond.instanceMethod yX4_init ∈ wsX5_init := by decide +kernel
theorem nf_X5_11 : Cond.classLink RX5 16 RX0 ∈ wsX5_init := by decide +kernel
theorem nf_X5_12 : Cond.instantiable RX0 7 ∈ wsX5_init := by decide +kernel
theorem nf_X5_13 : Cond.initialized RX0 ∈ wsX5_init := by decide +kernel
theorem nf_X5_14 : Cond.methodLink RX5 18 yX0_init ∈ wsX5_init := by decide +kernel
theorem nf_X5_15 : Cond.instanceMethod yX0_init ∈ wsX5_init := by decide +kernel
theorem nf_X5_21 : Cond.classLink RX5 26 RX1 ∈ wsX5_init := by decide +kernel
theorem nf_X5_22 : Cond.instantiable RX1 3 ∈ wsX5_init := by decide +kernel
theorem nf_X5_23 : Cond.initialized RX1 ∈ wsX5_init := by decide +kernel
theorem nf_X5_24 : Cond.methodLink RX5 28 yX1_init ∈ wsX5_init := by decide +kernel
theorem nf_X5_25 : Cond.instanceMethod yX1_init ∈ wsX5_init := by decide +kernel
theorem hdX4_init : yX4_init.cls = RX4 ∧ yX4_init.cls ≠ "java/lang/invoke/MethodHandle" ∧ yX4_init.cls ≠ "java/lang/invoke/VarHandle" ∧ (parseMethodDescriptor yX4_init.desc).map (fun d => d.parameters.length) = some 0 := by decide +kernel
theorem hdX1_init : yX1_init.cls = RX1 ∧ yX1_init.cls ≠ "java/lang/invoke/MethodHandle" ∧ yX1_init.cls ≠ "java/lang/invoke/VarHandle" ∧ (parseMethodDescriptor yX1_init.desc).map (fun d => d.parameters.length) = some 0 := by decide +kernel
theorem nfs4 (j : Nat) (hj : j < 2) : defaultValue (tyX4 j) = vp_V [.null, .int 0] j := by
  rcases (show j = 0 ∨ j = 1 by omega) with rfl | rfl <;> rfl
theorem nfs1 (j : Nat) (hj : j < 3) : defaultValue (tyX1 j) = vp_V [.null, .int 0, .int 0] j := by
  rcases (show j = 0 ∨ j = 1 ∨ j = 2 by omega) with rfl | rfl | rfl <;> rfl
abbrev rmX5_init : Room := { frames := 4, cells := 112, slots := 8995, locals := 84 }
set_option maxRecDepth 100000 in
set_option maxHeartbeats 4000000 in
theorem kX5_init {l : Launch} {D : va_G} {cI cB cL cK : ClassId} {ha : Nat} : MkO l D cI cB cL cK yX5_init wsX5_init rmX5_init [.ref ha] [(ha, .inr (5, [.null, .null, .null, .null, .int 0]))] (fun w : Nat × Nat × (Nat → Nat) × (Nat → Nat) × Nat × Nat × (Nat → Nat → Nat) => wH cI cB cK ha w.1 w.2.1 w.2.2.1 w.2.2.2.1 w.2.2.2.2.1 w.2.2.2.2.2.1 w.2.2.2.2.2.2 0 0 (fun _ => 0) 1 0 0 0 0 0 0 (fun _ => 0) (fun _ => 0) (fun _ => 0) (fun _ => 0) 1 0 0 0 0 0 0 (fun _ => 0) (fun _ => 0) (fun _ => 0) (fun _ => 0) 0 0 (fun _ => bv0)) 112 8995 := by
  refine MkO.of (cc := cX5_init) (own := RX5) (by decide) rfl rfl (Nat.le_of_ble_eq_true rfl) (fun p e s m below meth c ls Q A C hO hin hA hP hD hS hl hret => ?_)
  obtain ⟨hx, hb, hr, hml, hown, hts, hlk, hK⟩ := id C
  have hcf : CallFix p m c cX5_init 1 s _ wsX5_init RX5 := ⟨hx, hb, hml, hown, hts⟩
  have hl : lv_has ls 1 [(0, .ref ha)] := hl
  refine lv_aload_n hx hb dX5_init_0 rfl (lv_at hl 0 rfl) ?_
  refine oin hx hb hts hown oiX5_init_1 oiX5_init_2 oiX5_init_3 hml hl.1 dX5_init_1 (Nat.le_of_ble_eq_true rfl) (Nat.le_of_ble_eq_true rfl) ?_
  refine lv_aload_n hx hb dX5_init_4 rfl (lv_at hl 0 rfl) ?_
  refine va_new (ci := 4) (fs := [.null, .int 0]) (C := RX4) (T := TX4) (N := 2) hx hb hts inX5_init_X4 tyX4 tyX4_ok hown (hts _ nf_X5_01) (hts _ nf_X5_02) (hts _ nf_X5_03) hK hP hD hS hA rfl nfs4 (Nat.le_of_ble_eq_true rfl) (Nat.le_of_ble_eq_true rfl) dX5_init_5 (fun q1 H hP hD hS => ?_)
  refine lv_dup hx hb dX5_init_8 rfl ?_
  refine mk_i (rest := [.ref q1, .ref ha]) hcf (kX4_init (a := q1)) (cwI 0 hts gX5_init_X4_init rfl rfl rfl (hts _ nf_X5_03) (hts _ nf_X5_04) (hts _ nf_X5_05) rfl hdX4_init.2 ⟨(Nat.le_of_ble_eq_true rfl), (Nat.le_of_ble_eq_true rfl)⟩) hK hP hD hS hA Sb.right (fun _ => Jn.last) rfl hl.1 rfl (Nat.le_of_ble_eq_true rfl) dX5_init_9 ⟨(Nat.le_of_ble_eq_true rfl), (Nat.le_of_ble_eq_true rfl)⟩ (fun b1 H locs hP hD hS => ?_)
  refine pfF (q0 := 0) (ty := .object "DunningHouse$Tape") (X' := [(ha, .inr (5, [.ref q1, .null, .null, .null, .int 0]))] ++ wP cB q1 b1 0 (fun _ => 0)) hx hb hts hown hK hin fpX5_init_12 hP hD hS rfl rfl rfl (Nat.le_of_ble_eq_true rfl) rfl dX5_init_12 (fun H locs hP hD hS => ?_)
  refine lv_aload_n hx hb dX5_init_15 rfl (lv_at hl 0 rfl) ?_
  refine va_new (ci := 0) (fs := [.null, .null, .null, .null, .int 0, .int 0, .int 0]) (C := RX0) (T := TX0) (N := 7) hx hb hts inX5_init_X0 tyX0 tyX0_ok hown (hts _ nf_X5_11) (hts _ nf_X5_12) (hts _ nf_X5_13) hK hP hD hS hA rfl nfs0 (Nat.le_of_ble_eq_true rfl) (Nat.le_of_ble_eq_true rfl) dX5_init_16 (fun q2 H hP hD hS => ?_)
  refine lv_dup hx hb dX5_init_19 rfl ?_
  refine mk_i (rest := [.ref q2, .ref ha]) hcf (kX0_init (a := q2)) (cwI 0 hts gX5_init_X0_init rfl rfl rfl (hts _ nf_X5_13) (hts _ nf_X5_14) (hts _ nf_X5_15) rfl hdX0_init.2 ⟨(Nat.le_of_ble_eq_true rfl), (Nat.le_of_ble_eq_true rfl)⟩) hK hP hD hS hA Sb.right (fun _ => Jn.last) rfl hl.1 rfl (Nat.le_of_ble_eq_true rfl) dX5_init_20 ⟨(Nat.le_of_ble_eq_true rfl), (Nat.le_of_ble_eq_true rfl)⟩ (fun f2 H locs hP hD hS => ?_)
  refine pfF (q0 := 0) (ty := .object "DunningHouse$Book") (X' := [(ha, .inr (5, [.ref q1, .ref q2, .null, .null, .int 0]))] ++ wP cB q1 b1 0 (fun _ => 0) ++ wB cI (bk q2 f2) 1 0 0 0 0 0 0 (fun _ => 0) (fun _ => 0) (fun _ => 0) (fun _ => 0)) hx hb hts hown hK hin fpX5_init_19 hP hD hS rfl rfl rfl (Nat.le_of_ble_eq_true rfl) rfl dX5_init_23 (fun H locs hP hD hS => ?_)
  refine lv_aload_n hx hb dX5_init_26 rfl (lv_at hl 0 rfl) ?_
  refine va_new (ci := 0) (fs := [.null, .null, .null, .null, .int 0, .int 0, .int 0]) (C := RX0) (T := TX0) (N := 7) hx hb hts inX5_init_X0 tyX0 tyX0_ok hown (hts _ nf_X5_11) (hts _ nf_X5_12) (hts _ nf_X5_13) hK hP hD hS hA rfl nfs0 (Nat.le_of_ble_eq_true rfl) (Nat.le_of_ble_eq_true rfl) dX5_init_27 (fun q3 H hP hD hS => ?_)
  refine lv_dup hx hb dX5_init_30 rfl ?_
  refine mk_i (rest := [.ref q3, .ref ha]) hcf (kX0_init (a := q3)) (cwI 0 hts gX5_init_X0_init rfl rfl rfl (hts _ nf_X5_13) (hts _ nf_X5_14) (hts _ nf_X5_15) rfl hdX0_init.2 ⟨(Nat.le_of_ble_eq_true rfl), (Nat.le_of_ble_eq_true rfl)⟩) hK hP hD hS hA Sb.right (fun _ => Jn.last) rfl hl.1 rfl (Nat.le_of_ble_eq_true rfl) dX5_init_31 ⟨(Nat.le_of_ble_eq_true rfl), (Nat.le_of_ble_eq_true rfl)⟩ (fun f3 H locs hP hD hS => ?_)
  refine pfF (q0 := 0) (ty := .object "DunningHouse$Book") (X' := [(ha, .inr (5, [.ref q1, .ref q2, .ref q3, .null, .int 0]))] ++ wP cB q1 b1 0 (fun _ => 0) ++ wB cI (bk q2 f2) 1 0 0 0 0 0 0 (fun _ => 0) (fun _ => 0) (fun _ => 0) (fun _ => 0) ++ wB cI (bk q3 f3) 1 0 0 0 0 0 0 (fun _ => 0) (fun _ => 0) (fun _ => 0) (fun _ => 0)) hx hb hts hown hK hin fpX5_init_23 hP hD hS rfl rfl rfl (Nat.le_of_ble_eq_true rfl) rfl dX5_init_34 (fun H locs hP hD hS => ?_)
  refine lv_aload_n hx hb dX5_init_37 rfl (lv_at hl 0 rfl) ?_
  refine va_new (ci := 1) (fs := [.null, .int 0, .int 0]) (C := RX1) (T := TX1) (N := 3) hx hb hts inX5_init_X1 tyX1 tyX1_ok hown (hts _ nf_X5_21) (hts _ nf_X5_22) (hts _ nf_X5_23) hK hP hD hS hA rfl nfs1 (Nat.le_of_ble_eq_true rfl) (Nat.le_of_ble_eq_true rfl) dX5_init_38 (fun q4 H hP hD hS => ?_)
  refine lv_dup hx hb dX5_init_41 rfl ?_
  refine mk_iO (rest := [.ref q4, .ref ha]) hcf (kX1_init (a := q4)) (cwI 0 hts gX5_init_X1_init rfl rfl rfl (hts _ nf_X5_23) (hts _ nf_X5_24) (hts _ nf_X5_25) rfl hdX1_init.2 ⟨(Nat.le_of_ble_eq_true rfl), (Nat.le_of_ble_eq_true rfl)⟩) hK hO hP hD hS hA Sb.right (fun _ => Jn.last) rfl hl.1 rfl (Nat.le_of_ble_eq_true rfl) dX5_init_42 ⟨(Nat.le_of_ble_eq_true rfl), (Nat.le_of_ble_eq_true rfl)⟩ (fun z4 H locs hP hD hS => ?_)
  refine pfF (q0 := 0) (ty := .object "DunningHouse$History") (X' := wH cI cB cK ha q1 b1 (bk q2 f2) (bk q3 f3) q4 z4.1 z4.2 0 0 (fun _ => 0) 1 0 0 0 0 0 0 (fun _ => 0) (fun _ => 0) (fun _ => 0) (fun _ => 0) 1 0 0 0 0 0 0 (fun _ => 0) (fun _ => 0) (fun _ => 0) (fun _ => 0) 0 0 (fun _ => bv0)) hx hb hts hown hK hin fpX5_init_29 hP hD hS rfl rfl rfl (Nat.le_of_ble_eq_true rfl) rfl dX5_init_45 (fun H locs hP hD hS => ?_)
  refine lv_aload_n hx hb dX5_init_48 rfl (lv_at hl 0 rfl) ?_
  refine lv_iconst (v := 0) hx hb dX5_init_49 (by decide) ?_
  refine pf (q0 := 0) (X' := wH cI cB cK ha q1 b1 (bk q2 f2) (bk q3 f3) q4 z4.1 z4.2 0 0 (fun _ => 0) 1 0 0 0 0 0 0 (fun _ => 0) (fun _ => 0) (fun _ => 0) (fun _ => 0) 1 0 0 0 0 0 0 (fun _ => 0) (fun _ => 0) (fun _ => 0) (fun _ => 0) 0 0 (fun _ => bv0)) hx hb hts hown hK fpX5_init_33 hP hD hS rfl rfl rfl (Nat.le_of_ble_eq_true rfl) rfl dX5_init_50 (fun H locs hP hD hS => ?_)
  refine W.widen (k := 112) (n := 8995) (Nat.le_of_ble_eq_true rfl) (Nat.le_of_ble_eq_true rfl) ?_
  exact hret (q1, b1, bk q2 f2, bk q3 f3, q4, z4.1, z4.2) _ _ _ _ dX5_init_53 hP hD hS
