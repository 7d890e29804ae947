/-! what is made -/
def QE {β : Type} (D : va_G) (wc : va_W) (wc' : β → va_W) (sz : Nat) : Array Value → State → Outcome → State → Prop := fun _ st oc t => oc = .returned none ∧ ∃ b : β, va_P D vwCl (wc' b) t.heap ∧ va_D (va_A wc sz) (wc' b) ∧ va_F (va_A wc sz) st t
def Mk {β : Type} (l : Launch) (D : va_G) (cI cB cL cK : ClassId) (y : MethodName) (ws : List Cond) (rm : Room) (av : List Value) (wc : va_W) (wc' : β → va_W) (mc ms : Nat) : Prop :=
  ∀ sz : Nat, Met l y ws rm (va_Pc av (fun U => U.heap.size = sz ∧ va_P D vwCl wc U.heap ∧ va_K D vwCl (TYS cI cB cL cK) U ∧ va_D (fun _ => True) wc)) (QE D wc wc' sz) mc ms (va_A wc sz)
section MkA
variable {β : Type} {l : Launch} {D : va_G} {cI cB cL cK : ClassId} {y : MethodName} {ws ws' : List Cond} {rm : Room} {av : List Value} {wc : va_W} {wc' : β → va_W} {cc : ByteArray} {maxL mc ms : Nat} {own : String}
theorem Mk.of (hy : plainName y.cls = true) (hw : ws = Cond.code y cc maxL none :: ws') (ho : y.cls = own) (hle : (lg_sl av).length ≤ maxL)
    (h : ∀ (p : Program) (e : Env) (s : State) (m : MethodId) (below : List Frame) (meth : Method) (c : Code) (ls : Array Slot) (Q : State → Prop) (A : Nat → Prop), Cx p s m av.toArray meth c cc none maxL ws own D cI cB cL cK → meth.name = y.name → (∀ q : Nat, s.heap.size ≤ q → A q) → va_P D vwCl wc s.heap → va_D A wc → va_S A s.heap s.heap [] → lv_has ls maxL (lv_args 0 av) →
      (∀ (b : β) (pc : Nat) (ls : Array Slot) (H : Heap) (locs : List Loc), decode cc pc = .ok (.return_, 1) → va_P D vwCl (wc' b) H → va_D A (wc' b) → va_S A s.heap H locs → W p l e rm s m av.toArray below meth c H locs mc ms Q (F0 m pc ls [])) →
      W p l e rm s m av.toArray below meth c s.heap [] 0 0 Q (F0 m 0 ls [])) : Mk l D cI cB cL cK y ws rm av wc wc' mc ms := by
  intro sz
  refine Met.ofW (cc := cc) (maxL := maxL) (ret := none) hy hw ?_
  intro p e s m args below meth c s₁ B hml hv
  obtain ⟨rfl, hsz, hP, hK, hD0⟩ := hv
  subst hsz
  have hts := atoms_spec (ws := ws) B.pre
  have hown : s.vm.findClass own = some m.cls := by rw [← ho]; exact findClass_of_methodNamed B.named
  have hin : meth.name = y.name := (name_of_methodNamed B.named B.method).1
  have hl := lv_entry av (n := maxL) hle
  rw [lg_entry_eq]
  have hlk := B.notSynchronized
  refine h p e s m below meth c _ _ (va_A wc s.heap.size) ⟨B.exec, B.bytes, B.returns, hml, hown, hts, hlk, hK⟩ hin (fun q h => Or.inr h) hP (hD0.self (sz := s.heap.size)) va_S.rf hl (fun b pc ls H locs hd hP1 hD1 hS => ?_)
  exact W.vret B.exec B.bytes B.returns (fun t ht _ => ⟨rfl, b, by rw [ht]; exact hP1, hD1, hS.F ht⟩) hS.2.2 hd hlk
end MkA
section MkB
variable {β : Type} {p : Program} {l : Launch} {e : Env} {R : Room} {s : State} {m : MethodId} {args : Array Value} {below : List Frame} {meth : Method} {c : Code} {H H0 : Heap} {locs : List Loc} {cells slots : Nat} {Q : State → Prop} {A : Nat → Prop} {D : va_G} {cI cB cL cK : ClassId} {pc nL : Nat} {ls : Array Slot} {rest st0 As : List Value} {cc bytes : ByteArray} {maxL n index mc ms ci k : Nat} {ws Ts : List Cond} {rm : Room} {own C : String} {y : MethodName} {b : Nat} {X wc : va_W} {wc' X' : β → va_W} {fs : List Value} {T : u_T} {N : Nat}
theorem mk_i (S : CallFix p m c cc nL s args Ts own) (hM : Mk l D cI cB cL cK y ws rm (.ref b :: As) wc wc' mc ms) (cw : CallB R s args own index y bytes maxL none ws rm mc ms n ∧ y.name = "<init>" ∧ (Cond.instanceMethod y).before args s = true) (hK : va_K D vwCl (TYS cI cB cL cK) s) (hP : va_P D vwCl X H) (hD : va_D A X) (hS : va_S A H0 H locs) (hA : ∀ q : Nat, H0.size ≤ q → A q) (hs : Sb X wc) (hJ : ∀ z : β, Jn X (X' z) wc (wc' z))
    (hn : As.length = n) (hsize : ls.size = nL) (hst : st0 = As.reverse ++ .ref b :: rest) (hw : (rest.map fun v => v.category).sum ≤ 8) (hdg : decode cc pc = .ok (.invokespecial index, 3)) (hf : cells + mc ≤ R.cells ∧ slots + ms ≤ R.slots)
    (kk : ∀ (z : β) (H1 : Heap) (locs1 : List Loc), va_P D vwCl (X' z) H1 → va_D A (X' z) → va_S A H0 H1 locs1 → W p l e R s m args below meth c H1 locs1 (cells + mc) (slots + ms) Q (F0 m (pc + 3) ls rest)) : W p l e R s m args below meth c H locs cells slots Q (F0 m pc ls st0) := by
  have hr := va_runI (rest := rest) (e := e) (below := below) (meth := meth) (locs := locs) (cells := cells) (slots := slots) (g := F0 m pc ls st0) S (hM H.size) cw ⟨Mu.blind, mu_pre hK hP hD hs⟩ rfl hn hsize hst (lv_room hw) hdg hf
  intro T hT Xs
  obtain ⟨v, st₀, t, T', L, h0, Xs', hL, e1, e2, ⟨hv, z, hp, hd, hz, hk⟩, st⟩ := hr T hT Xs
  cases hv
  have hF := (hJ z).free hD hS hA
  rw [h0] at hz hk
  rw [← e1] at hp hz
  have hk' : ∀ q : Nat, q < H.size → ¬ va_A wc H.size q → T'.heap[q]? = H[q]? := fun q h1 h2 => by rw [e1]; exact hk q h1 h2
  obtain ⟨hP1, hD1⟩ := (hJ z).2 D A H T'.heap hP hD hk' hF hp hd
  obtain ⟨t2, a1, b1⟩ := kk z T'.heap (locs ++ L) hP1 hD1
    ⟨Nat.le_trans hS.1 hz, fun q h1 h2 => by rw [hk' q (Nat.lt_of_lt_of_le h1 hS.1) (fun z => h2 (hF q z))]; exact hS.2.1 q h1 h2, fun q hq => by
      rcases List.mem_append.mp hq with h | h
      · exact hS.2.2 q h
      · exact hF _ (hL q h)⟩ T' rfl Xs'
  exact ⟨t2, st t2 a1, b1⟩
theorem arr_I {cA : ClassId} (hK : va_K D vwCl (TYS cI cB cL cK ++ [(cA, .int)]) s) : cA = cI := Option.some.inj ((hK.2 4 _ rfl).2.symm.trans (hK.2 0 _ rfl).2)
theorem arr_B {cA : ClassId} (hK : va_K D vwCl (TYS cI cB cL cK ++ [(cA, .byte)]) s) : cA = cB := Option.some.inj ((hK.2 4 _ rfl).2.symm.trans (hK.2 1 _ rfl).2)
theorem arr_L {cA : ClassId} (hK : va_K D vwCl (TYS cI cB cL cK ++ [(cA, .long)]) s) : cA = cL := Option.some.inj ((hK.2 4 _ rfl).2.symm.trans (hK.2 2 _ rfl).2)
/-- a new int array -/
theorem nwI {X : va_W} (hx : p.tables.exec = Jvm.exec) (hb : c.code = cc) (hts : ∀ w ∈ Ts, w.before args s = true) (harr : Cond.arrayClass .int ∈ Ts) (hK : va_K D vwCl (TYS cI cB cL cK) s) (hP : va_P D vwCl X H) (hD : va_D A X) (hS : va_S A H0 H locs) (hA : ∀ q : Nat, H0.size ≤ q → A q) {z : Int32} {N' : Nat} (hn : ¬ z < 0) (hN : z.toNatClampNeg = N') (hby : N' * 4 ≤ 536870912) (hc : cells + 1 ≤ R.cells) (hs : slots + N' ≤ R.slots) (hdg : decode cc pc = .ok (.newarray .int, 2))
    (kk : ∀ (q : Nat) (H1 : Heap), va_P D vwCl (X ++ [(q, .inl (cI, N', .inl (fun _ => 0)))]) H1 → va_D A (X ++ [(q, .inl (cI, N', .inl (fun _ => 0)))]) → va_S A H0 H1 locs → W p l e R s m args below meth c H1 locs (cells + 1) (slots + N') Q (F0 m (pc + 2) ls (.ref q :: rest))) : W p l e R s m args below meth c H locs cells slots Q (F0 m pc ls (.int z :: rest)) := by
  refine va_newa (atype := .int) hx hb (hts _ harr) (ty := .int) rfl hK hP hD hS hA (a0 := (N', .inl (fun _ => 0))) (fun _ => rfl) hn hN hby hc hs hdg (fun q cA H1 hK1 hP1 hD1 hS1 => ?_)
  have e := arr_I hK1
  subst e
  exact kk q H1 hP1 hD1 hS1
theorem nwB {X : va_W} (hx : p.tables.exec = Jvm.exec) (hb : c.code = cc) (hts : ∀ w ∈ Ts, w.before args s = true) (harr : Cond.arrayClass .byte ∈ Ts) (hK : va_K D vwCl (TYS cI cB cL cK) s) (hP : va_P D vwCl X H) (hD : va_D A X) (hS : va_S A H0 H locs) (hA : ∀ q : Nat, H0.size ≤ q → A q) {z : Int32} {N' : Nat} (hn : ¬ z < 0) (hN : z.toNatClampNeg = N') (hby : N' * 1 ≤ 536870912) (hc : cells + 1 ≤ R.cells) (hs : slots + N' ≤ R.slots) (hdg : decode cc pc = .ok (.newarray .byte, 2))
    (kk : ∀ (q : Nat) (H1 : Heap), va_P D vwCl (X ++ [(q, .inl (cB, N', .inl (fun _ => 0)))]) H1 → va_D A (X ++ [(q, .inl (cB, N', .inl (fun _ => 0)))]) → va_S A H0 H1 locs → W p l e R s m args below meth c H1 locs (cells + 1) (slots + N') Q (F0 m (pc + 2) ls (.ref q :: rest))) : W p l e R s m args below meth c H locs cells slots Q (F0 m pc ls (.int z :: rest)) := by
  refine va_newa (atype := .byte) hx hb (hts _ harr) (ty := .byte) rfl hK hP hD hS hA (a0 := (N', .inl (fun _ => 0))) (fun _ => rfl) hn hN hby hc hs hdg (fun q cA H1 hK1 hP1 hD1 hS1 => ?_)
  have e := arr_B hK1
  subst e
  exact kk q H1 hP1 hD1 hS1
end MkB
section MkC
variable {p : Program} {l : Launch} {e : Env} {R : Room} {s : State} {m : MethodId} {args : Array Value} {below : List Frame} {meth : Method} {c : Code} {H H0 : Heap} {locs : List Loc} {cells slots : Nat} {Q : State → Prop} {pc nL a : Nat} {ls : Array Slot} {rest : List Value} {cc : ByteArray} {idx : Nat} {Ts : List Cond} {own : String}
theorem oin (hx : p.tables.exec = Jvm.exec) (hb : c.code = cc) (hts : ∀ w ∈ Ts, w.before args s = true) (hown : s.vm.findClass own = some m.cls) (h1 : Cond.methodLink own idx objectInit ∈ Ts) (h2 : Cond.instanceMethod objectInit ∈ Ts) (h3 : Cond.code objectInit ⟨#[0xb1]⟩ 1 none ∈ Ts) (hml : c.maxLocals = nL) (hsz : ls.size = nL) (hdg : decode cc pc = .ok (.invokespecial idx, 3)) (hfr : 1 ≤ R.frames) (hlo : 2 * 0 + (rest.map fun v => v.category).sum + 12 ≤ R.locals)
    (kk : W p l e R s m args below meth c H locs cells slots Q (F0 m (pc + 3) ls rest)) : W p l e R s m args below meth c H locs cells slots Q (F0 m pc ls (.ref a :: rest)) :=
  W.objInit hx hb hown (hts _ h1) (hts _ h2) (hts _ h3) rfl (hsz.trans hml.symm) rfl hdg hfr hlo kk
end MkC
theorem Jn.last {X wc wc' : va_W} : Jn (X ++ wc) (X ++ wc') wc wc' := Jn.mk (wr := X) Sb.comm Sb.comm

theorem oiX3_init_1 : Cond.methodLink RX3 3 objectInit ∈ wsX3_init := by decide +kernel
theorem oiX3_init_2 : Cond.instanceMethod objectInit ∈ wsX3_init := by decide +kernel
theorem oiX3_init_3 : Cond.code objectInit ⟨#[0xb1]⟩ 1 none ∈ wsX3_init := List.mem_of_getElem? (i := 3) rfl
theorem inX3_init_X3 : ∀ w ∈ u_ws RX3 TX3 3, w ∈ wsX3_init := by decide +kernel
theorem fpX3_init_15 : Fp wsX3_init RX3 15 3 0 true (.array .int) := ⟨_, _, _, tyX3, rfl, by decide, inX3_init_X3, by decide +kernel, tyX3_ok, nmX3, rfl, rfl, by decide +kernel⟩
theorem fpX3_init_21 : Fp wsX3_init RX3 21 3 1 true .int := ⟨_, _, _, tyX3, rfl, by decide, inX3_init_X3, by decide +kernel, tyX3_ok, nmX3, rfl, rfl, by decide +kernel⟩
theorem fpX3_init_25 : Fp wsX3_init RX3 25 3 2 false .int := ⟨_, _, _, tyX3, rfl, by decide, inX3_init_X3, by decide +kernel, tyX3_ok, nmX3, rfl, rfl, by decide +kernel⟩
theorem hdX3_init : yX3_init.cls = RX3 ∧ yX3_init.cls ≠ "java/lang/invoke/MethodHandle" ∧ yX3_init.cls ≠ "java/lang/invoke/VarHandle" ∧ (parseMethodDescriptor yX3_init.desc).map (fun d => d.parameters.length) = some 2 := by decide +kernel
theorem mfX3_init_ml : Cond.methodLink RX3 9 Lib.Math.max.name ∈ wsX3_init := by decide +kernel
theorem mfX3_init_st : Cond.static Lib.Math.max.name ∈ wsX3_init := by decide +kernel
theorem mfX3_init_in : Cond.initialized "java/lang/Math" ∈ wsX3_init := by decide +kernel
theorem mfX3_init_cd : Cond.code Lib.Math.max.name Lib.Math.max.code 2 (some .int) ∈ wsX3_init := by decide +kernel
theorem mfX3_init_ar : Cond.arrayClass .int ∈ wsX3_init := by decide +kernel
abbrev rmX3_init (N : Nat) : Room := { frames := 1, cells := 1, slots := N, locals := 21 }
set_option maxRecDepth 100000 in
set_option maxHeartbeats 4000000 in
theorem kX3_init {l : Launch} {D : va_G} {cI cB cL cK : ClassId} {a N : Nat} {mr cs w : Int32} (h1 : ¬ mxI 0 (mr * cs) < 0) (h2 : (mxI 0 (mr * cs)).toNatClampNeg = N) (h3 : N ≤ 1000) (h4 : mxI 1 cs = w) : Mk l D cI cB cL cK yX3_init wsX3_init (rmX3_init N) [.ref a, .int mr, .int cs] [(a, .inr (3, [.null, .int 0, .int 0]))] (fun b : Nat => wT cI a b w N 0 (fun _ => 0)) 1 N := by
  refine Mk.of (cc := cX3_init) (own := RX3) (by decide) rfl rfl (Nat.le_of_ble_eq_true rfl) (fun p e s m below meth c ls Q A C hin hA hP hD hS hl hret => ?_)
  obtain ⟨hx, hb, hr, hml, hown, hts, hlk, hK⟩ := id C
  have hcf : CallFix p m c cX3_init 3 s _ wsX3_init RX3 := ⟨hx, hb, hml, hown, hts⟩
  have hl : lv_has ls 3 [(0, .ref a), (1, .int mr), (2, .int cs)] := hl
  refine lv_aload_n hx hb dX3_init_0 rfl (lv_at hl 0 rfl) ?_
  refine oin hx hb hts hown oiX3_init_1 oiX3_init_2 oiX3_init_3 hml hl.1 dX3_init_1 (Nat.le_of_ble_eq_true rfl) (Nat.le_of_ble_eq_true rfl) ?_
  refine lv_aload_n hx hb dX3_init_4 rfl (lv_at hl 0 rfl) ?_
  refine lv_iconst (v := 0) hx hb dX3_init_5 (by decide) ?_
  refine lv_iload_n hx hb dX3_init_6 rfl (lv_at hl 1 rfl) ?_
  refine lv_iload_n hx hb dX3_init_7 rfl (lv_at hl 2 rfl) ?_
  refine lv_imul hx hb dX3_init_8 ?_
  refine va_mmax hx hb (hml.trans hl.1.symm) hown (hts _ mfX3_init_ml) (hts _ mfX3_init_st) (hts _ mfX3_init_in) (hts _ mfX3_init_cd) (Nat.le_of_ble_eq_true rfl) (Nat.le_of_ble_eq_true rfl) (Nat.zero_le _) (Nat.zero_le _) dX3_init_9 ?_
  refine nwI hx hb hts mfX3_init_ar hK hP hD hS hA h1 h2 (by omega) (by show 0 + 1 ≤ 1; omega) (by show 0 + N ≤ N; omega) dX3_init_12 (fun q H hP hD hS => ?_)
  refine pfF (q0 := 0) (ty := .array .int) (X' := [(a, .inr (3, [.ref q, .int 0, .int 0])), (q, .inl (cI, N, .inl (fun _ => 0)))]) hx hb hts hown hK hin fpX3_init_15 hP hD hS rfl rfl rfl (Nat.le_of_ble_eq_true rfl) rfl dX3_init_14 (fun H locs hP hD hS => ?_)
  refine lv_aload_n hx hb dX3_init_17 rfl (lv_at hl 0 rfl) ?_
  refine lv_iconst (v := 1) hx hb dX3_init_18 (by decide) ?_
  refine lv_iload_n hx hb dX3_init_19 rfl (lv_at hl 2 rfl) ?_
  refine va_mmax hx hb (hml.trans hl.1.symm) hown (hts _ mfX3_init_ml) (hts _ mfX3_init_st) (hts _ mfX3_init_in) (hts _ mfX3_init_cd) (Nat.le_of_ble_eq_true rfl) (Nat.le_of_ble_eq_true rfl) (by show 0 + 1 ≤ 1; omega) (by show 0 + N ≤ N; omega) dX3_init_20 ?_
  refine lv_topi (fun w9 e9 => ?_)
  have e9 : w9 = w := e9.trans h4
  subst e9
  refine pfF (q0 := 0) (ty := .int) (X' := [(a, .inr (3, [.ref q, .int w9, .int 0])), (q, .inl (cI, N, .inl (fun _ => 0)))]) hx hb hts hown hK hin fpX3_init_21 hP hD hS rfl rfl rfl (Nat.le_of_ble_eq_true rfl) rfl dX3_init_23 (fun H locs hP hD hS => ?_)
  refine lv_aload_n hx hb dX3_init_26 rfl (lv_at hl 0 rfl) ?_
  refine lv_iconst (v := 0) hx hb dX3_init_27 (by decide) ?_
  refine pf (q0 := 0) (X' := wT cI a q w9 N 0 (fun _ => 0)) hx hb hts hown hK fpX3_init_25 hP hD hS rfl rfl rfl (Nat.le_of_ble_eq_true rfl) rfl dX3_init_28 (fun H locs hP hD hS => ?_)
  refine W.widen (k := 1) (n := N) (by omega) (by omega) ?_
  exact hret q _ _ _ _ dX3_init_31 hP hD hS

theorem oiX4_init_1 : Cond.methodLink RX4 3 objectInit ∈ wsX4_init := by decide +kernel
theorem oiX4_init_2 : Cond.instanceMethod objectInit ∈ wsX4_init := by decide +kernel
theorem oiX4_init_3 : Cond.code objectInit ⟨#[0xb1]⟩ 1 none ∈ wsX4_init := List.mem_of_getElem? (i := 3) rfl
theorem inX4_init_X4 : ∀ w ∈ u_ws RX4 TX4 2, w ∈ wsX4_init := by decide +kernel
theorem fpX4_init_11 : Fp wsX4_init RX4 11 4 0 true (.array .byte) := ⟨_, _, _, tyX4, rfl, by decide, inX4_init_X4, by decide +kernel, tyX4_ok, nmX4, rfl, rfl, by decide +kernel⟩
theorem fpX4_init_15 : Fp wsX4_init RX4 15 4 1 false .int := ⟨_, _, _, tyX4, rfl, by decide, inX4_init_X4, by decide +kernel, tyX4_ok, nmX4, rfl, rfl, by decide +kernel⟩
theorem mfX4_init_ar : Cond.arrayClass .byte ∈ wsX4_init := by decide +kernel
abbrev rmX4_init : Room := { frames := 1, cells := 1, slots := 640, locals := 21 }
set_option maxRecDepth 100000 in
set_option maxHeartbeats 4000000 in
theorem kX4_init {l : Launch} {D : va_G} {cI cB cL cK : ClassId} {a : Nat} : Mk l D cI cB cL cK yX4_init wsX4_init rmX4_init [.ref a] [(a, .inr (4, [.null, .int 0]))] (fun b : Nat => wP cB a b 0 (fun _ => 0)) 1 640 := by
  refine Mk.of (cc := cX4_init) (own := RX4) (by decide) rfl rfl (Nat.le_of_ble_eq_true rfl) (fun p e s m below meth c ls Q A C hin hA hP hD hS hl hret => ?_)
  obtain ⟨hx, hb, hr, hml, hown, hts, hlk, hK⟩ := id C
  have hcf : CallFix p m c cX4_init 1 s _ wsX4_init RX4 := ⟨hx, hb, hml, hown, hts⟩
  have hl : lv_has ls 1 [(0, .ref a)] := hl
  refine lv_aload_n hx hb dX4_init_0 rfl (lv_at hl 0 rfl) ?_
  refine oin hx hb hts hown oiX4_init_1 oiX4_init_2 oiX4_init_3 hml hl.1 dX4_init_1 (Nat.le_of_ble_eq_true rfl) (Nat.le_of_ble_eq_true rfl) ?_
  refine lv_aload_n hx hb dX4_init_4 rfl (lv_at hl 0 rfl) ?_
  refine lv_sipush (v := 640) hx hb dX4_init_5 (by decide) ?_
  refine nwB (N' := 640) hx hb hts mfX4_init_ar hK hP hD hS hA (by decide) (by decide) (by decide) (Nat.le_of_ble_eq_true rfl) (Nat.le_of_ble_eq_true rfl) dX4_init_8 (fun q H hP hD hS => ?_)
  refine pfF (q0 := 0) (ty := .array .byte) (X' := [(a, .inr (4, [.ref q, .int 0])), (q, .inl (cB, 640, .inl (fun _ => 0)))]) hx hb hts hown hK hin fpX4_init_11 hP hD hS rfl rfl rfl (Nat.le_of_ble_eq_true rfl) rfl dX4_init_10 (fun H locs hP hD hS => ?_)
  refine lv_aload_n hx hb dX4_init_13 rfl (lv_at hl 0 rfl) ?_
  refine lv_iconst (v := 0) hx hb dX4_init_14 (by decide) ?_
  refine pf (q0 := 0) (X' := wP cB a q 0 (fun _ => 0)) hx hb hts hown hK fpX4_init_15 hP hD hS rfl rfl rfl (Nat.le_of_ble_eq_true rfl) rfl dX4_init_15 (fun H locs hP hD hS => ?_)
  refine W.widen (k := 1) (n := 640) (Nat.le_of_ble_eq_true rfl) (Nat.le_of_ble_eq_true rfl) ?_
  exact hret q _ _ _ _ dX4_init_18 hP hD hS

theorem oiX2_init_1 : Cond.methodLink RX2 3 objectInit ∈ wsX2_init := by decide +kernel
theorem oiX2_init_2 : Cond.instanceMethod objectInit ∈ wsX2_init := by decide +kernel
theorem oiX2_init_3 : Cond.code objectInit ⟨#[0xb1]⟩ 1 none ∈ wsX2_init := List.mem_of_getElem? (i := 3) rfl
theorem inX2_init_X2 : ∀ w ∈ u_ws RX2 TX2 8, w ∈ wsX2_init := by decide +kernel
theorem fpX2_init_9 : Fp wsX2_init RX2 9 2 0 true (.object "DunningHouse$Tape") := ⟨_, _, _, tyX2, rfl, by decide, inX2_init_X2, by decide +kernel, tyX2_ok, nmX2, rfl, rfl, by decide +kernel⟩
theorem fpX2_init_15 : Fp wsX2_init RX2 15 2 1 true (.object "DunningHouse$Book") := ⟨_, _, _, tyX2, rfl, by decide, inX2_init_X2, by decide +kernel, tyX2_ok, nmX2, rfl, rfl, by decide +kernel⟩
theorem fpX2_init_19 : Fp wsX2_init RX2 19 2 6 false .int := ⟨_, _, _, tyX2, rfl, by decide, inX2_init_X2, by decide +kernel, tyX2_ok, nmX2, rfl, rfl, by decide +kernel⟩
abbrev rmX2_init : Room := { frames := 1, cells := 0, slots := 0, locals := 20 }
set_option maxRecDepth 100000 in
set_option maxHeartbeats 4000000 in
theorem kX2_init {l : Launch} {D : va_G} {cI cB cL cK : ClassId} {a ta ba : Nat} : Mk l D cI cB cL cK yX2_init wsX2_init rmX2_init [.ref a, .ref ta, .ref ba] [(a, .inr (2, [.null, .null, .int 0, .int 0, .int 0, .int 0, .int 0, .int 0]))] (fun _ : Unit => [(a, .inr (2, [.ref ta, .ref ba, .int 0, .int 0, .int 0, .int 0, .int 0, .int 0]))]) 0 0 := by
  refine Mk.of (cc := cX2_init) (own := RX2) (by decide) rfl rfl (Nat.le_of_ble_eq_true rfl) (fun p e s m below meth c ls Q A C hin hA hP hD hS hl hret => ?_)
  obtain ⟨hx, hb, hr, hml, hown, hts, hlk, hK⟩ := id C
  have hcf : CallFix p m c cX2_init 3 s _ wsX2_init RX2 := ⟨hx, hb, hml, hown, hts⟩
  have hl : lv_has ls 3 [(0, .ref a), (1, .ref ta), (2, .ref ba)] := hl
  refine lv_aload_n hx hb dX2_init_0 rfl (lv_at hl 0 rfl) ?_
  refine oin hx hb hts hown oiX2_init_1 oiX2_init_2 oiX2_init_3 hml hl.1 dX2_init_1 (Nat.le_of_ble_eq_true rfl) (Nat.le_of_ble_eq_true rfl) ?_
  refine lv_aload_n hx hb dX2_init_4 rfl (lv_at hl 0 rfl) ?_
  refine lv_aload_n hx hb dX2_init_5 rfl (lv_at hl 1 rfl) ?_
  refine pfF (q0 := 0) (ty := .object "DunningHouse$Tape") (X' := [(a, .inr (2, [.ref ta, .null, .int 0, .int 0, .int 0, .int 0, .int 0, .int 0]))]) hx hb hts hown hK hin fpX2_init_9 hP hD hS rfl rfl rfl (Nat.le_of_ble_eq_true rfl) rfl dX2_init_6 (fun H locs hP hD hS => ?_)
  refine lv_aload_n hx hb dX2_init_9 rfl (lv_at hl 0 rfl) ?_
  refine lv_aload_n hx hb dX2_init_10 rfl (lv_at hl 2 rfl) ?_
  refine pfF (q0 := 0) (ty := .object "DunningHouse$Book") (X' := [(a, .inr (2, [.ref ta, .ref ba, .int 0, .int 0, .int 0, .int 0, .int 0, .int 0]))]) hx hb hts hown hK hin fpX2_init_15 hP hD hS rfl rfl rfl (Nat.le_of_ble_eq_true rfl) rfl dX2_init_11 (fun H locs hP hD hS => ?_)
  refine lv_aload_n hx hb dX2_init_14 rfl (lv_at hl 0 rfl) ?_
  refine lv_iconst (v := 0) hx hb dX2_init_15 (by decide) ?_
  refine pf (q0 := 0) (X' := [(a, .inr (2, [.ref ta, .ref ba, .int 0, .int 0, .int 0, .int 0, .int 0, .int 0]))]) hx hb hts hown hK fpX2_init_19 hP hD hS rfl rfl rfl (Nat.le_of_ble_eq_true rfl) rfl dX2_init_16 (fun H locs hP hD hS => ?_)
  exact hret () _ _ _ _ dX2_init_19 hP hD hS

theorem oiX0_init_1 : Cond.methodLink RX0 3 objectInit ∈ wsX0_init := by decide +kernel
theorem oiX0_init_2 : Cond.instanceMethod objectInit ∈ wsX0_init := by decide +kernel
theorem oiX0_init_3 : Cond.code objectInit ⟨#[0xb1]⟩ 1 none ∈ wsX0_init := List.mem_of_getElem? (i := 3) rfl
theorem inX0_init_X0 : ∀ w ∈ u_ws RX0 TX0 7, w ∈ wsX0_init := by decide +kernel
theorem inX0_init_X3 : ∀ w ∈ u_ws RX3 TX3 3, w ∈ wsX0_init := by decide +kernel
theorem fpX0_init_14 : Fp wsX0_init RX0 14 0 0 true (.object "DunningHouse$Table") := ⟨_, _, _, tyX0, rfl, by decide, inX0_init_X0, by decide +kernel, tyX0_ok, nmX0, rfl, rfl, by decide +kernel⟩
theorem fpX0_init_20 : Fp wsX0_init RX0 20 0 1 true (.object "DunningHouse$Table") := ⟨_, _, _, tyX0, rfl, by decide, inX0_init_X0, by decide +kernel, tyX0_ok, nmX0, rfl, rfl, by decide +kernel⟩
theorem fpX0_init_23 : Fp wsX0_init RX0 23 0 2 true (.object "DunningHouse$Table") := ⟨_, _, _, tyX0, rfl, by decide, inX0_init_X0, by decide +kernel, tyX0_ok, nmX0, rfl, rfl, by decide +kernel⟩
theorem fpX0_init_26 : Fp wsX0_init RX0 26 0 3 true (.object "DunningHouse$Table") := ⟨_, _, _, tyX0, rfl, by decide, inX0_init_X0, by decide +kernel, tyX0_ok, nmX0, rfl, rfl, by decide +kernel⟩
theorem fpX0_init_29 : Fp wsX0_init RX0 29 0 4 false .int := ⟨_, _, _, tyX0, rfl, by decide, inX0_init_X0, by decide +kernel, tyX0_ok, nmX0, rfl, rfl, by decide +kernel⟩
theorem nf_X0_1 : Cond.classLink RX0 9 RX3 ∈ wsX0_init := by decide +kernel
theorem nf_X0_2 : Cond.instantiable RX3 3 ∈ wsX0_init := by decide +kernel
theorem nf_X0_3 : Cond.initialized RX3 ∈ wsX0_init := by decide +kernel
theorem nf_X0_4 : Cond.methodLink RX0 11 yX3_init ∈ wsX0_init := by decide +kernel
theorem nf_X0_5 : Cond.instanceMethod yX3_init ∈ wsX0_init := by decide +kernel
abbrev rmX0_init : Room := { frames := 2, cells := 8, slots := 688, locals := 43 }
def bk (a : Nat) (f : Nat → Nat) : Nat → Nat := fun k => match k with
  | 0 => a
  | k + 1 => f k
theorem nfs3 (j : Nat) (hj : j < 3) : defaultValue (tyX3 j) = vp_V [.null, .int 0, .int 0] j := by
  rcases (show j = 0 ∨ j = 1 ∨ j = 2 by omega) with rfl | rfl | rfl <;> rfl
set_option maxRecDepth 100000 in
set_option maxHeartbeats 4000000 in
theorem kX0_init {l : Launch} {D : va_G} {cI cB cL cK : ClassId} {a : Nat} : Mk l D cI cB cL cK yX0_init wsX0_init rmX0_init [.ref a] [(a, .inr (0, [.null, .null, .null, .null, .int 0, .int 0, .int 0]))] (fun f : Nat → Nat => wB cI (bk a f) 1 0 0 0 0 0 0 (fun _ => 0) (fun _ => 0) (fun _ => 0) (fun _ => 0)) 8 688 := by
  refine Mk.of (cc := cX0_init) (own := RX0) (by decide) rfl rfl (Nat.le_of_ble_eq_true rfl) (fun p e s m below meth c ls Q A C hin hA hP hD hS hl hret => ?_)
  obtain ⟨hx, hb, hr, hml, hown, hts, hlk, hK⟩ := id C
  have hcf : CallFix p m c cX0_init 1 s _ wsX0_init RX0 := ⟨hx, hb, hml, hown, hts⟩
  have hl : lv_has ls 1 [(0, .ref a)] := hl
  refine lv_aload_n hx hb dX0_init_0 rfl (lv_at hl 0 rfl) ?_
  refine oin hx hb hts hown oiX0_init_1 oiX0_init_2 oiX0_init_3 hml hl.1 dX0_init_1 (Nat.le_of_ble_eq_true rfl) (Nat.le_of_ble_eq_true rfl) ?_
  refine lv_aload_n hx hb dX0_init_4 rfl (lv_at hl 0 rfl) ?_
  refine va_new (ci := 3) (fs := [.null, .int 0, .int 0]) (C := RX3) (T := TX3) (N := 3) hx hb hts inX0_init_X3 tyX3 tyX3_ok hown (hts _ nf_X0_1) (hts _ nf_X0_2) (hts _ nf_X0_3) hK hP hD hS hA rfl nfs3 (Nat.le_of_ble_eq_true rfl) (Nat.le_of_ble_eq_true rfl) dX0_init_5 (fun q1 H hP hD hS => ?_)
  refine lv_dup hx hb dX0_init_8 rfl ?_
  refine lv_bipush (v := 6) hx hb dX0_init_9 (by decide) ?_
  refine lv_iconst (v := 3) hx hb dX0_init_11 (by decide) ?_
  refine mk_i (rest := [.ref q1, .ref a]) hcf (kX3_init (a := q1) (N := 18) (w := 3) (by decide) (by decide) (by decide) (by decide)) (cwI 2 hts gX0_init_X3_init rfl rfl rfl (hts _ nf_X0_3) (hts _ nf_X0_4) (hts _ nf_X0_5) rfl hdX3_init.2 ⟨(Nat.le_of_ble_eq_true rfl), (Nat.le_of_ble_eq_true rfl)⟩) hK hP hD hS hA Sb.right (fun _ => Jn.last) rfl hl.1 rfl (Nat.le_of_ble_eq_true rfl) dX0_init_12 ⟨(Nat.le_of_ble_eq_true rfl), (Nat.le_of_ble_eq_true rfl)⟩ (fun b1 H locs hP hD hS => ?_)
  refine pfF (q0 := 0) (ty := .object "DunningHouse$Table") (X' := [(a, .inr (0, [.ref q1, .null, .null, .null, .int 0, .int 0, .int 0])), (q1, .inr (3, [.ref b1, .int 3, .int 0])), (b1, .inl (cI, 18, .inl (fun _ => 0)))]) hx hb hts hown hK hin fpX0_init_14 hP hD hS rfl rfl rfl (Nat.le_of_ble_eq_true rfl) rfl dX0_init_15 (fun H locs hP hD hS => ?_)
  refine lv_aload_n hx hb dX0_init_18 rfl (lv_at hl 0 rfl) ?_
  refine va_new (ci := 3) (fs := [.null, .int 0, .int 0]) (C := RX3) (T := TX3) (N := 3) hx hb hts inX0_init_X3 tyX3 tyX3_ok hown (hts _ nf_X0_1) (hts _ nf_X0_2) (hts _ nf_X0_3) hK hP hD hS hA rfl nfs3 (Nat.le_of_ble_eq_true rfl) (Nat.le_of_ble_eq_true rfl) dX0_init_19 (fun q2 H hP hD hS => ?_)
  refine lv_dup hx hb dX0_init_22 rfl ?_
  refine lv_bipush (v := 6) hx hb dX0_init_23 (by decide) ?_
  refine lv_bipush (v := 13) hx hb dX0_init_25 (by decide) ?_
  refine mk_i (rest := [.ref q2, .ref a]) hcf (kX3_init (a := q2) (N := 78) (w := 13) (by decide) (by decide) (by decide) (by decide)) (cwI 2 hts gX0_init_X3_init rfl rfl rfl (hts _ nf_X0_3) (hts _ nf_X0_4) (hts _ nf_X0_5) rfl hdX3_init.2 ⟨(Nat.le_of_ble_eq_true rfl), (Nat.le_of_ble_eq_true rfl)⟩) hK hP hD hS hA Sb.right (fun _ => Jn.last) rfl hl.1 rfl (Nat.le_of_ble_eq_true rfl) dX0_init_27 ⟨(Nat.le_of_ble_eq_true rfl), (Nat.le_of_ble_eq_true rfl)⟩ (fun b2 H locs hP hD hS => ?_)
  refine pfF (q0 := 0) (ty := .object "DunningHouse$Table") (X' := [(a, .inr (0, [.ref q1, .ref q2, .null, .null, .int 0, .int 0, .int 0])), (q1, .inr (3, [.ref b1, .int 3, .int 0])), (b1, .inl (cI, 18, .inl (fun _ => 0))), (q2, .inr (3, [.ref b2, .int 13, .int 0])), (b2, .inl (cI, 78, .inl (fun _ => 0)))]) hx hb hts hown hK hin fpX0_init_20 hP hD hS rfl rfl rfl (Nat.le_of_ble_eq_true rfl) rfl dX0_init_30 (fun H locs hP hD hS => ?_)
  refine lv_aload_n hx hb dX0_init_33 rfl (lv_at hl 0 rfl) ?_
  refine va_new (ci := 3) (fs := [.null, .int 0, .int 0]) (C := RX3) (T := TX3) (N := 3) hx hb hts inX0_init_X3 tyX3 tyX3_ok hown (hts _ nf_X0_1) (hts _ nf_X0_2) (hts _ nf_X0_3) hK hP hD hS hA rfl nfs3 (Nat.le_of_ble_eq_true rfl) (Nat.le_of_ble_eq_true rfl) dX0_init_34 (fun q3 H hP hD hS => ?_)
  refine lv_dup hx hb dX0_init_37 rfl ?_
  refine lv_bipush (v := 60) hx hb dX0_init_38 (by decide) ?_
  refine lv_bipush (v := 7) hx hb dX0_init_40 (by decide) ?_
  refine mk_i (rest := [.ref q3, .ref a]) hcf (kX3_init (a := q3) (N := 420) (w := 7) (by decide) (by decide) (by decide) (by decide)) (cwI 2 hts gX0_init_X3_init rfl rfl rfl (hts _ nf_X0_3) (hts _ nf_X0_4) (hts _ nf_X0_5) rfl hdX3_init.2 ⟨(Nat.le_of_ble_eq_true rfl), (Nat.le_of_ble_eq_true rfl)⟩) hK hP hD hS hA Sb.right (fun _ => Jn.last) rfl hl.1 rfl (Nat.le_of_ble_eq_true rfl) dX0_init_42 ⟨(Nat.le_of_ble_eq_true rfl), (Nat.le_of_ble_eq_true rfl)⟩ (fun b3 H locs hP hD hS => ?_)
  refine pfF (q0 := 0) (ty := .object "DunningHouse$Table") (X' := [(a, .inr (0, [.ref q1, .ref q2, .ref q3, .null, .int 0, .int 0, .int 0])), (q1, .inr (3, [.ref b1, .int 3, .int 0])), (b1, .inl (cI, 18, .inl (fun _ => 0))), (q2, .inr (3, [.ref b2, .int 13, .int 0])), (b2, .inl (cI, 78, .inl (fun _ => 0))), (q3, .inr (3, [.ref b3, .int 7, .int 0])), (b3, .inl (cI, 420, .inl (fun _ => 0)))]) hx hb hts hown hK hin fpX0_init_23 hP hD hS rfl rfl rfl (Nat.le_of_ble_eq_true rfl) rfl dX0_init_45 (fun H locs hP hD hS => ?_)
  refine lv_aload_n hx hb dX0_init_48 rfl (lv_at hl 0 rfl) ?_
  refine va_new (ci := 3) (fs := [.null, .int 0, .int 0]) (C := RX3) (T := TX3) (N := 3) hx hb hts inX0_init_X3 tyX3 tyX3_ok hown (hts _ nf_X0_1) (hts _ nf_X0_2) (hts _ nf_X0_3) hK hP hD hS hA rfl nfs3 (Nat.le_of_ble_eq_true rfl) (Nat.le_of_ble_eq_true rfl) dX0_init_49 (fun q4 H hP hD hS => ?_)
  refine lv_dup hx hb dX0_init_52 rfl ?_
  refine lv_bipush (v := 40) hx hb dX0_init_53 (by decide) ?_
  refine lv_iconst (v := 4) hx hb dX0_init_55 (by decide) ?_
  refine mk_i (rest := [.ref q4, .ref a]) hcf (kX3_init (a := q4) (N := 160) (w := 4) (by decide) (by decide) (by decide) (by decide)) (cwI 2 hts gX0_init_X3_init rfl rfl rfl (hts _ nf_X0_3) (hts _ nf_X0_4) (hts _ nf_X0_5) rfl hdX3_init.2 ⟨(Nat.le_of_ble_eq_true rfl), (Nat.le_of_ble_eq_true rfl)⟩) hK hP hD hS hA Sb.right (fun _ => Jn.last) rfl hl.1 rfl (Nat.le_of_ble_eq_true rfl) dX0_init_56 ⟨(Nat.le_of_ble_eq_true rfl), (Nat.le_of_ble_eq_true rfl)⟩ (fun b4 H locs hP hD hS => ?_)
  refine pfF (q0 := 0) (ty := .object "DunningHouse$Table") (X' := [(a, .inr (0, [.ref q1, .ref q2, .ref q3, .ref q4, .int 0, .int 0, .int 0])), (q1, .inr (3, [.ref b1, .int 3, .int 0])), (b1, .inl (cI, 18, .inl (fun _ => 0))), (q2, .inr (3, [.ref b2, .int 13, .int 0])), (b2, .inl (cI, 78, .inl (fun _ => 0))), (q3, .inr (3, [.ref b3, .int 7, .int 0])), (b3, .inl (cI, 420, .inl (fun _ => 0))), (q4, .inr (3, [.ref b4, .int 4, .int 0])), (b4, .inl (cI, 160, .inl (fun _ => 0)))]) hx hb hts hown hK hin fpX0_init_26 hP hD hS rfl rfl rfl (Nat.le_of_ble_eq_true rfl) rfl dX0_init_59 (fun H locs hP hD hS => ?_)
  refine lv_aload_n hx hb dX0_init_62 rfl (lv_at hl 0 rfl) ?_
  refine lv_iconst (v := 1) hx hb dX0_init_63 (by decide) ?_
  refine pf (q0 := 0) (X' := wB cI (bk a (fun k => match k with | 0 => q1 | 1 => b1 | 2 => q2 | 3 => b2 | 4 => q3 | 5 => b3 | 6 => q4 | _ => b4)) 1 0 0 0 0 0 0 (fun _ => 0) (fun _ => 0) (fun _ => 0) (fun _ => 0)) hx hb hts hown hK fpX0_init_29 hP hD hS rfl rfl rfl (Nat.le_of_ble_eq_true rfl) rfl dX0_init_64 (fun H locs hP hD hS => ?_)
  refine W.widen (k := 8) (n := 688) (Nat.le_of_ble_eq_true rfl) (Nat.le_of_ble_eq_true rfl) ?_
  exact hret (fun k => match k with | 0 => q1 | 1 => b1 | 2 => q2 | 3 => b2 | 4 => q3 | 5 => b3 | 6 => q4 | _ => b4) _ _ _ _ dX0_init_67 hP hD hS

theorem oiX6_init_1 : Cond.methodLink RX6 64 objectInit ∈ wsX6_init := by decide +kernel
theorem oiX6_init_2 : Cond.instanceMethod objectInit ∈ wsX6_init := by decide +kernel
theorem oiX6_init_3 : Cond.code objectInit ⟨#[0xb1]⟩ 1 none ∈ wsX6_init := List.mem_of_getElem? (i := 3) rfl
theorem inX6_init_X6 : ∀ w ∈ u_ws RX6 TX6 20, w ∈ wsX6_init := by decide +kernel
theorem fpX6_init_7 : Fp wsX6_init RX6 7 6 1 true (.array .int) := ⟨_, _, _, tyX6, rfl, by decide, inX6_init_X6, by decide +kernel, tyX6_ok, nmX6, rfl, rfl, by decide +kernel⟩
theorem fpX6_init_70 : Fp wsX6_init RX6 70 6 11 true (.array .int) := ⟨_, _, _, tyX6, rfl, by decide, inX6_init_X6, by decide +kernel, tyX6_ok, nmX6, rfl, rfl, by decide +kernel⟩
theorem fpX6_init_73 : Fp wsX6_init RX6 73 6 12 true (.array .int) := ⟨_, _, _, tyX6, rfl, by decide, inX6_init_X6, by decide +kernel, tyX6_ok, nmX6, rfl, rfl, by decide +kernel⟩
theorem fpX6_init_76 : Fp wsX6_init RX6 76 6 13 true (.array .int) := ⟨_, _, _, tyX6, rfl, by decide, inX6_init_X6, by decide +kernel, tyX6_ok, nmX6, rfl, rfl, by decide +kernel⟩
theorem fpX6_init_79 : Fp wsX6_init RX6 79 6 14 true (.array .int) := ⟨_, _, _, tyX6, rfl, by decide, inX6_init_X6, by decide +kernel, tyX6_ok, nmX6, rfl, rfl, by decide +kernel⟩
theorem flX6_init_70 : Fl wsX6_init RX6 70 6 11 := ⟨_, _, _, rfl, by decide, inX6_init_X6, by decide +kernel⟩
theorem mfX6_init_ar : Cond.arrayClass .int ∈ wsX6_init := by decide +kernel
abbrev rmX6_init : Room := { frames := 1, cells := 5, slots := 10845, locals := 21 }
set_option maxRecDepth 100000 in
set_option maxHeartbeats 4000000 in
theorem kX6_init {l : Launch} {D : va_G} {cI cB cL cK : ClassId} {a : Nat} : Mk l D cI cB cL cK yX6_init wsX6_init rmX6_init [.ref a] [(a, .inr (6, [.int 0, .null, .int 0, .int 0, .int 0, .int 0, .int 0, .int 0, .int 0, .int 0, .long 0, .null, .null, .null, .null, .int 0, .int 0, .int 0, .int 0, .int 0]))] (fun f : Nat → Nat => wM cI (bk a f) 0 0 0 0 0 0 0 0 0 0 0 0 0 0 0 (fun _ => 0) (upd (fun _ => 0) 1 1) (fun _ => 0) (fun _ => 0) (fun _ => 0)) 5 10845 := by
  refine Mk.of (cc := cX6_init) (own := RX6) (by decide) rfl rfl (Nat.le_of_ble_eq_true rfl) (fun p e s m below meth c ls Q A C hin hA hP hD hS hl hret => ?_)
  obtain ⟨hx, hb, hr, hml, hown, hts, hlk, hK⟩ := id C
  have hcf : CallFix p m c cX6_init 1 s _ wsX6_init RX6 := ⟨hx, hb, hml, hown, hts⟩
  have hl : lv_has ls 1 [(0, .ref a)] := hl
  refine lv_aload_n hx hb dX6_init_0 rfl (lv_at hl 0 rfl) ?_
  refine oin hx hb hts hown oiX6_init_1 oiX6_init_2 oiX6_init_3 hml hl.1 dX6_init_1 (Nat.le_of_ble_eq_true rfl) (Nat.le_of_ble_eq_true rfl) ?_
  refine lv_aload_n hx hb dX6_init_4 rfl (lv_at hl 0 rfl) ?_
  refine lv_sipush (v := 640) hx hb dX6_init_5 (by decide) ?_
  refine nwI (N' := 640) hx hb hts mfX6_init_ar hK hP hD hS hA (by decide) (by decide) (by decide) (Nat.le_of_ble_eq_true rfl) (Nat.le_of_ble_eq_true rfl) dX6_init_8 (fun q1 H hP hD hS => ?_)
  refine pfF (q0 := 0) (ty := .array .int) (X' := [(a, .inr (6, [.int 0, .ref q1, .int 0, .int 0, .int 0, .int 0, .int 0, .int 0, .int 0, .int 0, .long 0, .null, .null, .null, .null, .int 0, .int 0, .int 0, .int 0, .int 0])), (q1, .inl (cI, 640, .inl (fun _ => 0)))]) hx hb hts hown hK hin fpX6_init_7 hP hD hS rfl rfl rfl (Nat.le_of_ble_eq_true rfl) rfl dX6_init_10 (fun H locs hP hD hS => ?_)
  refine lv_aload_n hx hb dX6_init_13 rfl (lv_at hl 0 rfl) ?_
  refine lv_sipush (v := 785) hx hb dX6_init_14 (by decide) ?_
  refine nwI (N' := 785) hx hb hts mfX6_init_ar hK hP hD hS hA (by decide) (by decide) (by decide) (Nat.le_of_ble_eq_true rfl) (Nat.le_of_ble_eq_true rfl) dX6_init_17 (fun q2 H hP hD hS => ?_)
  refine pfF (q0 := 0) (ty := .array .int) (X' := [(a, .inr (6, [.int 0, .ref q1, .int 0, .int 0, .int 0, .int 0, .int 0, .int 0, .int 0, .int 0, .long 0, .ref q2, .null, .null, .null, .int 0, .int 0, .int 0, .int 0, .int 0])), (q1, .inl (cI, 640, .inl (fun _ => 0))), (q2, .inl (cI, 785, .inl (fun _ => 0)))]) hx hb hts hown hK hin fpX6_init_70 hP hD hS rfl rfl rfl (Nat.le_of_ble_eq_true rfl) rfl dX6_init_19 (fun H locs hP hD hS => ?_)
  refine lv_aload_n hx hb dX6_init_22 rfl (lv_at hl 0 rfl) ?_
  refine lv_sipush (v := 785) hx hb dX6_init_23 (by decide) ?_
  refine nwI (N' := 785) hx hb hts mfX6_init_ar hK hP hD hS hA (by decide) (by decide) (by decide) (Nat.le_of_ble_eq_true rfl) (Nat.le_of_ble_eq_true rfl) dX6_init_26 (fun q3 H hP hD hS => ?_)
  refine pfF (q0 := 0) (ty := .array .int) (X' := [(a, .inr (6, [.int 0, .ref q1, .int 0, .int 0, .int 0, .int 0, .int 0, .int 0, .int 0, .int 0, .long 0, .ref q2, .ref q3, .null, .null, .int 0, .int 0, .int 0, .int 0, .int 0])), (q1, .inl (cI, 640, .inl (fun _ => 0))), (q2, .inl (cI, 785, .inl (fun _ => 0))), (q3, .inl (cI, 785, .inl (fun _ => 0)))]) hx hb hts hown hK hin fpX6_init_73 hP hD hS rfl rfl rfl (Nat.le_of_ble_eq_true rfl) rfl dX6_init_28 (fun H locs hP hD hS => ?_)
  refine lv_aload_n hx hb dX6_init_31 rfl (lv_at hl 0 rfl) ?_
  refine lv_sipush (v := 785) hx hb dX6_init_32 (by decide) ?_
  refine nwI (N' := 785) hx hb hts mfX6_init_ar hK hP hD hS hA (by decide) (by decide) (by decide) (Nat.le_of_ble_eq_true rfl) (Nat.le_of_ble_eq_true rfl) dX6_init_35 (fun q4 H hP hD hS => ?_)
  refine pfF (q0 := 0) (ty := .array .int) (X' := [(a, .inr (6, [.int 0, .ref q1, .int 0, .int 0, .int 0, .int 0, .int 0, .int 0, .int 0, .int 0, .long 0, .ref q2, .ref q3, .ref q4, .null, .int 0, .int 0, .int 0, .int 0, .int 0])), (q1, .inl (cI, 640, .inl (fun _ => 0))), (q2, .inl (cI, 785, .inl (fun _ => 0))), (q3, .inl (cI, 785, .inl (fun _ => 0))), (q4, .inl (cI, 785, .inl (fun _ => 0)))]) hx hb hts hown hK hin fpX6_init_76 hP hD hS rfl rfl rfl (Nat.le_of_ble_eq_true rfl) rfl dX6_init_37 (fun H locs hP hD hS => ?_)
  refine lv_aload_n hx hb dX6_init_40 rfl (lv_at hl 0 rfl) ?_
  refine lv_sipush (v := 7850) hx hb dX6_init_41 (by decide) ?_
  refine nwI (N' := 7850) hx hb hts mfX6_init_ar hK hP hD hS hA (by decide) (by decide) (by decide) (Nat.le_of_ble_eq_true rfl) (Nat.le_of_ble_eq_true rfl) dX6_init_44 (fun q5 H hP hD hS => ?_)
  refine pfF (q0 := 0) (ty := .array .int) (X' := [(a, .inr (6, [.int 0, .ref q1, .int 0, .int 0, .int 0, .int 0, .int 0, .int 0, .int 0, .int 0, .long 0, .ref q2, .ref q3, .ref q4, .ref q5, .int 0, .int 0, .int 0, .int 0, .int 0])), (q1, .inl (cI, 640, .inl (fun _ => 0))), (q2, .inl (cI, 785, .inl (fun _ => 0))), (q3, .inl (cI, 785, .inl (fun _ => 0))), (q4, .inl (cI, 785, .inl (fun _ => 0))), (q5, .inl (cI, 7850, .inl (fun _ => 0)))]) hx hb hts hown hK hin fpX6_init_79 hP hD hS rfl rfl rfl (Nat.le_of_ble_eq_true rfl) rfl dX6_init_46 (fun H locs hP hD hS => ?_)
  refine lv_aload_n hx hb dX6_init_49 rfl (lv_at hl 0 rfl) ?_
  refine gf (q0 := 0) hx hb hts hown hK flX6_init_70 hP rfl rfl dX6_init_50 ?_
  refine lv_iconst (v := 1) hx hb dX6_init_53 (by decide) ?_
  refine lv_iconst (v := 1) hx hb dX6_init_54 (by decide) ?_
  refine ast (q0 := 2) (k := 1) (X' := wM cI (bk a (fun k => match k with | 0 => q1 | 1 => q2 | 2 => q3 | 3 => q4 | _ => q5)) 0 0 0 0 0 0 0 0 0 0 0 0 0 0 0 (fun _ => 0) (upd (fun _ => 0) 1 1) (fun _ => 0) (fun _ => 0) (fun _ => 0)) hx hb hK hP hD hS rfl (by decide) (by decide) rfl dX6_init_55 (fun H locs hP hD hS => ?_)
  refine W.widen (k := 5) (n := 10845) (Nat.le_of_ble_eq_true rfl) (Nat.le_of_ble_eq_true rfl) ?_
  exact hret (fun k => match k with | 0 => q1 | 1 => q2 | 2 => q3 | 3 => q4 | _ => q5) _ _ _ _ dX6_init_56 hP hD hS
