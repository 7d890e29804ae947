/-! the four words of the reader: the JDK's own members over them -/
def NoA : Nat → Prop := fun _ => False
/-- a String constant of n bytes -/
def SF (q v n : Nat) (byt : Nat → Int32) (A : Nat → Prop) (U : State) (H : Heap) : Prop :=
  va_O "java/lang/String" q A U H ∧ va_OF "java/lang/String" "coder" "B" (.int 0) q A U H ∧ va_OF "java/lang/String" "value" "[B" (.ref v) q A U H ∧ va_T .byte v n (fun j => .int (byt j)) A U H
def SS (A : Nat → Prop) (U : State) (H : Heap) : Prop := va_Z "java/lang/String" "COMPACT_STRINGS" "Z" (.int 1) A U H ∧ va_Zq "jdk/internal/util/Preconditions" "SIOOBE_FORMATTER" "Ljava/util/function/BiFunction;" A U H
section StrA
variable {q v n : Nat} {byt : Nat → Int32} {A B : Nat → Prop} {u U : State} {H H1 : Heap}
theorem SF.moved (hvm : u.vm.Alike U.vm) (h : SF q v n byt A u H) : SF q v n byt A U H := ⟨h.1.moved hvm, h.2.1.moved hvm, h.2.2.1.moved hvm, h.2.2.2.moved hvm⟩
theorem SF.kept (h : SF q v n byt A U H) (hq : ∀ a : Nat, a < H.size → ¬ A a → H1[a]? = H[a]?) : SF q v n byt A U H1 := ⟨h.1.kept hq, h.2.1.kept hq, h.2.2.1.kept hq, h.2.2.2.kept hq⟩
theorem SF.narrow (h : SF q v n byt A U H) (hAB : ∀ q, B q → A q) : SF q v n byt B U H := ⟨h.1.narrow hAB, h.2.1.narrow hAB, h.2.2.1.narrow hAB, h.2.2.2.narrow hAB⟩
theorem SS.moved (hvm : u.vm.Alike U.vm) (h : SS A u H) : SS A U H := ⟨h.1.moved hvm, h.2.moved hvm⟩
theorem SS.kept (h : SS A U H) (hq : ∀ a : Nat, a < H.size → ¬ A a → H1[a]? = H[a]?) : SS A U H1 := ⟨h.1.kept hq, h.2.kept hq⟩
theorem SS.narrow (h : SS A U H) (hAB : ∀ q, B q → A q) : SS B U H := ⟨h.1.narrow hAB, h.2.narrow hAB⟩
end StrA
def wLen (i : Nat) : Nat := match i with
  | 0 => 4
  | 1 => 4
  | 2 => 6
  | _ => 7
def wByt (i j : Nat) : Int32 := (([[115, 116, 101, 112], [104, 111, 108, 100], [100, 101, 98, 116, 111, 114], [105, 110, 118, 111, 105, 99, 101]] : List (List Int32)).getD i []).getD j 0
def chr (b : Int32) : Int32 := ((b &&& 255).toUInt32 % 65536).toInt32
def ZR (sq sv : Nat → Nat) (A : Nat → Prop) (U : State) (H : Heap) : Prop :=
  (∀ i, i < 4 → SF (sq i) (sv i) (wLen i) (wByt i) A U H) ∧ SS A U H ∧ vk_R RX2 61 "step" (sq 0) U ∧ vk_R RX2 67 "hold" (sq 1) U ∧ vk_R RX2 69 "debtor" (sq 2) U ∧ vk_R RX2 71 "invoice" (sq 3) U
section StrB
variable {sq sv : Nat → Nat} {A B : Nat → Prop} {s u U : State} {H H1 : Heap}
theorem ZR.warm (hW : s.WarmedH U.vm) (h : ZR sq sv A s H) : ZR sq sv A U H := ⟨fun i hi => (h.1 i hi).moved hW.alike, h.2.1.moved hW.alike, h.2.2.1.warm hW, h.2.2.2.1.warm hW, h.2.2.2.2.1.warm hW, h.2.2.2.2.2.warm hW⟩
theorem ZR.same (hv : U.vm = u.vm) (h : ZR sq sv A u H) : ZR sq sv A U H := ⟨fun i hi => (h.1 i hi).moved (by rw [hv]; exact Vm.Alike.refl _), h.2.1.moved (by rw [hv]; exact Vm.Alike.refl _), h.2.2.1.same hv, h.2.2.2.1.same hv, h.2.2.2.2.1.same hv, h.2.2.2.2.2.same hv⟩
theorem ZR.kept (h : ZR sq sv A U H) (hq : ∀ a : Nat, a < H.size → ¬ A a → H1[a]? = H[a]?) : ZR sq sv A U H1 := ⟨fun i hi => (h.1 i hi).kept hq, h.2.1.kept hq, h.2.2⟩
theorem ZR.narrow (h : ZR sq sv A U H) (hAB : ∀ q, B q → A q) : ZR sq sv B U H := ⟨fun i hi => (h.1 i hi).narrow hAB, h.2.1.narrow hAB, h.2.2⟩
end StrB
/-- a method that reads, under facts Z of the start -/
def Rz (l : Launch) (y : MethodName) (ws : List Cond) (rm : Room) (av : List Value) (Z : State → Prop) (res : Int32) : Prop :=
  Met l y ws rm (va_Pc av Z) (vp_Si (fun r => r = res)) 0 0 (fun _ => False)
def Bl (Z : State → Prop) : Prop := ∀ (a : Array Value) (U : State) (g : JFrame) (mk : MethodId), Z U → Z (U.calling g mk a)
def Zq (q v n : Nat) (byt : Nat → Int32) (U : State) : Prop := SF q v n byt NoA U U.heap ∧ SS NoA U U.heap
theorem Zq.bl {q v n : Nat} {byt : Nat → Int32} : Bl (Zq q v n byt) := fun a U g mk h => ⟨SF.moved (u := U) (U := U.calling g mk a) (Vm.Alike.refl U.vm) h.1, SS.moved (u := U) (U := U.calling g mk a) (Vm.Alike.refl U.vm) h.2⟩
section StrC
variable {l : Launch} {y : MethodName} {ws ws' : List Cond} {rm : Room} {av : List Value} {cc : ByteArray} {maxL : Nat} {own : String} {Z : State → Prop}
theorem Rz.of {ty : FieldType} {res : Int32} (hy : plainName y.cls = true) (hw : ws = Cond.code y cc maxL (some ty) :: ws') (ho : y.cls = own) (hle : (lg_sl av).length ≤ maxL)
    (h : ∀ (p : Program) (e : Env) (s : State) (m : MethodId) (below : List Frame) (meth : Method) (c : Code) (ls : Array Slot) (Q : State → Prop), CallFix p m c cc maxL s av.toArray ws own → Z s → lv_has ls maxL (lv_args 0 av) →
      (∀ (pc : Nat) (ls : Array Slot), decode cc pc = .ok (.ireturn, 1) → narrow ty (.int res) = .int res → W p l e rm s m av.toArray below meth c s.heap [] 0 0 Q (F0 m pc ls [.int res])) →
      W p l e rm s m av.toArray below meth c s.heap [] 0 0 Q (F0 m 0 ls [])) : Rz l y ws rm av Z res := by
  refine Met.ofW (cc := cc) (maxL := maxL) (ret := some ty) hy hw ?_
  intro p e s m args below meth c s₁ B hml hv
  obtain ⟨rfl, hZ⟩ := hv
  have hts := atoms_spec (ws := ws) B.pre
  have hown : s.vm.findClass own = some m.cls := by rw [← ho]; exact findClass_of_methodNamed B.named
  have hl := lv_entry av (n := maxL) hle
  rw [lg_entry_eq]
  have hlk := B.notSynchronized
  refine h p e s m below meth c _ _ ⟨B.exec, B.bytes, hml, hown, hts⟩ hZ hl (fun pc ls hd hn => ?_)
  exact W.zret B.exec B.bytes B.returns hn (fun t ht _ => ⟨res, rfl, rfl, ht⟩) (fun _ h => by cases h) hd hlk
end StrC
section StrD
variable {p : Program} {l : Launch} {e : Env} {R : Room} {s : State} {m : MethodId} {args : Array Value} {below : List Frame} {meth : Method} {c : Code} {H : Heap} {locs : List Loc} {cells slots : Nat} {Q : State → Prop} {pc nL : Nat} {ls : Array Slot} {rest st0 As : List Value} {cc bytes : ByteArray} {maxL n index : Nat} {ret : Option FieldType} {ws Ts : List Cond} {rm : Room} {own C : String} {y : MethodName} {b : Nat} {r : Int32} {Z : State → Prop}
theorem rz_v (S : CallFix p m c cc nL s args Ts own) (hM : Rz l y ws rm (.ref b :: As) Z r) (cw : CallW R s args own C index y bytes maxL ret ws rm 0 0 n) (hbl : Bl Z) (hrv : ∃ cell : Cell, H[b]? = some cell ∧ cell.vm.isStatics = false ∧ s.vm.findClass C = some cell.cls) (hZ : ∀ U : State, U.heap = H → s.WarmedH U.vm → Z U)
    (hn : As.length = n) (hsize : ls.size = nL) (hst : st0 = As.reverse ++ .ref b :: rest) (hw : (rest.map fun v => v.category).sum ≤ 8) (hdg : decode cc pc = .ok (.invokevirtual index, 3)) (hf : cells ≤ R.cells ∧ slots ≤ R.slots)
    (kk : W p l e R s m args below meth c H locs cells slots Q (F0 m (pc + 3) ls (.int r :: rest))) : W p l e R s m args below meth c H locs cells slots Q (F0 m pc ls st0) :=
  vp_callSi (post := fun z => z = r) (W.runV (rest := rest) S hM cw ⟨fun a U g mk q => ⟨q.1, hbl a U g mk q.2⟩, hrv, fun U hU hW => ⟨rfl, hZ U hU hW⟩⟩ rfl hn hsize hst (lv_room hw) hdg hf) (fun z hz => by rw [hz]; exact kk)
theorem rz_s (S : CallFix p m c cc nL s args Ts own) (hM : Rz l y ws rm As Z r) (cw : CallB R s args own index y bytes maxL ret ws rm 0 0 n ∧ (Cond.static y).before args s = true) (hbl : Bl Z) (hZ : ∀ U : State, U.heap = H → s.WarmedH U.vm → Z U)
    (hn : As.length = n) (hsize : ls.size = nL) (hst : st0 = As.reverse ++ rest) (hw : (rest.map fun v => v.category).sum ≤ 8) (hdg : decode cc pc = .ok (.invokestatic index, 3)) (hf : cells ≤ R.cells ∧ slots ≤ R.slots)
    (kk : W p l e R s m args below meth c H locs cells slots Q (F0 m (pc + 3) ls (.int r :: rest))) : W p l e R s m args below meth c H locs cells slots Q (F0 m pc ls st0) :=
  vp_callSi (post := fun z => z = r) (W.runS (rest := rest) S hM cw ⟨fun a U g mk q => ⟨q.1, hbl a U g mk q.2⟩, fun U hU hW => ⟨rfl, hZ U hU hW⟩⟩ rfl hn hsize hst (lv_room hw) hdg hf) (fun z hz => by rw [hz]; exact kk)
theorem Zq.at {q v n : Nat} {byt : Nat → Int32} (h : Zq q v n byt s) : ∀ U : State, U.heap = s.heap → s.WarmedH U.vm → Zq q v n byt U := fun U hU hW => ⟨by rw [hU]; exact h.1.moved hW.alike, by rw [hU]; exact h.2.moved hW.alike⟩
end StrD
abbrev rmJcoder : Room := { frames := 0, cells := 0, slots := 0, locals := 0 }
abbrev rmJlen : Room := { frames := 1, cells := 0, slots := 0, locals := 20 }
abbrev rmJck3 : Room := { frames := 0, cells := 0, slots := 0, locals := 0 }
abbrev rmJck0 : Room := { frames := 1, cells := 0, slots := 0, locals := 22 }
abbrev rmJlat : Room := { frames := 2, cells := 0, slots := 0, locals := 43 }
abbrev rmJchr : Room := { frames := 3, cells := 0, slots := 0, locals := 64 }
section StrE
variable {l : Launch} {q v n : Nat} {byt : Nat → Int32}
set_option maxRecDepth 100000 in
set_option maxHeartbeats 4000000 in
theorem kJcoder : Rz l yJ0_coder_7d493 wsJ0_coder_7d493 rmJcoder [.ref q] (Zq q v n byt) 0 := by
  refine Rz.of (cc := cJ0_coder_7d493) (own := RJ0) (by decide) rfl rfl (Nat.le_of_ble_eq_true rfl) (fun p e s m below meth c ls Q C hZ hl hret => ?_)
  obtain ⟨hx, hb, hml, hown, hts⟩ := id C
  have hl : lv_has ls 1 [(0, .ref q)] := hl
  have hS : va_S NoA s.heap s.heap [] := va_S.rf
  refine va_gets hx hb hZ.2.1 hS hown (hts (.fieldLink RJ0 38 "java/lang/String" "COMPACT_STRINGS" "Z") (by decide +kernel)) (fun _ h => h) dJ0_coder_7d493_0 ?_
  refine lv_if_eq (tgt := 13) hx hb dJ0_coder_7d493_3 (by decide) (fun c_1 => absurd c_1 (by decide)) (fun c_1 => ?_)
  refine lv_aload_n hx hb dJ0_coder_7d493_6 rfl (lv_at hl 0 rfl) ?_
  refine vk_getf hx hb hZ.1.2.1 hS hown (hts (.fieldLink RJ0 15 "java/lang/String" "coder" "B") (by decide +kernel)) (fun _ h => h) dJ0_coder_7d493_7 ?_
  refine lv_goto (tgt := 14) hx hb dJ0_coder_7d493_10 (by decide) ?_
  exact hret _ _ dJ0_coder_7d493_14 rfl
set_option maxRecDepth 100000 in
set_option maxHeartbeats 4000000 in
theorem kJlatin : Rz l yJ0_isLatin1_aae02 wsJ0_isLatin1_aae02 rmJcoder [.ref q] (Zq q v n byt) 1 := by
  refine Rz.of (cc := cJ0_isLatin1_aae02) (own := RJ0) (by decide) rfl rfl (Nat.le_of_ble_eq_true rfl) (fun p e s m below meth c ls Q C hZ hl hret => ?_)
  obtain ⟨hx, hb, hml, hown, hts⟩ := id C
  have hl : lv_has ls 1 [(0, .ref q)] := hl
  have hS : va_S NoA s.heap s.heap [] := va_S.rf
  refine va_gets hx hb hZ.2.1 hS hown (hts (.fieldLink RJ0 38 "java/lang/String" "COMPACT_STRINGS" "Z") (by decide +kernel)) (fun _ h => h) dJ0_isLatin1_aae02_0 ?_
  refine lv_if_eq (tgt := 17) hx hb dJ0_isLatin1_aae02_3 (by decide) (fun c_1 => absurd c_1 (by decide)) (fun c_1 => ?_)
  refine lv_aload_n hx hb dJ0_isLatin1_aae02_6 rfl (lv_at hl 0 rfl) ?_
  refine vk_getf hx hb hZ.1.2.1 hS hown (hts (.fieldLink RJ0 15 "java/lang/String" "coder" "B") (by decide +kernel)) (fun _ h => h) dJ0_isLatin1_aae02_7 ?_
  refine lv_if_ne (tgt := 17) hx hb dJ0_isLatin1_aae02_10 (by decide) (fun c_1 => absurd rfl c_1) (fun c_1 => ?_)
  refine lv_iconst (v := 1) hx hb dJ0_isLatin1_aae02_13 (by decide) ?_
  refine lv_goto (tgt := 18) hx hb dJ0_isLatin1_aae02_14 (by decide) ?_
  exact hret _ _ dJ0_isLatin1_aae02_18 rfl
set_option maxRecDepth 100000 in
set_option maxHeartbeats 4000000 in
theorem kJlen : Rz l yJ0_length_8abf5 wsJ0_length_8abf5 rmJlen [.ref q] (Zq q v n byt) (Int32.ofNat n) := by
  refine Rz.of (cc := cJ0_length_8abf5) (own := RJ0) (by decide) rfl rfl (Nat.le_of_ble_eq_true rfl) (fun p e s m below meth c ls Q C hZ hl hret => ?_)
  obtain ⟨hx, hb, hml, hown, hts⟩ := id C
  have hl : lv_has ls 1 [(0, .ref q)] := hl
  have hS : va_S NoA s.heap s.heap [] := va_S.rf
  refine lv_aload_n hx hb dJ0_length_8abf5_0 rfl (lv_at hl 0 rfl) ?_
  refine vk_getf hx hb hZ.1.2.2.1 hS hown (hts (.fieldLink RJ0 9 "java/lang/String" "value" "[B") (by decide +kernel)) (fun _ h => h) dJ0_length_8abf5_1 ?_
  refine va_tlen hx hb hZ.1.2.2.2 hS rfl dJ0_length_8abf5_4 ?_
  refine lv_aload_n hx hb dJ0_length_8abf5_5 rfl (lv_at hl 0 rfl) ?_
  obtain ⟨cell, g1, g2, g3, -⟩ := hZ.1.1
  refine rz_v C kJcoder (cwV (C := RJ0) 0 hts gJ0_length_8abf5_J0_coder_7d493 rfl rfl rfl (by decide +kernel) ⟨Nat.le_of_ble_eq_true rfl, Nat.le_of_ble_eq_true rfl⟩) Zq.bl ⟨cell, g1, g2, g3⟩ hZ.at rfl hl.1 rfl (Nat.le_of_ble_eq_true rfl) dJ0_length_8abf5_6 ⟨Nat.zero_le _, Nat.zero_le _⟩ ?_
  refine lv_ishr hx hb dJ0_length_8abf5_9 ?_
  rw [sb_shr0]
  exact hret _ _ dJ0_length_8abf5_10 rfl
set_option maxRecDepth 100000 in
set_option maxHeartbeats 4000000 in
theorem kJck3 {i k : Int32} {f : Value} (hf : f.category = 1) (h0 : ¬ i < 0) (h1 : i < k) : Rz l yJ3_checkIndex_8e157 wsJ3_checkIndex_8e157 rmJck3 [.int i, .int k, f] (fun _ => True) i := by
  refine Rz.of (cc := cJ3_checkIndex_8e157) (own := RJ3) (by decide) rfl rfl (by cases f <;> first | exact Nat.le_of_ble_eq_true rfl | cases hf) (fun p e s m below meth c ls Q C hZ hl hret => ?_)
  obtain ⟨hx, hb, hml, hown, hts⟩ := id C
  have hl : lv_has ls 3 [(0, .int i), (1, .int k), (2, f)] := hl
  refine lv_iload_n hx hb dJ3_checkIndex_8e157_0 rfl (lv_at hl 0 rfl) ?_
  refine lv_if_lt (tgt := 9) hx hb dJ3_checkIndex_8e157_1 (by decide) (fun c_1 => absurd c_1 h0) (fun c_1 => ?_)
  refine lv_iload_n hx hb dJ3_checkIndex_8e157_4 rfl (lv_at hl 0 rfl) ?_
  refine lv_iload_n hx hb dJ3_checkIndex_8e157_5 rfl (lv_at hl 1 rfl) ?_
  refine lv_icmp_lt (tgt := 16) hx hb dJ3_checkIndex_8e157_6 (by decide) (fun c_1 => ?_) (fun c_1 => absurd h1 c_1)
  refine lv_iload_n hx hb dJ3_checkIndex_8e157_16 rfl (lv_at hl 0 rfl) ?_
  exact hret _ _ dJ3_checkIndex_8e157_17 rfl
/-- String.checkIndex: it comes back -/
def Rv (l : Launch) (y : MethodName) (ws : List Cond) (rm : Room) (av : List Value) (Z : State → Prop) : Prop :=
  Met l y ws rm (va_Pc av Z) (va_Sv (fun _ => True)) 0 0 (fun _ => False)
theorem SS.bl : Bl (fun U => SS NoA U U.heap) := fun a U g mk h => SS.moved (u := U) (U := U.calling g mk a) (Vm.Alike.refl U.vm) h
set_option maxRecDepth 100000 in
set_option maxHeartbeats 4000000 in
theorem kJck0 {i k : Int32} (h0 : ¬ i < 0) (h1 : i < k) : Rv l yJ0_checkIndex_df160 wsJ0_checkIndex_df160 rmJck0 [.int i, .int k] (fun U => SS NoA U U.heap) := by
  refine Met.ofW (cc := cJ0_checkIndex_df160) (maxL := 2) (ret := none) (by decide) rfl ?_
  intro p e s m args below meth c s₁ B hml hv
  obtain ⟨rfl, hZ⟩ := hv
  have hts := atoms_spec (ws := wsJ0_checkIndex_df160) B.pre
  have hown : s.vm.findClass RJ0 = some m.cls := findClass_of_methodNamed B.named
  have hl := lv_entry [.int i, .int k] (n := 2) (Nat.le_of_ble_eq_true rfl)
  rw [lg_entry_eq]
  generalize (lg_sl ([.int i, .int k]) ++ List.replicate (2 - (lg_sl ([.int i, .int k])).length) Slot.unset).toArray = ls at hl ⊢
  have hl : lv_has ls 2 [(0, .int i), (1, .int k)] := hl
  have hlk := B.notSynchronized
  have hx := B.exec
  have hb := B.bytes
  have hr := B.returns
  have hS : va_S NoA s.heap s.heap [] := va_S.rf
  have fin : ∀ v : Value, v.category = 1 → va_Z "jdk/internal/util/Preconditions" "SIOOBE_FORMATTER" "Ljava/util/function/BiFunction;" v NoA s s.heap → W p l e rmJck0 s m [Value.int i, .int k].toArray below meth c s.heap [] 0 0 (MQ below (va_Sv (fun _ => True)) [Value.int i, .int k].toArray s 0 0 (fun _ => False)) (F0 m 0 ls []) := by
    intro v hv hZv
    refine lv_iload_n hx hb dJ0_checkIndex_df160_0 rfl (lv_at hl 0 rfl) ?_
    refine lv_iload_n hx hb dJ0_checkIndex_df160_1 rfl (lv_at hl 1 rfl) ?_
    refine va_gets hx hb hZv hS hown (hts (.fieldLink RJ0 1053 "jdk/internal/util/Preconditions" "SIOOBE_FORMATTER" "Ljava/util/function/BiFunction;") (by decide +kernel)) (fun _ h => h) dJ0_checkIndex_df160_2 ?_
    refine rz_s (As := [.int i, .int k, v]) (rest := []) ⟨hx, hb, hml, hown, hts⟩ (kJck3 hv h0 h1) (va_cwS 3 hts gJ0_checkIndex_df160_J3_checkIndex_8e157 rfl rfl rfl (by decide +kernel) ⟨Nat.le_of_ble_eq_true rfl, Nat.le_of_ble_eq_true rfl⟩) (fun _ _ _ _ _ => trivial) (fun _ _ _ => trivial) rfl hl.1 rfl (Nat.le_of_ble_eq_true rfl) dJ0_checkIndex_df160_5 ⟨Nat.zero_le _, Nat.zero_le _⟩ ?_
    refine lv_pop hx hb dJ0_checkIndex_df160_8 rfl ?_
    exact W.vret hx hb hr (fun t ht _ => ⟨rfl, trivial, ht⟩) (fun _ h => by cases h) dJ0_checkIndex_df160_9
  rcases hZ.2 with h | ⟨t, h⟩
  · exact fin .null rfl h
  · exact fin (.ref t) rfl h
set_option maxRecDepth 100000 in
set_option maxHeartbeats 4000000 in
theorem kJlat {i : Int32} (hi : inr i n = true) (hn : n < 2 ^ 31) : Rz l yJ1_charAt_3b067 wsJ1_charAt_3b067 rmJlat [.ref v, .int i] (Zq q v n byt) (chr (byt i.toNatClampNeg)) := by
  have hi0 : ¬ i < 0 := fun z => (inr_in hi) (Or.inl z)
  have hi1 : i < Int32.ofNat n := by
    obtain ⟨j, hj, e⟩ := vp_in_of (inr_in hi) hn
    rw [e]; exact nI_lt hj hn
  refine Rz.of (cc := cJ1_charAt_3b067) (own := RJ1) (by decide) rfl rfl (Nat.le_of_ble_eq_true rfl) (fun p e s m below meth c ls Q C hZ hl hret => ?_)
  obtain ⟨hx, hb, hml, hown, hts⟩ := id C
  have hl : lv_has ls 2 [(0, .ref v), (1, .int i)] := hl
  have hS : va_S NoA s.heap s.heap [] := va_S.rf
  refine lv_iload_n hx hb dJ1_charAt_3b067_0 rfl (lv_at hl 1 rfl) ?_
  refine lv_aload_n hx hb dJ1_charAt_3b067_1 rfl (lv_at hl 0 rfl) ?_
  refine va_tlen hx hb hZ.1.2.2.2 hS rfl dJ1_charAt_3b067_2 ?_
  refine va_csv (W.runS (As := [.int i, .int (Int32.ofNat n)]) (rest := []) C (kJck0 hi0 hi1) (va_cwS 2 hts gJ1_charAt_3b067_J0_checkIndex_df160 rfl rfl rfl (by decide +kernel) ⟨Nat.le_of_ble_eq_true rfl, Nat.le_of_ble_eq_true rfl⟩) ⟨fun a U g mk q => ⟨q.1, SS.bl a U g mk q.2⟩, fun U hU hW => ⟨rfl, by show SS NoA U U.heap; rw [hU]; exact hZ.2.moved hW.alike⟩⟩ rfl rfl hl.1 rfl (lv_room (Nat.le_of_ble_eq_true rfl)) dJ1_charAt_3b067_3 ⟨Nat.zero_le _, Nat.zero_le _⟩) (fun _ => ?_)
  refine lv_aload_n hx hb dJ1_charAt_3b067_6 rfl (lv_at hl 0 rfl) ?_
  refine lv_iload_n hx hb dJ1_charAt_3b067_7 rfl (lv_at hl 1 rfl) ?_
  refine va_tb hx hb hZ.1.2.2.2 hS (inr_in hi) rfl dJ1_charAt_3b067_8 ?_
  refine lv_sipush (v := 255) hx hb dJ1_charAt_3b067_9 (by decide) ?_
  refine lv_iand hx hb dJ1_charAt_3b067_12 ?_
  refine lv_i2c (v := chr (byt i.toNatClampNeg)) hx hb dJ1_charAt_3b067_13 rfl ?_
  exact hret _ _ dJ1_charAt_3b067_14 (pk_nc _)
set_option maxRecDepth 100000 in
set_option maxHeartbeats 4000000 in
theorem kJchr {i : Int32} (hi : inr i n = true) (hn : n < 2 ^ 31) : Rz l yJ0_charAt_5068e wsJ0_charAt_5068e rmJchr [.ref q, .int i] (Zq q v n byt) (chr (byt i.toNatClampNeg)) := by
  refine Rz.of (cc := cJ0_charAt_5068e) (own := RJ0) (by decide) rfl rfl (Nat.le_of_ble_eq_true rfl) (fun p e s m below meth c ls Q C hZ hl hret => ?_)
  obtain ⟨hx, hb, hml, hown, hts⟩ := id C
  have hl : lv_has ls 2 [(0, .ref q), (1, .int i)] := hl
  have hS : va_S NoA s.heap s.heap [] := va_S.rf
  refine lv_aload_n hx hb dJ0_charAt_5068e_0 rfl (lv_at hl 0 rfl) ?_
  obtain ⟨cell, g1, g2, g3, -⟩ := hZ.1.1
  refine rz_v C kJlatin (cwV (C := RJ0) 0 hts gJ0_charAt_5068e_J0_isLatin1_aae02 rfl rfl rfl (by decide +kernel) ⟨Nat.le_of_ble_eq_true rfl, Nat.le_of_ble_eq_true rfl⟩) Zq.bl ⟨cell, g1, g2, g3⟩ hZ.at rfl hl.1 rfl (Nat.le_of_ble_eq_true rfl) dJ0_charAt_5068e_1 ⟨Nat.zero_le _, Nat.zero_le _⟩ ?_
  refine lv_if_eq (tgt := 16) hx hb dJ0_charAt_5068e_4 (by decide) (fun c_1 => absurd c_1 (by decide)) (fun c_1 => ?_)
  refine lv_aload_n hx hb dJ0_charAt_5068e_7 rfl (lv_at hl 0 rfl) ?_
  refine vk_getf hx hb hZ.1.2.2.1 hS hown (hts (.fieldLink RJ0 9 "java/lang/String" "value" "[B") (by decide +kernel)) (fun _ h => h) dJ0_charAt_5068e_8 ?_
  refine lv_iload_n hx hb dJ0_charAt_5068e_11 rfl (lv_at hl 1 rfl) ?_
  refine rz_s (As := [.ref v, .int i]) (rest := []) C (kJlat hi hn) (va_cwS 2 hts gJ0_charAt_5068e_J1_charAt_3b067 rfl rfl rfl (by decide +kernel) ⟨Nat.le_of_ble_eq_true rfl, Nat.le_of_ble_eq_true rfl⟩) Zq.bl hZ.at rfl hl.1 rfl (Nat.le_of_ble_eq_true rfl) dJ0_charAt_5068e_12 ⟨Nat.zero_le _, Nat.zero_le _⟩ ?_
  exact hret _ _ dJ0_charAt_5068e_15 (pk_nc _)
end StrE
def RdZ (l : Launch) (D : va_G) (cI cB cL cK : ClassId) (sq sv : Nat → Nat) (y : MethodName) (ws : List Cond) (rm : Room) (av : List Value) (wc : va_W) (res : Int32) : Prop :=
  Met l y ws rm (va_Pc av (fun U => va_P D vwCl wc U.heap ∧ va_K D vwCl (TYS cI cB cL cK) U ∧ ZR sq sv NoA U U.heap)) (vp_Si (fun r => r = res)) 0 0 (fun _ => False)
def MuZ (l : Launch) (D : va_G) (cI cB cL cK : ClassId) (sq sv : Nat → Nat) (y : MethodName) (ws : List Cond) (rm : Room) (av : List Value) (wc wc' : va_W) (res : Option Value) (mc ms : Nat) : Prop :=
  ∀ sz : Nat, Met l y ws rm (va_Pc av (fun U => U.heap.size = sz ∧ va_P D vwCl wc U.heap ∧ va_K D vwCl (TYS cI cB cL cK) U ∧ va_D (fun _ => True) wc ∧ ZR sq sv (va_A wc sz) U U.heap)) (QM D res wc wc' sz) mc ms (va_A wc sz)
section StrF
variable {l : Launch} {D : va_G} {cI cB cL cK : ClassId} {sq sv : Nat → Nat} {y : MethodName} {ws ws' : List Cond} {rm : Room} {av : List Value} {wc wc' : va_W} {cc : ByteArray} {maxL : Nat} {own : String}
theorem RdZ.of {ty : FieldType} {res : Int32} (hy : plainName y.cls = true) (hw : ws = Cond.code y cc maxL (some ty) :: ws') (ho : y.cls = own) (hle : (lg_sl av).length ≤ maxL)
    (h : ∀ (p : Program) (e : Env) (s : State) (m : MethodId) (below : List Frame) (meth : Method) (c : Code) (ls : Array Slot) (Q : State → Prop), Cx p s m av.toArray meth c cc (some ty) maxL ws own D cI cB cL cK → ZR sq sv NoA s s.heap → va_P D vwCl wc s.heap → lv_has ls maxL (lv_args 0 av) →
      (∀ (pc : Nat) (ls : Array Slot), decode cc pc = .ok (.ireturn, 1) → narrow ty (.int res) = .int res → W p l e rm s m av.toArray below meth c s.heap [] 0 0 Q (F0 m pc ls [.int res])) →
      W p l e rm s m av.toArray below meth c s.heap [] 0 0 Q (F0 m 0 ls [])) : RdZ l D cI cB cL cK sq sv y ws rm av wc res := by
  refine Met.ofW (cc := cc) (maxL := maxL) (ret := some ty) hy hw ?_
  intro p e s m args below meth c s₁ B hml hv
  obtain ⟨rfl, hP, hK, hZ⟩ := hv
  have hts := atoms_spec (ws := ws) B.pre
  have hown : s.vm.findClass own = some m.cls := by rw [← ho]; exact findClass_of_methodNamed B.named
  have hl := lv_entry av (n := maxL) hle
  rw [lg_entry_eq]
  have hlk := B.notSynchronized
  refine h p e s m below meth c _ _ ⟨B.exec, B.bytes, B.returns, hml, hown, hts, hlk, hK⟩ hZ hP hl (fun pc ls hd hn => ?_)
  exact W.zret B.exec B.bytes B.returns hn (fun t ht _ => ⟨res, rfl, rfl, ht⟩) (fun _ h => by cases h) hd hlk
theorem MuZ.ofi {ty : FieldType} {res : Int32} {mc ms : Nat} (hy : plainName y.cls = true) (hw : ws = Cond.code y cc maxL (some ty) :: ws') (ho : y.cls = own) (hle : (lg_sl av).length ≤ maxL)
    (h : ∀ (p : Program) (e : Env) (s : State) (m : MethodId) (below : List Frame) (meth : Method) (c : Code) (ls : Array Slot) (Q : State → Prop) (A : Nat → Prop), Cx p s m av.toArray meth c cc (some ty) maxL ws own D cI cB cL cK → ZR sq sv A s s.heap → (∀ q : Nat, s.heap.size ≤ q → A q) → va_P D vwCl wc s.heap → va_D A wc → va_S A s.heap s.heap [] → lv_has ls maxL (lv_args 0 av) →
      (∀ (pc : Nat) (ls : Array Slot) (H : Heap) (locs : List Loc), decode cc pc = .ok (.ireturn, 1) → narrow ty (.int res) = .int res → va_P D vwCl wc' H → va_D A wc' → va_S A s.heap H locs → W p l e rm s m av.toArray below meth c H locs mc ms Q (F0 m pc ls [.int res])) →
      W p l e rm s m av.toArray below meth c s.heap [] 0 0 Q (F0 m 0 ls [])) : MuZ l D cI cB cL cK sq sv y ws rm av wc wc' (some (.int res)) mc ms := by
  intro sz
  refine Met.ofW (cc := cc) (maxL := maxL) (ret := some ty) hy hw ?_
  intro p e s m args below meth c s₁ B hml hv
  obtain ⟨rfl, hsz, hP, hK, hD0, hZ⟩ := hv
  subst hsz
  have hts := atoms_spec (ws := ws) B.pre
  have hown : s.vm.findClass own = some m.cls := by rw [← ho]; exact findClass_of_methodNamed B.named
  have hl := lv_entry av (n := maxL) hle
  rw [lg_entry_eq]
  have hlk := B.notSynchronized
  refine h p e s m below meth c _ _ (va_A wc s.heap.size) ⟨B.exec, B.bytes, B.returns, hml, hown, hts, hlk, hK⟩ hZ (fun q h => Or.inr h) hP (hD0.self (sz := s.heap.size)) va_S.rf hl (fun pc ls H locs hd hn hP1 hD1 hS => ?_)
  exact W.zret B.exec B.bytes B.returns hn (fun t ht _ => ⟨rfl, by rw [ht]; exact hP1, hD1, hS.F ht⟩) hS.2.2 hd hlk
theorem MuZ.ofv {mc ms : Nat} (hy : plainName y.cls = true) (hw : ws = Cond.code y cc maxL none :: ws') (ho : y.cls = own) (hle : (lg_sl av).length ≤ maxL)
    (h : ∀ (p : Program) (e : Env) (s : State) (m : MethodId) (below : List Frame) (meth : Method) (c : Code) (ls : Array Slot) (Q : State → Prop) (A : Nat → Prop), Cx p s m av.toArray meth c cc none maxL ws own D cI cB cL cK → ZR sq sv A s s.heap → (∀ q : Nat, s.heap.size ≤ q → A q) → va_P D vwCl wc s.heap → va_D A wc → va_S A s.heap s.heap [] → lv_has ls maxL (lv_args 0 av) →
      (∀ (pc : Nat) (ls : Array Slot) (H : Heap) (locs : List Loc), decode cc pc = .ok (.return_, 1) → va_P D vwCl wc' H → va_D A wc' → va_S A s.heap H locs → W p l e rm s m av.toArray below meth c H locs mc ms Q (F0 m pc ls [])) →
      W p l e rm s m av.toArray below meth c s.heap [] 0 0 Q (F0 m 0 ls [])) : MuZ l D cI cB cL cK sq sv y ws rm av wc wc' none mc ms := by
  intro sz
  refine Met.ofW (cc := cc) (maxL := maxL) (ret := none) hy hw ?_
  intro p e s m args below meth c s₁ B hml hv
  obtain ⟨rfl, hsz, hP, hK, hD0, hZ⟩ := hv
  subst hsz
  have hts := atoms_spec (ws := ws) B.pre
  have hown : s.vm.findClass own = some m.cls := by rw [← ho]; exact findClass_of_methodNamed B.named
  have hl := lv_entry av (n := maxL) hle
  rw [lg_entry_eq]
  have hlk := B.notSynchronized
  refine h p e s m below meth c _ _ (va_A wc s.heap.size) ⟨B.exec, B.bytes, B.returns, hml, hown, hts, hlk, hK⟩ hZ (fun q h => Or.inr h) hP (hD0.self (sz := s.heap.size)) va_S.rf hl (fun pc ls H locs hd hP1 hD1 hS => ?_)
  exact W.vret B.exec B.bytes B.returns (fun t ht _ => ⟨rfl, by rw [ht]; exact hP1, hD1, hS.F ht⟩) hS.2.2 hd hlk
end StrF
section StrG
variable {p : Program} {l : Launch} {e : Env} {R : Room} {s : State} {m : MethodId} {args : Array Value} {below : List Frame} {meth : Method} {c : Code} {H : Heap} {locs : List Loc} {cells slots : Nat} {Q : State → Prop} {A : Nat → Prop} {D : va_G} {cI cB cL cK : ClassId} {sq sv : Nat → Nat} {pc nL : Nat} {ls : Array Slot} {rest st0 As : List Value} {cc bytes : ByteArray} {maxL n index mc ms ci q0 : Nat} {ret : Option FieldType} {ws Ts : List Cond} {rm : Room} {own C : String} {y : MethodName} {b j : Nat} {X X' wc wc' : va_W} {r i : Int32} {fs : List Value} {T : u_T} {N : Nat}
theorem ZR.str (hZ : ZR sq sv A s s.heap) (hS : va_S A s.heap H locs) (hj : j < 4) (U : State) (hU : U.heap = H) (hW : s.WarmedH U.vm) : Zq (sq j) (sv j) (wLen j) (wByt j) U := by
  have h := (hZ.kept hS.2.1).narrow (B := NoA) (fun _ h => h.elim)
  exact ⟨by rw [hU]; exact (h.1 j hj).moved hW.alike, by rw [hU]; exact h.2.1.moved hW.alike⟩
theorem ZR.rcv (hZ : ZR sq sv A s s.heap) (hS : va_S A s.heap H locs) (hj : j < 4) : ∃ cell : Cell, H[sq j]? = some cell ∧ cell.vm.isStatics = false ∧ s.vm.findClass RJ0 = some cell.cls := by
  obtain ⟨cell, g1, g2, g3, -⟩ := ((hZ.kept hS.2.1).1 j hj).1
  exact ⟨cell, g1, g2, g3⟩
theorem strLen (S : CallFix p m c cc nL s args Ts own) (hZ : ZR sq sv A s s.heap) (hS : va_S A s.heap H locs) (hj : j < 4) (cw : CallW R s args own RJ0 index yJ0_length_8abf5 cJ0_length_8abf5 1 (some .int) wsJ0_length_8abf5 rmJlen 0 0 0)
    (hsize : ls.size = nL) (hw : (rest.map fun v => v.category).sum ≤ 8) (hdg : decode cc pc = .ok (.invokevirtual index, 3)) (hf : cells ≤ R.cells ∧ slots ≤ R.slots)
    (kk : W p l e R s m args below meth c H locs cells slots Q (F0 m (pc + 3) ls (.int (Int32.ofNat (wLen j)) :: rest))) : W p l e R s m args below meth c H locs cells slots Q (F0 m pc ls (.ref (sq j) :: rest)) :=
  rz_v (As := []) (rest := rest) S (kJlen (q := sq j) (v := sv j) (n := wLen j) (byt := wByt j)) cw Zq.bl (hZ.rcv hS hj) (hZ.str hS hj) rfl hsize rfl hw hdg hf kk
theorem wLen_lt (j : Nat) : wLen j < 2 ^ 31 := by
  unfold wLen
  split <;> decide
theorem strChr (S : CallFix p m c cc nL s args Ts own) (hZ : ZR sq sv A s s.heap) (hS : va_S A s.heap H locs) (hj : j < 4) (hi : inr i (wLen j) = true) (cw : CallW R s args own RJ0 index yJ0_charAt_5068e cJ0_charAt_5068e 2 (some .char) wsJ0_charAt_5068e rmJchr 0 0 1)
    (hsize : ls.size = nL) (hw : (rest.map fun v => v.category).sum ≤ 8) (hdg : decode cc pc = .ok (.invokevirtual index, 3)) (hf : cells ≤ R.cells ∧ slots ≤ R.slots)
    (kk : W p l e R s m args below meth c H locs cells slots Q (F0 m (pc + 3) ls (.int (chr (wByt j i.toNatClampNeg)) :: rest))) : W p l e R s m args below meth c H locs cells slots Q (F0 m pc ls (.int i :: .ref (sq j) :: rest)) :=
  rz_v (As := [.int i]) (rest := rest) S (kJchr (q := sq j) (v := sv j) (n := wLen j) (byt := wByt j) hi (wLen_lt j)) cw Zq.bl (hZ.rcv hS hj) (hZ.str hS hj) rfl hsize rfl hw hdg hf kk
theorem rdz_v (S : CallFix p m c cc nL s args Ts own) (hM : RdZ l D cI cB cL cK sq sv y ws rm (.ref b :: As) wc r) (cw : CallW R s args own C index y bytes maxL ret ws rm 0 0 n) (hK : va_K D vwCl (TYS cI cB cL cK) s) (hZ : ZR sq sv A s s.heap) (hS : va_S A s.heap H locs) (hP : va_P D vwCl X H) (hs : Sb X wc) (hc : vwCl[ci]? = some (C, T, N)) (he : X[q0]? = some (b, .inr (ci, fs)))
    (hn : As.length = n) (hsize : ls.size = nL) (hst : st0 = As.reverse ++ .ref b :: rest) (hw : (rest.map fun v => v.category).sum ≤ 8) (hdg : decode cc pc = .ok (.invokevirtual index, 3)) (hf : cells ≤ R.cells ∧ slots ≤ R.slots)
    (kk : W p l e R s m args below meth c H locs cells slots Q (F0 m (pc + 3) ls (.int r :: rest))) : W p l e R s m args below meth c H locs cells slots Q (F0 m pc ls st0) :=
  vp_callSi (post := fun z => z = r) (W.runV (rest := rest) S hM cw ⟨fun a U g mk q => ⟨q.1, q.2.1, va_K.moved (u := U) (U := U.calling g mk a) (Vm.Alike.refl U.vm) q.2.2.1, ZR.same (u := U) (U := U.calling g mk a) rfl q.2.2.2⟩, va_recv hK hP hc he, fun U hU hW => ⟨rfl, by rw [hU]; exact hP.sb hs, va_K.moved hW.alike hK, by rw [hU]; exact ((hZ.kept hS.2.1).narrow (fun _ h => h.elim)).warm hW⟩⟩ rfl hn hsize hst (lv_room hw) hdg hf) (fun z hz => by rw [hz]; exact kk)
theorem MuZ.blind {av : List Value} {wc : va_W} {sz : Nat} : FrameBlind (va_Pc av (fun U => U.heap.size = sz ∧ va_P D vwCl wc U.heap ∧ va_K D vwCl (TYS cI cB cL cK) U ∧ va_D (fun _ => True) wc ∧ ZR sq sv (va_A wc sz) U U.heap)) :=
  fun a U g mk q => ⟨q.1, q.2.1, q.2.2.1, va_K.moved (u := U) (U := U.calling g mk a) (Vm.Alike.refl U.vm) q.2.2.2.1, q.2.2.2.2.1, ZR.same (u := U) (U := U.calling g mk a) rfl q.2.2.2.2.2⟩
theorem muz_pre {av : List Value} (hK : va_K D vwCl (TYS cI cB cL cK) s) (hZ : ZR sq sv A s s.heap) (hP : va_P D vwCl X H) (hD : va_D A X) (hS : va_S A s.heap H locs) (hA : ∀ q : Nat, s.heap.size ≤ q → A q) (hJ : Jn X X' wc wc') (U : State) (hU : U.heap = H) (hW : s.WarmedH U.vm) : va_Pc av (fun U => U.heap.size = H.size ∧ va_P D vwCl wc U.heap ∧ va_K D vwCl (TYS cI cB cL cK) U ∧ va_D (fun _ => True) wc ∧ ZR sq sv (va_A wc H.size) U U.heap) av.toArray U :=
  ⟨rfl, by rw [hU], by rw [hU]; exact hP.sb hJ.1, va_K.moved hW.alike hK, (hD.sb hJ.1).weaken (fun _ _ _ _ => trivial), by rw [hU]; exact ((hZ.kept hS.2.1).narrow (hJ.free hD hS hA)).warm hW⟩
theorem muz_vi (S : CallFix p m c cc nL s args Ts own) (hM : MuZ l D cI cB cL cK sq sv y ws rm (.ref b :: As) wc wc' (some (.int r)) 0 0) (cw : CallW R s args own C index y bytes maxL ret ws rm 0 0 n) (hK : va_K D vwCl (TYS cI cB cL cK) s) (hZ : ZR sq sv A s s.heap) (hP : va_P D vwCl X H) (hD : va_D A X) (hS : va_S A s.heap H locs) (hA : ∀ q : Nat, s.heap.size ≤ q → A q) (hJ : Jn X X' wc wc') (hc : vwCl[ci]? = some (C, T, N)) (he : X[q0]? = some (b, .inr (ci, fs)))
    (hn : As.length = n) (hsize : ls.size = nL) (hst : st0 = As.reverse ++ .ref b :: rest) (hw : (rest.map fun v => v.category).sum ≤ 8) (hdg : decode cc pc = .ok (.invokevirtual index, 3)) (hf : cells ≤ R.cells ∧ slots ≤ R.slots)
    (kk : ∀ (H1 : Heap) (locs1 : List Loc), va_P D vwCl X' H1 → va_D A X' → va_S A s.heap H1 locs1 → W p l e R s m args below meth c H1 locs1 cells slots Q (F0 m (pc + 3) ls (.int r :: rest))) : W p l e R s m args below meth c H locs cells slots Q (F0 m pc ls st0) :=
  mu_k (va_runV (rest := rest) S (hM H.size) cw ⟨MuZ.blind, va_recv hK hP hc he, muz_pre hK hZ hP hD hS hA hJ⟩ rfl hn hsize hst (lv_room hw) hdg hf) hP hD hS hA hJ kk
theorem muz_vv (S : CallFix p m c cc nL s args Ts own) (hM : MuZ l D cI cB cL cK sq sv y ws rm (.ref b :: As) wc wc' none 0 0) (cw : CallW R s args own C index y bytes maxL ret ws rm 0 0 n) (hK : va_K D vwCl (TYS cI cB cL cK) s) (hZ : ZR sq sv A s s.heap) (hP : va_P D vwCl X H) (hD : va_D A X) (hS : va_S A s.heap H locs) (hA : ∀ q : Nat, s.heap.size ≤ q → A q) (hJ : Jn X X' wc wc') (hc : vwCl[ci]? = some (C, T, N)) (he : X[q0]? = some (b, .inr (ci, fs)))
    (hn : As.length = n) (hsize : ls.size = nL) (hst : st0 = As.reverse ++ .ref b :: rest) (hw : (rest.map fun v => v.category).sum ≤ 8) (hdg : decode cc pc = .ok (.invokevirtual index, 3)) (hf : cells ≤ R.cells ∧ slots ≤ R.slots)
    (kk : ∀ (H1 : Heap) (locs1 : List Loc), va_P D vwCl X' H1 → va_D A X' → va_S A s.heap H1 locs1 → W p l e R s m args below meth c H1 locs1 cells slots Q (F0 m (pc + 3) ls rest)) : W p l e R s m args below meth c H locs cells slots Q (F0 m pc ls st0) :=
  mu_k (va_runV (rest := rest) S (hM H.size) cw ⟨MuZ.blind, va_recv hK hP hc he, muz_pre hK hZ hP hD hS hA hJ⟩ rfl hn hsize hst (lv_room hw) hdg hf) hP hD hS hA hJ kk
end StrG
