/-! PURE: the relation under writes -/
section RRs
variable {ho pd : Int32} {sf df jf qf nw nw' df' jf' qf' : Nat → Int32} {ns nd ni no t g : Nat}
theorem rS_congr (hs : ns ≤ 6) (h : rS sf nw ns) (e : ∀ j, 7 ≤ j → j < 25 → nw' j = nw j) : rS sf nw' ns := fun i hi k hk => by
  rw [e (7 + 3 * i + k) (by omega) (by omega)]; exact h i hi k hk
theorem rQ_congr (hs : no ≤ 40) (h : rQ qf nw nd no) (e : ∀ j, 625 ≤ j → j < 785 → nw' j = nw j) : rQ qf nw' nd no := fun i hi => by
  obtain ⟨h1, h2⟩ := h i hi
  refine ⟨fun k hk => ?_, ?_⟩
  · rw [e (625 + 4 * i + k) (by omega) (by omega)]; exact h1 k hk
  · rw [e (625 + 4 * i + 0) (by omega) (by omega), e (625 + 4 * i + 1) (by omega) (by omega)]; exact h2
theorem rJ_congr (hs : ni ≤ 60) (h : rJ jf nw nd ni g) (e : ∀ j, 205 ≤ j → j < 625 → nw' j = nw j) : rJ jf nw' nd ni g := fun i hi => by
  obtain ⟨h1, h2, h3, h4, h5⟩ := h i hi
  refine ⟨fun k hk => ?_, ?_⟩
  · rw [e (205 + 7 * i + k) (by omega) (by omega)]; exact h1 k hk
  · rw [e (205 + 7 * i + 0) (by omega) (by omega), e (205 + 7 * i + 2) (by omega) (by omega), e (205 + 7 * i + 4) (by omega) (by omega), e (205 + 7 * i + 5) (by omega) (by omega)]; exact ⟨h2, h3, h4, h5⟩
theorem rD1_congr {c r : Nat} (h : rD1 df nw c r ns) (e1 : ∀ j, j < 13 → df' (c + j) = df (c + j)) (e2 : ∀ j, j < 30 → nw' (r + j) = nw (r + j)) : rD1 df' nw' c r ns := by
  obtain ⟨a0, a1, a2, a3, a4, a5, a6, a7, a8, a9, a10, a11, n, hn, a12, a13⟩ := h
  unfold rD1
  rw [e1 0 (by decide), e1 1 (by decide), e1 2 (by decide), e1 3 (by decide), e1 4 (by decide), e1 5 (by decide), e1 6 (by decide), e1 7 (by decide), e1 8 (by decide), e1 9 (by decide), e1 10 (by decide), e1 11 (by decide), e1 12 (by decide), e2 0 (by decide), e2 1 (by decide), e2 2 (by decide), e2 3 (by decide), e2 4 (by decide), e2 5 (by decide), e2 6 (by decide), e2 7 (by decide), e2 8 (by decide), e2 9 (by decide), e2 10 (by decide), e2 11 (by decide), e2 12 (by decide)]
  refine ⟨a0, a1, a2, a3, a4, a5, a6, a7, a8, a9, a10, a11, n, hn, a12, fun h0 => ?_⟩
  obtain ⟨b0, b1, b2, b3, b4⟩ := a13 h0
  exact ⟨b0, b1, b2, b3, fun k hk => by rw [e2 (13 + k) (by omega)]; exact b4 k hk⟩
theorem rD_congr (hs : nd ≤ 6) (h : rD df nw ns nd) (e : ∀ j, 25 ≤ j → j < 205 → nw' j = nw j) : rD df nw' ns nd := fun i hi =>
  rD1_congr (h i hi) (fun _ _ => rfl) (fun j hj => e _ (by omega) (by omega))
theorem rH_congr (h : rH ho pd nw ns nd ni no t) (e : ∀ j, j < 7 → nw' j = nw j) : rH ho pd nw' ns nd ni no t := by
  unfold rH
  rw [e 0 (by decide), e 1 (by decide), e 2 (by decide), e 3 (by decide), e 4 (by decide), e 5 (by decide), e 6 (by decide)]; exact h
/-- writes among the invoices -/
theorem RR.putJ (h : RR ho pd sf df jf qf nw ns nd ni no t g) (e : ∀ j, j < 205 ∨ 625 ≤ j → nw' j = nw j) (hj : rJ jf' nw' nd ni g) : RR ho pd sf df jf' qf nw' ns nd ni no t g := by
  obtain ⟨h1, h2, h3, h4, h5⟩ := h
  obtain ⟨b1, b2, b3, b4⟩ := h1.2.2.2.2.2.2.2
  exact ⟨rH_congr h1 (fun j hj => e j (by omega)), rS_congr b1 h2 (fun j _ _ => e j (by omega)), rD_congr b2 h3 (fun j _ _ => e j (by omega)), hj, rQ_congr b4.1 h5 (fun j _ _ => e j (by omega))⟩
/-- writes among the orders -/
theorem RR.putQ (h : RR ho pd sf df jf qf nw ns nd ni no t g) (e : ∀ j, j < 625 → nw' j = nw j) (hq : rQ qf' nw' nd no) : RR ho pd sf df jf qf' nw' ns nd ni no t g := by
  obtain ⟨h1, h2, h3, h4, h5⟩ := h
  obtain ⟨b1, b2, b3, b4⟩ := h1.2.2.2.2.2.2.2
  exact ⟨rH_congr h1 (fun j hj => e j (by omega)), rS_congr b1 h2 (fun j _ _ => e j (by omega)), rD_congr b2 h3 (fun j _ _ => e j (by omega)), rJ_congr b3 h4 (fun j _ _ => e j (by omega)), hq⟩
/-- writes in one debtor's row -/
theorem RR.putD {i : Nat} (h : RR ho pd sf df jf qf nw ns nd ni no t g) (hi : i < nd) (e : ∀ j, j < 25 + 30 * i ∨ 25 + 30 * i + 30 ≤ j → nw' j = nw j) (e1 : ∀ j, j < i * 13 ∨ i * 13 + 13 ≤ j → df' j = df j) (hd : rD1 df' nw' (i * 13) (25 + 30 * i) ns) : RR ho pd sf df' jf qf nw' ns nd ni no t g := by
  obtain ⟨h1, h2, h3, h4, h5⟩ := h
  obtain ⟨b1, b2, b3, b4⟩ := h1.2.2.2.2.2.2.2
  refine ⟨rH_congr h1 (fun j hj => e j (by omega)), rS_congr b1 h2 (fun j _ _ => e j (by omega)), fun i' hi' => ?_, rJ_congr b3 h4 (fun j _ _ => e j (by omega)), rQ_congr b4.1 h5 (fun j _ _ => e j (by omega))⟩
  by_cases q : i' = i
  · rw [q]; exact hd
  · exact rD1_congr (h3 i' hi') (fun j hj => e1 _ (by omega)) (fun j hj => e _ (by omega))
theorem upd_o {f : Nat → Int32} {k : Nat} {v : Int32} {P : Nat → Prop} (hk : ¬ P k) : ∀ j, P j → upd f k v j = f j := fun j hj => upd_n (fun z => hk (z ▸ hj))
/-- one cell of an invoice -/
theorem rJ_cell {i k : Nat} {v : Int32} (h : rJ jf nw nd ni g) (hi : i < ni) (hk : k < 7) (c0 : k ≠ 0) (c2 : k = 2 → 0 ≤ v) (c4 : k = 4 → ∃ a, a ≤ g ∧ v = nI a) (c5 : k = 5 → v = 0 ∨ v = 1) : rJ (upd jf (i * 7 + k) v) (upd nw (205 + 7 * i + k) v) nd ni g := fun i' hi' => by
  obtain ⟨h1, h2, h3, h4, h5⟩ := h i' hi'
  refine ⟨fun k' hk' => ?_, ?_, ?_, ?_, ?_⟩
  · by_cases q : i' * 7 + k' = i * 7 + k
    · rw [q, show 205 + 7 * i' + k' = 205 + 7 * i + k by omega, upd_s, upd_s]
    · rw [upd_n q, upd_n (by omega)]; exact h1 k' hk'
  · rw [upd_n (show 205 + 7 * i' + 0 ≠ 205 + 7 * i + k by clear h1 h2 h3 h4 h5 c2 c4 c5; omega)]; exact h2
  · by_cases q : 205 + 7 * i' + 2 = 205 + 7 * i + k
    · rw [q, upd_s]; exact c2 (by omega)
    · rw [upd_n q]; exact h3
  · by_cases q : 205 + 7 * i' + 4 = 205 + 7 * i + k
    · rw [q, upd_s]; exact c4 (by omega)
    · rw [upd_n q]; exact h4
  · by_cases q : 205 + 7 * i' + 5 = 205 + 7 * i + k
    · rw [q, upd_s]; exact c5 (by omega)
    · rw [upd_n q]; exact h5
theorem RR.cellJ {i k : Nat} {v : Int32} (h : RR ho pd sf df jf qf nw ns nd ni no t g) (hi : i < ni) (hk : k < 7) (c0 : k ≠ 0) (c2 : k = 2 → 0 ≤ v) (c4 : k = 4 → ∃ a, a ≤ g ∧ v = nI a) (c5 : k = 5 → v = 0 ∨ v = 1) : RR ho pd sf df (upd jf (i * 7 + k) v) qf (upd nw (205 + 7 * i + k) v) ns nd ni no t g := by
  have b3 : ni ≤ 60 := h.1.2.2.2.2.2.2.2.2.2.1
  exact h.putJ (fun j hj => upd_n (by omega)) (rJ_cell h.2.2.2.1 hi hk c0 c2 c4 c5)
/-- one cell of an order -/
theorem RR.cellQ {i k : Nat} {v : Int32} (h : RR ho pd sf df jf qf nw ns nd ni no t g) (hi : i < no) (hk : k < 4) (c0 : k ≠ 0) (c1 : k ≠ 1) : RR ho pd sf df jf (upd qf (i * 4 + k) v) (upd nw (625 + 4 * i + k) v) ns nd ni no t g := by
  have b4 : no ≤ 40 := h.1.2.2.2.2.2.2.2.2.2.2.1
  refine h.putQ (fun j hj => upd_n (by omega)) (fun i' hi' => ?_)
  obtain ⟨h1, h2⟩ := h.2.2.2.2 i' hi'
  refine ⟨fun k' hk' => ?_, ?_⟩
  · by_cases q : i' * 4 + k' = i * 4 + k
    · rw [q, show 625 + 4 * i' + k' = 625 + 4 * i + k by omega, upd_s, upd_s]
    · rw [upd_n q, upd_n (by omega)]; exact h1 k' hk'
  · rw [upd_n (show 625 + 4 * i' + 0 ≠ 625 + 4 * i + k by clear h1 h2; omega), upd_n (show 625 + 4 * i' + 1 ≠ 625 + 4 * i + k by clear h1 h2; omega)]; exact h2

theorem rD1_cash {c r : Nat} {v : Int32} (h : rD1 df nw c r ns)  : rD1 (upd df (c + 2) v) (upd nw (r + 2) v) c r ns := by
  obtain ⟨a0, a1, a2, a3, a4, a5, a6, a7, a8, a9, a10, a11, n, hn, a12, a13⟩ := h
  have d0 : (upd df (c + 2) v) (c + 0) = df (c + 0) := by rw [upd_n (show c + 0 ≠ c + 2 by omega)]
  have d1 : (upd df (c + 2) v) (c + 1) = df (c + 1) := by rw [upd_n (show c + 1 ≠ c + 2 by omega)]
  have d2 : (upd df (c + 2) v) (c + 2) = v := by rw [upd_s]
  have d3 : (upd df (c + 2) v) (c + 3) = df (c + 3) := by rw [upd_n (show c + 3 ≠ c + 2 by omega)]
  have d4 : (upd df (c + 2) v) (c + 4) = df (c + 4) := by rw [upd_n (show c + 4 ≠ c + 2 by omega)]
  have d5 : (upd df (c + 2) v) (c + 5) = df (c + 5) := by rw [upd_n (show c + 5 ≠ c + 2 by omega)]
  have d6 : (upd df (c + 2) v) (c + 6) = df (c + 6) := by rw [upd_n (show c + 6 ≠ c + 2 by omega)]
  have d7 : (upd df (c + 2) v) (c + 7) = df (c + 7) := by rw [upd_n (show c + 7 ≠ c + 2 by omega)]
  have d8 : (upd df (c + 2) v) (c + 8) = df (c + 8) := by rw [upd_n (show c + 8 ≠ c + 2 by omega)]
  have d9 : (upd df (c + 2) v) (c + 9) = df (c + 9) := by rw [upd_n (show c + 9 ≠ c + 2 by omega)]
  have d10 : (upd df (c + 2) v) (c + 10) = df (c + 10) := by rw [upd_n (show c + 10 ≠ c + 2 by omega)]
  have d11 : (upd df (c + 2) v) (c + 11) = df (c + 11) := by rw [upd_n (show c + 11 ≠ c + 2 by omega)]
  have d12 : (upd df (c + 2) v) (c + 12) = df (c + 12) := by rw [upd_n (show c + 12 ≠ c + 2 by omega)]
  have r0 : (upd nw (r + 2) v) (r + 0) = nw (r + 0) := by rw [upd_n (show r + 0 ≠ r + 2 by omega)]
  have r1 : (upd nw (r + 2) v) (r + 1) = nw (r + 1) := by rw [upd_n (show r + 1 ≠ r + 2 by omega)]
  have r2 : (upd nw (r + 2) v) (r + 2) = v := by rw [upd_s]
  have r3 : (upd nw (r + 2) v) (r + 3) = nw (r + 3) := by rw [upd_n (show r + 3 ≠ r + 2 by omega)]
  have r4 : (upd nw (r + 2) v) (r + 4) = nw (r + 4) := by rw [upd_n (show r + 4 ≠ r + 2 by omega)]
  have r5 : (upd nw (r + 2) v) (r + 5) = nw (r + 5) := by rw [upd_n (show r + 5 ≠ r + 2 by omega)]
  have r6 : (upd nw (r + 2) v) (r + 6) = nw (r + 6) := by rw [upd_n (show r + 6 ≠ r + 2 by omega)]
  have r7 : (upd nw (r + 2) v) (r + 7) = nw (r + 7) := by rw [upd_n (show r + 7 ≠ r + 2 by omega)]
  have r8 : (upd nw (r + 2) v) (r + 8) = nw (r + 8) := by rw [upd_n (show r + 8 ≠ r + 2 by omega)]
  have r9 : (upd nw (r + 2) v) (r + 9) = nw (r + 9) := by rw [upd_n (show r + 9 ≠ r + 2 by omega)]
  have r10 : (upd nw (r + 2) v) (r + 10) = nw (r + 10) := by rw [upd_n (show r + 10 ≠ r + 2 by omega)]
  have r11 : (upd nw (r + 2) v) (r + 11) = nw (r + 11) := by rw [upd_n (show r + 11 ≠ r + 2 by omega)]
  have r12 : (upd nw (r + 2) v) (r + 12) = nw (r + 12) := by rw [upd_n (show r + 12 ≠ r + 2 by omega)]
  have rI : ∀ k, (upd nw (r + 2) v) (r + (13 + k)) = nw (r + (13 + k)) := fun k => by rw [upd_n (show r + (13 + k) ≠ r + 2 by omega)]
  exact ⟨(by rw [d0, r0]; exact a0), (by rw [d1, r1]; exact a1), (by rw [d2, r2]), (by rw [d3, r3]; exact a3), (by rw [d4, r4]; exact a4), (by rw [d5, r8]; exact a5), (by rw [d6, r5]; exact a6), (by rw [d8, r9]; exact a7), (by rw [r3]; exact a8), (by rw [r5]; exact a9), (by rw [r5, r9]; exact a10), fun z => by rw [r5] at z; rw [d7, r6, d12, r7]; exact a11 z, ⟨n, hn, by rw [r9]; exact a12, fun z => by
    obtain ⟨b0, b1, b2, b3, b4⟩ := a13 z
    exact ⟨by rw [d10, r10]; exact b0, by rw [d11, r11]; exact b1, by rw [d12, r12]; exact b2, by rw [d9]; exact b3, fun k hk => by rw [rI, d9]; exact b4 k hk⟩⟩⟩
theorem rD1_stage {c r : Nat} {v : Int32} (h : rD1 df nw c r ns) (hv : ∃ st, st ≤ ns ∧ v = nI st) : rD1 (upd df (c + 3) v) (upd nw (r + 3) v) c r ns := by
  obtain ⟨a0, a1, a2, a3, a4, a5, a6, a7, a8, a9, a10, a11, n, hn, a12, a13⟩ := h
  have d0 : (upd df (c + 3) v) (c + 0) = df (c + 0) := by rw [upd_n (show c + 0 ≠ c + 3 by omega)]
  have d1 : (upd df (c + 3) v) (c + 1) = df (c + 1) := by rw [upd_n (show c + 1 ≠ c + 3 by omega)]
  have d2 : (upd df (c + 3) v) (c + 2) = df (c + 2) := by rw [upd_n (show c + 2 ≠ c + 3 by omega)]
  have d3 : (upd df (c + 3) v) (c + 3) = v := by rw [upd_s]
  have d4 : (upd df (c + 3) v) (c + 4) = df (c + 4) := by rw [upd_n (show c + 4 ≠ c + 3 by omega)]
  have d5 : (upd df (c + 3) v) (c + 5) = df (c + 5) := by rw [upd_n (show c + 5 ≠ c + 3 by omega)]
  have d6 : (upd df (c + 3) v) (c + 6) = df (c + 6) := by rw [upd_n (show c + 6 ≠ c + 3 by omega)]
  have d7 : (upd df (c + 3) v) (c + 7) = df (c + 7) := by rw [upd_n (show c + 7 ≠ c + 3 by omega)]
  have d8 : (upd df (c + 3) v) (c + 8) = df (c + 8) := by rw [upd_n (show c + 8 ≠ c + 3 by omega)]
  have d9 : (upd df (c + 3) v) (c + 9) = df (c + 9) := by rw [upd_n (show c + 9 ≠ c + 3 by omega)]
  have d10 : (upd df (c + 3) v) (c + 10) = df (c + 10) := by rw [upd_n (show c + 10 ≠ c + 3 by omega)]
  have d11 : (upd df (c + 3) v) (c + 11) = df (c + 11) := by rw [upd_n (show c + 11 ≠ c + 3 by omega)]
  have d12 : (upd df (c + 3) v) (c + 12) = df (c + 12) := by rw [upd_n (show c + 12 ≠ c + 3 by omega)]
  have r0 : (upd nw (r + 3) v) (r + 0) = nw (r + 0) := by rw [upd_n (show r + 0 ≠ r + 3 by omega)]
  have r1 : (upd nw (r + 3) v) (r + 1) = nw (r + 1) := by rw [upd_n (show r + 1 ≠ r + 3 by omega)]
  have r2 : (upd nw (r + 3) v) (r + 2) = nw (r + 2) := by rw [upd_n (show r + 2 ≠ r + 3 by omega)]
  have r3 : (upd nw (r + 3) v) (r + 3) = v := by rw [upd_s]
  have r4 : (upd nw (r + 3) v) (r + 4) = nw (r + 4) := by rw [upd_n (show r + 4 ≠ r + 3 by omega)]
  have r5 : (upd nw (r + 3) v) (r + 5) = nw (r + 5) := by rw [upd_n (show r + 5 ≠ r + 3 by omega)]
  have r6 : (upd nw (r + 3) v) (r + 6) = nw (r + 6) := by rw [upd_n (show r + 6 ≠ r + 3 by omega)]
  have r7 : (upd nw (r + 3) v) (r + 7) = nw (r + 7) := by rw [upd_n (show r + 7 ≠ r + 3 by omega)]
  have r8 : (upd nw (r + 3) v) (r + 8) = nw (r + 8) := by rw [upd_n (show r + 8 ≠ r + 3 by omega)]
  have r9 : (upd nw (r + 3) v) (r + 9) = nw (r + 9) := by rw [upd_n (show r + 9 ≠ r + 3 by omega)]
  have r10 : (upd nw (r + 3) v) (r + 10) = nw (r + 10) := by rw [upd_n (show r + 10 ≠ r + 3 by omega)]
  have r11 : (upd nw (r + 3) v) (r + 11) = nw (r + 11) := by rw [upd_n (show r + 11 ≠ r + 3 by omega)]
  have r12 : (upd nw (r + 3) v) (r + 12) = nw (r + 12) := by rw [upd_n (show r + 12 ≠ r + 3 by omega)]
  have rI : ∀ k, (upd nw (r + 3) v) (r + (13 + k)) = nw (r + (13 + k)) := fun k => by rw [upd_n (show r + (13 + k) ≠ r + 3 by omega)]
  exact ⟨(by rw [d0, r0]; exact a0), (by rw [d1, r1]; exact a1), (by rw [d2, r2]; exact a2), (by rw [d3, r3]), (by rw [d4, r4]; exact a4), (by rw [d5, r8]; exact a5), (by rw [d6, r5]; exact a6), (by rw [d8, r9]; exact a7), (by rw [r3]; exact hv), (by rw [r5]; exact a9), (by rw [r5, r9]; exact a10), fun z => by rw [r5] at z; rw [d7, r6, d12, r7]; exact a11 z, ⟨n, hn, by rw [r9]; exact a12, fun z => by
    obtain ⟨b0, b1, b2, b3, b4⟩ := a13 z
    exact ⟨by rw [d10, r10]; exact b0, by rw [d11, r11]; exact b1, by rw [d12, r12]; exact b2, by rw [d9]; exact b3, fun k hk => by rw [rI, d9]; exact b4 k hk⟩⟩⟩
theorem rD1_day {c r : Nat} {v : Int32} (h : rD1 df nw c r ns)  : rD1 (upd df (c + 4) v) (upd nw (r + 4) v) c r ns := by
  obtain ⟨a0, a1, a2, a3, a4, a5, a6, a7, a8, a9, a10, a11, n, hn, a12, a13⟩ := h
  have d0 : (upd df (c + 4) v) (c + 0) = df (c + 0) := by rw [upd_n (show c + 0 ≠ c + 4 by omega)]
  have d1 : (upd df (c + 4) v) (c + 1) = df (c + 1) := by rw [upd_n (show c + 1 ≠ c + 4 by omega)]
  have d2 : (upd df (c + 4) v) (c + 2) = df (c + 2) := by rw [upd_n (show c + 2 ≠ c + 4 by omega)]
  have d3 : (upd df (c + 4) v) (c + 3) = df (c + 3) := by rw [upd_n (show c + 3 ≠ c + 4 by omega)]
  have d4 : (upd df (c + 4) v) (c + 4) = v := by rw [upd_s]
  have d5 : (upd df (c + 4) v) (c + 5) = df (c + 5) := by rw [upd_n (show c + 5 ≠ c + 4 by omega)]
  have d6 : (upd df (c + 4) v) (c + 6) = df (c + 6) := by rw [upd_n (show c + 6 ≠ c + 4 by omega)]
  have d7 : (upd df (c + 4) v) (c + 7) = df (c + 7) := by rw [upd_n (show c + 7 ≠ c + 4 by omega)]
  have d8 : (upd df (c + 4) v) (c + 8) = df (c + 8) := by rw [upd_n (show c + 8 ≠ c + 4 by omega)]
  have d9 : (upd df (c + 4) v) (c + 9) = df (c + 9) := by rw [upd_n (show c + 9 ≠ c + 4 by omega)]
  have d10 : (upd df (c + 4) v) (c + 10) = df (c + 10) := by rw [upd_n (show c + 10 ≠ c + 4 by omega)]
  have d11 : (upd df (c + 4) v) (c + 11) = df (c + 11) := by rw [upd_n (show c + 11 ≠ c + 4 by omega)]
  have d12 : (upd df (c + 4) v) (c + 12) = df (c + 12) := by rw [upd_n (show c + 12 ≠ c + 4 by omega)]
  have r0 : (upd nw (r + 4) v) (r + 0) = nw (r + 0) := by rw [upd_n (show r + 0 ≠ r + 4 by omega)]
  have r1 : (upd nw (r + 4) v) (r + 1) = nw (r + 1) := by rw [upd_n (show r + 1 ≠ r + 4 by omega)]
  have r2 : (upd nw (r + 4) v) (r + 2) = nw (r + 2) := by rw [upd_n (show r + 2 ≠ r + 4 by omega)]
  have r3 : (upd nw (r + 4) v) (r + 3) = nw (r + 3) := by rw [upd_n (show r + 3 ≠ r + 4 by omega)]
  have r4 : (upd nw (r + 4) v) (r + 4) = v := by rw [upd_s]
  have r5 : (upd nw (r + 4) v) (r + 5) = nw (r + 5) := by rw [upd_n (show r + 5 ≠ r + 4 by omega)]
  have r6 : (upd nw (r + 4) v) (r + 6) = nw (r + 6) := by rw [upd_n (show r + 6 ≠ r + 4 by omega)]
  have r7 : (upd nw (r + 4) v) (r + 7) = nw (r + 7) := by rw [upd_n (show r + 7 ≠ r + 4 by omega)]
  have r8 : (upd nw (r + 4) v) (r + 8) = nw (r + 8) := by rw [upd_n (show r + 8 ≠ r + 4 by omega)]
  have r9 : (upd nw (r + 4) v) (r + 9) = nw (r + 9) := by rw [upd_n (show r + 9 ≠ r + 4 by omega)]
  have r10 : (upd nw (r + 4) v) (r + 10) = nw (r + 10) := by rw [upd_n (show r + 10 ≠ r + 4 by omega)]
  have r11 : (upd nw (r + 4) v) (r + 11) = nw (r + 11) := by rw [upd_n (show r + 11 ≠ r + 4 by omega)]
  have r12 : (upd nw (r + 4) v) (r + 12) = nw (r + 12) := by rw [upd_n (show r + 12 ≠ r + 4 by omega)]
  have rI : ∀ k, (upd nw (r + 4) v) (r + (13 + k)) = nw (r + (13 + k)) := fun k => by rw [upd_n (show r + (13 + k) ≠ r + 4 by omega)]
  exact ⟨(by rw [d0, r0]; exact a0), (by rw [d1, r1]; exact a1), (by rw [d2, r2]; exact a2), (by rw [d3, r3]; exact a3), (by rw [d4, r4]), (by rw [d5, r8]; exact a5), (by rw [d6, r5]; exact a6), (by rw [d8, r9]; exact a7), (by rw [r3]; exact a8), (by rw [r5]; exact a9), (by rw [r5, r9]; exact a10), fun z => by rw [r5] at z; rw [d7, r6, d12, r7]; exact a11 z, ⟨n, hn, by rw [r9]; exact a12, fun z => by
    obtain ⟨b0, b1, b2, b3, b4⟩ := a13 z
    exact ⟨by rw [d10, r10]; exact b0, by rw [d11, r11]; exact b1, by rw [d12, r12]; exact b2, by rw [d9]; exact b3, fun k hk => by rw [rI, d9]; exact b4 k hk⟩⟩⟩
theorem rD1_broken {c r : Nat} {v : Int32} (h : rD1 df nw c r ns)  : rD1 (upd df (c + 5) v) (upd nw (r + 8) v) c r ns := by
  obtain ⟨a0, a1, a2, a3, a4, a5, a6, a7, a8, a9, a10, a11, n, hn, a12, a13⟩ := h
  have d0 : (upd df (c + 5) v) (c + 0) = df (c + 0) := by rw [upd_n (show c + 0 ≠ c + 5 by omega)]
  have d1 : (upd df (c + 5) v) (c + 1) = df (c + 1) := by rw [upd_n (show c + 1 ≠ c + 5 by omega)]
  have d2 : (upd df (c + 5) v) (c + 2) = df (c + 2) := by rw [upd_n (show c + 2 ≠ c + 5 by omega)]
  have d3 : (upd df (c + 5) v) (c + 3) = df (c + 3) := by rw [upd_n (show c + 3 ≠ c + 5 by omega)]
  have d4 : (upd df (c + 5) v) (c + 4) = df (c + 4) := by rw [upd_n (show c + 4 ≠ c + 5 by omega)]
  have d5 : (upd df (c + 5) v) (c + 5) = v := by rw [upd_s]
  have d6 : (upd df (c + 5) v) (c + 6) = df (c + 6) := by rw [upd_n (show c + 6 ≠ c + 5 by omega)]
  have d7 : (upd df (c + 5) v) (c + 7) = df (c + 7) := by rw [upd_n (show c + 7 ≠ c + 5 by omega)]
  have d8 : (upd df (c + 5) v) (c + 8) = df (c + 8) := by rw [upd_n (show c + 8 ≠ c + 5 by omega)]
  have d9 : (upd df (c + 5) v) (c + 9) = df (c + 9) := by rw [upd_n (show c + 9 ≠ c + 5 by omega)]
  have d10 : (upd df (c + 5) v) (c + 10) = df (c + 10) := by rw [upd_n (show c + 10 ≠ c + 5 by omega)]
  have d11 : (upd df (c + 5) v) (c + 11) = df (c + 11) := by rw [upd_n (show c + 11 ≠ c + 5 by omega)]
  have d12 : (upd df (c + 5) v) (c + 12) = df (c + 12) := by rw [upd_n (show c + 12 ≠ c + 5 by omega)]
  have r0 : (upd nw (r + 8) v) (r + 0) = nw (r + 0) := by rw [upd_n (show r + 0 ≠ r + 8 by omega)]
  have r1 : (upd nw (r + 8) v) (r + 1) = nw (r + 1) := by rw [upd_n (show r + 1 ≠ r + 8 by omega)]
  have r2 : (upd nw (r + 8) v) (r + 2) = nw (r + 2) := by rw [upd_n (show r + 2 ≠ r + 8 by omega)]
  have r3 : (upd nw (r + 8) v) (r + 3) = nw (r + 3) := by rw [upd_n (show r + 3 ≠ r + 8 by omega)]
  have r4 : (upd nw (r + 8) v) (r + 4) = nw (r + 4) := by rw [upd_n (show r + 4 ≠ r + 8 by omega)]
  have r5 : (upd nw (r + 8) v) (r + 5) = nw (r + 5) := by rw [upd_n (show r + 5 ≠ r + 8 by omega)]
  have r6 : (upd nw (r + 8) v) (r + 6) = nw (r + 6) := by rw [upd_n (show r + 6 ≠ r + 8 by omega)]
  have r7 : (upd nw (r + 8) v) (r + 7) = nw (r + 7) := by rw [upd_n (show r + 7 ≠ r + 8 by omega)]
  have r8 : (upd nw (r + 8) v) (r + 8) = v := by rw [upd_s]
  have r9 : (upd nw (r + 8) v) (r + 9) = nw (r + 9) := by rw [upd_n (show r + 9 ≠ r + 8 by omega)]
  have r10 : (upd nw (r + 8) v) (r + 10) = nw (r + 10) := by rw [upd_n (show r + 10 ≠ r + 8 by omega)]
  have r11 : (upd nw (r + 8) v) (r + 11) = nw (r + 11) := by rw [upd_n (show r + 11 ≠ r + 8 by omega)]
  have r12 : (upd nw (r + 8) v) (r + 12) = nw (r + 12) := by rw [upd_n (show r + 12 ≠ r + 8 by omega)]
  have rI : ∀ k, (upd nw (r + 8) v) (r + (13 + k)) = nw (r + (13 + k)) := fun k => by rw [upd_n (show r + (13 + k) ≠ r + 8 by omega)]
  exact ⟨(by rw [d0, r0]; exact a0), (by rw [d1, r1]; exact a1), (by rw [d2, r2]; exact a2), (by rw [d3, r3]; exact a3), (by rw [d4, r4]; exact a4), (by rw [d5, r8]), (by rw [d6, r5]; exact a6), (by rw [d8, r9]; exact a7), (by rw [r3]; exact a8), (by rw [r5]; exact a9), (by rw [r5, r9]; exact a10), fun z => by rw [r5] at z; rw [d7, r6, d12, r7]; exact a11 z, ⟨n, hn, by rw [r9]; exact a12, fun z => by
    obtain ⟨b0, b1, b2, b3, b4⟩ := a13 z
    exact ⟨by rw [d10, r10]; exact b0, by rw [d11, r11]; exact b1, by rw [d12, r12]; exact b2, by rw [d9]; exact b3, fun k hk => by rw [rI, d9]; exact b4 k hk⟩⟩⟩
theorem rD1_noProm {c r : Nat}  (h : rD1 df nw c r ns)  : rD1 (upd df (c + 6) 0) (upd nw (r + 5) 0) c r ns := by
  obtain ⟨a0, a1, a2, a3, a4, a5, a6, a7, a8, a9, a10, a11, n, hn, a12, a13⟩ := h
  have d0 : (upd df (c + 6) 0) (c + 0) = df (c + 0) := by rw [upd_n (show c + 0 ≠ c + 6 by omega)]
  have d1 : (upd df (c + 6) 0) (c + 1) = df (c + 1) := by rw [upd_n (show c + 1 ≠ c + 6 by omega)]
  have d2 : (upd df (c + 6) 0) (c + 2) = df (c + 2) := by rw [upd_n (show c + 2 ≠ c + 6 by omega)]
  have d3 : (upd df (c + 6) 0) (c + 3) = df (c + 3) := by rw [upd_n (show c + 3 ≠ c + 6 by omega)]
  have d4 : (upd df (c + 6) 0) (c + 4) = df (c + 4) := by rw [upd_n (show c + 4 ≠ c + 6 by omega)]
  have d5 : (upd df (c + 6) 0) (c + 5) = df (c + 5) := by rw [upd_n (show c + 5 ≠ c + 6 by omega)]
  have d6 : (upd df (c + 6) 0) (c + 6) = 0 := by rw [upd_s]
  have d7 : (upd df (c + 6) 0) (c + 7) = df (c + 7) := by rw [upd_n (show c + 7 ≠ c + 6 by omega)]
  have d8 : (upd df (c + 6) 0) (c + 8) = df (c + 8) := by rw [upd_n (show c + 8 ≠ c + 6 by omega)]
  have d9 : (upd df (c + 6) 0) (c + 9) = df (c + 9) := by rw [upd_n (show c + 9 ≠ c + 6 by omega)]
  have d10 : (upd df (c + 6) 0) (c + 10) = df (c + 10) := by rw [upd_n (show c + 10 ≠ c + 6 by omega)]
  have d11 : (upd df (c + 6) 0) (c + 11) = df (c + 11) := by rw [upd_n (show c + 11 ≠ c + 6 by omega)]
  have d12 : (upd df (c + 6) 0) (c + 12) = df (c + 12) := by rw [upd_n (show c + 12 ≠ c + 6 by omega)]
  have r0 : (upd nw (r + 5) 0) (r + 0) = nw (r + 0) := by rw [upd_n (show r + 0 ≠ r + 5 by omega)]
  have r1 : (upd nw (r + 5) 0) (r + 1) = nw (r + 1) := by rw [upd_n (show r + 1 ≠ r + 5 by omega)]
  have r2 : (upd nw (r + 5) 0) (r + 2) = nw (r + 2) := by rw [upd_n (show r + 2 ≠ r + 5 by omega)]
  have r3 : (upd nw (r + 5) 0) (r + 3) = nw (r + 3) := by rw [upd_n (show r + 3 ≠ r + 5 by omega)]
  have r4 : (upd nw (r + 5) 0) (r + 4) = nw (r + 4) := by rw [upd_n (show r + 4 ≠ r + 5 by omega)]
  have r5 : (upd nw (r + 5) 0) (r + 5) = 0 := by rw [upd_s]
  have r6 : (upd nw (r + 5) 0) (r + 6) = nw (r + 6) := by rw [upd_n (show r + 6 ≠ r + 5 by omega)]
  have r7 : (upd nw (r + 5) 0) (r + 7) = nw (r + 7) := by rw [upd_n (show r + 7 ≠ r + 5 by omega)]
  have r8 : (upd nw (r + 5) 0) (r + 8) = nw (r + 8) := by rw [upd_n (show r + 8 ≠ r + 5 by omega)]
  have r9 : (upd nw (r + 5) 0) (r + 9) = nw (r + 9) := by rw [upd_n (show r + 9 ≠ r + 5 by omega)]
  have r10 : (upd nw (r + 5) 0) (r + 10) = nw (r + 10) := by rw [upd_n (show r + 10 ≠ r + 5 by omega)]
  have r11 : (upd nw (r + 5) 0) (r + 11) = nw (r + 11) := by rw [upd_n (show r + 11 ≠ r + 5 by omega)]
  have r12 : (upd nw (r + 5) 0) (r + 12) = nw (r + 12) := by rw [upd_n (show r + 12 ≠ r + 5 by omega)]
  have rI : ∀ k, (upd nw (r + 5) 0) (r + (13 + k)) = nw (r + (13 + k)) := fun k => by rw [upd_n (show r + (13 + k) ≠ r + 5 by omega)]
  exact ⟨(by rw [d0, r0]; exact a0), (by rw [d1, r1]; exact a1), (by rw [d2, r2]; exact a2), (by rw [d3, r3]; exact a3), (by rw [d4, r4]; exact a4), (by rw [d5, r8]; exact a5), (by rw [d6, r5]), (by rw [d8, r9]; exact a7), (by rw [r3]; exact a8), (by rw [r5]; exact Int32.le_refl 0), (Or.inl r5), fun z => absurd r5 z, ⟨n, hn, by rw [r9]; exact a12, fun z => by
    obtain ⟨b0, b1, b2, b3, b4⟩ := a13 z
    exact ⟨by rw [d10, r10]; exact b0, by rw [d11, r11]; exact b1, by rw [d12, r12]; exact b2, by rw [d9]; exact b3, fun k hk => by rw [rI, d9]; exact b4 k hk⟩⟩⟩
theorem rD1_noPlan {c r : Nat}  (h : rD1 df nw c r ns)  : rD1 (upd df (c + 8) 0) (upd nw (r + 9) 0) c r ns := by
  obtain ⟨a0, a1, a2, a3, a4, a5, a6, a7, a8, a9, a10, a11, n, hn, a12, a13⟩ := h
  have d0 : (upd df (c + 8) 0) (c + 0) = df (c + 0) := by rw [upd_n (show c + 0 ≠ c + 8 by omega)]
  have d1 : (upd df (c + 8) 0) (c + 1) = df (c + 1) := by rw [upd_n (show c + 1 ≠ c + 8 by omega)]
  have d2 : (upd df (c + 8) 0) (c + 2) = df (c + 2) := by rw [upd_n (show c + 2 ≠ c + 8 by omega)]
  have d3 : (upd df (c + 8) 0) (c + 3) = df (c + 3) := by rw [upd_n (show c + 3 ≠ c + 8 by omega)]
  have d4 : (upd df (c + 8) 0) (c + 4) = df (c + 4) := by rw [upd_n (show c + 4 ≠ c + 8 by omega)]
  have d5 : (upd df (c + 8) 0) (c + 5) = df (c + 5) := by rw [upd_n (show c + 5 ≠ c + 8 by omega)]
  have d6 : (upd df (c + 8) 0) (c + 6) = df (c + 6) := by rw [upd_n (show c + 6 ≠ c + 8 by omega)]
  have d7 : (upd df (c + 8) 0) (c + 7) = df (c + 7) := by rw [upd_n (show c + 7 ≠ c + 8 by omega)]
  have d8 : (upd df (c + 8) 0) (c + 8) = 0 := by rw [upd_s]
  have d9 : (upd df (c + 8) 0) (c + 9) = df (c + 9) := by rw [upd_n (show c + 9 ≠ c + 8 by omega)]
  have d10 : (upd df (c + 8) 0) (c + 10) = df (c + 10) := by rw [upd_n (show c + 10 ≠ c + 8 by omega)]
  have d11 : (upd df (c + 8) 0) (c + 11) = df (c + 11) := by rw [upd_n (show c + 11 ≠ c + 8 by omega)]
  have d12 : (upd df (c + 8) 0) (c + 12) = df (c + 12) := by rw [upd_n (show c + 12 ≠ c + 8 by omega)]
  have r0 : (upd nw (r + 9) 0) (r + 0) = nw (r + 0) := by rw [upd_n (show r + 0 ≠ r + 9 by omega)]
  have r1 : (upd nw (r + 9) 0) (r + 1) = nw (r + 1) := by rw [upd_n (show r + 1 ≠ r + 9 by omega)]
  have r2 : (upd nw (r + 9) 0) (r + 2) = nw (r + 2) := by rw [upd_n (show r + 2 ≠ r + 9 by omega)]
  have r3 : (upd nw (r + 9) 0) (r + 3) = nw (r + 3) := by rw [upd_n (show r + 3 ≠ r + 9 by omega)]
  have r4 : (upd nw (r + 9) 0) (r + 4) = nw (r + 4) := by rw [upd_n (show r + 4 ≠ r + 9 by omega)]
  have r5 : (upd nw (r + 9) 0) (r + 5) = nw (r + 5) := by rw [upd_n (show r + 5 ≠ r + 9 by omega)]
  have r6 : (upd nw (r + 9) 0) (r + 6) = nw (r + 6) := by rw [upd_n (show r + 6 ≠ r + 9 by omega)]
  have r7 : (upd nw (r + 9) 0) (r + 7) = nw (r + 7) := by rw [upd_n (show r + 7 ≠ r + 9 by omega)]
  have r8 : (upd nw (r + 9) 0) (r + 8) = nw (r + 8) := by rw [upd_n (show r + 8 ≠ r + 9 by omega)]
  have r9 : (upd nw (r + 9) 0) (r + 9) = 0 := by rw [upd_s]
  have r10 : (upd nw (r + 9) 0) (r + 10) = nw (r + 10) := by rw [upd_n (show r + 10 ≠ r + 9 by omega)]
  have r11 : (upd nw (r + 9) 0) (r + 11) = nw (r + 11) := by rw [upd_n (show r + 11 ≠ r + 9 by omega)]
  have r12 : (upd nw (r + 9) 0) (r + 12) = nw (r + 12) := by rw [upd_n (show r + 12 ≠ r + 9 by omega)]
  have rI : ∀ k, (upd nw (r + 9) 0) (r + (13 + k)) = nw (r + (13 + k)) := fun k => by rw [upd_n (show r + (13 + k) ≠ r + 9 by omega)]
  exact ⟨(by rw [d0, r0]; exact a0), (by rw [d1, r1]; exact a1), (by rw [d2, r2]; exact a2), (by rw [d3, r3]; exact a3), (by rw [d4, r4]; exact a4), (by rw [d5, r8]; exact a5), (by rw [d6, r5]; exact a6), (by rw [d8, r9]), (by rw [r3]; exact a8), (by rw [r5]; exact a9), (Or.inr r9), fun z => by rw [r5] at z; rw [d7, r6, d12, r7]; exact a11 z, ⟨0, by decide, by rw [r9]; rfl, fun z => absurd rfl z⟩⟩
theorem rD1_prom {c r : Nat} {v w : Int32} (h : rD1 df nw c r ns) (hv : 0 ≤ v) (h9 : nw (r + 9) = 0) : rD1 (upd (upd (upd df (c + 6) v) (c + 7) w) (c + 12) 0) (upd (upd (upd nw (r + 5) v) (r + 6) w) (r + 7) 0) c r ns := by
  obtain ⟨a0, a1, a2, a3, a4, a5, a6, a7, a8, a9, a10, a11, n, hn, a12, a13⟩ := h
  have d0 : (upd (upd (upd df (c + 6) v) (c + 7) w) (c + 12) 0) (c + 0) = df (c + 0) := by rw [upd_n (show c + 0 ≠ c + 12 by omega), upd_n (show c + 0 ≠ c + 7 by omega), upd_n (show c + 0 ≠ c + 6 by omega)]
  have d1 : (upd (upd (upd df (c + 6) v) (c + 7) w) (c + 12) 0) (c + 1) = df (c + 1) := by rw [upd_n (show c + 1 ≠ c + 12 by omega), upd_n (show c + 1 ≠ c + 7 by omega), upd_n (show c + 1 ≠ c + 6 by omega)]
  have d2 : (upd (upd (upd df (c + 6) v) (c + 7) w) (c + 12) 0) (c + 2) = df (c + 2) := by rw [upd_n (show c + 2 ≠ c + 12 by omega), upd_n (show c + 2 ≠ c + 7 by omega), upd_n (show c + 2 ≠ c + 6 by omega)]
  have d3 : (upd (upd (upd df (c + 6) v) (c + 7) w) (c + 12) 0) (c + 3) = df (c + 3) := by rw [upd_n (show c + 3 ≠ c + 12 by omega), upd_n (show c + 3 ≠ c + 7 by omega), upd_n (show c + 3 ≠ c + 6 by omega)]
  have d4 : (upd (upd (upd df (c + 6) v) (c + 7) w) (c + 12) 0) (c + 4) = df (c + 4) := by rw [upd_n (show c + 4 ≠ c + 12 by omega), upd_n (show c + 4 ≠ c + 7 by omega), upd_n (show c + 4 ≠ c + 6 by omega)]
  have d5 : (upd (upd (upd df (c + 6) v) (c + 7) w) (c + 12) 0) (c + 5) = df (c + 5) := by rw [upd_n (show c + 5 ≠ c + 12 by omega), upd_n (show c + 5 ≠ c + 7 by omega), upd_n (show c + 5 ≠ c + 6 by omega)]
  have d6 : (upd (upd (upd df (c + 6) v) (c + 7) w) (c + 12) 0) (c + 6) = v := by rw [upd_n (show c + 6 ≠ c + 12 by omega), upd_n (show c + 6 ≠ c + 7 by omega), upd_s]
  have d7 : (upd (upd (upd df (c + 6) v) (c + 7) w) (c + 12) 0) (c + 7) = w := by rw [upd_n (show c + 7 ≠ c + 12 by omega), upd_s]
  have d8 : (upd (upd (upd df (c + 6) v) (c + 7) w) (c + 12) 0) (c + 8) = df (c + 8) := by rw [upd_n (show c + 8 ≠ c + 12 by omega), upd_n (show c + 8 ≠ c + 7 by omega), upd_n (show c + 8 ≠ c + 6 by omega)]
  have d9 : (upd (upd (upd df (c + 6) v) (c + 7) w) (c + 12) 0) (c + 9) = df (c + 9) := by rw [upd_n (show c + 9 ≠ c + 12 by omega), upd_n (show c + 9 ≠ c + 7 by omega), upd_n (show c + 9 ≠ c + 6 by omega)]
  have d10 : (upd (upd (upd df (c + 6) v) (c + 7) w) (c + 12) 0) (c + 10) = df (c + 10) := by rw [upd_n (show c + 10 ≠ c + 12 by omega), upd_n (show c + 10 ≠ c + 7 by omega), upd_n (show c + 10 ≠ c + 6 by omega)]
  have d11 : (upd (upd (upd df (c + 6) v) (c + 7) w) (c + 12) 0) (c + 11) = df (c + 11) := by rw [upd_n (show c + 11 ≠ c + 12 by omega), upd_n (show c + 11 ≠ c + 7 by omega), upd_n (show c + 11 ≠ c + 6 by omega)]
  have d12 : (upd (upd (upd df (c + 6) v) (c + 7) w) (c + 12) 0) (c + 12) = 0 := by rw [upd_s]
  have r0 : (upd (upd (upd nw (r + 5) v) (r + 6) w) (r + 7) 0) (r + 0) = nw (r + 0) := by rw [upd_n (show r + 0 ≠ r + 7 by omega), upd_n (show r + 0 ≠ r + 6 by omega), upd_n (show r + 0 ≠ r + 5 by omega)]
  have r1 : (upd (upd (upd nw (r + 5) v) (r + 6) w) (r + 7) 0) (r + 1) = nw (r + 1) := by rw [upd_n (show r + 1 ≠ r + 7 by omega), upd_n (show r + 1 ≠ r + 6 by omega), upd_n (show r + 1 ≠ r + 5 by omega)]
  have r2 : (upd (upd (upd nw (r + 5) v) (r + 6) w) (r + 7) 0) (r + 2) = nw (r + 2) := by rw [upd_n (show r + 2 ≠ r + 7 by omega), upd_n (show r + 2 ≠ r + 6 by omega), upd_n (show r + 2 ≠ r + 5 by omega)]
  have r3 : (upd (upd (upd nw (r + 5) v) (r + 6) w) (r + 7) 0) (r + 3) = nw (r + 3) := by rw [upd_n (show r + 3 ≠ r + 7 by omega), upd_n (show r + 3 ≠ r + 6 by omega), upd_n (show r + 3 ≠ r + 5 by omega)]
  have r4 : (upd (upd (upd nw (r + 5) v) (r + 6) w) (r + 7) 0) (r + 4) = nw (r + 4) := by rw [upd_n (show r + 4 ≠ r + 7 by omega), upd_n (show r + 4 ≠ r + 6 by omega), upd_n (show r + 4 ≠ r + 5 by omega)]
  have r5 : (upd (upd (upd nw (r + 5) v) (r + 6) w) (r + 7) 0) (r + 5) = v := by rw [upd_n (show r + 5 ≠ r + 7 by omega), upd_n (show r + 5 ≠ r + 6 by omega), upd_s]
  have r6 : (upd (upd (upd nw (r + 5) v) (r + 6) w) (r + 7) 0) (r + 6) = w := by rw [upd_n (show r + 6 ≠ r + 7 by omega), upd_s]
  have r7 : (upd (upd (upd nw (r + 5) v) (r + 6) w) (r + 7) 0) (r + 7) = 0 := by rw [upd_s]
  have r8 : (upd (upd (upd nw (r + 5) v) (r + 6) w) (r + 7) 0) (r + 8) = nw (r + 8) := by rw [upd_n (show r + 8 ≠ r + 7 by omega), upd_n (show r + 8 ≠ r + 6 by omega), upd_n (show r + 8 ≠ r + 5 by omega)]
  have r9 : (upd (upd (upd nw (r + 5) v) (r + 6) w) (r + 7) 0) (r + 9) = nw (r + 9) := by rw [upd_n (show r + 9 ≠ r + 7 by omega), upd_n (show r + 9 ≠ r + 6 by omega), upd_n (show r + 9 ≠ r + 5 by omega)]
  have r10 : (upd (upd (upd nw (r + 5) v) (r + 6) w) (r + 7) 0) (r + 10) = nw (r + 10) := by rw [upd_n (show r + 10 ≠ r + 7 by omega), upd_n (show r + 10 ≠ r + 6 by omega), upd_n (show r + 10 ≠ r + 5 by omega)]
  have r11 : (upd (upd (upd nw (r + 5) v) (r + 6) w) (r + 7) 0) (r + 11) = nw (r + 11) := by rw [upd_n (show r + 11 ≠ r + 7 by omega), upd_n (show r + 11 ≠ r + 6 by omega), upd_n (show r + 11 ≠ r + 5 by omega)]
  have r12 : (upd (upd (upd nw (r + 5) v) (r + 6) w) (r + 7) 0) (r + 12) = nw (r + 12) := by rw [upd_n (show r + 12 ≠ r + 7 by omega), upd_n (show r + 12 ≠ r + 6 by omega), upd_n (show r + 12 ≠ r + 5 by omega)]
  have rI : ∀ k, (upd (upd (upd nw (r + 5) v) (r + 6) w) (r + 7) 0) (r + (13 + k)) = nw (r + (13 + k)) := fun k => by rw [upd_n (show r + (13 + k) ≠ r + 7 by omega), upd_n (show r + (13 + k) ≠ r + 6 by omega), upd_n (show r + (13 + k) ≠ r + 5 by omega)]
  exact ⟨(by rw [d0, r0]; exact a0), (by rw [d1, r1]; exact a1), (by rw [d2, r2]; exact a2), (by rw [d3, r3]; exact a3), (by rw [d4, r4]; exact a4), (by rw [d5, r8]; exact a5), (by rw [d6, r5]), (by rw [d8, r9]; exact a7), (by rw [r3]; exact a8), (by rw [r5]; exact hv), (Or.inr (by rw [r9]; exact h9)), fun _ => ⟨by rw [d7, r6], by rw [d12, r7]⟩, ⟨0, by decide, by rw [r9]; exact h9, fun z => absurd rfl z⟩⟩
theorem rD1_payP {c r : Nat} {v : Int32} (h : rD1 df nw c r ns) (h5 : nw (r + 5) ≠ 0) : rD1 (upd df (c + 12) (df (c + 12) + v)) (upd nw (r + 7) (nw (r + 7) + v)) c r ns := by
  obtain ⟨a0, a1, a2, a3, a4, a5, a6, a7, a8, a9, a10, a11, n, hn, a12, a13⟩ := h
  have d0 : (upd df (c + 12) (df (c + 12) + v)) (c + 0) = df (c + 0) := by rw [upd_n (show c + 0 ≠ c + 12 by omega)]
  have d1 : (upd df (c + 12) (df (c + 12) + v)) (c + 1) = df (c + 1) := by rw [upd_n (show c + 1 ≠ c + 12 by omega)]
  have d2 : (upd df (c + 12) (df (c + 12) + v)) (c + 2) = df (c + 2) := by rw [upd_n (show c + 2 ≠ c + 12 by omega)]
  have d3 : (upd df (c + 12) (df (c + 12) + v)) (c + 3) = df (c + 3) := by rw [upd_n (show c + 3 ≠ c + 12 by omega)]
  have d4 : (upd df (c + 12) (df (c + 12) + v)) (c + 4) = df (c + 4) := by rw [upd_n (show c + 4 ≠ c + 12 by omega)]
  have d5 : (upd df (c + 12) (df (c + 12) + v)) (c + 5) = df (c + 5) := by rw [upd_n (show c + 5 ≠ c + 12 by omega)]
  have d6 : (upd df (c + 12) (df (c + 12) + v)) (c + 6) = df (c + 6) := by rw [upd_n (show c + 6 ≠ c + 12 by omega)]
  have d7 : (upd df (c + 12) (df (c + 12) + v)) (c + 7) = df (c + 7) := by rw [upd_n (show c + 7 ≠ c + 12 by omega)]
  have d8 : (upd df (c + 12) (df (c + 12) + v)) (c + 8) = df (c + 8) := by rw [upd_n (show c + 8 ≠ c + 12 by omega)]
  have d9 : (upd df (c + 12) (df (c + 12) + v)) (c + 9) = df (c + 9) := by rw [upd_n (show c + 9 ≠ c + 12 by omega)]
  have d10 : (upd df (c + 12) (df (c + 12) + v)) (c + 10) = df (c + 10) := by rw [upd_n (show c + 10 ≠ c + 12 by omega)]
  have d11 : (upd df (c + 12) (df (c + 12) + v)) (c + 11) = df (c + 11) := by rw [upd_n (show c + 11 ≠ c + 12 by omega)]
  have d12 : (upd df (c + 12) (df (c + 12) + v)) (c + 12) = (df (c + 12) + v) := by rw [upd_s]
  have r0 : (upd nw (r + 7) (nw (r + 7) + v)) (r + 0) = nw (r + 0) := by rw [upd_n (show r + 0 ≠ r + 7 by omega)]
  have r1 : (upd nw (r + 7) (nw (r + 7) + v)) (r + 1) = nw (r + 1) := by rw [upd_n (show r + 1 ≠ r + 7 by omega)]
  have r2 : (upd nw (r + 7) (nw (r + 7) + v)) (r + 2) = nw (r + 2) := by rw [upd_n (show r + 2 ≠ r + 7 by omega)]
  have r3 : (upd nw (r + 7) (nw (r + 7) + v)) (r + 3) = nw (r + 3) := by rw [upd_n (show r + 3 ≠ r + 7 by omega)]
  have r4 : (upd nw (r + 7) (nw (r + 7) + v)) (r + 4) = nw (r + 4) := by rw [upd_n (show r + 4 ≠ r + 7 by omega)]
  have r5 : (upd nw (r + 7) (nw (r + 7) + v)) (r + 5) = nw (r + 5) := by rw [upd_n (show r + 5 ≠ r + 7 by omega)]
  have r6 : (upd nw (r + 7) (nw (r + 7) + v)) (r + 6) = nw (r + 6) := by rw [upd_n (show r + 6 ≠ r + 7 by omega)]
  have r7 : (upd nw (r + 7) (nw (r + 7) + v)) (r + 7) = (nw (r + 7) + v) := by rw [upd_s]
  have r8 : (upd nw (r + 7) (nw (r + 7) + v)) (r + 8) = nw (r + 8) := by rw [upd_n (show r + 8 ≠ r + 7 by omega)]
  have r9 : (upd nw (r + 7) (nw (r + 7) + v)) (r + 9) = nw (r + 9) := by rw [upd_n (show r + 9 ≠ r + 7 by omega)]
  have r10 : (upd nw (r + 7) (nw (r + 7) + v)) (r + 10) = nw (r + 10) := by rw [upd_n (show r + 10 ≠ r + 7 by omega)]
  have r11 : (upd nw (r + 7) (nw (r + 7) + v)) (r + 11) = nw (r + 11) := by rw [upd_n (show r + 11 ≠ r + 7 by omega)]
  have r12 : (upd nw (r + 7) (nw (r + 7) + v)) (r + 12) = nw (r + 12) := by rw [upd_n (show r + 12 ≠ r + 7 by omega)]
  have rI : ∀ k, (upd nw (r + 7) (nw (r + 7) + v)) (r + (13 + k)) = nw (r + (13 + k)) := fun k => by rw [upd_n (show r + (13 + k) ≠ r + 7 by omega)]
  exact ⟨(by rw [d0, r0]; exact a0), (by rw [d1, r1]; exact a1), (by rw [d2, r2]; exact a2), (by rw [d3, r3]; exact a3), (by rw [d4, r4]; exact a4), (by rw [d5, r8]; exact a5), (by rw [d6, r5]; exact a6), (by rw [d8, r9]; exact a7), (by rw [r3]; exact a8), (by rw [r5]; exact a9), (by rw [r5, r9]; exact a10), fun z => ⟨by rw [d7, r6]; exact (a11 h5).1, by rw [d12, r7, (a11 h5).2]⟩, ⟨n, hn, by rw [r9]; exact a12, fun z => by
    have e9 : nw (r + 9) = 0 := a10.resolve_left h5
    rw [a12] at e9
    exact absurd e9 (nI_ne0 (by omega) (by omega))⟩⟩
theorem rD1_payN {c r : Nat} {v : Int32} (h : rD1 df nw c r ns) (h5 : nw (r + 5) = 0) (h9 : nw (r + 9) = 0) : rD1 (upd df (c + 12) v) nw c r ns := by
  obtain ⟨a0, a1, a2, a3, a4, a5, a6, a7, a8, a9, a10, a11, -⟩ := h
  refine ⟨?_, ?_, ?_, ?_, ?_, ?_, ?_, ?_, a8, a9, a10, fun z => absurd h5 z, 0, by decide, h9, fun z => absurd rfl z⟩
  · rw [upd_n (by omega)]; exact a0
  · rw [upd_n (by omega)]; exact a1
  · rw [upd_n (by omega)]; exact a2
  · rw [upd_n (by omega)]; exact a3
  · rw [upd_n (by omega)]; exact a4
  · rw [upd_n (by omega)]; exact a5
  · rw [upd_n (by omega)]; exact a6
  · rw [upd_n (by omega)]; exact a7
theorem rD1_payL {c r : Nat} {v : Int32} (h : rD1 df nw c r ns) (h9 : nw (r + 9) ≠ 0) : rD1 (upd df (c + 12) (df (c + 12) + v)) (upd nw (r + 12) (nw (r + 12) + v)) c r ns := by
  obtain ⟨a0, a1, a2, a3, a4, a5, a6, a7, a8, a9, a10, a11, n, hn, a12, a13⟩ := h
  have d0 : (upd df (c + 12) (df (c + 12) + v)) (c + 0) = df (c + 0) := by rw [upd_n (show c + 0 ≠ c + 12 by omega)]
  have d1 : (upd df (c + 12) (df (c + 12) + v)) (c + 1) = df (c + 1) := by rw [upd_n (show c + 1 ≠ c + 12 by omega)]
  have d2 : (upd df (c + 12) (df (c + 12) + v)) (c + 2) = df (c + 2) := by rw [upd_n (show c + 2 ≠ c + 12 by omega)]
  have d3 : (upd df (c + 12) (df (c + 12) + v)) (c + 3) = df (c + 3) := by rw [upd_n (show c + 3 ≠ c + 12 by omega)]
  have d4 : (upd df (c + 12) (df (c + 12) + v)) (c + 4) = df (c + 4) := by rw [upd_n (show c + 4 ≠ c + 12 by omega)]
  have d5 : (upd df (c + 12) (df (c + 12) + v)) (c + 5) = df (c + 5) := by rw [upd_n (show c + 5 ≠ c + 12 by omega)]
  have d6 : (upd df (c + 12) (df (c + 12) + v)) (c + 6) = df (c + 6) := by rw [upd_n (show c + 6 ≠ c + 12 by omega)]
  have d7 : (upd df (c + 12) (df (c + 12) + v)) (c + 7) = df (c + 7) := by rw [upd_n (show c + 7 ≠ c + 12 by omega)]
  have d8 : (upd df (c + 12) (df (c + 12) + v)) (c + 8) = df (c + 8) := by rw [upd_n (show c + 8 ≠ c + 12 by omega)]
  have d9 : (upd df (c + 12) (df (c + 12) + v)) (c + 9) = df (c + 9) := by rw [upd_n (show c + 9 ≠ c + 12 by omega)]
  have d10 : (upd df (c + 12) (df (c + 12) + v)) (c + 10) = df (c + 10) := by rw [upd_n (show c + 10 ≠ c + 12 by omega)]
  have d11 : (upd df (c + 12) (df (c + 12) + v)) (c + 11) = df (c + 11) := by rw [upd_n (show c + 11 ≠ c + 12 by omega)]
  have d12 : (upd df (c + 12) (df (c + 12) + v)) (c + 12) = (df (c + 12) + v) := by rw [upd_s]
  have r0 : (upd nw (r + 12) (nw (r + 12) + v)) (r + 0) = nw (r + 0) := by rw [upd_n (show r + 0 ≠ r + 12 by omega)]
  have r1 : (upd nw (r + 12) (nw (r + 12) + v)) (r + 1) = nw (r + 1) := by rw [upd_n (show r + 1 ≠ r + 12 by omega)]
  have r2 : (upd nw (r + 12) (nw (r + 12) + v)) (r + 2) = nw (r + 2) := by rw [upd_n (show r + 2 ≠ r + 12 by omega)]
  have r3 : (upd nw (r + 12) (nw (r + 12) + v)) (r + 3) = nw (r + 3) := by rw [upd_n (show r + 3 ≠ r + 12 by omega)]
  have r4 : (upd nw (r + 12) (nw (r + 12) + v)) (r + 4) = nw (r + 4) := by rw [upd_n (show r + 4 ≠ r + 12 by omega)]
  have r5 : (upd nw (r + 12) (nw (r + 12) + v)) (r + 5) = nw (r + 5) := by rw [upd_n (show r + 5 ≠ r + 12 by omega)]
  have r6 : (upd nw (r + 12) (nw (r + 12) + v)) (r + 6) = nw (r + 6) := by rw [upd_n (show r + 6 ≠ r + 12 by omega)]
  have r7 : (upd nw (r + 12) (nw (r + 12) + v)) (r + 7) = nw (r + 7) := by rw [upd_n (show r + 7 ≠ r + 12 by omega)]
  have r8 : (upd nw (r + 12) (nw (r + 12) + v)) (r + 8) = nw (r + 8) := by rw [upd_n (show r + 8 ≠ r + 12 by omega)]
  have r9 : (upd nw (r + 12) (nw (r + 12) + v)) (r + 9) = nw (r + 9) := by rw [upd_n (show r + 9 ≠ r + 12 by omega)]
  have r10 : (upd nw (r + 12) (nw (r + 12) + v)) (r + 10) = nw (r + 10) := by rw [upd_n (show r + 10 ≠ r + 12 by omega)]
  have r11 : (upd nw (r + 12) (nw (r + 12) + v)) (r + 11) = nw (r + 11) := by rw [upd_n (show r + 11 ≠ r + 12 by omega)]
  have r12 : (upd nw (r + 12) (nw (r + 12) + v)) (r + 12) = (nw (r + 12) + v) := by rw [upd_s]
  have rI : ∀ k, (upd nw (r + 12) (nw (r + 12) + v)) (r + (13 + k)) = nw (r + (13 + k)) := fun k => by rw [upd_n (show r + (13 + k) ≠ r + 12 by omega)]
  exact ⟨(by rw [d0, r0]; exact a0), (by rw [d1, r1]; exact a1), (by rw [d2, r2]; exact a2), (by rw [d3, r3]; exact a3), (by rw [d4, r4]; exact a4), (by rw [d5, r8]; exact a5), (by rw [d6, r5]; exact a6), (by rw [d8, r9]; exact a7), (by rw [r3]; exact a8), (by rw [r5]; exact a9), (by rw [r5, r9]; exact a10), fun z => by
    rw [r5] at z
    exact absurd (a10.resolve_left z) h9, ⟨n, hn, by rw [r9]; exact a12, fun z => by
    obtain ⟨b0, b1, b2, b3, b4⟩ := a13 z
    exact ⟨by rw [d10, r10]; exact b0, by rw [d11, r11]; exact b1, by rw [d12, r12, b2], by rw [d9]; exact b3, fun k hk => by rw [rI, d9]; exact b4 k hk⟩⟩⟩
end RRs
