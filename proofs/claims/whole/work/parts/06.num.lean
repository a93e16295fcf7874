def ro (xs : List Int32) : Nat → Int32 := fun j => xs.getD j 0
/-- the eight static rows of Text -/
def RO8 : List pw_E := [.inl (0, 4, .inl (ro [0, 1, 2, 5])), .inl (0, 2, .inl (ro [6, 7])), .inl (0, 3, .inl (ro [6, 7, 4])), .inl (0, 3, .inl (ro [6, 7, 3])), .inl (0, 4, .inl (ro [3, 4, 2, 6])), .inl (0, 0, .inl (ro [])), .inl (0, 5, .inl (ro [1, 0, 0, 0, 1])), .inl (0, 5, .inl (ro [20, 63, 9, 5, 5]))]
/-- what stands between calls and within them: the shape, which realm is told (b) and which is spare (s), the rows that nobody writes, the script -/
def St (b s : Nat) (sc : pw_E) (mem : pw_M) : Prop := Sh mem ∧ fv mem 9 9 = .ref b ∧ fv mem 9 10 = .ref s ∧ ((b = 49 ∧ s = 72) ∨ (b = 72 ∧ s = 49)) ∧ mem.take 9 = RO8 ++ [sc]
theorem St.b {b s : Nat} {sc : pw_E} {mem : pw_M} (h : St b s sc mem) : b = 49 ∨ b = 72 := h.2.2.2.1.elim (fun q => Or.inl q.1) (fun q => Or.inr q.1)
theorem St.s {b s : Nat} {sc : pw_E} {mem : pw_M} (h : St b s sc mem) : s = 49 ∨ s = 72 := h.2.2.2.1.elim (fun q => Or.inr q.2) (fun q => Or.inl q.2)
theorem St.ne {b s : Nat} {sc : pw_E} {mem : pw_M} (h : St b s sc mem) : b ≠ s := by rcases h.2.2.2.1 with ⟨rfl, rfl⟩ | ⟨rfl, rfl⟩ <;> decide
theorem St.far {b s : Nat} {sc : pw_E} {mem : pw_M} (h : St b s sc mem) : b + 23 = s ∨ s + 23 = b := by rcases h.2.2.2.1 with ⟨rfl, rfl⟩ | ⟨rfl, rfl⟩ <;> decide
theorem St.ro {b s : Nat} {sc : pw_E} {mem : pw_M} (h : St b s sc mem) {r : Nat} (hr : r < 9) : mem[r]? = (RO8 ++ [sc])[r]? := by rw [← h.2.2.2.2, List.getElem?_take, if_pos hr]
theorem take_set {mem : pw_M} {r : Nat} {x : pw_E} (h : 9 ≤ r) : (mem.set r x).take 9 = mem.take 9 := by
  apply List.ext_getElem?
  intro k
  rw [List.getElem?_take, List.getElem?_take, List.getElem?_set]
  by_cases hk : k < 9
  · rw [if_pos hk, if_pos hk, if_neg (by omega)]
  · rw [if_neg hk, if_neg hk]
theorem St.wI {b s : Nat} {sc : pw_E} {mem : pw_M} (h : St b s sc mem) {r : Nat} (h9 : 9 ≤ r) (j : Nat) (x : Int32) : St b s sc (wI mem r j x) := by
  refine ⟨h.1.shI r j x, by rw [fv_wI]; exact h.2.1, by rw [fv_wI]; exact h.2.2.1, h.2.2.2.1, ?_⟩
  rw [← h.2.2.2.2]
  unfold _root_.Jvm.Pilot.@@N@@.wI
  split
  · exact take_set h9
  · rfl
theorem St.wJ {b s : Nat} {sc : pw_E} {mem : pw_M} (h : St b s sc mem) {r : Nat} (h9 : 9 ≤ r) (j : Nat) (x : Int64) : St b s sc (wJ mem r j x) := by
  refine ⟨h.1.shJ r j x, by rw [fv_wJ]; exact h.2.1, by rw [fv_wJ]; exact h.2.2.1, h.2.2.2.1, ?_⟩
  rw [← h.2.2.2.2]
  unfold _root_.Jvm.Pilot.@@N@@.wJ
  split
  · exact take_set h9
  · rfl
theorem wF_take {mem : pw_M} {r j : Nat} {v : Value} (h9 : 9 ≤ r) : (wF mem r j v).take 9 = mem.take 9 := by
  unfold wF
  split
  · exact take_set h9
  · rfl
theorem St.wFI {b s : Nat} {sc : pw_E} {mem : pw_M} (h : St b s sc mem) {r ci j : Nat} (h9 : 9 ≤ r) (hx : skf r ci j = some (.int 0)) (x : Int32) : St b s sc (wF mem r j (.int x)) := by
  have hne : ∀ i, i = 9 ∨ i = 10 → (9 : Nat) ≠ r ∨ i ≠ j := fun i hi => by
    by_cases hr : 9 = r
    · right
      subst hr
      intro e
      subst e
      rcases hi with rfl | rfl <;> (simp only [skf, SK] at hx; revert hx; simp)
    · exact Or.inl hr
  exact ⟨h.1.shFI h9 hx x, by rw [fv_wF_ne (hne 9 (Or.inl rfl))]; exact h.2.1, by rw [fv_wF_ne (hne 10 (Or.inr rfl))]; exact h.2.2.1, h.2.2.2.1, by rw [wF_take h9]; exact h.2.2.2.2⟩
theorem St.wFL {b s : Nat} {sc : pw_E} {mem : pw_M} (h : St b s sc mem) {r ci j : Nat} (h9 : 9 ≤ r) (hx : skf r ci j = some (.long 0)) (x : Int64) : St b s sc (wF mem r j (.long x)) := by
  have hne : ∀ i, i = 9 ∨ i = 10 → (9 : Nat) ≠ r ∨ i ≠ j := fun i hi => by
    by_cases hr : 9 = r
    · right
      subst hr
      intro e
      subst e
      rcases hi with rfl | rfl <;> (simp only [skf, SK] at hx; revert hx; simp)
    · exact Or.inl hr
  exact ⟨h.1.shFL h9 hx x, by rw [fv_wF_ne (hne 9 (Or.inl rfl))]; exact h.2.1, by rw [fv_wF_ne (hne 10 (Or.inr rfl))]; exact h.2.2.1, h.2.2.2.1, by rw [wF_take h9]; exact h.2.2.2.2⟩
def bI (c : Bool) : Int32 := if c then 1 else 0
theorem bI_t : bI true = 1 := rfl
theorem bI_f : bI false = 0 := rfl
theorem bI_n (c : Bool) : bI c = nI (if c then 1 else 0) := by cases c <;> rfl
theorem bI_eq0 {c : Bool} : bI c = 0 ↔ c = false := by cases c <;> decide
theorem bI_nar (c : Bool) : narrow .boolean (.int (bI c)) = .int (bI c) := by cases c <;> rfl
theorem bI_vp (c : Bool) : vp_nar .boolean (bI c) = bI c := by cases c <;> rfl
theorem bI_ret {p : Prop} (inst : Decidable p) : (if p then (1 : Int32) else 0) = bI (decide p) := by by_cases h : p <;> simp [bI, h]
theorem skR0 {b : Nat} (hb : b = 49 ∨ b = 72) : skf b 2 0 = some (.int 0) := by rcases hb with rfl | rfl <;> rfl
theorem skR1 {b : Nat} (hb : b = 49 ∨ b = 72) : skf b 2 1 = some (.int 0) := by rcases hb with rfl | rfl <;> rfl
theorem skR2 {b : Nat} (hb : b = 49 ∨ b = 72) : skf b 2 2 = some (.int 0) := by rcases hb with rfl | rfl <;> rfl
theorem skR3 {b : Nat} (hb : b = 49 ∨ b = 72) : skf b 2 3 = some (.ref (b + 1)) := by rcases hb with rfl | rfl <;> rfl
theorem skR4 {b : Nat} (hb : b = 49 ∨ b = 72) : skf b 2 4 = some (.ref (b + 2)) := by rcases hb with rfl | rfl <;> rfl
theorem skR5 {b : Nat} (hb : b = 49 ∨ b = 72) : skf b 2 5 = some (.ref (b + 3)) := by rcases hb with rfl | rfl <;> rfl
theorem skR6 {b : Nat} (hb : b = 49 ∨ b = 72) : skf b 2 6 = some (.ref (b + 4)) := by rcases hb with rfl | rfl <;> rfl
theorem skR7 {b : Nat} (hb : b = 49 ∨ b = 72) : skf b 2 7 = some (.ref (b + 5)) := by rcases hb with rfl | rfl <;> rfl
theorem skR8 {b : Nat} (hb : b = 49 ∨ b = 72) : skf b 2 8 = some (.ref (b + 6)) := by rcases hb with rfl | rfl <;> rfl
theorem skR9 {b : Nat} (hb : b = 49 ∨ b = 72) : skf b 2 9 = some (.ref (b + 7)) := by rcases hb with rfl | rfl <;> rfl
theorem skR10 {b : Nat} (hb : b = 49 ∨ b = 72) : skf b 2 10 = some (.ref (b + 8)) := by rcases hb with rfl | rfl <;> rfl
theorem skR11 {b : Nat} (hb : b = 49 ∨ b = 72) : skf b 2 11 = some (.ref (b + 9)) := by rcases hb with rfl | rfl <;> rfl
theorem skR12 {b : Nat} (hb : b = 49 ∨ b = 72) : skf b 2 12 = some (.ref (b + 10)) := by rcases hb with rfl | rfl <;> rfl
theorem skR13 {b : Nat} (hb : b = 49 ∨ b = 72) : skf b 2 13 = some (.ref (b + 17)) := by rcases hb with rfl | rfl <;> rfl
theorem skR14 {b : Nat} (hb : b = 49 ∨ b = 72) : skf b 2 14 = some (.ref (b + 18)) := by rcases hb with rfl | rfl <;> rfl
theorem skR15 {b : Nat} (hb : b = 49 ∨ b = 72) : skf b 2 15 = some (.ref (b + 19)) := by rcases hb with rfl | rfl <;> rfl
theorem skR16 {b : Nat} (hb : b = 49 ∨ b = 72) : skf b 2 16 = some (.ref (b + 20)) := by rcases hb with rfl | rfl <;> rfl
theorem skR17 {b : Nat} (hb : b = 49 ∨ b = 72) : skf b 2 17 = some (.ref (b + 21)) := by rcases hb with rfl | rfl <;> rfl
theorem skR18 {b : Nat} (hb : b = 49 ∨ b = 72) : skf b 2 18 = some (.ref (b + 22)) := by rcases hb with rfl | rfl <;> rfl
theorem akR1 {b : Nat} (hb : b = 49 ∨ b = 72) : SK[b + 1 - 9]? = some (.inl (0, 0, 6, [])) := by rcases hb with rfl | rfl <;> rfl
theorem akR2 {b : Nat} (hb : b = 49 ∨ b = 72) : SK[b + 2 - 9]? = some (.inl (0, 0, 6, [])) := by rcases hb with rfl | rfl <;> rfl
theorem akR3 {b : Nat} (hb : b = 49 ∨ b = 72) : SK[b + 3 - 9]? = some (.inl (0, 0, 6, [])) := by rcases hb with rfl | rfl <;> rfl
theorem akR4 {b : Nat} (hb : b = 49 ∨ b = 72) : SK[b + 4 - 9]? = some (.inl (0, 0, 6, [])) := by rcases hb with rfl | rfl <;> rfl
theorem akR5 {b : Nat} (hb : b = 49 ∨ b = 72) : SK[b + 5 - 9]? = some (.inl (0, 0, 6, [])) := by rcases hb with rfl | rfl <;> rfl
theorem akR6 {b : Nat} (hb : b = 49 ∨ b = 72) : SK[b + 6 - 9]? = some (.inl (0, 0, 6, [])) := by rcases hb with rfl | rfl <;> rfl
theorem akR7 {b : Nat} (hb : b = 49 ∨ b = 72) : SK[b + 7 - 9]? = some (.inl (0, 0, 6, [])) := by rcases hb with rfl | rfl <;> rfl
theorem akR8 {b : Nat} (hb : b = 49 ∨ b = 72) : SK[b + 8 - 9]? = some (.inl (0, 0, 6, [])) := by rcases hb with rfl | rfl <;> rfl
theorem akR9 {b : Nat} (hb : b = 49 ∨ b = 72) : SK[b + 9 - 9]? = some (.inl (0, 0, 6, [])) := by rcases hb with rfl | rfl <;> rfl
theorem akR11 {b : Nat} (hb : b = 49 ∨ b = 72) : SK[b + 11 - 9]? = some (.inl (0, 0, 6, [])) := by rcases hb with rfl | rfl <;> rfl
theorem akR12 {b : Nat} (hb : b = 49 ∨ b = 72) : SK[b + 12 - 9]? = some (.inl (0, 0, 6, [])) := by rcases hb with rfl | rfl <;> rfl
theorem akR13 {b : Nat} (hb : b = 49 ∨ b = 72) : SK[b + 13 - 9]? = some (.inl (0, 0, 6, [])) := by rcases hb with rfl | rfl <;> rfl
theorem akR14 {b : Nat} (hb : b = 49 ∨ b = 72) : SK[b + 14 - 9]? = some (.inl (0, 0, 6, [])) := by rcases hb with rfl | rfl <;> rfl
theorem akR15 {b : Nat} (hb : b = 49 ∨ b = 72) : SK[b + 15 - 9]? = some (.inl (0, 0, 6, [])) := by rcases hb with rfl | rfl <;> rfl
theorem akR16 {b : Nat} (hb : b = 49 ∨ b = 72) : SK[b + 16 - 9]? = some (.inl (0, 0, 6, [])) := by rcases hb with rfl | rfl <;> rfl
theorem akR17 {b : Nat} (hb : b = 49 ∨ b = 72) : SK[b + 17 - 9]? = some (.inl (0, 0, 6, [])) := by rcases hb with rfl | rfl <;> rfl
theorem akR18 {b : Nat} (hb : b = 49 ∨ b = 72) : SK[b + 18 - 9]? = some (.inl (0, 0, 6, [])) := by rcases hb with rfl | rfl <;> rfl
theorem akR19 {b : Nat} (hb : b = 49 ∨ b = 72) : SK[b + 19 - 9]? = some (.inl (0, 0, 6, [])) := by rcases hb with rfl | rfl <;> rfl
theorem akR20 {b : Nat} (hb : b = 49 ∨ b = 72) : SK[b + 20 - 9]? = some (.inl (0, 0, 6, [])) := by rcases hb with rfl | rfl <;> rfl
theorem akR21 {b : Nat} (hb : b = 49 ∨ b = 72) : SK[b + 21 - 9]? = some (.inl (0, 0, 6, [])) := by rcases hb with rfl | rfl <;> rfl
theorem akR22 {b : Nat} (hb : b = 49 ∨ b = 72) : SK[b + 22 - 9]? = some (.inl (0, 0, 6, [])) := by rcases hb with rfl | rfl <;> rfl
theorem akR10 {b : Nat} (hb : b = 49 ∨ b = 72) : SK[b + 10 - 9]? = some (.inl (2, 4, 6, [some (b + 11), some (b + 12), some (b + 13), some (b + 14), some (b + 15), some (b + 16)])) := by rcases hb with rfl | rfl <;> rfl
theorem akRt {b k : Nat} (hb : b = 49 ∨ b = 72) (hk : k < 6) : SK[b + 11 + k - 9]? = some (.inl (0, 0, 6, [])) := by
  rcases hb with rfl | rfl <;> (rcases (show k = 0 ∨ k = 1 ∨ k = 2 ∨ k = 3 ∨ k = 4 ∨ k = 5 by omega) with rfl | rfl | rfl | rfl | rfl | rfl <;> rfl)
theorem akRq {b k : Nat} (hk : k < 6) : [some (b + 11), some (b + 12), some (b + 13), some (b + 14), some (b + 15), some (b + 16)].getD k none = some (b + 11 + k) := by
  rcases (show k = 0 ∨ k = 1 ∨ k = 2 ∨ k = 3 ∨ k = 4 ∨ k = 5 by omega) with rfl | rfl | rfl | rfl | rfl | rfl <;> rfl
/-- the objects that hold where things are: present, the ring's, the images' -/
def isN (r : Nat) : Prop := r = 13 ∨ r = 38 ∨ r = 40 ∨ ∃ i, i < 10 ∧ r = 17 + 2 * i
theorem isN.all {P : Nat → Prop} (h13 : P 13) (h38 : P 38) (h40 : P 40) (h0 : P 17) (h1 : P 19) (h2 : P 21) (h3 : P 23) (h4 : P 25) (h5 : P 27) (h6 : P 29) (h7 : P 31) (h8 : P 33) (h9 : P 35) {r : Nat} (hr : isN r) : P r := by
  rcases hr with rfl | rfl | rfl | ⟨i, hi, rfl⟩
  · exact h13
  · exact h38
  · exact h40
  · rcases (show i = 0 ∨ i = 1 ∨ i = 2 ∨ i = 3 ∨ i = 4 ∨ i = 5 ∨ i = 6 ∨ i = 7 ∨ i = 8 ∨ i = 9 by omega) with rfl | rfl | rfl | rfl | rfl | rfl | rfl | rfl | rfl | rfl <;> assumption
theorem skN0 {r : Nat} (hr : isN r) : skf r 0 0 = some (.ref (r + 1)) := hr.all (P := fun r => skf r 0 0 = some (.ref (r + 1))) rfl rfl rfl rfl rfl rfl rfl rfl rfl rfl rfl rfl rfl
theorem skN1 {r : Nat} (hr : isN r) : skf r 0 1 = some (.int 0) := hr.all (P := fun r => skf r 0 1 = some (.int 0)) rfl rfl rfl rfl rfl rfl rfl rfl rfl rfl rfl rfl rfl
theorem skN2 {r : Nat} (hr : isN r) : skf r 0 2 = some (.int 0) := hr.all (P := fun r => skf r 0 2 = some (.int 0)) rfl rfl rfl rfl rfl rfl rfl rfl rfl rfl rfl rfl rfl
theorem akN {r : Nat} (hr : isN r) : SK[r + 1 - 9]? = some (.inl (0, 0, 6, [])) := hr.all (P := fun r => SK[r + 1 - 9]? = some (.inl (0, 0, 6, []))) rfl rfl rfl rfl rfl rfl rfl rfl rfl rfl rfl rfl rfl
theorem isN.nine {r : Nat} (hr : isN r) : 9 ≤ r := by rcases hr with rfl | rfl | rfl | ⟨i, -, rfl⟩ <;> omega
section PWN
variable {l : Launch} {G : pw_G} {Y : pw_Y} {R : Room} {mc ms k n pc : Nat} {ls : List (Nat × Value)} {st : List Value} {mem : pw_M} {Q : Option Value → pw_M → Prop} {b s : Nat} {sc : pw_E}
theorem PW.tI {idx ci j r : Nat} {x : Int32} (hS : St b s sc mem) (h9 : 9 ≤ r) (hr : skf r ci j = some (.int 0)) (hs : pw_FP Y.1.cls idx ci j .int false) (d : decode Y.2.1 pc = .ok (.putfield idx, 3)) (kk : St b s sc (wF mem r j (.int x)) → fi (wF mem r j (.int x)) r j = x → PW (l, G, Y, R, mc, ms) k n (pc + 3) ls st (wF mem r j (.int x)) Q) : PW (l, G, Y, R, mc, ms) k n pc ls (.int x :: .ref r :: st) mem Q :=
  PW.pI hS.1 h9 hr hs d (kk (hS.wFI h9 hr x) (hS.1.fi_wF h9 hr))
theorem PW.tL {idx ci j r : Nat} {x : Int64} (hS : St b s sc mem) (h9 : 9 ≤ r) (hr : skf r ci j = some (.long 0)) (hs : pw_FP Y.1.cls idx ci j .long false) (d : decode Y.2.1 pc = .ok (.putfield idx, 3)) (kk : St b s sc (wF mem r j (.long x)) → fl (wF mem r j (.long x)) r j = x → PW (l, G, Y, R, mc, ms) k n (pc + 3) ls st (wF mem r j (.long x)) Q) : PW (l, G, Y, R, mc, ms) k n pc ls (.long x :: .ref r :: st) mem Q :=
  PW.pL hS.1 h9 hr hs d (kk (hS.wFL h9 hr x) (hS.1.fl_wF h9 hr))
theorem PW.uI {r N j : Nat} {i x : Int32} (hS : St b s sc mem) (h9 : 9 ≤ r) (hr : SK[r - 9]? = some (.inl (0, 0, N, []))) (hi : i = nI j) (hj : j < N ∧ N < 1000) (d : decode Y.2.1 pc = .ok (.iastore, 1)) (kk : St b s sc (wI mem r j x) → (∀ i, iv (wI mem r j x) r i = if i = j then x else iv mem r i) → PW (l, G, Y, R, mc, ms) k n (pc + 1) ls st (wI mem r j x) Q) : PW (l, G, Y, R, mc, ms) k n pc ls (.int x :: .int i :: .ref r :: st) mem Q :=
  PW.sI hS.1 h9 hr hi hj d (kk (hS.wI h9 j x) (fun i => hS.1.iv_wI h9 hr))
theorem PW.uZ {r N j : Nat} {i x : Int32} (hS : St b s sc mem) (h9 : 9 ≤ r) (hr : SK[r - 9]? = some (.inl (0, 1, N, []))) (hi : i = nI j) (hj : j < N ∧ N < 1000) (hx : vp_nar .boolean x = x) (d : decode Y.2.1 pc = .ok (.bastore, 1)) (kk : St b s sc (wI mem r j x) → (∀ i, iv (wI mem r j x) r i = if i = j then x else iv mem r i) → PW (l, G, Y, R, mc, ms) k n (pc + 1) ls st (wI mem r j x) Q) : PW (l, G, Y, R, mc, ms) k n pc ls (.int x :: .int i :: .ref r :: st) mem Q :=
  PW.sZ hS.1 h9 hr hi hj hx d (kk (hS.wI h9 j x) (fun i => hS.1.iv_wI h9 hr))
theorem PW.uL {r N j : Nat} {i : Int32} {x : Int64} (hS : St b s sc mem) (h9 : 9 ≤ r) (hr : SK[r - 9]? = some (.inl (1, 2, N, []))) (hi : i = nI j) (hj : j < N ∧ N < 1000) (d : decode Y.2.1 pc = .ok (.lastore, 1)) (kk : St b s sc (wJ mem r j x) → (∀ i, jv (wJ mem r j x) r i = if i = j then x else jv mem r i) → PW (l, G, Y, R, mc, ms) k n (pc + 1) ls st (wJ mem r j x) Q) : PW (l, G, Y, R, mc, ms) k n pc ls (.long x :: .int i :: .ref r :: st) mem Q :=
  PW.sL hS.1 h9 hr hi hj d (kk (hS.wJ h9 j x) (fun i => hS.1.jv_wJ h9 hr))
theorem PW.iaddN {a c : Nat} (d : decode Y.2.1 pc = .ok (.iadd, 1)) (kk : PW (l, G, Y, R, mc, ms) k n (pc + 1) ls (.int (nI (a + c)) :: st) mem Q) : PW (l, G, Y, R, mc, ms) k n pc ls (.int (nI c) :: .int (nI a) :: st) mem Q := PW.iadd d (by rw [nI_add]; exact kk)
theorem PW.imulN {a c : Nat} (d : decode Y.2.1 pc = .ok (.imul, 1)) (kk : PW (l, G, Y, R, mc, ms) k n (pc + 1) ls (.int (nI (a * c)) :: st) mem Q) : PW (l, G, Y, R, mc, ms) k n pc ls (.int (nI c) :: .int (nI a) :: st) mem Q := PW.imul d (by rw [pk_mul]; exact kk)
theorem PW.isubN {a c : Nat} (h : c ≤ a) (d : decode Y.2.1 pc = .ok (.isub, 1)) (kk : PW (l, G, Y, R, mc, ms) k n (pc + 1) ls (.int (nI (a - c)) :: st) mem Q) : PW (l, G, Y, R, mc, ms) k n pc ls (.int (nI c) :: .int (nI a) :: st) mem Q := PW.isub d (by rw [pk_sub h]; exact kk)
theorem PW.idivN {a c : Nat} (h : a < 2 ^ 31 ∧ 0 < c ∧ c < 2 ^ 31) (d : decode Y.2.1 pc = .ok (.idiv, 1)) (kk : PW (l, G, Y, R, mc, ms) k n (pc + 1) ls (.int (nI (a / c)) :: st) mem Q) : PW (l, G, Y, R, mc, ms) k n pc ls (.int (nI c) :: .int (nI a) :: st) mem Q := PW.idiv (nI_ne0 h.2.1 h.2.2) d (by rw [pk_div h.1 h.2.1 h.2.2]; exact kk)
theorem PW.iremN {a c : Nat} (h : a < 2 ^ 31 ∧ 0 < c ∧ c < 2 ^ 31) (d : decode Y.2.1 pc = .ok (.irem, 1)) (kk : PW (l, G, Y, R, mc, ms) k n (pc + 1) ls (.int (nI (a % c)) :: st) mem Q) : PW (l, G, Y, R, mc, ms) k n pc ls (.int (nI c) :: .int (nI a) :: st) mem Q := PW.irem (nI_ne0 h.2.1 h.2.2) d (by rw [pk_rem h.1 h.2.1 h.2.2]; exact kk)
theorem PW.iincN {i a : Nat} (hl : lk ls i = some (.int (nI a))) (hn : i < Y.2.2.1) (d : decode Y.2.1 pc = .ok (.iinc i 1, 3)) (kk : PW (l, G, Y, R, mc, ms) k n (pc + 3) (st1 ls i (.int (nI (a + 1)))) st mem Q) : PW (l, G, Y, R, mc, ms) k n pc ls st mem Q := PW.iinc hl (show nI a + Int32.ofInt 1 = nI (a + 1) from (by rw [show Int32.ofInt 1 = (1 : Int32) from by decide]; exact nI_1 a)) hn d kk
theorem PW.icmp_eqN {a c : Nat} {off : Int} (tgt : Nat) (ht : (pc : Int) + off = (tgt : Int)) (ha : a < 2 ^ 31) (hc : c < 2 ^ 31) (d : decode Y.2.1 pc = .ok (.if_icmp .eq off, 3)) (kt : a = c → PW (l, G, Y, R, mc, ms) k n tgt ls st mem Q) (kf : a ≠ c → PW (l, G, Y, R, mc, ms) k n (pc + 3) ls st mem Q) : PW (l, G, Y, R, mc, ms) k n pc ls (.int (nI c) :: .int (nI a) :: st) mem Q :=
  PW.icmp_eq tgt ht d (fun q => kt ((nI_eq ha hc).mp q)) (fun q => kf (fun z => q ((nI_eq ha hc).mpr z)))
theorem PW.icmp_neN {a c : Nat} {off : Int} (tgt : Nat) (ht : (pc : Int) + off = (tgt : Int)) (ha : a < 2 ^ 31) (hc : c < 2 ^ 31) (d : decode Y.2.1 pc = .ok (.if_icmp .ne off, 3)) (kt : a ≠ c → PW (l, G, Y, R, mc, ms) k n tgt ls st mem Q) (kf : a = c → PW (l, G, Y, R, mc, ms) k n (pc + 3) ls st mem Q) : PW (l, G, Y, R, mc, ms) k n pc ls (.int (nI c) :: .int (nI a) :: st) mem Q :=
  PW.icmp_ne tgt ht d (fun q => kt (fun z => q ((nI_eq ha hc).mpr z))) (fun q => kf ((nI_eq ha hc).mp q))
theorem PW.icmp_ltN {a c : Nat} {off : Int} (tgt : Nat) (ht : (pc : Int) + off = (tgt : Int)) (ha : a < 2 ^ 31) (hc : c < 2 ^ 31) (d : decode Y.2.1 pc = .ok (.if_icmp .lt off, 3)) (kt : a < c → PW (l, G, Y, R, mc, ms) k n tgt ls st mem Q) (kf : c ≤ a → PW (l, G, Y, R, mc, ms) k n (pc + 3) ls st mem Q) : PW (l, G, Y, R, mc, ms) k n pc ls (.int (nI c) :: .int (nI a) :: st) mem Q :=
  PW.icmp_lt tgt ht d (fun q => kt ((nI_ltI ha hc).mp q)) (fun q => kf (Nat.le_of_not_lt fun z => q ((nI_ltI ha hc).mpr z)))
theorem PW.icmp_geN {a c : Nat} {off : Int} (tgt : Nat) (ht : (pc : Int) + off = (tgt : Int)) (ha : a < 2 ^ 31) (hc : c < 2 ^ 31) (d : decode Y.2.1 pc = .ok (.if_icmp .ge off, 3)) (kt : c ≤ a → PW (l, G, Y, R, mc, ms) k n tgt ls st mem Q) (kf : a < c → PW (l, G, Y, R, mc, ms) k n (pc + 3) ls st mem Q) : PW (l, G, Y, R, mc, ms) k n pc ls (.int (nI c) :: .int (nI a) :: st) mem Q :=
  PW.icmp_ge tgt ht d (fun q => kt ((nI_leI hc ha).mp q)) (fun q => kf (Nat.lt_of_not_le fun z => q ((nI_leI hc ha).mpr z)))
theorem PW.icmp_gtN {a c : Nat} {off : Int} (tgt : Nat) (ht : (pc : Int) + off = (tgt : Int)) (ha : a < 2 ^ 31) (hc : c < 2 ^ 31) (d : decode Y.2.1 pc = .ok (.if_icmp .gt off, 3)) (kt : c < a → PW (l, G, Y, R, mc, ms) k n tgt ls st mem Q) (kf : a ≤ c → PW (l, G, Y, R, mc, ms) k n (pc + 3) ls st mem Q) : PW (l, G, Y, R, mc, ms) k n pc ls (.int (nI c) :: .int (nI a) :: st) mem Q :=
  PW.icmp_gt tgt ht d (fun q => kt ((nI_ltI hc ha).mp q)) (fun q => kf (Nat.le_of_not_lt fun z => q ((nI_ltI hc ha).mpr z)))
theorem PW.icmp_leN {a c : Nat} {off : Int} (tgt : Nat) (ht : (pc : Int) + off = (tgt : Int)) (ha : a < 2 ^ 31) (hc : c < 2 ^ 31) (d : decode Y.2.1 pc = .ok (.if_icmp .le off, 3)) (kt : a ≤ c → PW (l, G, Y, R, mc, ms) k n tgt ls st mem Q) (kf : c < a → PW (l, G, Y, R, mc, ms) k n (pc + 3) ls st mem Q) : PW (l, G, Y, R, mc, ms) k n pc ls (.int (nI c) :: .int (nI a) :: st) mem Q :=
  PW.icmp_le tgt ht d (fun q => kt ((nI_leI ha hc).mp q)) (fun q => kf (Nat.lt_of_not_le fun z => q ((nI_leI ha hc).mpr z)))
theorem ts_q {c : Bool} (h : ¬ bI c = 0) : c = true := by cases c <;> simp_all [bI]
theorem PW.if_eqB {c : Bool} {off : Int} (tgt : Nat) (ht : (pc : Int) + off = (tgt : Int)) (d : decode Y.2.1 pc = .ok (.ifCond .eq off, 3)) (kt : c = false → PW (l, G, Y, R, mc, ms) k n tgt ls st mem Q) (kf : c = true → PW (l, G, Y, R, mc, ms) k n (pc + 3) ls st mem Q) : PW (l, G, Y, R, mc, ms) k n pc ls (.int (bI c) :: st) mem Q :=
  PW.if_eq tgt ht d (fun q => kt (bI_eq0.mp q)) (fun q => kf (ts_q q))
theorem PW.if_neB {c : Bool} {off : Int} (tgt : Nat) (ht : (pc : Int) + off = (tgt : Int)) (d : decode Y.2.1 pc = .ok (.ifCond .ne off, 3)) (kt : c = true → PW (l, G, Y, R, mc, ms) k n tgt ls st mem Q) (kf : c = false → PW (l, G, Y, R, mc, ms) k n (pc + 3) ls st mem Q) : PW (l, G, Y, R, mc, ms) k n pc ls (.int (bI c) :: st) mem Q :=
  PW.if_ne tgt ht d (fun q => kt (ts_q q)) (fun q => kf (bI_eq0.mp q))
theorem PW.if_eqN {a : Nat} {off : Int} (tgt : Nat) (ht : (pc : Int) + off = (tgt : Int)) (ha : a < 2 ^ 31) (d : decode Y.2.1 pc = .ok (.ifCond .eq off, 3)) (kt : a = 0 → PW (l, G, Y, R, mc, ms) k n tgt ls st mem Q) (kf : a ≠ 0 → PW (l, G, Y, R, mc, ms) k n (pc + 3) ls st mem Q) : PW (l, G, Y, R, mc, ms) k n pc ls (.int (nI a) :: st) mem Q :=
  PW.if_eq tgt ht d (fun q => kt ((nI_eq ha (by decide)).mp (q.trans nI_0.symm))) (fun q => kf (fun z => q (by rw [z]; rfl)))
theorem PW.if_neN {a : Nat} {off : Int} (tgt : Nat) (ht : (pc : Int) + off = (tgt : Int)) (ha : a < 2 ^ 31) (d : decode Y.2.1 pc = .ok (.ifCond .ne off, 3)) (kt : a ≠ 0 → PW (l, G, Y, R, mc, ms) k n tgt ls st mem Q) (kf : a = 0 → PW (l, G, Y, R, mc, ms) k n (pc + 3) ls st mem Q) : PW (l, G, Y, R, mc, ms) k n pc ls (.int (nI a) :: st) mem Q :=
  PW.if_ne tgt ht d (fun q => kt (fun z => q (by rw [z]; rfl))) (fun q => kf ((nI_eq ha (by decide)).mp (q.trans nI_0.symm)))
theorem nI_and (a c : Nat) : nI a &&& nI c = nI (a &&& c) := by
  apply Int32.toBitVec_inj.1
  show BitVec.ofNat 32 a &&& BitVec.ofNat 32 c = BitVec.ofNat 32 (a &&& c)
  apply BitVec.eq_of_getLsbD_eq
  intro i hi
  simp [hi]
theorem nI_or (a c : Nat) : nI a ||| nI c = nI (a ||| c) := by
  apply Int32.toBitVec_inj.1
  show BitVec.ofNat 32 a ||| BitVec.ofNat 32 c = BitVec.ofNat 32 (a ||| c)
  apply BitVec.eq_of_getLsbD_eq
  intro i hi
  simp [hi]
theorem nI_shl1 {k : Nat} (hk : k < 31) : nI 1 <<< (nI k &&& 31) = nI (2 ^ k) := by
  have h : ∀ k : Fin 31, nI 1 <<< (nI k.val &&& 31) = nI (2 ^ k.val) := by decide +kernel
  exact h ⟨k, hk⟩
theorem nI_andm (a : Nat) : nI a &&& (-1) = nI a := by
  apply Int32.toBitVec_inj.1
  show BitVec.ofNat 32 a &&& (-1 : Int32).toBitVec = BitVec.ofNat 32 a
  rw [show (-1 : Int32).toBitVec = BitVec.allOnes 32 from by decide, BitVec.and_allOnes]
theorem PW.iandN {a c : Nat} (d : decode Y.2.1 pc = .ok (.iand, 1)) (kk : PW (l, G, Y, R, mc, ms) k n (pc + 1) ls (.int (nI (a &&& c)) :: st) mem Q) : PW (l, G, Y, R, mc, ms) k n pc ls (.int (nI c) :: .int (nI a) :: st) mem Q := PW.iand d (by rw [nI_and]; exact kk)
theorem PW.iandM {a : Nat} (d : decode Y.2.1 pc = .ok (.iand, 1)) (kk : PW (l, G, Y, R, mc, ms) k n (pc + 1) ls (.int (nI a) :: st) mem Q) : PW (l, G, Y, R, mc, ms) k n pc ls (.int (-1) :: .int (nI a) :: st) mem Q := PW.iand d (by rw [nI_andm]; exact kk)
theorem PW.iorN {a c : Nat} (d : decode Y.2.1 pc = .ok (.ior, 1)) (kk : PW (l, G, Y, R, mc, ms) k n (pc + 1) ls (.int (nI (a ||| c)) :: st) mem Q) : PW (l, G, Y, R, mc, ms) k n pc ls (.int (nI c) :: .int (nI a) :: st) mem Q := PW.ior d (by rw [nI_or]; exact kk)
theorem PW.iorZ {a : Nat} (d : decode Y.2.1 pc = .ok (.ior, 1)) (kk : PW (l, G, Y, R, mc, ms) k n (pc + 1) ls (.int (nI a) :: st) mem Q) : PW (l, G, Y, R, mc, ms) k n pc ls (.int (nI 0) :: .int (nI a) :: st) mem Q := PW.ior d (by rw [nI_or, Nat.or_zero]; exact kk)
theorem PW.ishl1 {c : Nat} (hc : c < 31) (d : decode Y.2.1 pc = .ok (.ishl, 1)) (kk : PW (l, G, Y, R, mc, ms) k n (pc + 1) ls (.int (nI (2 ^ c)) :: st) mem Q) : PW (l, G, Y, R, mc, ms) k n pc ls (.int (nI c) :: .int (nI 1) :: st) mem Q := PW.ishl d (by rw [nI_shl1 hc]; exact kk)
theorem bI_inj {a c : Bool} : bI a = bI c ↔ a = c := by cases a <;> cases c <;> decide
theorem PW.icmp_eqB {a c : Bool} {off : Int} (tgt : Nat) (ht : (pc : Int) + off = (tgt : Int)) (d : decode Y.2.1 pc = .ok (.if_icmp .eq off, 3)) (kt : a = c → PW (l, G, Y, R, mc, ms) k n tgt ls st mem Q) (kf : ¬ a = c → PW (l, G, Y, R, mc, ms) k n (pc + 3) ls st mem Q) : PW (l, G, Y, R, mc, ms) k n pc ls (.int (bI c) :: .int (bI a) :: st) mem Q :=
  PW.icmp_eq tgt ht d (fun q => kt (bI_inj.mp q)) (fun q => kf (fun z => q (bI_inj.mpr z)))
theorem PW.icmp_neB {a c : Bool} {off : Int} (tgt : Nat) (ht : (pc : Int) + off = (tgt : Int)) (d : decode Y.2.1 pc = .ok (.if_icmp .ne off, 3)) (kt : ¬ a = c → PW (l, G, Y, R, mc, ms) k n tgt ls st mem Q) (kf : a = c → PW (l, G, Y, R, mc, ms) k n (pc + 3) ls st mem Q) : PW (l, G, Y, R, mc, ms) k n pc ls (.int (bI c) :: .int (bI a) :: st) mem Q :=
  PW.icmp_ne tgt ht d (fun q => kt (fun z => q (bI_inj.mpr z))) (fun q => kf (bI_inj.mp q))
theorem PW.dV {Y' : pw_Y} {h' idx nA e : Nat} {ci j : Nat} {st0 : List Value} {Q' : Option Value → pw_M → Prop} {u : Value} (av : List Value) (hS : Sh mem) (h9 : 9 ≤ e) (hb : skf e ci j = some u) (hs : pw_CV Y.1.cls idx Y' nA) (hM : Ret h' 0 0 Y' (.ref e :: av) mem Q') (hst : st0 = av.reverse ++ .ref e :: st) (hn : av.length = nA) (hr : (st.map fun v => v.category).sum ≤ 8) (hC : vwCl[ci]?.map (fun q => q.1) = some Y'.1.cls)
    (hh : h' + 1 ≤ R.frames ∧ 100 * h' + 100 ≤ R.locals) (hc : k ≤ R.cells ∧ n ≤ R.slots) (d : decode Y.2.1 pc = .ok (.invokevirtual idx, 3)) (kk : ∀ v mem1, Q' v mem1 → PW (l, G, Y, R, mc, ms) k n (pc + 3) ls (v.toList ++ st) mem1 Q) : PW (l, G, Y, R, mc, ms) k n pc ls st0 mem Q := by
  obtain ⟨vs, h1, h2⟩ := hS.obj h9 hb
  exact PW.callV av hs hM hst hn hr h9 h1 hC hh hc d kk
theorem PW.dS {Y' : pw_Y} {h' idx nA : Nat} {st0 : List Value} {Q' : Option Value → pw_M → Prop} (av : List Value) (hs : pw_CS Y.1.cls idx Y' nA) (hM : Ret h' 0 0 Y' av mem Q') (hst : st0 = av.reverse ++ st) (hn : av.length = nA) (hr : (st.map fun v => v.category).sum ≤ 8)
    (hh : h' + 1 ≤ R.frames ∧ 100 * h' + 100 ≤ R.locals) (hc : k ≤ R.cells ∧ n ≤ R.slots) (d : decode Y.2.1 pc = .ok (.invokestatic idx, 3)) (kk : ∀ v mem1, Q' v mem1 → PW (l, G, Y, R, mc, ms) k n (pc + 3) ls (v.toList ++ st) mem1 Q) : PW (l, G, Y, R, mc, ms) k n pc ls st0 mem Q :=
  PW.callS av hs hM hst hn hr hh hc d kk
/-- a loop: I j s at its head, with s what the turns change; it may leave at any turn -/
theorem PW.loop {σ : Type} {X : pw_X} {k n pc : Nat} {Q : Option Value → pw_M → Prop} (I : Nat → σ → Prop) (P : Nat → σ → List (Nat × Value)) (M : Nat → σ → pw_M) (N : Nat) (hs : ∀ j s, j < N → I j s → (∀ s', I (j + 1) s' → PW X k n pc (P (j + 1) s') [] (M (j + 1) s') Q) → PW X k n pc (P j s) [] (M j s) Q) (hx : ∀ s, I N s → PW X k n pc (P N s) [] (M N s) Q) (s : σ) (h0 : I 0 s) : PW X k n pc (P 0 s) [] (M 0 s) Q := by
  have key : ∀ i, i ≤ N → ∀ s, I (N - i) s → PW X k n pc (P (N - i) s) [] (M (N - i) s) Q := by
    intro i
    induction i with
    | zero => intro _ s hI; exact hx s hI
    | succ i ih =>
      intro hi s hI
      have e : N - i = (N - (i + 1)) + 1 := by omega
      have h1 := ih (by omega)
      rw [e] at h1
      exact hs (N - (i + 1)) s (by omega) hI h1
  have h1 := key N (Nat.le_refl N)
  rw [Nat.sub_self] at h1
  exact h1 s h0
/-- cells of a kind are the same -/
def Ag (A : Nat → Prop) (m m1 : pw_M) : Prop := ∀ r, A r → m1[r]? = m[r]?
theorem Ag.rf {A : Nat → Prop} {m : pw_M} : Ag A m m := fun _ _ => rfl
theorem Ag.tr {A : Nat → Prop} {m m1 m2 : pw_M} (h1 : Ag A m m1) (h2 : Ag A m1 m2) : Ag A m m2 := fun r hr => (h2 r hr).trans (h1 r hr)
theorem Ag.mono {A B : Nat → Prop} {m m1 : pw_M} (h : Ag A m m1) (hB : ∀ r, B r → A r) : Ag B m m1 := fun r hr => h r (hB r hr)
theorem Ag.iv {A : Nat → Prop} {m m1 : pw_M} (h : Ag A m m1) {r : Nat} (hr : A r) (j : Nat) : iv m1 r j = iv m r j := by simp only [_root_.Jvm.Pilot.@@N@@.iv, h r hr]
theorem Ag.jv {A : Nat → Prop} {m m1 : pw_M} (h : Ag A m m1) {r : Nat} (hr : A r) (j : Nat) : jv m1 r j = jv m r j := by simp only [_root_.Jvm.Pilot.@@N@@.jv, h r hr]
theorem Ag.fv {A : Nat → Prop} {m m1 : pw_M} (h : Ag A m m1) {r : Nat} (hr : A r) (j : Nat) : fv m1 r j = fv m r j := by simp only [_root_.Jvm.Pilot.@@N@@.fv, h r hr]
theorem Ag.fi {A : Nat → Prop} {m m1 : pw_M} (h : Ag A m m1) {r : Nat} (hr : A r) (j : Nat) : fi m1 r j = fi m r j := by simp only [_root_.Jvm.Pilot.@@N@@.fi, h.fv hr]
theorem Ag.fl {A : Nat → Prop} {m m1 : pw_M} (h : Ag A m m1) {r : Nat} (hr : A r) (j : Nat) : fl m1 r j = fl m r j := by simp only [_root_.Jvm.Pilot.@@N@@.fl, h.fv hr]
theorem Ag.wI {A : Nat → Prop} {m : pw_M} {r j : Nat} {x : Int32} (hr : ¬ A r) : Ag A m (wI m r j x) := fun q hq => by
  unfold _root_.Jvm.Pilot.@@N@@.wI
  split
  · exact get_set_ne (fun e => hr (e ▸ hq))
  · rfl
theorem Ag.wJ {A : Nat → Prop} {m : pw_M} {r j : Nat} {x : Int64} (hr : ¬ A r) : Ag A m (wJ m r j x) := fun q hq => by
  unfold _root_.Jvm.Pilot.@@N@@.wJ
  split
  · exact get_set_ne (fun e => hr (e ▸ hq))
  · rfl
theorem Ag.wF {A : Nat → Prop} {m : pw_M} {r j : Nat} {v : Value} (hr : ¬ A r) : Ag A m (wF m r j v) := fun q hq => by
  unfold _root_.Jvm.Pilot.@@N@@.wF
  split
  · exact get_set_ne (fun e => hr (e ▸ hq))
  · rfl
theorem PW.if_leN {a : Nat} {off : Int} (tgt : Nat) (ht : (pc : Int) + off = (tgt : Int)) (ha : a < 2 ^ 31) (d : decode Y.2.1 pc = .ok (.ifCond .le off, 3)) (kt : a = 0 → PW (l, G, Y, R, mc, ms) k n tgt ls st mem Q) (kf : 0 < a → PW (l, G, Y, R, mc, ms) k n (pc + 3) ls st mem Q) : PW (l, G, Y, R, mc, ms) k n pc ls (.int (nI a) :: st) mem Q :=
  PW.if_le tgt ht d (fun q => kt (by have h := q; rw [Int32.le_iff_toInt_le, nI_toInt ha, Int32.toInt_zero] at h; omega)) (fun q => kf (by have h := q; rw [Int32.le_iff_toInt_le, nI_toInt ha, Int32.toInt_zero] at h; omega))
theorem PW.if_gtN {a : Nat} {off : Int} (tgt : Nat) (ht : (pc : Int) + off = (tgt : Int)) (ha : a < 2 ^ 31) (d : decode Y.2.1 pc = .ok (.ifCond .gt off, 3)) (kt : 0 < a → PW (l, G, Y, R, mc, ms) k n tgt ls st mem Q) (kf : a = 0 → PW (l, G, Y, R, mc, ms) k n (pc + 3) ls st mem Q) : PW (l, G, Y, R, mc, ms) k n pc ls (.int (nI a) :: st) mem Q :=
  PW.if_gt tgt ht d (fun q => kt (by have h := q; rw [Int32.lt_iff_toInt_lt, nI_toInt ha, Int32.toInt_zero] at h; omega)) (fun q => kf (by have h := q; rw [Int32.lt_iff_toInt_lt, nI_toInt ha, Int32.toInt_zero] at h; omega))
theorem PW.if_ltN {a : Nat} {off : Int} (tgt : Nat) (ht : (pc : Int) + off = (tgt : Int)) (ha : a < 2 ^ 31) (d : decode Y.2.1 pc = .ok (.ifCond .lt off, 3)) (kk : PW (l, G, Y, R, mc, ms) k n (pc + 3) ls st mem Q) : PW (l, G, Y, R, mc, ms) k n pc ls (.int (nI a) :: st) mem Q :=
  PW.if_lt tgt ht d (fun q => absurd q (nI_pos ha)) (fun _ => kk)
theorem PW.if_geN {a : Nat} {off : Int} (tgt : Nat) (ht : (pc : Int) + off = (tgt : Int)) (ha : a < 2 ^ 31) (d : decode Y.2.1 pc = .ok (.ifCond .ge off, 3)) (kk : PW (l, G, Y, R, mc, ms) k n tgt ls st mem Q) : PW (l, G, Y, R, mc, ms) k n pc ls (.int (nI a) :: st) mem Q :=
  PW.if_ge tgt ht d (fun _ => kk) (fun q => absurd (nI_pos' ha) q)
end PWN
