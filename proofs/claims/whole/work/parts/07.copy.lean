/-! ===== System.arraycopy of six ints from place 0 to place 0 ===== -/
section PWY
variable {l : Launch} {G : pw_G} {Y : pw_Y} {R : Room} {mc ms k n pc : Nat} {ls : List (Nat × Value)} {st : List Value} {mem : pw_M} {Q : Option Value → pw_M → Prop} {b s : Nat} {sc : pw_E}
set_option maxHeartbeats 4000000 in
theorem PW.copy0 {idx r0 r1 : Nat} {f g : Nat → Int32} (h0 : 9 ≤ r0) (h1 : 9 ≤ r1) (hm0 : mem[r0]? = some (.inl (0, 6, .inl f))) (hm1 : mem[r1]? = some (.inl (0, 6, .inl g))) (hw : Cond.methodLink Y.1.cls idx arraycopyName ∈ pw_tbl) (hf : 1 ≤ R.frames ∧ 100 ≤ R.locals) (hr : (st.map fun v => v.category).sum ≤ 8) (d : decode Y.2.1 pc = .ok (.invokestatic idx, 3)) (kk : PW (l, G, Y, R, mc, ms) k n (pc + 3) ls st (mem.set r1 (.inl (0, 6, .inl (va_cpy f g 0 0 6)))) Q) : PW (l, G, Y, R, mc, ms) k n pc ls (.int (nI 6) :: .int (nI 0) :: .ref r1 :: .int (nI 0) :: .ref r0 :: st) mem Q := by
  intro p e s m args below meth c H locs la C Wd S0 hz hl0
  have hts := C.2.2.2.2.2.2.2.1
  have a0 := pw_ws_get (G := G) h0 hm0
  have a1 := pw_ws_get (G := G) h1 hm1
  have hc0 : H[pw_ad G r0]? = some (vp_cell (G.2.1 0) (6, .inl f)) := Wd.2.2.1 _ _ a0
  have hc1 : H[pw_ad G r1]? = some (vp_cell (G.2.1 0) (6, .inl g)) := Wd.2.2.1 _ _ a1
  have n6 : (nI 6).toNatClampNeg = 6 := by decide
  have n0 : (nI 0).toNatClampNeg = 0 := by decide
  intro T hT X0
  obtain ⟨-, k0, hk0, cm0, hkk0⟩ := (Wd.2.2.2.1.2 0 _ rfl).1 6 (fun j => .int (f j))
  obtain ⟨-, k1, hk1, cm1, hkk1⟩ := (Wd.2.2.2.1.2 0 _ rfl).1 6 (fun j => .int (g j))
  have hsum := pw_st (G := G) (g := F0 m pc la []) rfl hr
  obtain ⟨vm', X', step⟩ := X0.arraycopy C.1 C.2.2.2.2.2.2.1 (hts _ hw) (hts _ qCpN) (hts _ qCpS) (hts _ qCpI) (src := pw_ad G r0) (dst := pw_ad G r1) (cs := vp_cell (G.2.1 0) (6, .inl f)) (cd := vp_cell (G.2.1 0) (6, .inl g)) (srcPos := nI 0) (destPos := nI 0) (n := nI 6) (by rw [hT]; exact hc0) (by rw [hT]; exact hc1)
    (fun _ h => by cases h) (fun _ h => by cases h) (fun h => by cases h) (fun h => by cases h) hk0 hk1 hkk0 hkk1 (by simp [refKind]) (by decide) (by decide) (by decide)
    (by show ¬ _ > ((arrV _ 6 (fun j => .int (f j))).slots.size : Int); rw [arrV_size]; decide)
    (by show ¬ _ > ((arrV _ 6 (fun j => .int (g j))).slots.size : Int); rw [arrV_size]; decide)
    (fun vm₁ _ i hi => by
      rw [n6] at hi
      have e1 : (vp_cell (G.2.1 0) (6, .inl f)).slots.getD ((nI 0).toNatClampNeg + i) .null = .int (f i) := by
        show (arrV _ 6 (fun j => .int (f j))).slots.getD _ _ = _
        rw [n0, Nat.zero_add, Array.getD_eq_getD_getElem?, arrV_read _ _ hi]
        rfl
      refine ⟨?_, ?_⟩
      · rw [e1]; rfl
      · rw [e1]; exact trivial)
    (g := F0 m pc la ((.int (nI 6) :: .int (nI 0) :: .ref r1 :: .int (nI 0) :: .ref r0 :: st).map (pw_v G))) rfl (hl0.1.trans C.2.2.1.symm) (rest := st.map (pw_v G)) rfl (by rw [C.2.1]; exact d) hf.1 (by
      have e2 : nativeFrameWords "java/lang/System" "arraycopy" 5 + 11 ≤ 90 := by decide
      have := hf.2
      have h9 : ((st.map (pw_v G)).map fun v => v.category).sum ≤ 8 := by have := hsum; simpa using this
      show 2 * 0 + ((st.map (pw_v G)).map fun v => v.category).sum + (nativeFrameWords "java/lang/System" "arraycopy" 5 + 11) ≤ R.locals
      omega)
  have e1 : copied (vp_cell (G.2.1 0) (6, .inl f)) (vp_cell (G.2.1 0) (6, .inl g)) (nI 0) (nI 0) (nI 6) = vp_cell (G.2.1 0) (6, .inl (va_cpy f g 0 0 6)) := by
    have := va_copied (fun z => Value.int z) (G.2.1 0) (G.2.1 0) (n0 := 6) (n1 := 6) (sp := 0) (dp := 0) (n := 6) f g (by decide)
    unfold copied
    rw [n0, n6]
    exact this
  rw [e1] at X' step
  have hl : pw_ad G r1 < H.size := (Array.getElem?_eq_some_iff.mp hc1).1
  have hheap : ((T.setVm vm').setCell (pw_ad G r1) (vp_cell (G.2.1 0) (6, .inl (va_cpy f g 0 0 6)))).heap = H.setIfInBounds (pw_ad G r1) (vp_cell (G.2.1 0) (6, .inl (va_cpy f g 0 0 6))) := by rw [← hT]; rfl
  have oq : ∀ q : Nat, q ≠ pw_ad G r1 → (H.setIfInBounds (pw_ad G r1) (vp_cell (G.2.1 0) (6, .inl (va_cpy f g 0 0 6))))[q]? = H[q]? := fun q hq => by simp [Array.getElem?_setIfInBounds, Ne.symm hq]
  obtain ⟨t, b1, b2⟩ := kk p e s m args below meth c _ _ la C (pw_put Wd h1 hm1 (by simp) oq (show (H.setIfInBounds (pw_ad G r1) _)[pw_ad G r1]? = some _ by simp [Array.getElem?_setIfInBounds, hl])) ⟨by simp; exact S0.1, fun q g1 g2 => by
      rw [oq q (fun e => g2 (by rw [e]; exact pw_Ar h1))]
      exact S0.2.1 q g1 g2, fun q hq => by
      rcases List.mem_append.mp hq with h | h
      · exact S0.2.2 q h
      · obtain ⟨z, -, hz⟩ := List.mem_map.mp h
        rw [← hz]
        exact pw_Ar h1⟩ hz hl0 _ hheap X'
  exact ⟨t, step t b1, b2⟩
theorem PW.copy {idx r0 r1 : Nat} (hS : St b s sc mem) (h0 : 9 ≤ r0) (h1 : 9 ≤ r1) (hr0 : SK[r0 - 9]? = some (.inl (0, 0, 6, []))) (hr1 : SK[r1 - 9]? = some (.inl (0, 0, 6, []))) (hw : Cond.methodLink Y.1.cls idx arraycopyName ∈ pw_tbl) (hf : 1 ≤ R.frames ∧ 100 ≤ R.locals) (hr : (st.map fun v => v.category).sum ≤ 8) (d : decode Y.2.1 pc = .ok (.invokestatic idx, 3)) (kk : ∀ m1, St b s sc m1 → Ag (fun q => q ≠ r1) mem m1 → (∀ i, i < 6 → iv m1 r1 i = iv mem r0 i) → PW (l, G, Y, R, mc, ms) k n (pc + 3) ls st m1 Q) : PW (l, G, Y, R, mc, ms) k n pc ls (.int (nI 6) :: .int (nI 0) :: .ref r1 :: .int (nI 0) :: .ref r0 :: st) mem Q := by
  have a0 := hS.1.arr h0 hr0
  have a1 := hS.1.arr h1 hr1
  refine PW.copy0 h0 h1 a0 a1 hw hf hr d (kk _ ⟨hS.1.set a1 rfl, ?_, ?_, hS.2.2.2.1, by rw [take_set h1]; exact hS.2.2.2.2⟩ (fun q hq => get_set_ne hq) (fun i hi => ?_))
  · by_cases e : (9 : Nat) = r1
    · subst e
      obtain ⟨vs, q1, -⟩ := hS.1.obj (r := 9) (ci := 5) (j := 0) (by omega) rfl
      rw [a1] at q1
      cases q1
    · have : fv (mem.set r1 (.inl (0, 6, .inl (va_cpy (iv mem r0) (iv mem r1) 0 0 6)))) 9 9 = fv mem 9 9 := by simp only [fv, get_set_ne e]
      rw [this]; exact hS.2.1
  · by_cases e : (9 : Nat) = r1
    · subst e
      obtain ⟨vs, q1, -⟩ := hS.1.obj (r := 9) (ci := 5) (j := 0) (by omega) rfl
      rw [a1] at q1
      cases q1
    · have : fv (mem.set r1 (.inl (0, 6, .inl (va_cpy (iv mem r0) (iv mem r1) 0 0 6)))) 9 10 = fv mem 9 10 := by simp only [fv, get_set_ne e]
      rw [this]; exact hS.2.2.1
  · have e2 : iv (mem.set r1 (.inl (0, 6, .inl (va_cpy (iv mem r0) (iv mem r1) 0 0 6)))) r1 i = va_cpy (iv mem r0) (iv mem r1) 0 0 6 i := by simp only [iv, get_set_eq a1]
    rw [e2]
    simp [va_cpy, hi]
end PWY
theorem isNr {i : Nat} (h : i < 10) : isN (17 + 2 * i) := Or.inr (Or.inr (Or.inr ⟨i, h, rfl⟩))
theorem isNi {i : Nat} (h : i < 2) : isN (38 + 2 * i) := by
  rcases (show i = 0 ∨ i = 1 by omega) with rfl | rfl
  · exact Or.inr (Or.inl rfl)
  · exact Or.inr (Or.inr (Or.inl rfl))
theorem isN13 : isN 13 := Or.inl rfl
theorem qRing {i : Nat} (h : i < 10) : [some 17, some 19, some 21, some 23, some 25, some 27, some 29, some 31, some 33, some 35].getD i none = some (17 + 2 * i) := by
  rcases (show i = 0 ∨ i = 1 ∨ i = 2 ∨ i = 3 ∨ i = 4 ∨ i = 5 ∨ i = 6 ∨ i = 7 ∨ i = 8 ∨ i = 9 by omega) with rfl | rfl | rfl | rfl | rfl | rfl | rfl | rfl | rfl | rfl <;> rfl
theorem qImg {i : Nat} (h : i < 2) : [some 38, some 40].getD i none = some (38 + 2 * i) := by
  rcases (show i = 0 ∨ i = 1 by omega) with rfl | rfl <;> rfl
section PWZ
variable {l : Launch} {G : pw_G} {Y : pw_Y} {R : Room} {mc ms k n pc : Nat} {ls : List (Nat × Value)} {st : List Value} {mem : pw_M} {Q : Option Value → pw_M → Prop}
theorem PW.mmin {idx : Nat} {x y : Int32} (hs : pw_CS Y.1.cls idx mJ9_min_7cf53 2) (hf : 1 ≤ R.frames ∧ 100 ≤ R.locals) (hc : k ≤ R.cells ∧ n ≤ R.slots) (hr : (st.map fun v => v.category).sum ≤ 8) (d : decode Y.2.1 pc = .ok (.invokestatic idx, 3)) (kk : PW (l, G, Y, R, mc, ms) k n (pc + 3) ls (.int (if y < x then y else x) :: st) mem Q) : PW (l, G, Y, R, mc, ms) k n pc ls (.int y :: .int x :: st) mem Q := by
  intro p e s m args below meth c H locs la C Wd S0 hz hl0
  obtain ⟨⟨o1, o2, -, -⟩, o5, o6⟩ := hs
  have hts := C.2.2.2.2.2.2.2.1
  have h9 := pw_st (G := G) (g := F0 m pc la []) rfl hr
  have h8 : ((st.map (pw_v G)).map fun v => v.category).sum ≤ 8 := by simpa using h9
  refine va_mmin C.1 C.2.1 (C.2.2.1.trans hl0.1.symm) C.2.2.2.2.2.2.1 (hts _ o5) (hts _ o6) (hts _ o1) (hts _ o2) hf.1 (Nat.le_trans (Nat.add_le_add_right h8 13) (Nat.le_trans (by decide) hf.2)) hc.1 hc.2 d ?_
  exact kk p e s m args below meth c H locs la C Wd S0 hz hl0
theorem PW.mmax {idx : Nat} {x y : Int32} (hs : pw_CS Y.1.cls idx mJ9_max_7cf53 2) (hf : 1 ≤ R.frames ∧ 100 ≤ R.locals) (hc : k ≤ R.cells ∧ n ≤ R.slots) (hr : (st.map fun v => v.category).sum ≤ 8) (d : decode Y.2.1 pc = .ok (.invokestatic idx, 3)) (kk : PW (l, G, Y, R, mc, ms) k n (pc + 3) ls (.int (if x < y then y else x) :: st) mem Q) : PW (l, G, Y, R, mc, ms) k n pc ls (.int y :: .int x :: st) mem Q := by
  intro p e s m args below meth c H locs la C Wd S0 hz hl0
  obtain ⟨⟨o1, o2, -, -⟩, o5, o6⟩ := hs
  have hts := C.2.2.2.2.2.2.2.1
  have h9 := pw_st (G := G) (g := F0 m pc la []) rfl hr
  have h8 : ((st.map (pw_v G)).map fun v => v.category).sum ≤ 8 := by simpa using h9
  refine va_mmax C.1 C.2.1 (C.2.2.1.trans hl0.1.symm) C.2.2.2.2.2.2.1 (hts _ o5) (hts _ o6) (hts _ o1) (hts _ o2) hf.1 (Nat.le_trans (Nat.add_le_add_right h8 13) (Nat.le_trans (by decide) hf.2)) hc.1 hc.2 d ?_
  exact kk p e s m args below meth c H locs la C Wd S0 hz hl0
theorem PW.mminN {idx a c : Nat} (hs : pw_CS Y.1.cls idx mJ9_min_7cf53 2) (hf : 1 ≤ R.frames ∧ 100 ≤ R.locals) (hc : k ≤ R.cells ∧ n ≤ R.slots) (hr : (st.map fun v => v.category).sum ≤ 8) (ha : a < 2 ^ 31) (hc' : c < 2 ^ 31) (d : decode Y.2.1 pc = .ok (.invokestatic idx, 3)) (kk : PW (l, G, Y, R, mc, ms) k n (pc + 3) ls (.int (nI (if c < a then c else a)) :: st) mem Q) : PW (l, G, Y, R, mc, ms) k n pc ls (.int (nI c) :: .int (nI a) :: st) mem Q := by
  refine PW.mmin hs hf hc hr d ?_
  by_cases h : c < a
  · rw [if_pos h] at kk; rw [if_pos ((nI_ltI hc' ha).mpr h)]; exact kk
  · rw [if_neg h] at kk; rw [if_neg (fun q => h ((nI_ltI hc' ha).mp q))]; exact kk
theorem PW.mmaxN {idx a c : Nat} (hs : pw_CS Y.1.cls idx mJ9_max_7cf53 2) (hf : 1 ≤ R.frames ∧ 100 ≤ R.locals) (hc : k ≤ R.cells ∧ n ≤ R.slots) (hr : (st.map fun v => v.category).sum ≤ 8) (ha : a < 2 ^ 31) (hc' : c < 2 ^ 31) (d : decode Y.2.1 pc = .ok (.invokestatic idx, 3)) (kk : PW (l, G, Y, R, mc, ms) k n (pc + 3) ls (.int (nI (if a < c then c else a)) :: st) mem Q) : PW (l, G, Y, R, mc, ms) k n pc ls (.int (nI c) :: .int (nI a) :: st) mem Q := by
  refine PW.mmax hs hf hc hr d ?_
  by_cases h : a < c
  · rw [if_pos h] at kk; rw [if_pos ((nI_ltI ha hc').mpr h)]; exact kk
  · rw [if_neg h] at kk; rw [if_neg (fun q => h ((nI_ltI ha hc').mp q))]; exact kk
end PWZ
