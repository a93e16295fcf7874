/-! ===== what holds when both are made ===== -/
theorem SK_len : SK.length = 109 := rfl
theorem memMo_sk : (memMo 95).map sk1 = SK.drop 86 := rfl
theorem take86 (sc : pw_E) : (mem86 sc).take 9 = RO8 ++ [sc] := rfl
section BEG
variable {sc : pw_E} {m1 : pw_M}
theorem beg_len (hA : Ag (fun r => r < 49 ∨ 71 < r) (mem86 sc) m1) : m1.length = 95 := by
  have h94 := hA 94 (Or.inr (by decide))
  have h95 := hA 95 (Or.inr (by decide))
  have l86 := ch4_len sc
  have h1 : ¬ m1.length ≤ 94 := fun q => by
    rw [List.getElem?_eq_none_iff.mpr q] at h94
    have := List.getElem?_eq_none_iff.mp h94.symm
    omega
  have h2 : m1.length ≤ 95 := List.getElem?_eq_none_iff.mp (h95.trans (List.getElem?_eq_none_iff.mpr (by omega)))
  omega
theorem beg_take (hA : Ag (fun r => r < 49 ∨ 71 < r) (mem86 sc) m1) : m1.take 9 = RO8 ++ [sc] := by
  rw [← take86 sc]
  apply List.ext_getElem?
  intro i
  rw [List.getElem?_take, List.getElem?_take]
  by_cases hi : i < 9
  · rw [if_pos hi, if_pos hi]; exact hA i (Or.inl (by omega))
  · rw [if_neg hi, if_neg hi]
theorem beg_KL (hA : Ag (fun r => r < 49 ∨ 71 < r) (mem86 sc) m1) : m1 = KL sc (m1.drop 9) [] := by
  have h := beg_take hA
  have e := (List.take_append_drop 9 m1).symm
  rw [h] at e
  show m1 = RO8 ++ sc :: (m1.drop 9 ++ [])
  rw [List.append_nil]
  simpa using e
theorem beg_map (hS : Sp m1) (hA : Ag (fun r => r < 49 ∨ 71 < r) (mem86 sc) m1) : (m1.drop 9).map sk1 = SK.take 86 := by
  have hl := beg_len hA
  apply List.ext_getElem?
  intro i
  rw [List.getElem?_map, List.getElem?_drop, List.getElem?_take]
  by_cases hi : i < 86
  · rw [if_pos hi]
    by_cases hr : 40 ≤ i ∧ i < 63
    · cases hx : SK[i]? with
      | none =>
        have := List.getElem?_eq_none_iff.mp hx
        rw [SK_len] at this
        omega
      | some x =>
        obtain ⟨e, h1, h2⟩ := hS (9 + i) (by omega) x (by rw [show 9 + i - 9 = i by omega]; exact hx)
        rw [h1, Option.map_some, h2]
    · have h86 := congrArg (fun q : List pw_K => q[i]?) (sh86 sc)
      simp only [List.getElem?_map, List.getElem?_drop, List.getElem?_take, if_pos hi] at h86
      rw [hA (9 + i) (by omega)]
      exact h86
  · rw [if_neg hi, List.getElem?_eq_none_iff.mpr (by omega)]
    rfl
theorem beg_rel (hS : Sp m1) (hA : Ag (fun r => r < 49 ∨ 71 < r) (mem86 sc) m1) (hX : XD m1 49 R0) (hL : XL m1 49 R0) : Rel sc (KL sc (m1.drop 9) (memMo 95)) := by
  have hl := beg_len hA
  have e3 : KL sc (m1.drop 9) (memMo 95) = m1 ++ memMo 95 := by
    have h := KL_app (sc := sc) (L := m1.drop 9) (l := []) (r := memMo 95)
    rw [← beg_KL hA] at h
    exact h.symm
  have hsh : Sh (KL sc (m1.drop 9) (memMo 95)) := by
    refine ⟨by rw [e3, List.length_append]; omega, ?_⟩
    show (m1.drop 9 ++ memMo 95).map sk1 = SK
    rw [List.map_append, beg_map hS hA, memMo_sk, List.take_append_drop]
  have htk : (KL sc (m1.drop 9) (memMo 95)).take 9 = RO8 ++ [sc] := rfl
  have hlo : Ag (fun r => r < 95) m1 (KL sc (m1.drop 9) (memMo 95)) := fun r hr => by rw [e3, List.getElem?_append_left (by omega)]
  have hg : ∀ i, (KL sc (m1.drop 9) (memMo 95))[95 + i]? = (memMo 95)[i]? := fun i => by rw [e3, List.getElem?_append_right (by omega), hl, show 95 + i - 95 = i by omega]
  generalize KL sc (m1.drop 9) (memMo 95) = m at e3 hsh htk hlo hg ⊢
  have h86 : Ag (fun r => r < 49) (mem86 sc) m := (hA.mono (fun r h => Or.inl h)).tr (hlo.mono (fun r h => by omega))
  have f95 : ∀ j, fv m 95 j = fv (RO8 ++ sc :: memMo 95) 9 j := fun j => by simp only [fv]; rw [hg 0]; rfl
  have iq : ∀ i j, iv m (95 + i) j = iv (memMo 95) i j := fun i j => by simp only [iv]; rw [hg i]
  have hSt : St 49 72 sc m := ⟨hsh, (h86.fv (r := 9) (by decide) 9).trans rfl, (h86.fv (r := 9) (by decide) 10).trans rfl, Or.inl ⟨rfl, rfl⟩, htk⟩
  refine ⟨49, 72, R0, fun _ => 0, 0, 0, 0, 0, fun _ => (fun _ => 0, 0, 0), fun _ => false, fun _ => (fun _ => 0, 0, 0), 0, 0, fun _ => 0, hSt, ⟨Inv_R0, ⟨fun t ht => absurd ht (Nat.not_lt_zero _), by show 0 ≤ 999; decide⟩, fun i hi => absurd hi (Nat.not_lt_zero _), fun i hi hk => Bool.noConfusion hk, by decide, fun i hi => absurd hi (Nat.not_lt_zero _)⟩, ⟨hX.ag hlo (fun r h1 h2 => by omega), hL.ag hlo (by decide) (by decide), ⟨fun t ht => absurd ht (Nat.not_lt_zero _), (h86.fi (r := 13) (by decide) 1).trans rfl, (h86.fi (r := 13) (by decide) 2).trans rfl⟩, ⟨by decide, by decide, (h86.fi (r := 15) (by decide) 1).trans rfl, (h86.fi (r := 15) (by decide) 2).trans rfl, fun i hi => absurd hi (Nat.not_lt_zero _)⟩, fun i hi => ⟨(h86.iv (r := 42) (by decide) i).trans rfl, fun hk => Bool.noConfusion hk⟩, ⟨(h86.fi (r := 10) (by decide) 2).trans rfl, fun i hi => absurd hi (Nat.not_lt_zero _)⟩, (h86.fl (r := 9) (by decide) 11).trans rfl⟩, ?_⟩
  refine ⟨⟨(by simp only [fi, f95]; rfl), (by simp only [fi, f95]; rfl), (by simp only [fi, f95]; rfl), fun k hk => absurd hk (Nat.not_lt_zero _), fun a c ha hc => ⟨(iq 3 _).trans ?_, (iq 4 _).trans rfl⟩, fun t ht => absurd ht (Nat.not_lt_zero _)⟩, ⟨fun t ht => absurd ht (Nat.not_lt_zero _), (iq 8 6).trans rfl, (iq 8 7).trans rfl⟩, ⟨(by simp only [fi, f95]; rfl), fun i hi => absurd hi (Nat.not_lt_zero _)⟩, fun i hi => ⟨(iq 21 i).trans rfl, fun hk => Bool.noConfusion hk⟩, ⟨(by simp only [fi, f95]; rfl), fun i hi => absurd hi (Nat.not_lt_zero _)⟩, by simp only [fl, f95]; rfl⟩
  show (0 : Int32) = bI (Nat.testBit 0 c)
  rw [Nat.zero_testBit]
  rfl
end BEG
