/-! ===== leaves of the class: tests of numbers, bits ===== -/
set_option maxRecDepth 20000 in
theorem has_bit {a k : Nat} (ha : a < 2 ^ 31) (hk : k < 31) : (nI a >>> (nI k &&& 31)) &&& nI 1 = nI (if a.testBit k then 1 else 0) := by
  have hs : ((nI k &&& 31).toBitVec.smod 32).toNat = k := by
    have h31 : ∀ k : Fin 31, ((nI k.val &&& 31).toBitVec.smod 32).toNat = k.val := by decide +kernel
    exact h31 ⟨k, hk⟩
  rw [pk_shrN ha _ k hs, show (nI 1) = (1 : Int32) from rfl]
  have e := pk_andN (n := a / 2 ^ k) (m := 1) (Nat.lt_of_le_of_lt (Nat.div_le_self _ _) (Nat.lt_trans ha (by decide))) 1 (by decide)
  rw [e]
  congr 1
  rw [Nat.testBit_eq_decide_div_mod_eq]
  by_cases h : a / 2 ^ k % 2 = 1
  · simp [h]
  · have : a / 2 ^ k % 2 = 0 := by omega
    simp [this]
set_option maxHeartbeats 4000000 in
theorem x_has {a k : Nat} (ha : a < 2 ^ 31) (hk : k < 31) (mem : pw_M) : Rf 0 mX5_has [.int (nI a), .int (nI k)] mem (some (.int (bI (a.testBit k)))) mem := by
  refine Ret.of (by decide) (by decide) fun l G => ?_
  show PW _ _ _ _ [(0, _), (1, _)] _ _ _
  refine PW.iload_n rfl rfl dX5_has_0 ?_
  refine PW.iload_n rfl rfl dX5_has_1 ?_
  refine PW.ishr dX5_has_2 ?_
  refine PW.iconst (v := nI 1) (by decide) dX5_has_3 ?_
  refine PW.iand dX5_has_4 ?_
  rw [has_bit ha hk]
  refine PW.iconst (v := nI 1) (by decide) dX5_has_5 ?_
  refine PW.icmp_neN 13 (by decide) (by omega) (by omega) dX5_has_6 (fun hc => ?_) (fun hc => ?_)
  · have e : a.testBit k = false := by cases h : a.testBit k <;> simp_all
    refine PW.iconst (v := nI 0) (by decide) dX5_has_13 ?_
    refine PW.zret rfl (by first | exact bI_nar _ | rfl) (Nat.le_refl _) (Nat.le_refl _) dX5_has_14 ?_
    exact ⟨by rw [e]; rfl, rfl⟩
  · have e : a.testBit k = true := by cases h : a.testBit k <;> simp_all
    refine PW.iconst (v := nI 1) (by decide) dX5_has_9 ?_
    refine PW.goto 14 (by decide) dX5_has_10 ?_
    refine PW.zret rfl (by first | exact bI_nar _ | rfl) (Nat.le_refl _) (Nat.le_refl _) dX5_has_14 ?_
    exact ⟨by rw [e]; rfl, rfl⟩
set_option maxHeartbeats 4000000 in
theorem x_within (x lo hi : Int32) (mem : pw_M) : Rf 0 mX5_within [.int x, .int lo, .int hi] mem (some (.int (bI (decide (lo ≤ x ∧ x ≤ hi))))) mem := by
  refine Ret.of (by decide) (by decide) fun l G => ?_
  show PW _ _ _ _ [(0, _), (1, _), (2, _)] _ _ _
  refine PW.iload_n rfl rfl dX5_within_0 ?_
  refine PW.iload_n rfl rfl dX5_within_1 ?_
  sorry
