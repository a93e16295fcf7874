/-! ===== leaves of the class: tests of numbers, bits ===== -/
set_option maxRecDepth 20000 in
theorem has_bit {a k : Nat} (ha : a < 2 ^ 31) (hk : k < 31) : (nI a >>> (nI k &&& 31)) &&& nI 1 = nI (if a.testBit k then 1 else 0) := by
  have hs : ((nI k &&& 31).toBitVec.smod 32).toNat = k := by
    have h31 : ∀ k : Fin 31, ((nI k.val &&& 31).toBitVec.smod 32).toNat = k.val := by decide +kernel
    exact h31 ⟨k, hk⟩
  rw [pk_shrN ha _ k hs, show (nI 1) = (1 : Int32) from rfl]
  have e := pk_andN (n := a / 2 ^ k) (m := 1) (Nat.lt_of_le_of_lt (Nat.div_le_self _ _) (Nat.lt_trans ha (by decide))) 1 (by decide)
  rw [e]
  congr 1
  rw [Nat.testBit_eq_decide_div_mod_eq]
  by_cases h : a / 2 ^ k % 2 = 1
  · simp [h]
  · have : a / 2 ^ k % 2 = 0 := by omega
    simp [this]
theorem bit_ne {c : Bool} (h : (if c = true then 1 else 0 : Nat) ≠ 1) : c = false := by cases c <;> simp_all
theorem bit_eq {c : Bool} (h : (if c = true then 1 else 0 : Nat) = 1) : c = true := by cases c <;> simp_all
set_option maxHeartbeats 4000000 in
theorem x_has {a k : Nat} (ha : a < 2 ^ 31) (hk : k < 31) (mem : pw_M) : Rf 0 mX5_has [.int (nI a), .int (nI k)] mem (some (.int (bI (a.testBit k)))) mem := by
  refine Ret.of (by decide) (Nat.le_of_ble_eq_true rfl) fun l G => ?_
  show PW _ _ _ _ [(0, _), (1, _)] _ _ _
  refine PW.iload_n rfl rfl dX5_has_0 ?_
  refine PW.iload_n rfl rfl dX5_has_1 ?_
  refine PW.ishr dX5_has_2 ?_
  refine PW.iconst (v := nI 1) (by decide) dX5_has_3 ?_
  refine PW.iand dX5_has_4 ?_
  rw [has_bit ha hk]
  refine PW.iconst (v := nI 1) (by decide) dX5_has_5 ?_
  refine PW.icmp_neN 13 (by decide) (by first | omega | (split <;> omega)) (by first | omega | (split <;> omega)) dX5_has_6 (fun hc6 => ?_) (fun hc6 => ?_)
  · refine PW.iconst (v := nI 0) (by decide) dX5_has_13 ?_
    refine PW.zret rfl (by first | exact bI_nar _ | rfl) (Nat.le_refl _) (Nat.le_refl _) dX5_has_14 ?_
    first | exact ⟨by rw [bit_ne hc6]; rfl, rfl⟩ | exact ⟨by rw [bit_eq hc6]; rfl, rfl⟩
  · refine PW.iconst (v := nI 1) (by decide) dX5_has_9 ?_
    refine PW.goto 14 (by decide) dX5_has_10 ?_
    refine PW.zret rfl (by first | exact bI_nar _ | rfl) (Nat.le_refl _) (Nat.le_refl _) dX5_has_14 ?_
    first | exact ⟨by rw [bit_ne hc6]; rfl, rfl⟩ | exact ⟨by rw [bit_eq hc6]; rfl, rfl⟩
set_option maxHeartbeats 4000000 in
theorem m_has {a k : Nat} (ha : a < 2 ^ 31) (hk : k < 31) (mem : pw_M) : Rf 0 mX6_has [.int (nI a), .int (nI k)] mem (some (.int (bI (a.testBit k)))) mem := by
  refine Ret.of (by decide) (Nat.le_of_ble_eq_true rfl) fun l G => ?_
  show PW _ _ _ _ [(0, _), (1, _)] _ _ _
  refine PW.iload_n rfl rfl dX6_has_0 ?_
  refine PW.iload_n rfl rfl dX6_has_1 ?_
  refine PW.ishr dX6_has_2 ?_
  refine PW.iconst (v := nI 1) (by decide) dX6_has_3 ?_
  refine PW.iand dX6_has_4 ?_
  rw [has_bit ha hk]
  refine PW.iconst (v := nI 1) (by decide) dX6_has_5 ?_
  refine PW.icmp_neN 13 (by decide) (by first | omega | (split <;> omega)) (by first | omega | (split <;> omega)) dX6_has_6 (fun hc6 => ?_) (fun hc6 => ?_)
  · refine PW.iconst (v := nI 0) (by decide) dX6_has_13 ?_
    refine PW.zret rfl (by first | exact bI_nar _ | rfl) (Nat.le_refl _) (Nat.le_refl _) dX6_has_14 ?_
    first | exact ⟨by rw [bit_ne hc6]; rfl, rfl⟩ | exact ⟨by rw [bit_eq hc6]; rfl, rfl⟩
  · refine PW.iconst (v := nI 1) (by decide) dX6_has_9 ?_
    refine PW.goto 14 (by decide) dX6_has_10 ?_
    refine PW.zret rfl (by first | exact bI_nar _ | rfl) (Nat.le_refl _) (Nat.le_refl _) dX6_has_14 ?_
    first | exact ⟨by rw [bit_ne hc6]; rfl, rfl⟩ | exact ⟨by rw [bit_eq hc6]; rfl, rfl⟩
set_option maxHeartbeats 4000000 in
theorem x_within (x lo hi : Int32) (mem : pw_M) : Rf 0 mX5_within [.int x, .int lo, .int hi] mem (some (.int (bI (decide (lo ≤ x ∧ x ≤ hi))))) mem := by
  have key : ∀ {a b : Int32}, ¬ a < b → b ≤ a := fun h => Int32.not_lt.mp h
  refine Ret.of (by decide) (Nat.le_of_ble_eq_true rfl) fun l G => ?_
  show PW _ _ _ _ [(0, _), (1, _), (2, _)] _ _ _
  refine PW.iload_n rfl rfl dX5_within_0 ?_
  refine PW.iload_n rfl rfl dX5_within_1 ?_
  refine PW.icmp_lt 14 (by decide) dX5_within_2 (fun hc2 => ?_) (fun hc2 => ?_)
  · refine PW.iconst (v := nI 0) (by decide) dX5_within_14 ?_
    refine PW.zret rfl (by first | exact bI_nar _ | rfl) (Nat.le_refl _) (Nat.le_refl _) dX5_within_15 ?_
    first | exact ⟨by rw [decide_eq_true ⟨key hc2, key hc7⟩]; rfl, rfl⟩ | exact ⟨by rw [decide_eq_false (fun q => Int32.not_lt.mpr q.2 hc7)]; rfl, rfl⟩ | exact ⟨by rw [decide_eq_false (fun q => Int32.not_lt.mpr q.1 hc2)]; rfl, rfl⟩
  · refine PW.iload_n rfl rfl dX5_within_5 ?_
    refine PW.iload_n rfl rfl dX5_within_6 ?_
    refine PW.icmp_gt 14 (by decide) dX5_within_7 (fun hc7 => ?_) (fun hc7 => ?_)
    · refine PW.iconst (v := nI 0) (by decide) dX5_within_14 ?_
      refine PW.zret rfl (by first | exact bI_nar _ | rfl) (Nat.le_refl _) (Nat.le_refl _) dX5_within_15 ?_
      first | exact ⟨by rw [decide_eq_true ⟨key hc2, key hc7⟩]; rfl, rfl⟩ | exact ⟨by rw [decide_eq_false (fun q => Int32.not_lt.mpr q.2 hc7)]; rfl, rfl⟩ | exact ⟨by rw [decide_eq_false (fun q => Int32.not_lt.mpr q.1 hc2)]; rfl, rfl⟩
    · refine PW.iconst (v := nI 1) (by decide) dX5_within_10 ?_
      refine PW.goto 15 (by decide) dX5_within_11 ?_
      refine PW.zret rfl (by first | exact bI_nar _ | rfl) (Nat.le_refl _) (Nat.le_refl _) dX5_within_15 ?_
      first | exact ⟨by rw [decide_eq_true ⟨key hc2, key hc7⟩]; rfl, rfl⟩ | exact ⟨by rw [decide_eq_false (fun q => Int32.not_lt.mpr q.2 hc7)]; rfl, rfl⟩ | exact ⟨by rw [decide_eq_false (fun q => Int32.not_lt.mpr q.1 hc2)]; rfl, rfl⟩
set_option maxHeartbeats 4000000 in
theorem m_in (x lo hi : Int64) (mem : pw_M) : Rf 0 mX6_in [.long x, .long lo, .long hi] mem (some (.int (bI (decide (lo ≤ x ∧ x ≤ hi))))) mem := by
  have k1 : ∀ {a b : Int64}, ¬ lg_cmp a b < 0 → b ≤ a := fun h => Int64.not_lt.mp (fun q => h ((lg_cmp_lt _ _).mpr q))
  have k2 : ∀ {a b : Int64}, ¬ 0 < lg_cmp a b → a ≤ b := fun h => Int64.not_lt.mp (fun q => h ((lg_cmp_gt _ _).mpr q))
  refine Ret.of (by decide) (Nat.le_of_ble_eq_true rfl) fun l G => ?_
  show PW _ _ _ _ [(0, _), (2, _), (4, _)] _ _ _
  refine PW.lload_n rfl rfl dX6_in_0 ?_
  refine PW.lload_n rfl rfl dX6_in_1 ?_
  refine PW.lcmp dX6_in_2 ?_
  refine PW.if_lt 17 (by decide) dX6_in_3 (fun hc3 => ?_) (fun hc3 => ?_)
  · refine PW.iconst (v := nI 0) (by decide) dX6_in_17 ?_
    refine PW.zret rfl (by first | exact bI_nar _ | rfl) (Nat.le_refl _) (Nat.le_refl _) dX6_in_18 ?_
    first | exact ⟨by rw [decide_eq_true ⟨k1 hc3, k2 hc10⟩]; rfl, rfl⟩ | exact ⟨by rw [decide_eq_false (fun q => Int64.not_lt.mpr q.2 ((lg_cmp_gt _ _).mp hc10))]; rfl, rfl⟩ | exact ⟨by rw [decide_eq_false (fun q => Int64.not_lt.mpr q.1 ((lg_cmp_lt _ _).mp hc3))]; rfl, rfl⟩
  · refine PW.lload_n rfl rfl dX6_in_6 ?_
    refine PW.lload rfl dX6_in_7 ?_
    refine PW.lcmp dX6_in_9 ?_
    refine PW.if_gt 17 (by decide) dX6_in_10 (fun hc10 => ?_) (fun hc10 => ?_)
    · refine PW.iconst (v := nI 0) (by decide) dX6_in_17 ?_
      refine PW.zret rfl (by first | exact bI_nar _ | rfl) (Nat.le_refl _) (Nat.le_refl _) dX6_in_18 ?_
      first | exact ⟨by rw [decide_eq_true ⟨k1 hc3, k2 hc10⟩]; rfl, rfl⟩ | exact ⟨by rw [decide_eq_false (fun q => Int64.not_lt.mpr q.2 ((lg_cmp_gt _ _).mp hc10))]; rfl, rfl⟩ | exact ⟨by rw [decide_eq_false (fun q => Int64.not_lt.mpr q.1 ((lg_cmp_lt _ _).mp hc3))]; rfl, rfl⟩
    · refine PW.iconst (v := nI 1) (by decide) dX6_in_13 ?_
      refine PW.goto 18 (by decide) dX6_in_14 ?_
      refine PW.zret rfl (by first | exact bI_nar _ | rfl) (Nat.le_refl _) (Nat.le_refl _) dX6_in_18 ?_
      first | exact ⟨by rw [decide_eq_true ⟨k1 hc3, k2 hc10⟩]; rfl, rfl⟩ | exact ⟨by rw [decide_eq_false (fun q => Int64.not_lt.mpr q.2 ((lg_cmp_gt _ _).mp hc10))]; rfl, rfl⟩ | exact ⟨by rw [decide_eq_false (fun q => Int64.not_lt.mpr q.1 ((lg_cmp_lt _ _).mp hc3))]; rfl, rfl⟩
