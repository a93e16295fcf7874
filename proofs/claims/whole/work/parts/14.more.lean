/-! ===== room, outlawed, depth, holes: class and model ===== -/
def outN (R : DR) (w : Nat → Nat) : Nat → Nat
  | 0 => 0
  | n + 1 => if letN R (w n) (R 13 n) then outN R w n else outN R w n ||| 2 ^ n
theorem outN_lt (R : DR) (w : Nat → Nat) : ∀ n, outN R w n < 2 ^ n
  | 0 => Nat.zero_lt_one
  | n + 1 => by
    have ih := outN_lt R w n
    unfold outN
    split
    · exact Nat.lt_of_lt_of_le ih (Nat.pow_le_pow_right (by decide) (Nat.le_succ n))
    · exact or2_lt ih
def depN (R : DR) : Nat → Nat → Nat
  | 0, _ => 0
  | f + 1, a => if a = 9 then 0 else depN R f (R 6 a) + 1
/-- where a hole leads for so much, alone -/
def behN (R : DR) (u k : Nat) : Nat := if R 10 k ≠ 9 ∧ u ≤ R 11 k ∧ u ≤ R 3 (R 10 k) then R 10 k else k
theorem behN_lt {R : DR} (hD : Dat R) {u k : Nat} (hk : k < R 0 0) : behN R u k < R 0 0 := by
  have h6 := hD.1
  have h := (hD.2.2.2.2.1 k (by omega)).2.2.2.1
  unfold behN
  split
  · rename_i q
    exact h.resolve_right q.1
  · exact hk
def behsN (R : DR) (u k : Nat) : Nat → Nat
  | 0 => k
  | n + 1 => behN R u (behsN R u k n)
theorem behsN_lt {R : DR} (hD : Dat R) {u k : Nat} (hk : k < R 0 0) : ∀ n, behsN R u k n < R 0 0
  | 0 => hk
  | n + 1 => behN_lt hD (behsN_lt hD hk n)
theorem hI_lt {h : Nat} (hh : h < 6) : hI h = nI h := if_pos hh
theorem hI_9 : hI 9 = -9 := rfl
theorem nI_ne9 {h : Nat} (hh : h < 2 ^ 31) : ¬ nI h = -9 := fun q => by
  have h1 := congrArg Int32.toInt q
  rw [nI_toInt hh, show (-9 : Int32).toInt = -9 from by decide] at h1
  omega
section MORE
variable {b s : Nat} {sc : pw_E} {mem : pw_M} {R : DR} {w : Nat → Nat} {p : Int32} {d : Nat} {e : Nat}
set_option maxHeartbeats 4000000 in
theorem m_filled (hS : St b s sc mem) (hM : MD mem R) (hD : Dat R) (hN : MN mem (R 1 0) w p d) (hw : ∀ t, t < R 1 0 → w t < R 0 0) {k : Nat} (hk : k < 6) : Rf 0 mX6_filled [.ref 95, .int (nI k)] mem (some (.int (nI (fillN R w k (R 1 0))))) mem := by
  have h6 := hD.1
  have hT := hD.2.1
  refine Ret.of (by decide) (Nat.le_of_ble_eq_true rfl) fun l G => ?_
  show PW _ _ _ _ [(0, _), (1, _)] _ _ _
  refine PW.iconst (v := nI 0) (by decide) dX6_filled_0 ?_
  refine PW.istore_n rfl (by decide) dX6_filled_1 (?_ : PW _ _ _ _ [(0, _), (1, _), (2, _)] _ _ _)
  refine PW.iconst (v := nI 0) (by decide) dX6_filled_2 ?_
  refine PW.istore_n rfl (by decide) dX6_filled_3 (?_ : PW _ _ _ _ [(0, _), (1, _), (2, _), (3, _)] _ _ _)
  refine PW.up (fun j => [(0, .ref 95), (1, .int (nI k)), (2, .int (nI (fillN R w k j))), (3, .int (nI j))]) (fun _ => mem) (R 1 0) (fun j hj ih => ?_) ?_
  · have hwj := hw j hj
    have ef : fillN R w k (j + 1) = fillN R w k j + if w j = k then R 14 j else 0 := rfl
    refine PW.iload_n rfl rfl dX6_filled_4 ?_
    refine PW.aload_n rfl rfl dX6_filled_5 ?_
    refine PW.gI hS.1 (by decide) rfl (by first | exact hM.2.1 | exact hN.1 _ hj | exact (hM.2.2.2.2.2 _ hj).2.1 | exact rfl) fX6_86 dX6_filled_6 ?_
    refine PW.icmp_geN 41 (by decide) (by first | omega | (split <;> omega)) (by first | omega | (split <;> omega)) dX6_filled_9 (fun hc9 => by exfalso; omega) (fun hc9 => ?_)
    refine PW.iload_n rfl rfl dX6_filled_12 ?_
    refine PW.aload_n rfl rfl dX6_filled_13 ?_
    refine PW.gR hS.1 (by decide) rfl fX6_32 dX6_filled_14 ?_
    refine PW.iload_n rfl rfl dX6_filled_17 ?_
    refine PW.aI hS.1 (by decide) rfl (by exact rfl) ⟨by omega, by decide⟩ (by first | exact hM.2.1 | exact hN.1 _ hj | exact (hM.2.2.2.2.2 _ hj).2.1 | exact rfl) dX6_filled_18 ?_
    refine PW.iload_n rfl rfl dX6_filled_19 ?_
    refine PW.icmp_neN 32 (by decide) (by first | omega | (split <;> omega)) (by first | omega | (split <;> omega)) dX6_filled_20 (fun hc20 => ?_) (fun hc20 => ?_)
    · refine PW.iconst (v := nI 0) (by decide) dX6_filled_32 ?_
      refine PW.iaddN dX6_filled_33 ?_
      refine PW.istore_n rfl (by decide) dX6_filled_34 (?_ : PW _ _ _ _ [(0, _), (1, _), (2, _), (3, _)] _ _ _)
      refine PW.iincN rfl (by decide) dX6_filled_35 (?_ : PW _ _ _ _ [(0, _), (1, _), (2, _), (3, _)] _ _ _)
      refine PW.goto 4 (by decide) dX6_filled_38 ?_
      first | (rw [ef, if_neg hc20] at ih; exact ih) | (rw [ef, if_pos hc20] at ih; exact ih)
    · refine PW.aload_n rfl rfl dX6_filled_23 ?_
      refine PW.gR hS.1 (by decide) rfl fX6_26 dX6_filled_24 ?_
      refine PW.iload_n rfl rfl dX6_filled_27 ?_
      refine PW.aI hS.1 (by decide) rfl (by exact rfl) ⟨by omega, by decide⟩ (by first | exact hM.2.1 | exact hN.1 _ hj | exact (hM.2.2.2.2.2 _ hj).2.1 | exact rfl) dX6_filled_28 ?_
      refine PW.goto 33 (by decide) dX6_filled_29 ?_
      refine PW.iaddN dX6_filled_33 ?_
      refine PW.istore_n rfl (by decide) dX6_filled_34 (?_ : PW _ _ _ _ [(0, _), (1, _), (2, _), (3, _)] _ _ _)
      refine PW.iincN rfl (by decide) dX6_filled_35 (?_ : PW _ _ _ _ [(0, _), (1, _), (2, _), (3, _)] _ _ _)
      refine PW.goto 4 (by decide) dX6_filled_38 ?_
      first | (rw [ef, if_neg hc20] at ih; exact ih) | (rw [ef, if_pos hc20] at ih; exact ih)
  · refine PW.iload_n rfl rfl dX6_filled_4 ?_
    refine PW.aload_n rfl rfl dX6_filled_5 ?_
    refine PW.gI hS.1 (by decide) rfl (by first | exact hM.2.1 | exact rfl) fX6_86 dX6_filled_6 ?_
    refine PW.icmp_geN 41 (by decide) (by first | omega | (split <;> omega)) (by first | omega | (split <;> omega)) dX6_filled_9 (fun hc9 => ?_) (fun hc9 => by exfalso; omega)
    refine PW.iload_n rfl rfl dX6_filled_41 ?_
    refine PW.iret rfl (Nat.le_refl _) (Nat.le_refl _) dX6_filled_42 ?_
    exact ⟨rfl, rfl⟩
set_option maxHeartbeats 4000000 in
theorem x_hasRoom (hS : St b s sc mem) (hX : XD mem b R) (hD : Dat R) (hN : XN mem 13 (R 1 0) w p d) (hw : ∀ t, t < R 1 0 → w t < R 0 0) {k u : Nat} (hk : k < R 0 0) (hu : u ≤ 5) : Rf 1 mX5_hasRoom [.ref 9, .int (nI k), .int (nI u)] mem (some (.int (bI (decide (fillN R w k (R 1 0) + u ≤ R 3 k))))) mem := by
  have h6 := hD.1
  have hT := hD.2.1
  have h3 := (hD.2.2.2.1 k hk).2.1
  have hf := fillN_le (R := R) (w := w) (k := k) (n := R 1 0) (fun t ht => (hD.2.2.2.2.2.2 t ht).2.2.1)
  refine Ret.of (by decide) (Nat.le_of_ble_eq_true rfl) fun l G => ?_
  show PW _ _ _ _ [(0, _), (1, _), (2, _)] _ _ _
  refine PW.aload_n rfl rfl dX5_hasRoom_0 ?_
  refine PW.iload_n rfl rfl dX5_hasRoom_1 ?_
  refine PW.cV (ci := 5) (j := 0) _ hS.1 (by decide) rfl kX5_109 (x_filled hS hX hD hN hw (k := k) (by omega)) rfl rfl (Nat.le_of_ble_eq_true rfl) rfl ⟨by decide, by decide⟩ ⟨Nat.zero_le _, Nat.zero_le _⟩ dX5_hasRoom_2 ?_
  refine PW.iload_n rfl rfl dX5_hasRoom_5 ?_
  refine PW.iaddN dX5_hasRoom_6 ?_
  refine PW.aload_n rfl rfl dX5_hasRoom_7 ?_
  refine PW.gV hS.1 (by decide) rfl hS.2.1 fX5_58 dX5_hasRoom_8 ?_
  refine PW.gR hS.1 (by have := hS.b; omega) (skR3 hS.b) fX5_97 dX5_hasRoom_11 ?_
  refine PW.iload_n rfl rfl dX5_hasRoom_14 ?_
  refine PW.aI hS.1 (by have := hS.b; omega) (akR1 hS.b) (by exact rfl) ⟨by omega, by decide⟩ (by first | exact (hX.2.2.2.1 k hk).1 | exact rfl) dX5_hasRoom_15 ?_
  refine PW.icmp_gtN 23 (by decide) (by first | omega | (split <;> omega)) (by first | omega | (split <;> omega)) dX5_hasRoom_16 (fun hc16 => ?_) (fun hc16 => ?_)
  · refine PW.iconst (v := nI 0) (by decide) dX5_hasRoom_23 ?_
    refine PW.zret rfl (by first | exact bI_nar _ | rfl) (Nat.le_refl _) (Nat.le_refl _) dX5_hasRoom_24 ?_
    first | exact ⟨by rw [decide_eq_false (by omega)]; rfl, rfl⟩ | exact ⟨by rw [decide_eq_true (by omega)]; rfl, rfl⟩
  · refine PW.iconst (v := nI 1) (by decide) dX5_hasRoom_19 ?_
    refine PW.goto 24 (by decide) dX5_hasRoom_20 ?_
    refine PW.zret rfl (by first | exact bI_nar _ | rfl) (Nat.le_refl _) (Nat.le_refl _) dX5_hasRoom_24 ?_
    first | exact ⟨by rw [decide_eq_false (by omega)]; rfl, rfl⟩ | exact ⟨by rw [decide_eq_true (by omega)]; rfl, rfl⟩
set_option maxHeartbeats 4000000 in
theorem m_hasRoom (hS : St b s sc mem) (hM : MD mem R) (hD : Dat R) (hN : MN mem (R 1 0) w p d) (hw : ∀ t, t < R 1 0 → w t < R 0 0) {k u : Nat} (hk : k < R 0 0) (hu : u ≤ 5) : Rf 1 mX6_hasRoom [.ref 95, .int (nI k), .int (nI u)] mem (some (.int (bI (decide (fillN R w k (R 1 0) + u ≤ R 3 k))))) mem := by
  have h6 := hD.1
  have hT := hD.2.1
  have h3 := (hD.2.2.2.1 k hk).2.1
  have hf := fillN_le (R := R) (w := w) (k := k) (n := R 1 0) (fun t ht => (hD.2.2.2.2.2.2 t ht).2.2.1)
  refine Ret.of (by decide) (Nat.le_of_ble_eq_true rfl) fun l G => ?_
  show PW _ _ _ _ [(0, _), (1, _), (2, _)] _ _ _
  refine PW.aload_n rfl rfl dX6_hasRoom_0 ?_
  refine PW.iload_n rfl rfl dX6_hasRoom_1 ?_
  refine PW.cV (ci := 6) (j := 0) _ hS.1 (by decide) rfl kX6_181 (m_filled hS hM hD hN hw (k := k) (by omega)) rfl rfl (Nat.le_of_ble_eq_true rfl) rfl ⟨by decide, by decide⟩ ⟨Nat.zero_le _, Nat.zero_le _⟩ dX6_hasRoom_2 ?_
  refine PW.iload_n rfl rfl dX6_hasRoom_5 ?_
  refine PW.iaddN dX6_hasRoom_6 ?_
  refine PW.aload_n rfl rfl dX6_hasRoom_7 ?_
  refine PW.gR hS.1 (by decide) rfl fX6_13 dX6_hasRoom_8 ?_
  refine PW.bipush (v := nI 8) (by decide) dX6_hasRoom_11 ?_
  refine PW.iload_n rfl rfl dX6_hasRoom_13 ?_
  refine PW.imulN dX6_hasRoom_14 ?_
  refine PW.aI hS.1 (by decide) rfl (by exact rfl) ⟨by omega, by decide⟩ (by first | exact (hM.2.2.2.1 k hk).1 | exact rfl) dX6_hasRoom_15 ?_
  refine PW.icmp_gtN 23 (by decide) (by first | omega | (split <;> omega)) (by first | omega | (split <;> omega)) dX6_hasRoom_16 (fun hc16 => ?_) (fun hc16 => ?_)
  · refine PW.iconst (v := nI 0) (by decide) dX6_hasRoom_23 ?_
    refine PW.zret rfl (by first | exact bI_nar _ | rfl) (Nat.le_refl _) (Nat.le_refl _) dX6_hasRoom_24 ?_
    first | exact ⟨by rw [decide_eq_false (by omega)]; rfl, rfl⟩ | exact ⟨by rw [decide_eq_true (by omega)]; rfl, rfl⟩
  · refine PW.iconst (v := nI 1) (by decide) dX6_hasRoom_19 ?_
    refine PW.goto 24 (by decide) dX6_hasRoom_20 ?_
    refine PW.zret rfl (by first | exact bI_nar _ | rfl) (Nat.le_refl _) (Nat.le_refl _) dX6_hasRoom_24 ?_
    first | exact ⟨by rw [decide_eq_false (by omega)]; rfl, rfl⟩ | exact ⟨by rw [decide_eq_true (by omega)]; rfl, rfl⟩
set_option maxHeartbeats 4000000 in
theorem m_taxOf (hS : St b s sc mem) (hM : MD mem R) (hD : Dat R) {a c t : Nat} (ha : a < 6) (hc : c < R 0 0) (ht : t < 6) : Rf 1 mX6_taxOf [.ref 95, .int (nI a), .int (nI c), .int (nI t)] mem (some (.int (nI (if (R 12 (6 * a + c)).testBit t then 0 else R 5 c)))) mem := by
  have h6 := hD.1
  have h64 := hD.2.2.2.2.2.1 a c (by omega) (by omega)
  refine Ret.of (by decide) (Nat.le_of_ble_eq_true rfl) fun l G => ?_
  show PW _ _ _ _ [(0, _), (1, _), (2, _), (3, _)] _ _ _
  refine PW.aload_n rfl rfl dX6_taxOf_0 ?_
  refine PW.gR hS.1 (by decide) rfl fX6_20 dX6_taxOf_1 ?_
  refine PW.bipush (v := nI 6) (by decide) dX6_taxOf_4 ?_
  refine PW.iload_n rfl rfl dX6_taxOf_6 ?_
  refine PW.imulN dX6_taxOf_7 ?_
  refine PW.iload_n rfl rfl dX6_taxOf_8 ?_
  refine PW.iaddN dX6_taxOf_9 ?_
  refine PW.aI hS.1 (by decide) rfl (by exact rfl) ⟨by omega, by decide⟩ (by first | exact (hM.2.2.2.2.1 _ _ (by omega) (by omega)).2 | exact (hM.2.2.2.1 _ hc).2.2.1 | exact rfl) dX6_taxOf_10 ?_
  refine PW.iload_n rfl rfl dX6_taxOf_11 ?_
  refine PW.cS _ kX6_165 (m_has (a := R 12 (6 * a + c)) (k := t) (by omega) (by omega) mem) rfl rfl (Nat.le_of_ble_eq_true rfl) ⟨by decide, by decide⟩ ⟨Nat.zero_le _, Nat.zero_le _⟩ dX6_taxOf_12 ?_
  refine PW.if_eqB 22 (by decide) dX6_taxOf_15 (fun hc15 => ?_) (fun hc15 => ?_)
  · refine PW.aload_n rfl rfl dX6_taxOf_22 ?_
    refine PW.gR hS.1 (by decide) rfl fX6_13 dX6_taxOf_23 ?_
    refine PW.bipush (v := nI 8) (by decide) dX6_taxOf_26 ?_
    refine PW.iload_n rfl rfl dX6_taxOf_28 ?_
    refine PW.imulN dX6_taxOf_29 ?_
    refine PW.iconst (v := nI 2) (by decide) dX6_taxOf_30 ?_
    refine PW.iaddN dX6_taxOf_31 ?_
    refine PW.aI hS.1 (by decide) rfl (by exact rfl) ⟨by omega, by decide⟩ (by first | exact (hM.2.2.2.2.1 _ _ (by omega) (by omega)).2 | exact (hM.2.2.2.1 _ hc).2.2.1 | exact rfl) dX6_taxOf_32 ?_
    refine PW.iret rfl (Nat.le_refl _) (Nat.le_refl _) dX6_taxOf_33 ?_
    exact ⟨by rw [hc15]; rfl, rfl⟩
  · refine PW.iconst (v := nI 0) (by decide) dX6_taxOf_18 ?_
    refine PW.goto 33 (by decide) dX6_taxOf_19 ?_
    refine PW.iret rfl (Nat.le_refl _) (Nat.le_refl _) dX6_taxOf_33 ?_
    exact ⟨by rw [hc15]; rfl, rfl⟩
set_option maxHeartbeats 4000000 in
theorem x_isOutlawed (hS : St b s sc mem) (hX : XD mem b R) (hL : XL mem b R) (hD : Dat R) (hN : XN mem 13 (R 1 0) w p d) (hw : ∀ t, t < R 1 0 → w t < R 0 0) {t : Nat} (ht : t < R 1 0) : Rf 1 mX5_isOutlawed [.ref 9, .int (nI t)] mem (some (.int (bI (!letN R (w t) (R 13 t))))) mem := by
  have h6 := hD.1
  have hT := hD.2.1
  have hwt := hw t ht
  have h13 := (hD.2.2.2.2.2.2 t ht).1
  have hl := letsN_lt R (w t) 6
  have hb := letsN_bit R (w t) 6 (R 13 t)
  rw [decide_eq_true h13, Bool.true_and] at hb
  refine Ret.of (by decide) (Nat.le_of_ble_eq_true rfl) fun l G => ?_
  show PW _ _ _ _ [(0, _), (1, _)] _ _ _
  refine PW.aload_n rfl rfl dX5_isOutlawed_0 ?_
  refine PW.gV hS.1 (by decide) rfl hS.2.1 fX5_58 dX5_isOutlawed_1 ?_
  refine PW.gR hS.1 (by have := hS.b; omega) (skR17 hS.b) fX5_140 dX5_isOutlawed_4 ?_
  refine PW.aload_n rfl rfl dX5_isOutlawed_7 ?_
  refine PW.gR hS.1 (by decide) rfl fX5_19 dX5_isOutlawed_8 ?_
  refine PW.gR hS.1 (by decide) rfl fX5_134 dX5_isOutlawed_11 ?_
  refine PW.iload_n rfl rfl dX5_isOutlawed_14 ?_
  refine PW.aI hS.1 (by decide) rfl (by exact rfl) ⟨by omega, by decide⟩ (by first | exact hN.1 _ ht | exact hL.1 _ hwt | exact (hX.2.2.2.2.2.2 _ ht).1 | exact rfl) dX5_isOutlawed_15 ?_
  refine PW.aI hS.1 (by have := hS.b; omega) (akR21 hS.b) (by exact rfl) ⟨by omega, by decide⟩ (by first | exact hN.1 _ ht | exact hL.1 _ hwt | exact (hX.2.2.2.2.2.2 _ ht).1 | exact rfl) dX5_isOutlawed_16 ?_
  refine PW.aload_n rfl rfl dX5_isOutlawed_17 ?_
  refine PW.gV hS.1 (by decide) rfl hS.2.1 fX5_58 dX5_isOutlawed_18 ?_
  refine PW.gR hS.1 (by have := hS.b; omega) (skR13 hS.b) fX5_125 dX5_isOutlawed_21 ?_
  refine PW.iload_n rfl rfl dX5_isOutlawed_24 ?_
  refine PW.aI hS.1 (by have := hS.b; omega) (akR17 hS.b) (by exact rfl) ⟨by omega, by decide⟩ (by first | exact hN.1 _ ht | exact hL.1 _ hwt | exact (hX.2.2.2.2.2.2 _ ht).1 | exact rfl) dX5_isOutlawed_25 ?_
  refine PW.cS _ kX5_143 (x_has (a := letsN R (w t) 6) (k := R 13 t) (by omega) (by omega) mem) rfl rfl (Nat.le_of_ble_eq_true rfl) ⟨by decide, by decide⟩ ⟨Nat.zero_le _, Nat.zero_le _⟩ dX5_isOutlawed_26 ?_
  refine PW.if_neB 36 (by decide) dX5_isOutlawed_29 (fun hc29 => ?_) (fun hc29 => ?_)
  · refine PW.iconst (v := nI 0) (by decide) dX5_isOutlawed_36 ?_
    refine PW.zret rfl (by first | exact bI_nar _ | rfl) (Nat.le_refl _) (Nat.le_refl _) dX5_isOutlawed_37 ?_
    exact ⟨by rw [← hb, hc29]; rfl, rfl⟩
  · refine PW.iconst (v := nI 1) (by decide) dX5_isOutlawed_32 ?_
    refine PW.goto 37 (by decide) dX5_isOutlawed_33 ?_
    refine PW.zret rfl (by first | exact bI_nar _ | rfl) (Nat.le_refl _) (Nat.le_refl _) dX5_isOutlawed_37 ?_
    exact ⟨by rw [← hb, hc29]; rfl, rfl⟩
set_option maxHeartbeats 4000000 in
theorem m_isOutlawed (hS : St b s sc mem) (hM : MD mem R) (hD : Dat R) (hN : MN mem (R 1 0) w p d) (hw : ∀ t, t < R 1 0 → w t < R 0 0) {t : Nat} (ht : t < R 1 0) : Rf 5 mX6_isOutlawed [.ref 95, .int (nI t)] mem (some (.int (bI (!letN R (w t) (R 13 t))))) mem := by
  have h6 := hD.1
  have hT := hD.2.1
  have hwt := hw t ht
  have hp := pow6 h6
  have h13 := (hD.2.2.2.2.2.2 t ht).1
  have hl := pockN_lt R (R 13 t) (R 0 0)
  have hb := pockN_bit R (R 13 t) (R 0 0) (w t)
  rw [decide_eq_true hwt, Bool.true_and] at hb
  refine Ret.of (by decide) (Nat.le_of_ble_eq_true rfl) fun l G => ?_
  show PW _ _ _ _ [(0, _), (1, _)] _ _ _
  refine PW.aload_n rfl rfl dX6_isOutlawed_0 ?_
  refine PW.aload_n rfl rfl dX6_isOutlawed_1 ?_
  refine PW.gR hS.1 (by decide) rfl fX6_23 dX6_isOutlawed_2 ?_
  refine PW.iload_n rfl rfl dX6_isOutlawed_5 ?_
  refine PW.aI hS.1 (by decide) rfl (by exact rfl) ⟨by omega, by decide⟩ (by first | exact hN.1 _ ht | exact (hM.2.2.2.2.2 _ ht).1 | exact rfl) dX6_isOutlawed_6 ?_
  refine PW.cV (ci := 6) (j := 0) _ hS.1 (by decide) rfl kX6_190 (m_letting hS hM hD h13) rfl rfl (Nat.le_of_ble_eq_true rfl) rfl ⟨by decide, by decide⟩ ⟨Nat.zero_le _, Nat.zero_le _⟩ dX6_isOutlawed_7 ?_
  refine PW.aload_n rfl rfl dX6_isOutlawed_10 ?_
  refine PW.gR hS.1 (by decide) rfl fX6_32 dX6_isOutlawed_11 ?_
  refine PW.iload_n rfl rfl dX6_isOutlawed_14 ?_
  refine PW.aI hS.1 (by decide) rfl (by exact rfl) ⟨by omega, by decide⟩ (by first | exact hN.1 _ ht | exact (hM.2.2.2.2.2 _ ht).1 | exact rfl) dX6_isOutlawed_15 ?_
  refine PW.cS _ kX6_165 (m_has (a := pockN R (R 13 t) (R 0 0)) (k := w t) (by omega) (by omega) mem) rfl rfl (Nat.le_of_ble_eq_true rfl) ⟨by decide, by decide⟩ ⟨Nat.zero_le _, Nat.zero_le _⟩ dX6_isOutlawed_16 ?_
  refine PW.if_neB 26 (by decide) dX6_isOutlawed_19 (fun hc19 => ?_) (fun hc19 => ?_)
  · refine PW.iconst (v := nI 0) (by decide) dX6_isOutlawed_26 ?_
    refine PW.zret rfl (by first | exact bI_nar _ | rfl) (Nat.le_refl _) (Nat.le_refl _) dX6_isOutlawed_27 ?_
    exact ⟨by rw [← hb, hc19]; rfl, rfl⟩
  · refine PW.iconst (v := nI 1) (by decide) dX6_isOutlawed_22 ?_
    refine PW.goto 27 (by decide) dX6_isOutlawed_23 ?_
    refine PW.zret rfl (by first | exact bI_nar _ | rfl) (Nat.le_refl _) (Nat.le_refl _) dX6_isOutlawed_27 ?_
    exact ⟨by rw [← hb, hc19]; rfl, rfl⟩
set_option maxHeartbeats 4000000 in
theorem x_outlawed (hS : St b s sc mem) (hX : XD mem b R) (hL : XL mem b R) (hD : Dat R) (hN : XN mem 13 (R 1 0) w p d) (hw : ∀ t, t < R 1 0 → w t < R 0 0) : Rf 2 mX5_outlawed [.ref 9] mem (some (.int (nI (outN R w (R 1 0))))) mem := by
  have hT := hD.2.1
  refine Ret.of (by decide) (Nat.le_of_ble_eq_true rfl) fun l G => ?_
  show PW _ _ _ _ [(0, _)] _ _ _
  refine PW.iconst (v := nI 0) (by decide) dX5_outlawed_0 ?_
  refine PW.istore_n rfl (by decide) dX5_outlawed_1 (?_ : PW _ _ _ _ [(0, _), (1, _)] _ _ _)
  refine PW.iconst (v := nI 0) (by decide) dX5_outlawed_2 ?_
  refine PW.istore_n rfl (by decide) dX5_outlawed_3 (?_ : PW _ _ _ _ [(0, _), (1, _), (2, _)] _ _ _)
  refine PW.up (fun j => [(0, .ref 9), (1, .int (nI (outN R w j))), (2, .int (nI j))]) (fun _ => mem) (R 1 0) (fun j hj ih => ?_) ?_
  · have eo : outN R w (j + 1) = if letN R (w j) (R 13 j) then outN R w j else outN R w j ||| 2 ^ j := rfl
    refine PW.iload_n rfl rfl dX5_outlawed_4 ?_
    refine PW.aload_n rfl rfl dX5_outlawed_5 ?_
    refine PW.gV hS.1 (by decide) rfl hS.2.1 fX5_58 dX5_outlawed_6 ?_
    refine PW.gI hS.1 (by have := hS.b; omega) (skR1 hS.b) (by first | exact hX.2.1 | exact rfl) fX5_177 dX5_outlawed_9 ?_
    refine PW.icmp_geN 35 (by decide) (by first | omega | (split <;> omega)) (by first | omega | (split <;> omega)) dX5_outlawed_12 (fun hc12 => by exfalso; omega) (fun hc12 => ?_)
    refine PW.aload_n rfl rfl dX5_outlawed_15 ?_
    refine PW.iload_n rfl rfl dX5_outlawed_16 ?_
    refine PW.cV (ci := 5) (j := 0) _ hS.1 (by decide) rfl kX5_137 (x_isOutlawed hS hX hL hD hN hw hj) rfl rfl (Nat.le_of_ble_eq_true rfl) rfl ⟨by decide, by decide⟩ ⟨Nat.zero_le _, Nat.zero_le _⟩ dX5_outlawed_17 ?_
    refine PW.if_eqB 29 (by decide) dX5_outlawed_20 (fun hc20 => ?_) (fun hc20 => ?_)
    · refine PW.iincN rfl (by decide) dX5_outlawed_29 (?_ : PW _ _ _ _ [(0, _), (1, _), (2, _)] _ _ _)
      refine PW.goto 4 (by decide) dX5_outlawed_32 ?_
      first | (rw [eo, if_pos (by simpa using hc20)] at ih; exact ih) | (rw [eo, if_neg (by simpa using hc20)] at ih; exact ih)
    · refine PW.iload_n rfl rfl dX5_outlawed_23 ?_
      refine PW.iconst (v := nI 1) (by decide) dX5_outlawed_24 ?_
      refine PW.iload_n rfl rfl dX5_outlawed_25 ?_
      refine PW.ishl1 (by omega) dX5_outlawed_26 ?_
      refine PW.iorN dX5_outlawed_27 ?_
      refine PW.istore_n rfl (by decide) dX5_outlawed_28 (?_ : PW _ _ _ _ [(0, _), (1, _), (2, _)] _ _ _)
      refine PW.iincN rfl (by decide) dX5_outlawed_29 (?_ : PW _ _ _ _ [(0, _), (1, _), (2, _)] _ _ _)
      refine PW.goto 4 (by decide) dX5_outlawed_32 ?_
      first | (rw [eo, if_pos (by simpa using hc20)] at ih; exact ih) | (rw [eo, if_neg (by simpa using hc20)] at ih; exact ih)
  · refine PW.iload_n rfl rfl dX5_outlawed_4 ?_
    refine PW.aload_n rfl rfl dX5_outlawed_5 ?_
    refine PW.gV hS.1 (by decide) rfl hS.2.1 fX5_58 dX5_outlawed_6 ?_
    refine PW.gI hS.1 (by have := hS.b; omega) (skR1 hS.b) (by first | exact hX.2.1 | exact rfl) fX5_177 dX5_outlawed_9 ?_
    refine PW.icmp_geN 35 (by decide) (by first | omega | (split <;> omega)) (by first | omega | (split <;> omega)) dX5_outlawed_12 (fun hc12 => ?_) (fun hc12 => by exfalso; omega)
    refine PW.iload_n rfl rfl dX5_outlawed_35 ?_
    refine PW.iret rfl (Nat.le_refl _) (Nat.le_refl _) dX5_outlawed_36 ?_
    exact ⟨rfl, rfl⟩
set_option maxHeartbeats 4000000 in
theorem x_depth (hS : St b s sc mem) (he : e = 49 ∨ e = 72) (hX : XD mem e R) (hD : Dat R) {k : Nat} (hk : k < R 0 0) : Rf 0 mX2_depth [.ref e, .int (nI k)] mem (some (.int (nI (depN R 6 (R 6 k))))) mem := by
  have h6 := hD.1
  refine Ret.of (by decide) (Nat.le_of_ble_eq_true rfl) fun l G => ?_
  show PW _ _ _ _ [(0, _), (1, _)] _ _ _
  refine PW.iconst (v := nI 0) (by decide) dX2_depth_0 ?_
  refine PW.istore_n rfl (by decide) dX2_depth_1 (?_ : PW _ _ _ _ [(0, _), (1, _), (2, _)] _ _ _)
  refine PW.aload_n rfl rfl dX2_depth_2 ?_
  refine PW.gR hS.1 (by have := he; omega) (skR6 he) fX2_21 dX2_depth_3 ?_
  refine PW.iload_n rfl rfl dX2_depth_6 ?_
  refine PW.aI hS.1 (by have := he; omega) (akR4 he) (by exact rfl) ⟨by omega, by decide⟩ (by first | exact (hX.2.2.2.1 k hk).2.2.2 | exact rfl) dX2_depth_7 ?_
  refine PW.istore_n rfl (by decide) dX2_depth_8 (?_ : PW _ _ _ _ [(0, _), (1, _), (2, _), (3, _)] _ _ _)
  refine PW.iconst (v := nI 0) (by decide) dX2_depth_9 ?_
  refine PW.istore (by decide) dX2_depth_10 (?_ : PW _ _ _ _ [(0, _), (1, _), (2, _), (3, _), (4, _)] _ _ _)
  refine PW.loop (σ := Nat × Nat) (I := fun j q => q.1 + depN R (6 - j) q.2 = depN R 6 (R 6 k) ∧ q.1 ≤ j ∧ (q.2 = 9 ∨ q.2 + j < 6 ∧ q.2 < R 0 0)) (fun j q => [(0, .ref e), (1, .int (nI k)), (2, .int (nI q.1)), (3, .int (nI q.2)), (4, .int (nI j))]) (fun _ _ => mem) 6 (fun j q hj hI ih => ?_) (fun q hI => ?_) (0, R 6 k) ⟨by simp, Nat.le_refl _, by have h9 := (hD.2.2.2.1 k hk).2.2.2.2; show R 6 k = 9 ∨ R 6 k + 0 < 6 ∧ R 6 k < R 0 0; omega⟩
  · obtain ⟨q1, q2⟩ := q
    obtain ⟨h1, h2, h3⟩ := hI
    dsimp only at h1 h2 h3
    have ed : depN R (6 - j) q2 = if q2 = 9 then 0 else depN R (6 - (j + 1)) (R 6 q2) + 1 := by rw [show 6 - j = (6 - (j + 1)) + 1 by omega]; rfl
    show PW _ _ _ _ [(0, .ref e), (1, .int (nI k)), (2, .int (nI q1)), (3, .int (nI q2)), (4, .int (nI j))] [] mem _
    refine PW.iload rfl dX2_depth_12 ?_
    refine PW.bipush (v := nI 6) (by decide) dX2_depth_14 ?_
    refine PW.icmp_geN 41 (by decide) (by first | omega | (split <;> omega)) (by first | omega | (split <;> omega)) dX2_depth_16 (fun hc16 => by exfalso; omega) (fun hc16 => ?_)
    refine PW.iload_n rfl rfl dX2_depth_19 ?_
    refine PW.bipush (v := nI 9) (by decide) dX2_depth_20 ?_
    refine PW.icmp_eqN 41 (by decide) (by first | omega | (split <;> omega)) (by first | omega | (split <;> omega)) dX2_depth_22 (fun hc22 => ?_) (fun hc22 => ?_)
    · refine PW.iload_n rfl rfl dX2_depth_41 ?_
      refine PW.iret rfl (Nat.le_refl _) (Nat.le_refl _) dX2_depth_42 ?_
      exact ⟨by rw [← h1, ed, if_pos hc22]; rfl, rfl⟩
    · refine PW.iincN rfl (by decide) dX2_depth_25 (?_ : PW _ _ _ _ [(0, _), (1, _), (2, _), (3, _), (4, _)] _ _ _)
      refine PW.aload_n rfl rfl dX2_depth_28 ?_
      refine PW.gR hS.1 (by have := he; omega) (skR6 he) fX2_21 dX2_depth_29 ?_
      refine PW.iload_n rfl rfl dX2_depth_32 ?_
      refine PW.aI hS.1 (by have := he; omega) (akR4 he) (by exact rfl) ⟨by omega, by decide⟩ (by first | exact (hX.2.2.2.1 q2 (by omega)).2.2.2 | exact rfl) dX2_depth_33 ?_
      refine PW.istore_n rfl (by decide) dX2_depth_34 (?_ : PW _ _ _ _ [(0, _), (1, _), (2, _), (3, _), (4, _)] _ _ _)
      refine PW.iincN rfl (by decide) dX2_depth_35 (?_ : PW _ _ _ _ [(0, _), (1, _), (2, _), (3, _), (4, _)] _ _ _)
      refine PW.goto 12 (by decide) dX2_depth_38 ?_
      refine ih (q1 + 1, R 6 q2) ⟨?_, ?_, ?_⟩
      · show q1 + 1 + depN R (6 - (j + 1)) (R 6 q2) = _
        rw [← h1, ed, if_neg hc22]
        omega
      · show q1 + 1 ≤ j + 1
        omega
      · show R 6 q2 = 9 ∨ R 6 q2 + (j + 1) < 6 ∧ R 6 q2 < R 0 0
        have h9 := (hD.2.2.2.1 q2 (by omega)).2.2.2.2
        omega
  · obtain ⟨q1, q2⟩ := q
    obtain ⟨h1, h2, h3⟩ := hI
    dsimp only at h1 h2 h3
    show PW _ _ _ _ [(0, .ref e), (1, .int (nI k)), (2, .int (nI q1)), (3, .int (nI q2)), (4, .int (nI 6))] [] mem _
    refine PW.iload rfl dX2_depth_12 ?_
    refine PW.bipush (v := nI 6) (by decide) dX2_depth_14 ?_
    refine PW.icmp_geN 41 (by decide) (by first | omega | (split <;> omega)) (by first | omega | (split <;> omega)) dX2_depth_16 (fun hc16 => ?_) (fun hc16 => by exfalso; omega)
    refine PW.iload_n rfl rfl dX2_depth_41 ?_
    refine PW.iret rfl (Nat.le_refl _) (Nat.le_refl _) dX2_depth_42 ?_
    exact ⟨by rw [← h1]; rfl, rfl⟩
set_option maxHeartbeats 4000000 in
theorem m_depthOf (hS : St b s sc mem) (hM : MD mem R) (hD : Dat R) {k : Nat} (hk : k < R 0 0) : Rf 0 mX6_depthOf [.ref 95, .int (nI k)] mem (some (.int (nI (depN R 6 (R 6 k))))) mem := by
  have h6 := hD.1
  refine Ret.of (by decide) (Nat.le_of_ble_eq_true rfl) fun l G => ?_
  show PW _ _ _ _ [(0, _), (1, _)] _ _ _
  refine PW.iconst (v := nI 0) (by decide) dX6_depthOf_0 ?_
  refine PW.istore_n rfl (by decide) dX6_depthOf_1 (?_ : PW _ _ _ _ [(0, _), (1, _), (2, _)] _ _ _)
  refine PW.aload_n rfl rfl dX6_depthOf_2 ?_
  refine PW.gR hS.1 (by decide) rfl fX6_13 dX6_depthOf_3 ?_
  refine PW.bipush (v := nI 8) (by decide) dX6_depthOf_6 ?_
  refine PW.iload_n rfl rfl dX6_depthOf_8 ?_
  refine PW.imulN dX6_depthOf_9 ?_
  refine PW.iconst (v := nI 3) (by decide) dX6_depthOf_10 ?_
  refine PW.iaddN dX6_depthOf_11 ?_
  refine PW.aI hS.1 (by decide) rfl (by exact rfl) ⟨by omega, by decide⟩ (by first | exact (hM.2.2.2.1 k hk).2.2.2.1 | exact rfl) dX6_depthOf_12 ?_
  refine PW.istore_n rfl (by decide) dX6_depthOf_13 (?_ : PW _ _ _ _ [(0, _), (1, _), (2, _), (3, _)] _ _ _)
  refine PW.loop (σ := Nat × Nat) (I := fun j q => q.1 + depN R (6 - j) q.2 = depN R 6 (R 6 k) ∧ q.1 ≤ j ∧ (q.2 = 9 ∨ q.2 + j < 6 ∧ q.2 < R 0 0)) (fun j q => [(0, .ref 95), (1, .int (nI k)), (2, .int (nI q.1)), (3, .int (nI q.2))]) (fun _ _ => mem) 6 (fun j q hj hI ih => ?_) (fun q hI => ?_) (0, R 6 k) ⟨by simp, Nat.le_refl _, by have h9 := (hD.2.2.2.1 k hk).2.2.2.2; show R 6 k = 9 ∨ R 6 k + 0 < 6 ∧ R 6 k < R 0 0; omega⟩
  · obtain ⟨q1, q2⟩ := q
    obtain ⟨h1, h2, h3⟩ := hI
    dsimp only at h1 h2 h3
    have ed : depN R (6 - j) q2 = if q2 = 9 then 0 else depN R (6 - (j + 1)) (R 6 q2) + 1 := by rw [show 6 - j = (6 - (j + 1)) + 1 by omega]; rfl
    show PW _ _ _ _ [(0, .ref 95), (1, .int (nI k)), (2, .int (nI q1)), (3, .int (nI q2))] [] mem _
    refine PW.iload_n rfl rfl dX6_depthOf_14 ?_
    refine PW.bipush (v := nI 9) (by decide) dX6_depthOf_15 ?_
    refine PW.icmp_eqN 38 (by decide) (by first | omega | (split <;> omega)) (by first | omega | (split <;> omega)) dX6_depthOf_17 (fun hc17 => ?_) (fun hc17 => ?_)
    · refine PW.iload_n rfl rfl dX6_depthOf_38 ?_
      refine PW.iret rfl (Nat.le_refl _) (Nat.le_refl _) dX6_depthOf_39 ?_
      exact ⟨by rw [← h1, ed, if_pos hc17]; rfl, rfl⟩
    · refine PW.iincN rfl (by decide) dX6_depthOf_20 (?_ : PW _ _ _ _ [(0, _), (1, _), (2, _), (3, _)] _ _ _)
      refine PW.aload_n rfl rfl dX6_depthOf_23 ?_
      refine PW.gR hS.1 (by decide) rfl fX6_13 dX6_depthOf_24 ?_
      refine PW.bipush (v := nI 8) (by decide) dX6_depthOf_27 ?_
      refine PW.iload_n rfl rfl dX6_depthOf_29 ?_
      refine PW.imulN dX6_depthOf_30 ?_
      refine PW.iconst (v := nI 3) (by decide) dX6_depthOf_31 ?_
      refine PW.iaddN dX6_depthOf_32 ?_
      refine PW.aI hS.1 (by decide) rfl (by exact rfl) ⟨by omega, by decide⟩ (by first | exact (hM.2.2.2.1 q2 (by omega)).2.2.2.1 | exact rfl) dX6_depthOf_33 ?_
      refine PW.istore_n rfl (by decide) dX6_depthOf_34 (?_ : PW _ _ _ _ [(0, _), (1, _), (2, _), (3, _)] _ _ _)
      refine PW.goto 14 (by decide) dX6_depthOf_35 ?_
      refine ih (q1 + 1, R 6 q2) ⟨?_, ?_, ?_⟩
      · show q1 + 1 + depN R (6 - (j + 1)) (R 6 q2) = _
        rw [← h1, ed, if_neg hc17]
        omega
      · show q1 + 1 ≤ j + 1
        omega
      · show R 6 q2 = 9 ∨ R 6 q2 + (j + 1) < 6 ∧ R 6 q2 < R 0 0
        have h9 := (hD.2.2.2.1 q2 (by omega)).2.2.2.2
        omega
  · obtain ⟨q1, q2⟩ := q
    obtain ⟨h1, h2, h3⟩ := hI
    dsimp only at h1 h2 h3
    show PW _ _ _ _ [(0, .ref 95), (1, .int (nI k)), (2, .int (nI q1)), (3, .int (nI q2))] [] mem _
    refine PW.iload_n rfl rfl dX6_depthOf_14 ?_
    refine PW.bipush (v := nI 9) (by decide) dX6_depthOf_15 ?_
    refine PW.icmp_eqN 38 (by decide) (by first | omega | (split <;> omega)) (by first | omega | (split <;> omega)) dX6_depthOf_17 (fun hc17 => ?_) (fun hc17 => by exfalso; omega)
    refine PW.iload_n rfl rfl dX6_depthOf_38 ?_
    refine PW.iret rfl (Nat.le_refl _) (Nat.le_refl _) dX6_depthOf_39 ?_
    exact ⟨by rw [← h1]; rfl, rfl⟩
set_option maxHeartbeats 4000000 in
theorem x_behindNight (hS : St b s sc mem) (he : e = 49 ∨ e = 72) (hX : XD mem e R) (hD : Dat R) {k u : Nat} (hk : k < R 0 0) (hu : u ≤ 5) : Rf 0 mX2_behindNight [.ref e, .int (nI k), .int (nI u)] mem (some (.int (nI (behN R u k)))) mem := by
  have h6 := hD.1
  obtain ⟨-, -, -, d10, d11, -⟩ := hD.2.2.2.2.1 k (by omega)
  obtain ⟨-, -, -, x8, x9⟩ := hX.2.2.2.2.1 k (by omega)
  by_cases h9 : R 10 k = 9
  · have e8 : iv mem (e + 8) k = -9 := by rw [x8, h9]; rfl
    have hb : behN R u k = k := by simp [behN, h9]
    refine Ret.of (by decide) (Nat.le_of_ble_eq_true rfl) fun l G => ?_
    show PW _ _ _ _ [(0, _), (1, _), (2, _)] _ _ _
    refine PW.aload_n rfl rfl dX2_behindNight_0 ?_
    refine PW.gR hS.1 (by have := he; omega) (skR10 he) fX2_33 dX2_behindNight_1 ?_
    refine PW.iload_n rfl rfl dX2_behindNight_4 ?_
    refine PW.aI hS.1 (by have := he; omega) (akR8 he) (by exact rfl) ⟨by omega, by decide⟩ (by first | exact e8 | exact rfl) dX2_behindNight_5 ?_
    refine PW.istore_n rfl (by decide) dX2_behindNight_6 (?_ : PW _ _ _ _ [(0, _), (1, _), (2, _), (3, _)] _ _ _)
    refine PW.iload_n rfl rfl dX2_behindNight_7 ?_
    refine PW.bipush (v := -9) (by decide) dX2_behindNight_8 ?_
    refine PW.icmp_eq 37 (by decide) dX2_behindNight_10 (fun hc10 => ?_) (fun hc10 => by exact absurd rfl hc10)
    refine PW.iload_n rfl rfl dX2_behindNight_37 ?_
    refine PW.iret rfl (Nat.le_refl _) (Nat.le_refl _) dX2_behindNight_38 ?_
    exact ⟨by rw [hb], rfl⟩
  · have hlt := d10.resolve_right h9
    have e8 : iv mem (e + 8) k = nI (R 10 k) := by rw [x8]; exact hI_lt (by omega)
    have h11 := d11 h9
    have h3 := (hD.2.2.2.1 _ hlt).2.1
    have ne9 : ¬ nI (R 10 k) = -9 := nI_ne9 (by omega)
    refine Ret.of (by decide) (Nat.le_of_ble_eq_true rfl) fun l G => ?_
    show PW _ _ _ _ [(0, _), (1, _), (2, _)] _ _ _
    refine PW.aload_n rfl rfl dX2_behindNight_0 ?_
    refine PW.gR hS.1 (by have := he; omega) (skR10 he) fX2_33 dX2_behindNight_1 ?_
    refine PW.iload_n rfl rfl dX2_behindNight_4 ?_
    refine PW.aI hS.1 (by have := he; omega) (akR8 he) (by exact rfl) ⟨by omega, by decide⟩ (by first | exact e8 | exact x9 h9 | exact (hX.2.2.2.1 _ hlt).1 | exact rfl) dX2_behindNight_5 ?_
    refine PW.istore_n rfl (by decide) dX2_behindNight_6 (?_ : PW _ _ _ _ [(0, _), (1, _), (2, _), (3, _)] _ _ _)
    refine PW.iload_n rfl rfl dX2_behindNight_7 ?_
    refine PW.bipush (v := -9) (by decide) dX2_behindNight_8 ?_
    refine PW.icmp_eq 37 (by decide) dX2_behindNight_10 (fun hc10 => by exact absurd hc10 ne9) (fun hc10 => ?_)
    refine PW.iload_n rfl rfl dX2_behindNight_13 ?_
    refine PW.aload_n rfl rfl dX2_behindNight_14 ?_
    refine PW.gR hS.1 (by have := he; omega) (skR11 he) fX2_36 dX2_behindNight_15 ?_
    refine PW.iload_n rfl rfl dX2_behindNight_18 ?_
    refine PW.aI hS.1 (by have := he; omega) (akR9 he) (by exact rfl) ⟨by omega, by decide⟩ (by first | exact e8 | exact x9 h9 | exact (hX.2.2.2.1 _ hlt).1 | exact rfl) dX2_behindNight_19 ?_
    refine PW.icmp_gtN 37 (by decide) (by first | omega | (split <;> omega)) (by first | omega | (split <;> omega)) dX2_behindNight_20 (fun hc20 => ?_) (fun hc20 => ?_)
    · refine PW.iload_n rfl rfl dX2_behindNight_37 ?_
      refine PW.iret rfl (Nat.le_refl _) (Nat.le_refl _) dX2_behindNight_38 ?_
      first | exact ⟨by rw [show behN R u k = k by unfold behN; rw [if_neg (by omega)]], rfl⟩ | exact ⟨by rw [show behN R u k = R 10 k by unfold behN; rw [if_pos (by omega)]], rfl⟩
    · refine PW.iload_n rfl rfl dX2_behindNight_23 ?_
      refine PW.aload_n rfl rfl dX2_behindNight_24 ?_
      refine PW.gR hS.1 (by have := he; omega) (skR3 he) fX2_9 dX2_behindNight_25 ?_
      refine PW.iload_n rfl rfl dX2_behindNight_28 ?_
      refine PW.aI hS.1 (by have := he; omega) (akR1 he) (by exact rfl) ⟨by omega, by decide⟩ (by first | exact e8 | exact x9 h9 | exact (hX.2.2.2.1 _ hlt).1 | exact rfl) dX2_behindNight_29 ?_
      refine PW.icmp_gtN 37 (by decide) (by first | omega | (split <;> omega)) (by first | omega | (split <;> omega)) dX2_behindNight_30 (fun hc30 => ?_) (fun hc30 => ?_)
      · refine PW.iload_n rfl rfl dX2_behindNight_37 ?_
        refine PW.iret rfl (Nat.le_refl _) (Nat.le_refl _) dX2_behindNight_38 ?_
        first | exact ⟨by rw [show behN R u k = k by unfold behN; rw [if_neg (by omega)]], rfl⟩ | exact ⟨by rw [show behN R u k = R 10 k by unfold behN; rw [if_pos (by omega)]], rfl⟩
      · refine PW.iload_n rfl rfl dX2_behindNight_33 ?_
        refine PW.goto 38 (by decide) dX2_behindNight_34 ?_
        refine PW.iret rfl (Nat.le_refl _) (Nat.le_refl _) dX2_behindNight_38 ?_
        first | exact ⟨by rw [show behN R u k = k by unfold behN; rw [if_neg (by omega)]], rfl⟩ | exact ⟨by rw [show behN R u k = R 10 k by unfold behN; rw [if_pos (by omega)]], rfl⟩
set_option maxHeartbeats 4000000 in
theorem x_behindNights (hS : St b s sc mem) (he : e = 49 ∨ e = 72) (hX : XD mem e R) (hD : Dat R) {k u n : Nat} (hk : k < R 0 0) (hu : u ≤ 5) (hn : n ≤ 20) : Rf 1 mX2_behindNights [.ref e, .int (nI k), .int (nI u), .int (nI n)] mem (some (.int (nI (behsN R u k n)))) mem := by
  have h6 := hD.1
  refine Ret.of (by decide) (Nat.le_of_ble_eq_true rfl) fun l G => ?_
  show PW _ _ _ _ [(0, _), (1, _), (2, _), (3, _)] _ _ _
  refine PW.iload_n rfl rfl dX2_behindNights_0 ?_
  refine PW.istore (by decide) dX2_behindNights_1 (?_ : PW _ _ _ _ [(0, _), (1, _), (2, _), (3, _), (4, _)] _ _ _)
  refine PW.iconst (v := nI 0) (by decide) dX2_behindNights_3 ?_
  refine PW.istore (by decide) dX2_behindNights_4 (?_ : PW _ _ _ _ [(0, _), (1, _), (2, _), (3, _), (4, _), (5, _)] _ _ _)
  refine PW.up (fun j => [(0, .ref e), (1, .int (nI k)), (2, .int (nI u)), (3, .int (nI n)), (4, .int (nI (behsN R u k j))), (5, .int (nI j))]) (fun _ => mem) n (fun j hj ih => ?_) ?_
  · refine PW.iload rfl dX2_behindNights_6 ?_
    refine PW.iload_n rfl rfl dX2_behindNights_8 ?_
    refine PW.icmp_geN 27 (by decide) (by first | omega | (split <;> omega)) (by first | omega | (split <;> omega)) dX2_behindNights_9 (fun hc9 => by exfalso; omega) (fun hc9 => ?_)
    refine PW.aload_n rfl rfl dX2_behindNights_12 ?_
    refine PW.iload rfl dX2_behindNights_13 ?_
    refine PW.iload_n rfl rfl dX2_behindNights_15 ?_
    refine PW.cV (ci := 2) (j := 0) _ hS.1 (by have := he; omega) (skR0 he) kX2_121 (x_behindNight hS he hX hD (behsN_lt hD hk j) hu) rfl rfl (Nat.le_of_ble_eq_true rfl) rfl ⟨by decide, by decide⟩ ⟨Nat.zero_le _, Nat.zero_le _⟩ dX2_behindNights_16 ?_
    refine PW.istore (by decide) dX2_behindNights_19 (?_ : PW _ _ _ _ [(0, _), (1, _), (2, _), (3, _), (4, _), (5, _)] _ _ _)
    refine PW.iincN rfl (by decide) dX2_behindNights_21 (?_ : PW _ _ _ _ [(0, _), (1, _), (2, _), (3, _), (4, _), (5, _)] _ _ _)
    refine PW.goto 6 (by decide) dX2_behindNights_24 ?_
    exact ih
  · refine PW.iload rfl dX2_behindNights_6 ?_
    refine PW.iload_n rfl rfl dX2_behindNights_8 ?_
    refine PW.icmp_geN 27 (by decide) (by first | omega | (split <;> omega)) (by first | omega | (split <;> omega)) dX2_behindNights_9 (fun hc9 => ?_) (fun hc9 => by exfalso; omega)
    refine PW.iload rfl dX2_behindNights_27 ?_
    refine PW.iret rfl (Nat.le_refl _) (Nat.le_refl _) dX2_behindNights_29 ?_
    exact ⟨rfl, rfl⟩
end MORE
