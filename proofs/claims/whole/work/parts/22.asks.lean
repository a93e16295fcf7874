/-! ===== type, clear, count, trace, letsIn, fixed, thing, pocket: class and model ===== -/
def pick (l : List Int32) (x : Int32) : Int32 := if inR x l.length then l.getD (cl x) (-1) else -1
theorem pick_nI {l : List Int32} {j : Nat} (hj : j < l.length) (hl : l.length < 100) : pick l (nI j) = l.getD j (-1) := by
  unfold pick
  rw [if_pos (inR_nI hj (by omega)), cl_nI (by omega)]
theorem pick_no {l : List Int32} {x : Int32} (h : inR x l.length = false) : pick l x = -1 := by
  unfold pick
  rw [h]
  rfl
theorem inR_out {x : Int32} {n : Nat} {lo hi : Int} (h : inR x n = false) (h0 : lo = 0) (h1 : hi = (n : Int) - 1) : x.toInt < lo ∨ hi < x.toInt := by
  have := of_decide_eq_false h
  omega
theorem inR_no {x : Int32} {n j : Nat} (h : inR x n = false) (hj : j < n) (hn : n < 2 ^ 31) : ¬ x = nI j := fun q => by
  rw [q, inR_nI hj hn] at h
  cases h
def bitN (f : Nat → Bool) : Nat → Nat
  | 0 => 0
  | n + 1 => if f n then bitN f n ||| 2 ^ n else bitN f n
theorem bitN_lt (f : Nat → Bool) : ∀ n, bitN f n < 2 ^ n
  | 0 => Nat.zero_lt_one
  | n + 1 => by
    have ih := bitN_lt f n
    unfold bitN
    split
    · exact or2_lt ih
    · exact Nat.lt_of_lt_of_le ih (Nat.pow_le_pow_right (by decide) (Nat.le_succ n))
theorem bitN_bit (f : Nat → Bool) : ∀ n s, (bitN f n).testBit s = (decide (s < n) && f s)
  | 0, s => by simp [bitN]
  | n + 1, s => by
    have ih := bitN_bit f n s
    unfold bitN
    by_cases hs : s = n
    · subst hs
      by_cases h : f s = true
      · rw [if_pos h, Nat.testBit_or, Nat.testBit_two_pow_self]
        simp [h]
      · rw [if_neg h, ih]
        simp [h]
    · have hd : decide (s < n + 1) = decide (s < n) := by
        by_cases h : s < n
        · rw [decide_eq_true h, decide_eq_true (show s < n + 1 by omega)]
        · rw [decide_eq_false h, decide_eq_false (show ¬ s < n + 1 by omega)]
      rw [hd]
      by_cases h : f n = true
      · rw [if_pos h, Nat.testBit_or, ih, Nat.testBit_two_pow_of_ne (fun e => hs e.symm)]
        simp
      · rw [if_neg h, ih]
theorem bitN_self {a n : Nat} (h : a < 2 ^ n) : bitN a.testBit n = a := by
  refine Nat.eq_of_testBit_eq fun i => ?_
  rw [bitN_bit]
  by_cases hi : i < n
  · rw [decide_eq_true hi, Bool.true_and]
  · rw [decide_eq_false hi, Bool.false_and, Nat.testBit_lt_two_pow (Nat.lt_of_lt_of_le h (Nat.pow_le_pow_right (by decide) (by omega)))]
/-- the text of the class and of the model -/
def TX (mem : pw_M) (L : Nat) (f : Nat → Nat) : Prop := fi mem 10 2 = nI L ∧ ∀ i, i < L → iv mem 11 i = nI (f i)
def TM (mem : pw_M) (L : Nat) (f : Nat → Nat) : Prop := fi mem 95 1 = nI L ∧ ∀ i, i < L → iv mem 96 i = nI (f i)
def tset (f : Nat → Nat) (L x : Nat) : Nat → Nat := fun i => if i = L then x else f i
theorem TX.ag {mem m : pw_M} {L : Nat} {f : Nat → Nat} {A : Nat → Prop} (h : TX mem L f) (hA : Ag A mem m) (h0 : A 10) (h1 : A 11) : TX m L f :=
  ⟨by rw [hA.fi h0]; exact h.1, fun i hi => by rw [hA.iv h1]; exact h.2 i hi⟩
theorem TM.ag2 {mem m : pw_M} {L : Nat} {f : Nat → Nat} (h : TM mem L f) (h1 : fi m 95 1 = fi mem 95 1) (h6 : ∀ q, iv m 96 q = iv mem 96 q) : TM m L f :=
  ⟨by rw [h1]; exact h.1, fun i hi => by rw [h6]; exact h.2 i hi⟩
section ASKS
variable {b s : Nat} {sc : pw_E} {mem : pw_M} {R : DR} {w : Nat → Nat} {p : Int32} {d : Nat} {e n K T L : Nat} {f : Nat → Nat}
set_option maxHeartbeats 4000000 in
theorem x_type_bad (hS : St b s sc mem) (i : Int32) (hc : inR i 256 = false) : Rf 2 mX5_type [.ref 9, .int i] mem (some (.int (-1))) mem := by
  refine Ret.of (by decide) (Nat.le_of_ble_eq_true rfl) fun l G => ?_
  show PW _ _ _ _ [(0, _), (1, _)] _ _ _
  refine PW.iload_n rfl rfl dX5_type_0 ?_
  refine PW.iconst (v := nI 0) (by decide) dX5_type_1 ?_
  refine PW.sipush (v := nI 255) (by decide) dX5_type_2 ?_
  refine PW.cS _ kX5_71 (x_inR i (h := 255) (by decide) mem) rfl rfl (Nat.le_of_ble_eq_true rfl) ⟨by decide, by decide⟩ ⟨Nat.zero_le _, Nat.zero_le _⟩ dX5_type_5 ?_
  refine PW.if_neB 13 (by decide) dX5_type_8 (fun hc8 => by (rw [hc] at hc8; cases hc8)) (fun hc8 => ?_)
  refine PW.iconst (v := -1) (by decide) dX5_type_11 ?_
  refine PW.iret rfl (Nat.le_refl _) (Nat.le_refl _) dX5_type_12 ?_
  exact ⟨rfl, rfl⟩
set_option maxHeartbeats 4000000 in
theorem x_type_no (hS : St b s sc mem) (hX : TX mem 200 f) {i : Nat} (hi : i < 256) : Rf 2 mX5_type [.ref 9, .int (nI i)] mem (some (.int (-3))) mem := by
  refine Ret.of (by decide) (Nat.le_of_ble_eq_true rfl) fun l G => ?_
  show PW _ _ _ _ [(0, _), (1, _)] _ _ _
  refine PW.iload_n rfl rfl dX5_type_0 ?_
  refine PW.iconst (v := nI 0) (by decide) dX5_type_1 ?_
  refine PW.sipush (v := nI 255) (by decide) dX5_type_2 ?_
  refine PW.cS _ kX5_71 (x_inR (nI i) (h := 255) (by decide) mem) rfl rfl (Nat.le_of_ble_eq_true rfl) ⟨by decide, by decide⟩ ⟨Nat.zero_le _, Nat.zero_le _⟩ dX5_type_5 ?_
  refine PW.if_neB 13 (by decide) dX5_type_8 (fun hc8 => ?_) (fun hc8 => by (first | (exfalso; omega) | (rw [inR_nI (by omega) (by decide)] at hc8; cases hc8)))
  refine PW.aload_n rfl rfl dX5_type_13 ?_
  refine PW.gR hS.1 (by decide) rfl fX5_10 dX5_type_14 ?_
  refine PW.gI hS.1 (by decide) rfl (hX.1) fX5_75 dX5_type_17 ?_
  refine PW.sipush (v := nI 200) (by decide) dX5_type_20 ?_
  refine PW.icmp_ltN 29 (by decide) (by first | omega | (split <;> omega)) (by first | omega | (split <;> omega)) dX5_type_23 (fun hc23 => by (first | (exfalso; omega) | (rw [inR_nI (by omega) (by decide)] at hc23; cases hc23))) (fun hc23 => ?_)
  refine PW.bipush (v := -3) (by decide) dX5_type_26 ?_
  refine PW.iret rfl (Nat.le_refl _) (Nat.le_refl _) dX5_type_28 ?_
  exact ⟨rfl, rfl⟩
set_option maxHeartbeats 4000000 in
theorem x_type_ok (hS : St b s sc mem) (hX : TX mem L f) (hL : L < 200) {i : Nat} (hi : i < 256) : Ret 2 0 0 mX5_type [.ref 9, .int (nI i)] mem (fun u m1 => u = some (.int (nI (L + 1))) ∧ St b s sc m1 ∧ Ag (fun q => q ≠ 10 ∧ q ≠ 11) mem m1 ∧ TX m1 (L + 1) (tset f L i)) := by
  refine Ret.of (by decide) (Nat.le_of_ble_eq_true rfl) fun l G => ?_
  show PW _ _ _ _ [(0, _), (1, _)] _ _ _
  refine PW.iload_n rfl rfl dX5_type_0 ?_
  refine PW.iconst (v := nI 0) (by decide) dX5_type_1 ?_
  refine PW.sipush (v := nI 255) (by decide) dX5_type_2 ?_
  refine PW.cS _ kX5_71 (x_inR (nI i) (h := 255) (by decide) mem) rfl rfl (Nat.le_of_ble_eq_true rfl) ⟨by decide, by decide⟩ ⟨Nat.zero_le _, Nat.zero_le _⟩ dX5_type_5 ?_
  refine PW.if_neB 13 (by decide) dX5_type_8 (fun hc8 => ?_) (fun hc8 => by (first | (exfalso; omega) | (rw [inR_nI (by omega) (by decide)] at hc8; cases hc8)))
  refine PW.aload_n rfl rfl dX5_type_13 ?_
  refine PW.gR hS.1 (by decide) rfl fX5_10 dX5_type_14 ?_
  refine PW.gI hS.1 (by decide) rfl (hX.1) fX5_75 dX5_type_17 ?_
  refine PW.sipush (v := nI 200) (by decide) dX5_type_20 ?_
  refine PW.icmp_ltN 29 (by decide) (by first | omega | (split <;> omega)) (by first | omega | (split <;> omega)) dX5_type_23 (fun hc23 => ?_) (fun hc23 => by (first | (exfalso; omega) | (rw [inR_nI (by omega) (by decide)] at hc23; cases hc23)))
  refine PW.aload_n rfl rfl dX5_type_29 ?_
  refine PW.gR hS.1 (by decide) rfl fX5_10 dX5_type_30 ?_
  refine PW.gR hS.1 (by decide) rfl fX5_79 dX5_type_33 ?_
  refine PW.aload_n rfl rfl dX5_type_36 ?_
  refine PW.gR hS.1 (by decide) rfl fX5_10 dX5_type_37 ?_
  refine PW.gI hS.1 (by decide) rfl (hX.1) fX5_75 dX5_type_40 ?_
  refine PW.iload_n rfl rfl dX5_type_43 ?_
  refine PW.uI hS (by decide) rfl (by exact rfl) ⟨by omega, by decide⟩ dX5_type_44 (fun hS hw44 => ?_)
  refine PW.aload_n rfl rfl dX5_type_45 ?_
  refine PW.gR hS.1 (by decide) rfl fX5_10 dX5_type_46 ?_
  refine PW.dup rfl dX5_type_49 ?_
  refine PW.gI hS.1 (by decide) rfl (fi_wI.trans hX.1) fX5_75 dX5_type_50 ?_
  refine PW.iconst (v := nI 1) (by decide) dX5_type_53 ?_
  refine PW.iaddN dX5_type_54 ?_
  refine PW.tI hS (by decide) rfl pX5_75 dX5_type_55 (fun hS hw55 => ?_)
  refine PW.aload_n rfl rfl dX5_type_58 ?_
  refine PW.gR hS.1 (by decide) rfl fX5_10 dX5_type_59 ?_
  refine PW.gI hS.1 (by decide) rfl (hw55) fX5_75 dX5_type_62 ?_
  refine PW.iret rfl (Nat.le_refl _) (Nat.le_refl _) dX5_type_65 ?_
  refine ⟨rfl, hS, (Ag.wI (fun h => h.2 rfl)).tr (Ag.wF (fun h => h.1 rfl)), hw55, fun j hj => ?_⟩
  rw [iv_wF, hw44]
  unfold tset
  split
  · rfl
  · exact hX.2 j (by omega)
set_option maxHeartbeats 4000000 in
theorem m_type_bad (hS : St b s sc mem) (i : Int32) (hc : inR i 256 = false) : Rf 2 mX6_type [.ref 95, .int i] mem (some (.int (-1))) mem := by
  refine Ret.of (by decide) (Nat.le_of_ble_eq_true rfl) fun l G => ?_
  show PW _ _ _ _ [(0, _), (1, _)] _ _ _
  refine PW.iload_n rfl rfl dX6_type_0 ?_
  refine PW.i2l dX6_type_1 ?_
  refine PW.lconst (v := 0) (by decide) dX6_type_2 ?_
  refine PW.ldc2 cX6_89 dX6_type_3 ?_
  refine PW.cS _ kX6_82 (m_inR i (h := 255) (n := 256) rfl mem) rfl rfl (Nat.le_of_ble_eq_true rfl) ⟨by decide, by decide⟩ ⟨Nat.zero_le _, Nat.zero_le _⟩ dX6_type_6 ?_
  refine PW.if_neB 14 (by decide) dX6_type_9 (fun hc9 => by (rw [hc] at hc9; cases hc9)) (fun hc9 => ?_)
  refine PW.iconst (v := -1) (by decide) dX6_type_12 ?_
  refine PW.iret rfl (Nat.le_refl _) (Nat.le_refl _) dX6_type_13 ?_
  exact ⟨rfl, rfl⟩
set_option maxHeartbeats 4000000 in
theorem m_type_no (hS : St b s sc mem) (hX : TM mem 200 f) {i : Nat} (hi : i < 256) : Rf 2 mX6_type [.ref 95, .int (nI i)] mem (some (.int (-3))) mem := by
  refine Ret.of (by decide) (Nat.le_of_ble_eq_true rfl) fun l G => ?_
  show PW _ _ _ _ [(0, _), (1, _)] _ _ _
  refine PW.iload_n rfl rfl dX6_type_0 ?_
  refine PW.i2l dX6_type_1 ?_
  refine PW.lconst (v := 0) (by decide) dX6_type_2 ?_
  refine PW.ldc2 cX6_89 dX6_type_3 ?_
  refine PW.cS _ kX6_82 (m_inR (nI i) (h := 255) (n := 256) rfl mem) rfl rfl (Nat.le_of_ble_eq_true rfl) ⟨by decide, by decide⟩ ⟨Nat.zero_le _, Nat.zero_le _⟩ dX6_type_6 ?_
  refine PW.if_neB 14 (by decide) dX6_type_9 (fun hc9 => ?_) (fun hc9 => by (first | (exfalso; omega) | (rw [inR_nI (by omega) (by decide)] at hc9; cases hc9)))
  refine PW.aload_n rfl rfl dX6_type_14 ?_
  refine PW.gI hS.1 (by decide) rfl (hX.1) fX6_91 dX6_type_15 ?_
  refine PW.sipush (v := nI 200) (by decide) dX6_type_18 ?_
  refine PW.icmp_neN 27 (by decide) (by first | omega | (split <;> omega)) (by first | omega | (split <;> omega)) dX6_type_21 (fun hc21 => by (first | (exfalso; omega) | (rw [inR_nI (by omega) (by decide)] at hc21; cases hc21))) (fun hc21 => ?_)
  refine PW.bipush (v := -3) (by decide) dX6_type_24 ?_
  refine PW.iret rfl (Nat.le_refl _) (Nat.le_refl _) dX6_type_26 ?_
  exact ⟨rfl, rfl⟩
set_option maxHeartbeats 4000000 in
theorem m_type_ok (hS : St b s sc mem) (hX : TM mem L f) (hL : L < 200) {i : Nat} (hi : i < 256) : Ret 2 0 0 mX6_type [.ref 95, .int (nI i)] mem (fun u m1 => u = some (.int (nI (L + 1))) ∧ St b s sc m1 ∧ Ag (fun q => q ≠ 95 ∧ q ≠ 96) mem m1 ∧ (∀ j, j ≠ 1 → fv m1 95 j = fv mem 95 j) ∧ TM m1 (L + 1) (tset f L i)) := by
  refine Ret.of (by decide) (Nat.le_of_ble_eq_true rfl) fun l G => ?_
  show PW _ _ _ _ [(0, _), (1, _)] _ _ _
  refine PW.iload_n rfl rfl dX6_type_0 ?_
  refine PW.i2l dX6_type_1 ?_
  refine PW.lconst (v := 0) (by decide) dX6_type_2 ?_
  refine PW.ldc2 cX6_89 dX6_type_3 ?_
  refine PW.cS _ kX6_82 (m_inR (nI i) (h := 255) (n := 256) rfl mem) rfl rfl (Nat.le_of_ble_eq_true rfl) ⟨by decide, by decide⟩ ⟨Nat.zero_le _, Nat.zero_le _⟩ dX6_type_6 ?_
  refine PW.if_neB 14 (by decide) dX6_type_9 (fun hc9 => ?_) (fun hc9 => by (first | (exfalso; omega) | (rw [inR_nI (by omega) (by decide)] at hc9; cases hc9)))
  refine PW.aload_n rfl rfl dX6_type_14 ?_
  refine PW.gI hS.1 (by decide) rfl (hX.1) fX6_91 dX6_type_15 ?_
  refine PW.sipush (v := nI 200) (by decide) dX6_type_18 ?_
  refine PW.icmp_neN 27 (by decide) (by first | omega | (split <;> omega)) (by first | omega | (split <;> omega)) dX6_type_21 (fun hc21 => ?_) (fun hc21 => by (first | (exfalso; omega) | (rw [inR_nI (by omega) (by decide)] at hc21; cases hc21)))
  refine PW.aload_n rfl rfl dX6_type_27 ?_
  refine PW.gR hS.1 (by decide) rfl fX6_7 dX6_type_28 ?_
  refine PW.aload_n rfl rfl dX6_type_31 ?_
  refine PW.gI hS.1 (by decide) rfl (hX.1) fX6_91 dX6_type_32 ?_
  refine PW.iload_n rfl rfl dX6_type_35 ?_
  refine PW.uI hS (by decide) rfl (by exact rfl) ⟨by omega, by decide⟩ dX6_type_36 (fun hS hw36 => ?_)
  refine PW.aload_n rfl rfl dX6_type_37 ?_
  refine PW.dup rfl dX6_type_38 ?_
  refine PW.gI hS.1 (by decide) rfl (fi_wI.trans hX.1) fX6_91 dX6_type_39 ?_
  refine PW.iconst (v := nI 1) (by decide) dX6_type_42 ?_
  refine PW.iaddN dX6_type_43 ?_
  refine PW.tI hS (by decide) rfl pX6_91 dX6_type_44 (fun hS hw44 => ?_)
  refine PW.aload_n rfl rfl dX6_type_47 ?_
  refine PW.gI hS.1 (by decide) rfl (hw44) fX6_91 dX6_type_48 ?_
  refine PW.iret rfl (Nat.le_refl _) (Nat.le_refl _) dX6_type_51 ?_
  refine ⟨rfl, hS, (Ag.wI (fun h => h.2 rfl)).tr (Ag.wF (fun h => h.1 rfl)), fun j hj => by rw [fv_wF_ne (Or.inr hj), fv_wI], hw44, fun j hj => ?_⟩
  rw [iv_wF, hw36]
  unfold tset
  split
  · rfl
  · exact hX.2 j (by omega)
set_option maxHeartbeats 4000000 in
theorem x_clear (hS : St b s sc mem) (hX : TX mem L f) : Ret 2 0 0 mX5_clear [.ref 9] mem (fun u m1 => u = some (.int (nI L)) ∧ St b s sc m1 ∧ Ag (fun q => q ≠ 10) mem m1 ∧ TX m1 0 f) := by
  refine Ret.of (by decide) (Nat.le_of_ble_eq_true rfl) fun l G => ?_
  show PW _ _ _ _ [(0, _)] _ _ _
  refine PW.aload_n rfl rfl dX5_clear_0 ?_
  refine PW.gR hS.1 (by decide) rfl fX5_10 dX5_clear_1 ?_
  refine PW.gI hS.1 (by decide) rfl (hX.1) fX5_75 dX5_clear_4 ?_
  refine PW.istore_n rfl (by decide) dX5_clear_7 (?_ : PW _ _ _ _ [(0, _), (1, _)] _ _ _)
  refine PW.aload_n rfl rfl dX5_clear_8 ?_
  refine PW.gR hS.1 (by decide) rfl fX5_10 dX5_clear_9 ?_
  refine PW.iconst (v := nI 0) (by decide) dX5_clear_12 ?_
  refine PW.tI hS (by decide) rfl pX5_75 dX5_clear_13 (fun hS hw13 => ?_)
  refine PW.iload_n rfl rfl dX5_clear_16 ?_
  refine PW.iret rfl (Nat.le_refl _) (Nat.le_refl _) dX5_clear_17 ?_
  exact ⟨rfl, hS, Ag.wF (fun h => h rfl), hw13, fun j hj => absurd hj (Nat.not_lt_zero _)⟩
set_option maxHeartbeats 4000000 in
theorem m_clear (hS : St b s sc mem) (hX : TM mem L f) : Ret 2 0 0 mX6_clear [.ref 95] mem (fun u m1 => u = some (.int (nI L)) ∧ St b s sc m1 ∧ Ag (fun q => q ≠ 95) mem m1 ∧ (∀ j, j ≠ 1 → fv m1 95 j = fv mem 95 j) ∧ TM m1 0 f) := by
  refine Ret.of (by decide) (Nat.le_of_ble_eq_true rfl) fun l G => ?_
  show PW _ _ _ _ [(0, _)] _ _ _
  refine PW.aload_n rfl rfl dX6_clear_0 ?_
  refine PW.gI hS.1 (by decide) rfl (hX.1) fX6_91 dX6_clear_1 ?_
  refine PW.istore_n rfl (by decide) dX6_clear_4 (?_ : PW _ _ _ _ [(0, _), (1, _)] _ _ _)
  refine PW.aload_n rfl rfl dX6_clear_5 ?_
  refine PW.iconst (v := nI 0) (by decide) dX6_clear_6 ?_
  refine PW.tI hS (by decide) rfl pX6_91 dX6_clear_7 (fun hS hw7 => ?_)
  refine PW.iload_n rfl rfl dX6_clear_10 ?_
  refine PW.iret rfl (Nat.le_refl _) (Nat.le_refl _) dX6_clear_11 ?_
  exact ⟨rfl, hS, Ag.wF (fun h => h rfl), fun j hj => fv_wF_ne (Or.inr hj), hw7, fun j hj => absurd hj (Nat.not_lt_zero _)⟩
def countS (R : DR) (L : Nat) (x : Int32) : Int32 := pick [nI (R 0 0), nI (R 1 0), nI (R 2 0), nI L] x
set_option maxHeartbeats 4000000 in
theorem x_count (hS : St b s sc mem) (hX : XD mem b R) (hT : TX mem L f) (x : Int32) : Rf 2 mX5_count [.ref 9, .int x] mem (some (.int (countS R L x))) mem := by
  by_cases hx : inR x 4 = true
  · obtain ⟨j, hj, rfl⟩ := inR_of hx
    rcases (show j = 0 ∨ j = 1 ∨ j = 2 ∨ j = 3 by omega) with rfl | rfl | rfl | rfl
    · refine Ret.of (by decide) (Nat.le_of_ble_eq_true rfl) fun l G => ?_
      show PW _ _ _ _ [(0, _), (1, _)] _ _ _
      refine PW.iload_n rfl rfl dX5_count_0 ?_
      refine PW.tableIn (off := 31) 32 (by decide) (by decide) (by decide) (by decide) dX5_count_1 ?_
      refine PW.aload_n rfl rfl dX5_count_32 ?_
      refine PW.gV hS.1 (by decide) rfl hS.2.1 fX5_58 dX5_count_33 ?_
      refine PW.gI hS.1 (by have := hS.b; omega) (skR0 hS.b) (by first | exact hX.1 | exact hX.2.1 | exact hX.2.2.1 | exact hT.1 | exact rfl) fX5_206 dX5_count_36 ?_
      refine PW.iret rfl (Nat.le_refl _) (Nat.le_refl _) dX5_count_39 ?_
      exact ⟨rfl, rfl⟩
    · refine Ret.of (by decide) (Nat.le_of_ble_eq_true rfl) fun l G => ?_
      show PW _ _ _ _ [(0, _), (1, _)] _ _ _
      refine PW.iload_n rfl rfl dX5_count_0 ?_
      refine PW.tableIn (off := 39) 40 (by decide) (by decide) (by decide) (by decide) dX5_count_1 ?_
      refine PW.aload_n rfl rfl dX5_count_40 ?_
      refine PW.gV hS.1 (by decide) rfl hS.2.1 fX5_58 dX5_count_41 ?_
      refine PW.gI hS.1 (by have := hS.b; omega) (skR1 hS.b) (by first | exact hX.1 | exact hX.2.1 | exact hX.2.2.1 | exact hT.1 | exact rfl) fX5_177 dX5_count_44 ?_
      refine PW.iret rfl (Nat.le_refl _) (Nat.le_refl _) dX5_count_47 ?_
      exact ⟨rfl, rfl⟩
    · refine Ret.of (by decide) (Nat.le_of_ble_eq_true rfl) fun l G => ?_
      show PW _ _ _ _ [(0, _), (1, _)] _ _ _
      refine PW.iload_n rfl rfl dX5_count_0 ?_
      refine PW.tableIn (off := 47) 48 (by decide) (by decide) (by decide) (by decide) dX5_count_1 ?_
      refine PW.aload_n rfl rfl dX5_count_48 ?_
      refine PW.gV hS.1 (by decide) rfl hS.2.1 fX5_58 dX5_count_49 ?_
      refine PW.gI hS.1 (by have := hS.b; omega) (skR2 hS.b) (by first | exact hX.1 | exact hX.2.1 | exact hX.2.2.1 | exact hT.1 | exact rfl) fX5_257 dX5_count_52 ?_
      refine PW.iret rfl (Nat.le_refl _) (Nat.le_refl _) dX5_count_55 ?_
      exact ⟨rfl, rfl⟩
    · refine Ret.of (by decide) (Nat.le_of_ble_eq_true rfl) fun l G => ?_
      show PW _ _ _ _ [(0, _), (1, _)] _ _ _
      refine PW.iload_n rfl rfl dX5_count_0 ?_
      refine PW.tableIn (off := 55) 56 (by decide) (by decide) (by decide) (by decide) dX5_count_1 ?_
      refine PW.aload_n rfl rfl dX5_count_56 ?_
      refine PW.gR hS.1 (by decide) rfl fX5_10 dX5_count_57 ?_
      refine PW.gI hS.1 (by decide) rfl (by first | exact hX.1 | exact hX.2.1 | exact hX.2.2.1 | exact hT.1 | exact rfl) fX5_75 dX5_count_60 ?_
      refine PW.iret rfl (Nat.le_refl _) (Nat.le_refl _) dX5_count_63 ?_
      exact ⟨rfl, rfl⟩
  · have hx' := Bool.eq_false_iff.mpr hx
    have hsw : x.toInt < 0 ∨ 3 < x.toInt := inR_out hx' rfl rfl
    refine Ret.of (by decide) (Nat.le_of_ble_eq_true rfl) fun l G => ?_
    show PW _ _ _ _ [(0, _), (1, _)] _ _ _
    refine PW.iload_n rfl rfl dX5_count_0 ?_
    refine PW.tableOut 64 hsw (by decide) dX5_count_1 ?_
    refine PW.iconst (v := -1) (by decide) dX5_count_64 ?_
    refine PW.iret rfl (Nat.le_refl _) (Nat.le_refl _) dX5_count_65 ?_
    exact ⟨by rw [countS, pick_no hx'], rfl⟩
set_option maxHeartbeats 4000000 in
theorem m_count (hS : St b s sc mem) (hM : MD mem R) (hT : TM mem L f) (x : Int32) : Rf 2 mX6_count [.ref 95, .int x] mem (some (.int (countS R L x))) mem := by
  by_cases hx : inR x 4 = true
  · obtain ⟨j, hj, rfl⟩ := inR_of hx
    rcases (show j = 0 ∨ j = 1 ∨ j = 2 ∨ j = 3 by omega) with rfl | rfl | rfl | rfl
    · refine Ret.of (by decide) (Nat.le_of_ble_eq_true rfl) fun l G => ?_
      show PW _ _ _ _ [(0, _), (1, _)] _ _ _
      refine PW.iload_n rfl rfl dX6_count_0 ?_
      refine PW.if_ne 11 (by decide) dX6_count_1 (fun hc1 => ?_) (fun hc1 => ?_)
      · refine PW.iload_n rfl rfl dX6_count_11 ?_
        refine PW.iconst (v := nI 1) (by decide) dX6_count_12 ?_
        refine PW.icmp_ne 23 (by decide) dX6_count_13 (fun hc13 => ?_) (fun hc13 => ?_)
        · refine PW.iload_n rfl rfl dX6_count_23 ?_
          refine PW.iconst (v := nI 2) (by decide) dX6_count_24 ?_
          refine PW.icmp_ne 35 (by decide) dX6_count_25 (fun hc25 => ?_) (fun hc25 => ?_)
          · refine PW.iload_n rfl rfl dX6_count_35 ?_
            refine PW.iconst (v := nI 3) (by decide) dX6_count_36 ?_
            refine PW.icmp_ne 47 (by decide) dX6_count_37 (fun hc37 => ?_) (fun hc37 => ?_)
            · refine PW.iconst (v := -1) (by decide) dX6_count_47 ?_
              refine PW.iret rfl (Nat.le_refl _) (Nat.le_refl _) dX6_count_48 ?_
              first | exact ⟨rfl, rfl⟩ | exact absurd hc1 (by decide) | exact absurd hc13 (by decide) | exact absurd hc25 (by decide) | exact absurd hc37 (by decide)
            · refine PW.aload_n rfl rfl dX6_count_40 ?_
              refine PW.gI hS.1 (by decide) rfl (by first | exact hM.1 | exact hM.2.1 | exact hM.2.2.1 | exact hT.1 | exact rfl) fX6_91 dX6_count_41 ?_
              refine PW.goto 48 (by decide) dX6_count_44 ?_
              refine PW.iret rfl (Nat.le_refl _) (Nat.le_refl _) dX6_count_48 ?_
              first | exact ⟨rfl, rfl⟩ | exact absurd hc1 (by decide) | exact absurd hc13 (by decide) | exact absurd hc25 (by decide) | exact absurd hc37 (by decide)
          · refine PW.aload_n rfl rfl dX6_count_28 ?_
            refine PW.gI hS.1 (by decide) rfl (by first | exact hM.1 | exact hM.2.1 | exact hM.2.2.1 | exact hT.1 | exact rfl) fX6_159 dX6_count_29 ?_
            refine PW.goto 48 (by decide) dX6_count_32 ?_
            refine PW.iret rfl (Nat.le_refl _) (Nat.le_refl _) dX6_count_48 ?_
            first | exact ⟨rfl, rfl⟩ | exact absurd hc1 (by decide) | exact absurd hc13 (by decide) | exact absurd hc25 (by decide) | exact absurd hc37 (by decide)
        · refine PW.aload_n rfl rfl dX6_count_16 ?_
          refine PW.gI hS.1 (by decide) rfl (by first | exact hM.1 | exact hM.2.1 | exact hM.2.2.1 | exact hT.1 | exact rfl) fX6_86 dX6_count_17 ?_
          refine PW.goto 48 (by decide) dX6_count_20 ?_
          refine PW.iret rfl (Nat.le_refl _) (Nat.le_refl _) dX6_count_48 ?_
          first | exact ⟨rfl, rfl⟩ | exact absurd hc1 (by decide) | exact absurd hc13 (by decide) | exact absurd hc25 (by decide) | exact absurd hc37 (by decide)
      · refine PW.aload_n rfl rfl dX6_count_4 ?_
        refine PW.gI hS.1 (by decide) rfl (by first | exact hM.1 | exact hM.2.1 | exact hM.2.2.1 | exact hT.1 | exact rfl) fX6_78 dX6_count_5 ?_
        refine PW.goto 48 (by decide) dX6_count_8 ?_
        refine PW.iret rfl (Nat.le_refl _) (Nat.le_refl _) dX6_count_48 ?_
        first | exact ⟨rfl, rfl⟩ | exact absurd hc1 (by decide) | exact absurd hc13 (by decide) | exact absurd hc25 (by decide) | exact absurd hc37 (by decide)
    · refine Ret.of (by decide) (Nat.le_of_ble_eq_true rfl) fun l G => ?_
      show PW _ _ _ _ [(0, _), (1, _)] _ _ _
      refine PW.iload_n rfl rfl dX6_count_0 ?_
      refine PW.if_ne 11 (by decide) dX6_count_1 (fun hc1 => ?_) (fun hc1 => ?_)
      · refine PW.iload_n rfl rfl dX6_count_11 ?_
        refine PW.iconst (v := nI 1) (by decide) dX6_count_12 ?_
        refine PW.icmp_ne 23 (by decide) dX6_count_13 (fun hc13 => ?_) (fun hc13 => ?_)
        · refine PW.iload_n rfl rfl dX6_count_23 ?_
          refine PW.iconst (v := nI 2) (by decide) dX6_count_24 ?_
          refine PW.icmp_ne 35 (by decide) dX6_count_25 (fun hc25 => ?_) (fun hc25 => ?_)
          · refine PW.iload_n rfl rfl dX6_count_35 ?_
            refine PW.iconst (v := nI 3) (by decide) dX6_count_36 ?_
            refine PW.icmp_ne 47 (by decide) dX6_count_37 (fun hc37 => ?_) (fun hc37 => ?_)
            · refine PW.iconst (v := -1) (by decide) dX6_count_47 ?_
              refine PW.iret rfl (Nat.le_refl _) (Nat.le_refl _) dX6_count_48 ?_
              first | exact ⟨rfl, rfl⟩ | exact absurd hc1 (by decide) | exact absurd hc13 (by decide) | exact absurd hc25 (by decide) | exact absurd hc37 (by decide)
            · refine PW.aload_n rfl rfl dX6_count_40 ?_
              refine PW.gI hS.1 (by decide) rfl (by first | exact hM.1 | exact hM.2.1 | exact hM.2.2.1 | exact hT.1 | exact rfl) fX6_91 dX6_count_41 ?_
              refine PW.goto 48 (by decide) dX6_count_44 ?_
              refine PW.iret rfl (Nat.le_refl _) (Nat.le_refl _) dX6_count_48 ?_
              first | exact ⟨rfl, rfl⟩ | exact absurd hc1 (by decide) | exact absurd hc13 (by decide) | exact absurd hc25 (by decide) | exact absurd hc37 (by decide)
          · refine PW.aload_n rfl rfl dX6_count_28 ?_
            refine PW.gI hS.1 (by decide) rfl (by first | exact hM.1 | exact hM.2.1 | exact hM.2.2.1 | exact hT.1 | exact rfl) fX6_159 dX6_count_29 ?_
            refine PW.goto 48 (by decide) dX6_count_32 ?_
            refine PW.iret rfl (Nat.le_refl _) (Nat.le_refl _) dX6_count_48 ?_
            first | exact ⟨rfl, rfl⟩ | exact absurd hc1 (by decide) | exact absurd hc13 (by decide) | exact absurd hc25 (by decide) | exact absurd hc37 (by decide)
        · refine PW.aload_n rfl rfl dX6_count_16 ?_
          refine PW.gI hS.1 (by decide) rfl (by first | exact hM.1 | exact hM.2.1 | exact hM.2.2.1 | exact hT.1 | exact rfl) fX6_86 dX6_count_17 ?_
          refine PW.goto 48 (by decide) dX6_count_20 ?_
          refine PW.iret rfl (Nat.le_refl _) (Nat.le_refl _) dX6_count_48 ?_
          first | exact ⟨rfl, rfl⟩ | exact absurd hc1 (by decide) | exact absurd hc13 (by decide) | exact absurd hc25 (by decide) | exact absurd hc37 (by decide)
      · refine PW.aload_n rfl rfl dX6_count_4 ?_
        refine PW.gI hS.1 (by decide) rfl (by first | exact hM.1 | exact hM.2.1 | exact hM.2.2.1 | exact hT.1 | exact rfl) fX6_78 dX6_count_5 ?_
        refine PW.goto 48 (by decide) dX6_count_8 ?_
        refine PW.iret rfl (Nat.le_refl _) (Nat.le_refl _) dX6_count_48 ?_
        first | exact ⟨rfl, rfl⟩ | exact absurd hc1 (by decide) | exact absurd hc13 (by decide) | exact absurd hc25 (by decide) | exact absurd hc37 (by decide)
    · refine Ret.of (by decide) (Nat.le_of_ble_eq_true rfl) fun l G => ?_
      show PW _ _ _ _ [(0, _), (1, _)] _ _ _
      refine PW.iload_n rfl rfl dX6_count_0 ?_
      refine PW.if_ne 11 (by decide) dX6_count_1 (fun hc1 => ?_) (fun hc1 => ?_)
      · refine PW.iload_n rfl rfl dX6_count_11 ?_
        refine PW.iconst (v := nI 1) (by decide) dX6_count_12 ?_
        refine PW.icmp_ne 23 (by decide) dX6_count_13 (fun hc13 => ?_) (fun hc13 => ?_)
        · refine PW.iload_n rfl rfl dX6_count_23 ?_
          refine PW.iconst (v := nI 2) (by decide) dX6_count_24 ?_
          refine PW.icmp_ne 35 (by decide) dX6_count_25 (fun hc25 => ?_) (fun hc25 => ?_)
          · refine PW.iload_n rfl rfl dX6_count_35 ?_
            refine PW.iconst (v := nI 3) (by decide) dX6_count_36 ?_
            refine PW.icmp_ne 47 (by decide) dX6_count_37 (fun hc37 => ?_) (fun hc37 => ?_)
            · refine PW.iconst (v := -1) (by decide) dX6_count_47 ?_
              refine PW.iret rfl (Nat.le_refl _) (Nat.le_refl _) dX6_count_48 ?_
              first | exact ⟨rfl, rfl⟩ | exact absurd hc1 (by decide) | exact absurd hc13 (by decide) | exact absurd hc25 (by decide) | exact absurd hc37 (by decide)
            · refine PW.aload_n rfl rfl dX6_count_40 ?_
              refine PW.gI hS.1 (by decide) rfl (by first | exact hM.1 | exact hM.2.1 | exact hM.2.2.1 | exact hT.1 | exact rfl) fX6_91 dX6_count_41 ?_
              refine PW.goto 48 (by decide) dX6_count_44 ?_
              refine PW.iret rfl (Nat.le_refl _) (Nat.le_refl _) dX6_count_48 ?_
              first | exact ⟨rfl, rfl⟩ | exact absurd hc1 (by decide) | exact absurd hc13 (by decide) | exact absurd hc25 (by decide) | exact absurd hc37 (by decide)
          · refine PW.aload_n rfl rfl dX6_count_28 ?_
            refine PW.gI hS.1 (by decide) rfl (by first | exact hM.1 | exact hM.2.1 | exact hM.2.2.1 | exact hT.1 | exact rfl) fX6_159 dX6_count_29 ?_
            refine PW.goto 48 (by decide) dX6_count_32 ?_
            refine PW.iret rfl (Nat.le_refl _) (Nat.le_refl _) dX6_count_48 ?_
            first | exact ⟨rfl, rfl⟩ | exact absurd hc1 (by decide) | exact absurd hc13 (by decide) | exact absurd hc25 (by decide) | exact absurd hc37 (by decide)
        · refine PW.aload_n rfl rfl dX6_count_16 ?_
          refine PW.gI hS.1 (by decide) rfl (by first | exact hM.1 | exact hM.2.1 | exact hM.2.2.1 | exact hT.1 | exact rfl) fX6_86 dX6_count_17 ?_
          refine PW.goto 48 (by decide) dX6_count_20 ?_
          refine PW.iret rfl (Nat.le_refl _) (Nat.le_refl _) dX6_count_48 ?_
          first | exact ⟨rfl, rfl⟩ | exact absurd hc1 (by decide) | exact absurd hc13 (by decide) | exact absurd hc25 (by decide) | exact absurd hc37 (by decide)
      · refine PW.aload_n rfl rfl dX6_count_4 ?_
        refine PW.gI hS.1 (by decide) rfl (by first | exact hM.1 | exact hM.2.1 | exact hM.2.2.1 | exact hT.1 | exact rfl) fX6_78 dX6_count_5 ?_
        refine PW.goto 48 (by decide) dX6_count_8 ?_
        refine PW.iret rfl (Nat.le_refl _) (Nat.le_refl _) dX6_count_48 ?_
        first | exact ⟨rfl, rfl⟩ | exact absurd hc1 (by decide) | exact absurd hc13 (by decide) | exact absurd hc25 (by decide) | exact absurd hc37 (by decide)
    · refine Ret.of (by decide) (Nat.le_of_ble_eq_true rfl) fun l G => ?_
      show PW _ _ _ _ [(0, _), (1, _)] _ _ _
      refine PW.iload_n rfl rfl dX6_count_0 ?_
      refine PW.if_ne 11 (by decide) dX6_count_1 (fun hc1 => ?_) (fun hc1 => ?_)
      · refine PW.iload_n rfl rfl dX6_count_11 ?_
        refine PW.iconst (v := nI 1) (by decide) dX6_count_12 ?_
        refine PW.icmp_ne 23 (by decide) dX6_count_13 (fun hc13 => ?_) (fun hc13 => ?_)
        · refine PW.iload_n rfl rfl dX6_count_23 ?_
          refine PW.iconst (v := nI 2) (by decide) dX6_count_24 ?_
          refine PW.icmp_ne 35 (by decide) dX6_count_25 (fun hc25 => ?_) (fun hc25 => ?_)
          · refine PW.iload_n rfl rfl dX6_count_35 ?_
            refine PW.iconst (v := nI 3) (by decide) dX6_count_36 ?_
            refine PW.icmp_ne 47 (by decide) dX6_count_37 (fun hc37 => ?_) (fun hc37 => ?_)
            · refine PW.iconst (v := -1) (by decide) dX6_count_47 ?_
              refine PW.iret rfl (Nat.le_refl _) (Nat.le_refl _) dX6_count_48 ?_
              first | exact ⟨rfl, rfl⟩ | exact absurd hc1 (by decide) | exact absurd hc13 (by decide) | exact absurd hc25 (by decide) | exact absurd hc37 (by decide)
            · refine PW.aload_n rfl rfl dX6_count_40 ?_
              refine PW.gI hS.1 (by decide) rfl (by first | exact hM.1 | exact hM.2.1 | exact hM.2.2.1 | exact hT.1 | exact rfl) fX6_91 dX6_count_41 ?_
              refine PW.goto 48 (by decide) dX6_count_44 ?_
              refine PW.iret rfl (Nat.le_refl _) (Nat.le_refl _) dX6_count_48 ?_
              first | exact ⟨rfl, rfl⟩ | exact absurd hc1 (by decide) | exact absurd hc13 (by decide) | exact absurd hc25 (by decide) | exact absurd hc37 (by decide)
          · refine PW.aload_n rfl rfl dX6_count_28 ?_
            refine PW.gI hS.1 (by decide) rfl (by first | exact hM.1 | exact hM.2.1 | exact hM.2.2.1 | exact hT.1 | exact rfl) fX6_159 dX6_count_29 ?_
            refine PW.goto 48 (by decide) dX6_count_32 ?_
            refine PW.iret rfl (Nat.le_refl _) (Nat.le_refl _) dX6_count_48 ?_
            first | exact ⟨rfl, rfl⟩ | exact absurd hc1 (by decide) | exact absurd hc13 (by decide) | exact absurd hc25 (by decide) | exact absurd hc37 (by decide)
        · refine PW.aload_n rfl rfl dX6_count_16 ?_
          refine PW.gI hS.1 (by decide) rfl (by first | exact hM.1 | exact hM.2.1 | exact hM.2.2.1 | exact hT.1 | exact rfl) fX6_86 dX6_count_17 ?_
          refine PW.goto 48 (by decide) dX6_count_20 ?_
          refine PW.iret rfl (Nat.le_refl _) (Nat.le_refl _) dX6_count_48 ?_
          first | exact ⟨rfl, rfl⟩ | exact absurd hc1 (by decide) | exact absurd hc13 (by decide) | exact absurd hc25 (by decide) | exact absurd hc37 (by decide)
      · refine PW.aload_n rfl rfl dX6_count_4 ?_
        refine PW.gI hS.1 (by decide) rfl (by first | exact hM.1 | exact hM.2.1 | exact hM.2.2.1 | exact hT.1 | exact rfl) fX6_78 dX6_count_5 ?_
        refine PW.goto 48 (by decide) dX6_count_8 ?_
        refine PW.iret rfl (Nat.le_refl _) (Nat.le_refl _) dX6_count_48 ?_
        first | exact ⟨rfl, rfl⟩ | exact absurd hc1 (by decide) | exact absurd hc13 (by decide) | exact absurd hc25 (by decide) | exact absurd hc37 (by decide)
  · have hx' := Bool.eq_false_iff.mpr hx
    refine Ret.of (by decide) (Nat.le_of_ble_eq_true rfl) fun l G => ?_
    show PW _ _ _ _ [(0, _), (1, _)] _ _ _
    refine PW.iload_n rfl rfl dX6_count_0 ?_
    refine PW.if_ne 11 (by decide) dX6_count_1 (fun hc1 => ?_) (fun hc1 => by exact absurd hc1 (inR_no hx' (by decide) (by decide)))
    refine PW.iload_n rfl rfl dX6_count_11 ?_
    refine PW.iconst (v := nI 1) (by decide) dX6_count_12 ?_
    refine PW.icmp_ne 23 (by decide) dX6_count_13 (fun hc13 => ?_) (fun hc13 => by exact absurd hc13 (inR_no hx' (by decide) (by decide)))
    refine PW.iload_n rfl rfl dX6_count_23 ?_
    refine PW.iconst (v := nI 2) (by decide) dX6_count_24 ?_
    refine PW.icmp_ne 35 (by decide) dX6_count_25 (fun hc25 => ?_) (fun hc25 => by exact absurd hc25 (inR_no hx' (by decide) (by decide)))
    refine PW.iload_n rfl rfl dX6_count_35 ?_
    refine PW.iconst (v := nI 3) (by decide) dX6_count_36 ?_
    refine PW.icmp_ne 47 (by decide) dX6_count_37 (fun hc37 => ?_) (fun hc37 => by exact absurd hc37 (inR_no hx' (by decide) (by decide)))
    refine PW.iconst (v := -1) (by decide) dX6_count_47 ?_
    refine PW.iret rfl (Nat.le_refl _) (Nat.le_refl _) dX6_count_48 ?_
    exact ⟨by rw [countS, pick_no hx'], rfl⟩
set_option maxHeartbeats 4000000 in
theorem x_trace (hS : St b s sc mem) : Rf 0 mX5_trace [.ref 9] mem (some (.long (fl mem 9 11))) mem := by
  refine Ret.of (by decide) (Nat.le_of_ble_eq_true rfl) fun l G => ?_
  show PW _ _ _ _ [(0, _)] _ _ _
  refine PW.aload_n rfl rfl dX5_trace_0 ?_
  refine PW.gL hS.1 (by decide) rfl (by exact rfl) fX5_260 dX5_trace_1 ?_
  refine PW.lret rfl (Nat.le_refl _) (Nat.le_refl _) dX5_trace_4 ?_
  exact ⟨rfl, rfl⟩
set_option maxHeartbeats 4000000 in
theorem m_trace (hS : St b s sc mem) : Rf 0 mX6_trace [.ref 95] mem (some (.long (fl mem 95 14))) mem := by
  refine Ret.of (by decide) (Nat.le_of_ble_eq_true rfl) fun l G => ?_
  show PW _ _ _ _ [(0, _)] _ _ _
  refine PW.aload_n rfl rfl dX6_trace_0 ?_
  refine PW.gL hS.1 (by decide) rfl (by exact rfl) fX6_245 dX6_trace_1 ?_
  refine PW.lret rfl (Nat.le_refl _) (Nat.le_refl _) dX6_trace_4 ?_
  exact ⟨rfl, rfl⟩
def letsS (R : DR) (k x : Int32) : Int32 := if inR k (R 0 0) then (if inR x 6 then bI (letN R (cl k) (cl x)) else -1) else -1
def fixS (R : DR) (x : Int32) : Int32 := if inR x 6 then nI (fixN R (cl x) (2 ^ R 0 0)) else -1
def thingS (R : DR) (w : Nat → Nat) (t x : Int32) : Int32 := if inR t (R 1 0) then pick [nI (R 13 (cl t)), nI (R 14 (cl t)), nI (R 15 (cl t)), nI (w (cl t)), bI (!letN R (w (cl t)) (R 13 (cl t)))] x else -1
def pockS (R : DR) (w : Nat → Nat) (k x : Int32) : Int32 := if inR k (R 0 0) then pick [nI (R 3 (cl k)), nI (R 4 (cl k)), nI (R 5 (cl k)), nI (R 6 (cl k)), nI (fillN R w (cl k) (R 1 0)), nI (depN R 6 (R 6 (cl k))), nI (R 9 (cl k)), hI (R 10 (cl k))] x else -1
set_option maxHeartbeats 4000000 in
theorem x_letsIn (hS : St b s sc mem) (hX : XD mem b R) (hL : XL mem b R) (hD : Dat R) (k x : Int32) : Rf 2 mX5_letsIn [.ref 9, .int k, .int x] mem (some (.int (letsS R k x))) mem := by
  have h6 := hD.1
  by_cases hk : inR k (R 0 0) = true
  · by_cases hx : inR x 6 = true
    · obtain ⟨k, hk', rfl⟩ := inR_of hk
      obtain ⟨x, hx', rfl⟩ := inR_of hx
      have hl := letsN_lt R k 6
      have hbt := letsN_bit R k 6 x
      rw [decide_eq_true hx', Bool.true_and] at hbt
      refine Ret.of (by decide) (Nat.le_of_ble_eq_true rfl) fun l G => ?_
      show PW _ _ _ _ [(0, _), (1, _), (2, _)] _ _ _
      refine PW.aload_n rfl rfl dX5_letsIn_0 ?_
      refine PW.iload_n rfl rfl dX5_letsIn_1 ?_
      refine PW.cV (ci := 5) (j := 0) _ hS.1 (by decide) rfl kX5_93 (x_isPocket hS hX hD _) rfl rfl (Nat.le_of_ble_eq_true rfl) rfl ⟨by decide, by decide⟩ ⟨Nat.zero_le _, Nat.zero_le _⟩ dX5_letsIn_2 ?_
      refine PW.if_eqB 17 (by decide) dX5_letsIn_5 (fun hc5 => by (first | (rw [hk] at hc5; cases hc5) | (rw [hx] at hc5; cases hc5))) (fun hc5 => ?_)
      refine PW.iload_n rfl rfl dX5_letsIn_8 ?_
      refine PW.iconst (v := nI 0) (by decide) dX5_letsIn_9 ?_
      refine PW.iconst (v := nI 5) (by decide) dX5_letsIn_10 ?_
      refine PW.cS _ kX5_71 (x_inR (nI x) (h := 5) (by decide) mem) rfl rfl (Nat.le_of_ble_eq_true rfl) ⟨by decide, by decide⟩ ⟨Nat.zero_le _, Nat.zero_le _⟩ dX5_letsIn_11 ?_
      refine PW.if_neB 19 (by decide) dX5_letsIn_14 (fun hc14 => ?_) (fun hc14 => by (first | (rw [hk] at hc14; cases hc14) | (rw [hx] at hc14; cases hc14)))
      refine PW.aload_n rfl rfl dX5_letsIn_19 ?_
      refine PW.gV hS.1 (by decide) rfl hS.2.1 fX5_58 dX5_letsIn_20 ?_
      refine PW.gR hS.1 (by have := hS.b; omega) (skR17 hS.b) fX5_140 dX5_letsIn_23 ?_
      refine PW.iload_n rfl rfl dX5_letsIn_26 ?_
      refine PW.aI hS.1 (by have := hS.b; omega) (akR21 hS.b) (by exact rfl) ⟨by omega, by decide⟩ (hL.1 _ hk') dX5_letsIn_27 ?_
      refine PW.iload_n rfl rfl dX5_letsIn_28 ?_
      refine PW.cS _ kX5_143 (x_has (by omega) (by omega) mem) rfl rfl (Nat.le_of_ble_eq_true rfl) ⟨by decide, by decide⟩ ⟨Nat.zero_le _, Nat.zero_le _⟩ dX5_letsIn_29 ?_
      refine PW.if_eqB 39 (by decide) dX5_letsIn_32 (fun hc32 => ?_) (fun hc32 => ?_)
      · refine PW.iconst (v := nI 0) (by decide) dX5_letsIn_39 ?_
        refine PW.iret rfl (Nat.le_refl _) (Nat.le_refl _) dX5_letsIn_40 ?_
        refine ⟨?_, rfl⟩
        rw [letsS, if_pos hk, if_pos hx, cl_nI (by omega), cl_nI (by omega), ← hbt, hc32]
        rfl
      · refine PW.iconst (v := nI 1) (by decide) dX5_letsIn_35 ?_
        refine PW.goto 40 (by decide) dX5_letsIn_36 ?_
        refine PW.iret rfl (Nat.le_refl _) (Nat.le_refl _) dX5_letsIn_40 ?_
        refine ⟨?_, rfl⟩
        rw [letsS, if_pos hk, if_pos hx, cl_nI (by omega), cl_nI (by omega), ← hbt, hc32]
        rfl
    · have hx' := Bool.eq_false_iff.mpr hx
      refine Ret.of (by decide) (Nat.le_of_ble_eq_true rfl) fun l G => ?_
      show PW _ _ _ _ [(0, _), (1, _), (2, _)] _ _ _
      refine PW.aload_n rfl rfl dX5_letsIn_0 ?_
      refine PW.iload_n rfl rfl dX5_letsIn_1 ?_
      refine PW.cV (ci := 5) (j := 0) _ hS.1 (by decide) rfl kX5_93 (x_isPocket hS hX hD _) rfl rfl (Nat.le_of_ble_eq_true rfl) rfl ⟨by decide, by decide⟩ ⟨Nat.zero_le _, Nat.zero_le _⟩ dX5_letsIn_2 ?_
      refine PW.if_eqB 17 (by decide) dX5_letsIn_5 (fun hc5 => by (first | (rw [hk] at hc5; cases hc5) | (rw [hx'] at hc5; cases hc5))) (fun hc5 => ?_)
      refine PW.iload_n rfl rfl dX5_letsIn_8 ?_
      refine PW.iconst (v := nI 0) (by decide) dX5_letsIn_9 ?_
      refine PW.iconst (v := nI 5) (by decide) dX5_letsIn_10 ?_
      refine PW.cS _ kX5_71 (x_inR x (h := 5) (by decide) mem) rfl rfl (Nat.le_of_ble_eq_true rfl) ⟨by decide, by decide⟩ ⟨Nat.zero_le _, Nat.zero_le _⟩ dX5_letsIn_11 ?_
      refine PW.if_neB 19 (by decide) dX5_letsIn_14 (fun hc14 => by (first | (rw [hk] at hc14; cases hc14) | (rw [hx'] at hc14; cases hc14))) (fun hc14 => ?_)
      refine PW.iconst (v := -1) (by decide) dX5_letsIn_17 ?_
      refine PW.iret rfl (Nat.le_refl _) (Nat.le_refl _) dX5_letsIn_18 ?_
      exact ⟨by rw [letsS, if_pos hk, if_neg hx], rfl⟩
  · refine Ret.of (by decide) (Nat.le_of_ble_eq_true rfl) fun l G => ?_
    show PW _ _ _ _ [(0, _), (1, _), (2, _)] _ _ _
    refine PW.aload_n rfl rfl dX5_letsIn_0 ?_
    refine PW.iload_n rfl rfl dX5_letsIn_1 ?_
    refine PW.cV (ci := 5) (j := 0) _ hS.1 (by decide) rfl kX5_93 (x_isPocket hS hX hD _) rfl rfl (Nat.le_of_ble_eq_true rfl) rfl ⟨by decide, by decide⟩ ⟨Nat.zero_le _, Nat.zero_le _⟩ dX5_letsIn_2 ?_
    refine PW.if_eqB 17 (by decide) dX5_letsIn_5 (fun hc5 => ?_) (fun hc5 => by exact absurd hc5 hk)
    refine PW.iconst (v := -1) (by decide) dX5_letsIn_17 ?_
    refine PW.iret rfl (Nat.le_refl _) (Nat.le_refl _) dX5_letsIn_18 ?_
    exact ⟨by rw [letsS, if_neg hk], rfl⟩
set_option maxHeartbeats 4000000 in
theorem m_letsIn (hS : St b s sc mem) (hM : MD mem R) (hD : Dat R) (k x : Int32) : Rf 5 mX6_letsIn [.ref 95, .int k, .int x] mem (some (.int (letsS R k x))) mem := by
  have h6 := hD.1
  have hp := pow6 h6
  by_cases hk : inR k (R 0 0) = true
  · by_cases hx : inR x 6 = true
    · obtain ⟨k, hk', rfl⟩ := inR_of hk
      obtain ⟨x, hx', rfl⟩ := inR_of hx
      have hl := pockN_lt R x (R 0 0)
      have hpb := pockN_bit R x (R 0 0) k
      rw [decide_eq_true hk', Bool.true_and] at hpb
      refine Ret.of (by decide) (Nat.le_of_ble_eq_true rfl) fun l G => ?_
      show PW _ _ _ _ [(0, _), (1, _), (2, _)] _ _ _
      refine PW.aload_n rfl rfl dX6_letsIn_0 ?_
      refine PW.iload_n rfl rfl dX6_letsIn_1 ?_
      refine PW.cV (ci := 6) (j := 0) _ hS.1 (by decide) rfl kX6_178 (m_isPocket hS hM hD _) rfl rfl (Nat.le_of_ble_eq_true rfl) rfl ⟨by decide, by decide⟩ ⟨Nat.zero_le _, Nat.zero_le _⟩ dX6_letsIn_2 ?_
      refine PW.if_eqB 15 (by decide) dX6_letsIn_5 (fun hc5 => by (first | (rw [hk] at hc5; cases hc5) | (rw [hx] at hc5; cases hc5))) (fun hc5 => ?_)
      refine PW.iload_n rfl rfl dX6_letsIn_8 ?_
      refine PW.cS _ kX6_201 (m_isSort _ mem) rfl rfl (Nat.le_of_ble_eq_true rfl) ⟨by decide, by decide⟩ ⟨Nat.zero_le _, Nat.zero_le _⟩ dX6_letsIn_9 ?_
      refine PW.if_neB 17 (by decide) dX6_letsIn_12 (fun hc12 => ?_) (fun hc12 => by (first | (rw [hk] at hc12; cases hc12) | (rw [hx] at hc12; cases hc12)))
      refine PW.aload_n rfl rfl dX6_letsIn_17 ?_
      refine PW.iload_n rfl rfl dX6_letsIn_18 ?_
      refine PW.cV (ci := 6) (j := 0) _ hS.1 (by decide) rfl kX6_190 (m_letting hS hM hD hx') rfl rfl (Nat.le_of_ble_eq_true rfl) rfl ⟨by decide, by decide⟩ ⟨Nat.zero_le _, Nat.zero_le _⟩ dX6_letsIn_19 ?_
      refine PW.iload_n rfl rfl dX6_letsIn_22 ?_
      refine PW.ishr dX6_letsIn_23 ?_
      refine PW.iconst (v := nI 1) (by decide) dX6_letsIn_24 ?_
      refine PW.iand dX6_letsIn_25 ?_
      refine PW.iret rfl (Nat.le_refl _) (Nat.le_refl _) dX6_letsIn_26 ?_
      refine ⟨?_, rfl⟩
      rw [letsS, if_pos hk, if_pos hx, cl_nI (by omega), cl_nI (by omega), ← hpb, has_bit (by omega) (by omega)]
      cases (pockN R x (R 0 0)).testBit k <;> rfl
    · have hx' := Bool.eq_false_iff.mpr hx
      refine Ret.of (by decide) (Nat.le_of_ble_eq_true rfl) fun l G => ?_
      show PW _ _ _ _ [(0, _), (1, _), (2, _)] _ _ _
      refine PW.aload_n rfl rfl dX6_letsIn_0 ?_
      refine PW.iload_n rfl rfl dX6_letsIn_1 ?_
      refine PW.cV (ci := 6) (j := 0) _ hS.1 (by decide) rfl kX6_178 (m_isPocket hS hM hD _) rfl rfl (Nat.le_of_ble_eq_true rfl) rfl ⟨by decide, by decide⟩ ⟨Nat.zero_le _, Nat.zero_le _⟩ dX6_letsIn_2 ?_
      refine PW.if_eqB 15 (by decide) dX6_letsIn_5 (fun hc5 => by (first | (rw [hk] at hc5; cases hc5) | (rw [hx'] at hc5; cases hc5))) (fun hc5 => ?_)
      refine PW.iload_n rfl rfl dX6_letsIn_8 ?_
      refine PW.cS _ kX6_201 (m_isSort _ mem) rfl rfl (Nat.le_of_ble_eq_true rfl) ⟨by decide, by decide⟩ ⟨Nat.zero_le _, Nat.zero_le _⟩ dX6_letsIn_9 ?_
      refine PW.if_neB 17 (by decide) dX6_letsIn_12 (fun hc12 => by (first | (rw [hk] at hc12; cases hc12) | (rw [hx'] at hc12; cases hc12))) (fun hc12 => ?_)
      refine PW.iconst (v := -1) (by decide) dX6_letsIn_15 ?_
      refine PW.iret rfl (Nat.le_refl _) (Nat.le_refl _) dX6_letsIn_16 ?_
      exact ⟨by rw [letsS, if_pos hk, if_neg hx], rfl⟩
  · refine Ret.of (by decide) (Nat.le_of_ble_eq_true rfl) fun l G => ?_
    show PW _ _ _ _ [(0, _), (1, _), (2, _)] _ _ _
    refine PW.aload_n rfl rfl dX6_letsIn_0 ?_
    refine PW.iload_n rfl rfl dX6_letsIn_1 ?_
    refine PW.cV (ci := 6) (j := 0) _ hS.1 (by decide) rfl kX6_178 (m_isPocket hS hM hD _) rfl rfl (Nat.le_of_ble_eq_true rfl) rfl ⟨by decide, by decide⟩ ⟨Nat.zero_le _, Nat.zero_le _⟩ dX6_letsIn_2 ?_
    refine PW.if_eqB 15 (by decide) dX6_letsIn_5 (fun hc5 => ?_) (fun hc5 => by exact absurd hc5 hk)
    refine PW.iconst (v := -1) (by decide) dX6_letsIn_15 ?_
    refine PW.iret rfl (Nat.le_refl _) (Nat.le_refl _) dX6_letsIn_16 ?_
    exact ⟨by rw [letsS, if_neg hk], rfl⟩
end ASKS
